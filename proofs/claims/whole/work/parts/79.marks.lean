/-! marks; settings -/
theorem setOf {k : Nat} {m : mj_m} (hk : k < 11) : f_X11_settingOf (nI k) m = some (m 1 k + f_X11_firstOf (nI k)) := by
  unfold f_X11_settingOf
  rw [chk_t (okI (by omega) (by decide)), clI (by omega)]
  rfl
theorem set4 (m : mj_m) : f_X11_settingOf 4 m = some (m 1 4 + 12) := setOf (k := 4) (by decide)
theorem set3 (m : mj_m) : f_X11_settingOf 3 m = some (m 1 3 + 3) := setOf (k := 3) (by decide)
theorem set2 (m : mj_m) : f_X11_settingOf 2 m = some (m 1 2 + 3) := setOf (k := 2) (by decide)
theorem set1 (m : mj_m) : f_X11_settingOf 1 m = some (m 1 1 + 3) := setOf (k := 1) (by decide)
theorem set0 (m : mj_m) : f_X11_settingOf 0 m = some (m 1 0 + 10) := setOf (k := 0) (by decide)
theorem set6 (m : mj_m) : f_X11_settingOf 6 m = some (m 1 6 + 3) := setOf (k := 6) (by decide)
theorem set7 (m : mj_m) : f_X11_settingOf 7 m = some (m 1 7 + 3) := setOf (k := 7) (by decide)
theorem set10 (m : mj_m) : f_X11_settingOf 10 m = some (m 1 10 + 4) := setOf (k := 10) (by decide)
theorem markAll_L {b c : Nat} (hc : c ≤ 20) : ∀ (k i n : Nat) (m : mj_m), i + k = c → k < n → m b 4 = nI c → ∃ m' : mj_m, f_X7_markAll_L2 b n (nI i) m = some m' ∧ (∀ p, p ≠ b + 4 → m' p = m p) ∧ ∀ s, m' (b + 4) s = if i ≤ s ∧ s < c then 1 else m (b + 4) s := by
  intro k
  induction k with
  | zero =>
    intro i n m hi hn hm
    obtain ⟨n, rfl⟩ : ∃ n', n = n' + 1 := ⟨n - 1, by omega⟩
    refine ⟨m, ?_, fun _ _ => rfl, fun s => ?_⟩
    · rw [f_X7_markAll_L2, hm, if_pos (nI_le (by omega) (by omega))]
    · rw [if_neg (by omega)]
  | succ k ih =>
    intro i n m hi hn hm
    obtain ⟨n, rfl⟩ : ∃ n', n = n' + 1 := ⟨n - 1, by omega⟩
    obtain ⟨m', e1, e2, e3⟩ := ih (i + 1) n (mj_wrs m (b + 4) i 1) (by omega) (by omega) (by rw [wr_e (Or.inl (by omega)), hm])
    refine ⟨m', ?_, fun p hp => by rw [e2 p hp, wr_row _ _ _ _ _ hp], fun s => ?_⟩
    · rw [f_X7_markAll_L2, hm, if_neg (nI_ge (by omega) (by omega)), chk_t (okI (by omega) (by decide))]
      simp only [mj_let]
      rw [clI (by omega), nI_1]
      exact e1
    · rw [e3 s, wr_at]
      by_cases hs : s = i
      · rw [if_neg (by omega), if_pos ⟨rfl, hs⟩, if_pos (by omega)]
      · by_cases h2 : i + 1 ≤ s ∧ s < c
        · rw [if_pos h2, if_pos (by omega)]
        · rw [if_neg h2, if_neg (fun z => hs z.2), if_neg (by omega)]
theorem marks_L {c : Nat} (hc : c ≤ 20) : ∀ (k i n : Nat) (m : mj_m), i + k = c → k < n → m 1 25 = nI c → ∃ m' : mj_m, f_X11_marks_L21 n (nI i) m = some m' ∧ (∀ p, p ≠ 1 → m' p = m p) ∧ ∀ s, m' 1 s = if 86 + i ≤ s ∧ s < 86 + c then 1 else m 1 s := by
  intro k
  induction k with
  | zero =>
    intro i n m hi hn hm
    obtain ⟨n, rfl⟩ : ∃ n', n = n' + 1 := ⟨n - 1, by omega⟩
    refine ⟨m, ?_, fun _ _ => rfl, fun s => ?_⟩
    · rw [f_X11_marks_L21, hm, if_pos (nI_le (by omega) (by omega))]
    · rw [if_neg (by omega)]
  | succ k ih =>
    intro i n m hi hn hm
    obtain ⟨n, rfl⟩ : ∃ n', n = n' + 1 := ⟨n - 1, by omega⟩
    obtain ⟨m', e1, e2, e3⟩ := ih (i + 1) n (mj_wrs m 1 (86 + i) 1) (by omega) (by omega) (by rw [wr_e (Or.inr (by omega)), hm])
    refine ⟨m', ?_, fun p hp => by rw [e2 p hp, wr_row _ _ _ _ _ hp], fun s => ?_⟩
    · rw [f_X11_marks_L21, hm, if_neg (nI_ge (by omega) (by omega)), show (86 : Int32) + nI i = nI (86 + i) from nI_add 86 i, chk_t (okI (by omega) (by decide))]
      simp only [mj_let]
      rw [clI (by omega), nI_1]
      exact e1
    · rw [e3 s, wr_n]
      by_cases hs : s = 86 + i
      · rw [if_neg (by omega), if_pos hs, if_pos (by omega)]
      · by_cases h2 : 86 + (i + 1) ≤ s ∧ s < 86 + c
        · rw [if_pos h2, if_pos (by omega)]
        · rw [if_neg h2, if_neg hs, if_neg (by omega)]
theorem mrk {l m : mj_m} {c : Nat} (hm : l 17 6 = m 1 21 + 6) (hs : l 23 4 = nI c) (hs' : m 1 25 = nI c) (hc : c ≤ 20) (hp : l 2 4 = m 1 4 + 12) (ht : l 17 9 = m 1 30) (hmk : ∀ i, i < c → l 27 i = m 1 (86 + i) ∧ rg 0 (m 1 (86 + i)) 1) : ∃ l1 m1 : mj_m, f_X8_markAll l = some l1 ∧ f_X11_marks m = some m1 ∧ (∀ k, k ≠ 17 → k ≠ 27 → l1 k = l k) ∧ (∀ j, j ≠ 9 → j ≠ 10 → j ≠ 13 → l1 17 j = l 17 j) ∧ (∀ p, p ≠ 1 → m1 p = m p) ∧ (∀ s, s ≠ 28 → s ≠ 30 → s ≠ 31 → (s < 86 ∨ 105 < s) → m1 1 s = m 1 s) ∧ l1 17 9 = m1 1 30 ∧ l1 17 10 = l 2 4 ∧ m1 1 31 = l 2 4 ∧ (∀ i, i < c → l1 27 i = m1 1 (86 + i) ∧ rg 0 (m1 1 (86 + i)) 1) ∧ (l1 17 13 = if l 17 6 = 5 then 1 else l 17 13) ∧ (m1 1 28 = if l 17 6 = 5 then 1 else m 1 28) := by
  by_cases h5 : l 17 6 = 5
  · refine ⟨mj_wrs (mj_wrs (mj_wrs l 17 13 1) 17 9 (l 17 9 + 1)) 17 10 (l 2 4), mj_wrs (mj_wrs (mj_wrs m 1 28 1) 1 30 (m 1 30 + 1)) 1 31 (l 2 4), ?_, ?_, fun k a b => ?_, fun j a b d => ?_, fun p hp => ?_, fun s a b d _ => ?_, ?_, by simp [wr_at], by simp [wr_at], fun i hi => ?_, ?_, ?_⟩
    · unfold f_X8_markAll f_X8_markAll_J23
      rw [if_pos h5]
      simp only [mj_let]
      rw [wr_e (Or.inr (by decide)), wr_e (Or.inl (by decide)), wr_e (Or.inl (by decide))]
    · unfold f_X11_marks f_X11_machine f_X11_marks_J48
      simp only [mj_let]
      rw [← hm, if_pos h5, show (30 : Int32) = nI 30 from rfl, more_eq (by decide)]
      simp only [mj_b1]
      rw [set4]
      simp only
      rw [wr_e (Or.inr (by decide)), wr_e (Or.inr (by decide)), wr_e (Or.inr (by decide)), ← hp]
    · rw [wr_row _ _ _ _ _ a, wr_row _ _ _ _ _ a, wr_row _ _ _ _ _ a]
    · rw [wr_e (Or.inr b), wr_e (Or.inr a), wr_e (Or.inr d)]
    · rw [wr_row _ _ _ _ _ hp, wr_row _ _ _ _ _ hp, wr_row _ _ _ _ _ hp]
    · rw [wr_e (Or.inr d), wr_e (Or.inr b), wr_e (Or.inr a)]
    · simp [wr_at, ht]
    · rw [wr_e (Or.inl (by decide)), wr_e (Or.inl (by decide)), wr_e (Or.inl (by decide)), wr_e (Or.inr (by omega)), wr_e (Or.inr (by omega)), wr_e (Or.inr (by omega))]
      exact hmk i hi
    · rw [if_pos h5]
      simp [wr_at]
    · rw [if_pos h5]
      simp [wr_at]
  · obtain ⟨l0, a1, a2, a3⟩ := markAll_L (b := 23) hc c 0 mj_fu l (by omega) (by unfold mj_fu; omega) hs
    obtain ⟨m0, b1, b2, b3⟩ := marks_L hc c 0 mj_fu m (by omega) (by unfold mj_fu; omega) hs'
    have n0 : ∀ s, (s < 86 ∨ 105 < s) → m0 1 s = m 1 s := fun s hs => by rw [b3 s, if_neg (by omega)]
    refine ⟨mj_wrs (mj_wrs l0 17 9 (l 17 9 + 1)) 17 10 (l 2 4), mj_wrs (mj_wrs m0 1 30 (m 1 30 + 1)) 1 31 (l 2 4), ?_, ?_, fun k a b => ?_, fun j a b d => ?_, fun p hp => ?_, fun s a b d h9 => ?_, ?_, by simp [wr_at], by simp [wr_at], fun i hi => ?_, ?_, ?_⟩
    · unfold f_X8_markAll f_X8_markAll_J23 f_X7_markAll
      rw [if_neg h5, show (0 : Int32) = nI 0 from rfl, a1]
      simp only [mj_b1, mj_let]
      rw [a2 17 (by decide), wr_e (Or.inl (by decide)), a2 2 (by decide)]
    · unfold f_X11_marks f_X11_machine f_X11_marks_J48
      simp only [mj_let]
      rw [← hm, if_neg h5, show (0 : Int32) = nI 0 from rfl, b1]
      simp only [mj_b1]
      rw [show (30 : Int32) = nI 30 from rfl, more_eq (by decide)]
      simp only
      rw [set4]
      simp only
      rw [wr_e (Or.inr (by decide)), n0 30 (by omega), n0 4 (by omega), ← hp]
    · rw [wr_row _ _ _ _ _ a, wr_row _ _ _ _ _ a, a2 k b]
    · rw [wr_e (Or.inr b), wr_e (Or.inr a), a2 17 (by decide)]
    · rw [wr_row _ _ _ _ _ hp, wr_row _ _ _ _ _ hp, b2 p hp]
    · rw [wr_e (Or.inr d), wr_e (Or.inr b), n0 s h9]
    · simp [wr_at, ht]
    · rw [wr_e (Or.inl (by decide)), wr_e (Or.inl (by decide)), a3 i, wr_e (Or.inr (by omega)), wr_e (Or.inr (by omega)), b3, if_pos (by omega), if_pos (by omega)]
      exact ⟨rfl, by decide, by decide⟩
    · rw [if_neg h5, wr_e (Or.inr (by decide)), wr_e (Or.inr (by decide)), a2 17 (by decide)]
    · rw [if_neg h5, wr_e (Or.inr (by decide)), wr_e (Or.inr (by decide)), n0 28 (by omega)]
