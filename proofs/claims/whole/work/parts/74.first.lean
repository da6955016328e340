/-! the first of a row is gone -/
theorem cpw_at (m : mj_m) (a d c : Nat) (hd : d < 2 ^ 31) (hc : c < 2 ^ 31) (k j : Nat) : mj_cpw m a a (nI d) 0 (nI c) k j = if k = a ∧ j < c then m a (j + d) else m k j := by
  unfold mj_cpw va_up va_cpy
  rw [show mj_cl (0 : Int32) = 0 from by decide, clI hd, clI hc]
  by_cases h : k = a
  · subst h
    rw [if_pos rfl]
    by_cases hj : j < c
    · rw [if_pos (by omega), if_pos ⟨rfl, hj⟩]
      congr 1
      omega
    · rw [if_neg (by omega), if_neg (by omega)]
  · rw [if_neg h, if_neg (by omega)]
theorem cok_i {d c N : Nat} (h : d + c ≤ N) (hN : N ≤ 1000) : mj_cok (nI d) 0 (nI c) N N = true := by
  simp only [mj_cok, Bool.and_eq_true, decide_eq_true_eq, nI_toInt (show d < 2 ^ 31 by omega), nI_toInt (show c < 2 ^ 31 by omega)]
  refine ⟨⟨⟨⟨?_, ?_⟩, ?_⟩, ?_⟩, ?_⟩ <;> first | decide | omega | (show (0 : Int) + _ ≤ _; omega)
theorem removeFirst_eq {b c d : Nat} {m : mj_m} (hc : m b 4 = nI c) (hc20 : c ≤ 20) (hd0 : 0 < d) (hd : d ≤ c) : ∃ m' : mj_m, f_X7_removeFirst b (nI d) m = some m' ∧ (∀ k, k < b ∨ b + 4 < k → m' k = m k) ∧ m' b 4 = nI (c - d) ∧ (∀ q, 1 ≤ q → q ≤ 4 → ∀ i, i < c - d → m' (b + q) i = m (b + q) (i + d)) := by
  have hr : ∀ (m : mj_m) (q : Nat) (h : 1 ≤ q), mj_cpw m (b + q) (b + q) (nI d) 0 (nI (c - d)) b 4 = m b 4 := fun m q h => by
    rw [cpw_at _ _ _ _ (by omega) (by omega), if_neg (by omega)]
  have hk := cok_i (d := d) (c := c - d) (N := 20) (by omega) (by decide)
  have h0 : mj_wrs m b 4 (nI (c - d)) b 4 = nI (c - d) := by rw [wr_at, if_pos ⟨rfl, rfl⟩]
  refine ⟨mj_cpw (mj_cpw (mj_cpw (mj_cpw (mj_wrs m b 4 (nI (c - d))) (b + 1) (b + 1) (nI d) 0 (nI (c - d))) (b + 2) (b + 2) (nI d) 0 (nI (c - d))) (b + 3) (b + 3) (nI d) 0 (nI (c - d))) (b + 4) (b + 4) (nI d) 0 (nI (c - d)), ?_, ?_, ?_, ?_⟩
  · unfold f_X7_removeFirst
    rw [if_neg (nI_nle hd0 (by omega)), hc, if_pos (nI_le hd (by omega)), nI_sub hd]
    simp only [mj_let]
    rw [h0, chk_t hk, hr _ 1 (by decide), h0, chk_t hk, hr _ 2 (by decide), hr _ 1 (by decide), h0, chk_t hk, hr _ 3 (by decide), hr _ 2 (by decide), hr _ 1 (by decide), h0, chk_t hk]
  · intro k hk
    funext j
    rw [cpw_at _ _ _ _ (by omega) (by omega), if_neg (by omega), cpw_at _ _ _ _ (by omega) (by omega), if_neg (by omega), cpw_at _ _ _ _ (by omega) (by omega), if_neg (by omega), cpw_at _ _ _ _ (by omega) (by omega), if_neg (by omega), wr_e (Or.inl (by omega))]
  · rw [hr _ 4 (by decide), hr _ 3 (by decide), hr _ 2 (by decide), hr _ 1 (by decide), h0]
  · intro q h1 h4 i hi
    have rd : ∀ (m : mj_m) (p : Nat) (j : Nat), p ≠ q → mj_cpw m (b + p) (b + p) (nI d) 0 (nI (c - d)) (b + q) j = m (b + q) j := fun m p j hp => by
      rw [cpw_at _ _ _ _ (by omega) (by omega), if_neg (by omega)]
    have rs : ∀ (m : mj_m), mj_cpw m (b + q) (b + q) (nI d) 0 (nI (c - d)) (b + q) i = m (b + q) (i + d) := fun m => by
      rw [cpw_at _ _ _ _ (by omega) (by omega), if_pos ⟨rfl, hi⟩]
    rcases (by omega : q = 1 ∨ q = 2 ∨ q = 3 ∨ q = 4) with rfl | rfl | rfl | rfl
    · rw [rd _ 4 _ (by decide), rd _ 3 _ (by decide), rd _ 2 _ (by decide), rs, wr_e (Or.inl (by omega))]
    · rw [rd _ 4 _ (by decide), rd _ 3 _ (by decide), rs, rd _ 1 _ (by decide), wr_e (Or.inl (by omega))]
    · rw [rd _ 4 _ (by decide), rs, rd _ 2 _ (by decide), rd _ 1 _ (by decide), wr_e (Or.inl (by omega))]
    · rw [rs, rd _ 3 _ (by decide), rd _ 2 _ (by decide), rd _ 1 _ (by decide), wr_e (Or.inl (by omega))]
theorem takesFirst_L {R Q c : Nat} {v : Int32} (hQ : Q < 1897) (hR : R + c < 1897) (hQR : Q < R ∨ R + c < Q) : ∀ (k i n : Nat) (m : mj_m), i + k = c → k < n → m 1 Q = nI c → ∃ m' : mj_m, f_X11_takesFirst_L24 (nI R) (nI Q) v n (nI i) m = some m' ∧ (∀ p, p ≠ 1 → m' p = m p) ∧ (∀ s, s < R + i ∨ R + c ≤ s → m' 1 s = m 1 s) ∧ ∀ s, i ≤ s → s < c → m' 1 (R + s) = m 1 (R + s + 1) := by
  intro k
  induction k with
  | zero =>
    intro i n m hi hn hm
    obtain ⟨n, rfl⟩ : ∃ n', n = n' + 1 := ⟨n - 1, by omega⟩
    refine ⟨m, ?_, fun _ _ => rfl, fun _ _ => rfl, fun s h1 h2 => by omega⟩
    rw [f_X11_takesFirst_L24, chk_t (okI hQ (by decide)), clI (by omega), hm, if_pos (nI_le (by omega) (by omega))]
  | succ k ih =>
    intro i n m hi hn hm
    obtain ⟨n, rfl⟩ : ∃ n', n = n' + 1 := ⟨n - 1, by omega⟩
    obtain ⟨m', e1, e2, e3, e4⟩ := ih (i + 1) n (mj_wrs m 1 (R + i) (m 1 (R + i + 1))) (by omega) (by omega) (by rw [wr_e (Or.inr (by omega)), hm])
    refine ⟨m', ?_, fun p hp => ?_, fun s hs => ?_, fun s h1 h2 => ?_⟩
    · rw [f_X11_takesFirst_L24, chk_t (okI hQ (by decide)), clI (by omega), hm, if_neg (nI_ge (by omega) (by omega)), nI_add, nI_1, chk_t (okI (by omega) (by decide)), chk_t (okI (by omega) (by decide))]
      simp only [mj_let]
      rw [clI (by omega), clI (by omega), nI_1]
      exact e1
    · rw [e2 p hp, wr_row _ _ _ _ _ hp]
    · rw [e3 s (by omega), wr_e (Or.inr (by omega))]
    · by_cases hs : s = i
      · subst hs
        rw [e3 _ (by omega), wr_at, if_pos ⟨rfl, rfl⟩]
      · rw [e4 s (by omega) h2, wr_e (Or.inr (by omega))]
theorem takesFirst_eq {R Q c : Nat} {m : mj_m} (hQ : Q < 1897) (hR : R + c < 1897) (hQR : Q < R ∨ R + c < Q) (hm : m 1 Q = nI (c + 1)) : ∃ m' : mj_m, f_X11_takesFirst (nI R) (nI Q) m = some (m 1 R, m') ∧ (∀ p, p ≠ 1 → m' p = m p) ∧ m' 1 Q = nI c ∧ (∀ s, s ≠ Q → s < R ∨ R + c ≤ s → m' 1 s = m 1 s) ∧ ∀ s, s < c → m' 1 (R + s) = m 1 (R + s + 1) := by
  obtain ⟨m', e1, e2, e3, e4⟩ := takesFirst_L (v := m 1 R) hQ hR hQR c 0 mj_fu (mj_wrs m 1 Q (nI c)) (by omega) (by unfold mj_fu; omega) (by rw [wr_at, if_pos ⟨rfl, rfl⟩])
  refine ⟨m', ?_, fun p hp => ?_, ?_, fun s h1 h2 => ?_, fun s hs => ?_⟩
  · unfold f_X11_takesFirst
    simp only [mj_let]
    rw [chk_t (okI (by omega) (by decide)), clI (by omega), chk_t (okI hQ (by decide)), clI (by omega), chk_t (okI hQ (by decide)), hm, nI_pred]
    rw [show (0 : Int32) = nI 0 from rfl, e1]
    rfl
  · rw [e2 p hp, wr_row _ _ _ _ _ hp]
  · rw [e3 Q (by omega), wr_at, if_pos ⟨rfl, rfl⟩]
  · rw [e3 s (by omega), wr_e (Or.inr h1)]
  · rw [e4 s (by omega) hs, wr_e (Or.inr (by omega))]
