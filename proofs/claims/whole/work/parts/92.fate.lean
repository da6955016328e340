/-! fates -/
theorem WA.fm {a : Int32} {w wd on R G fa fr we : Nat} (hW : WA a w wd on R G fa fr we) (m : mj_m) : f_X11_fateMany a m = m 1 fa := by
  unfold f_X11_fateMany
  rcases hW with ⟨rfl, rfl, rfl, rfl, rfl, rfl, rfl, rfl, rfl⟩ | ⟨rfl, rfl, rfl, rfl, rfl, rfl, rfl, rfl, rfl⟩
  · rw [if_neg one0]
  · rw [if_pos rfl]
theorem WA.ft {a : Int32} {w wd on R G fa fr we : Nat} (hW : WA a w wd on R G fa fr we) (i : Nat) : f_X11_fateAt a (nI i) = nI (fr + i) := by
  unfold f_X11_fateAt
  rcases hW with ⟨rfl, rfl, rfl, rfl, rfl, rfl, rfl, rfl, rfl⟩ | ⟨rfl, rfl, rfl, rfl, rfl, rfl, rfl, rfl, rfl⟩
  · rw [if_neg one0]
    exact nI_add 619 i
  · rw [if_pos rfl]
    exact nI_add 627 i
theorem mf_L {w c : Nat} (hc : c ≤ 8) : ∀ (k i n : Nat) (m : mj_m), i + k = c → k < n → m w 8 = nI c → (∃ p, i ≤ p ∧ p < c ∧ m (w + 4) p = m w 9 ∧ f_X9_meetsFate_L2 w n (nI i) m = some (23, nI p)) ∨ ((∀ p, i ≤ p → p < c → m (w + 4) p ≠ m w 9) ∧ f_X9_meetsFate_L2 w n (nI i) m = some (56, 0)) := by
  intro k
  induction k with
  | zero =>
    intro i n m hi hn hm
    obtain ⟨n, rfl⟩ : ∃ n', n = n' + 1 := ⟨n - 1, by omega⟩
    refine Or.inr ⟨fun p h1 h2 => by omega, ?_⟩
    rw [f_X9_meetsFate_L2, hm, if_pos (nI_le (by omega) (by omega))]
  | succ k ih =>
    intro i n m hi hn hm
    obtain ⟨n, rfl⟩ : ∃ n', n = n' + 1 := ⟨n - 1, by omega⟩
    have e : f_X9_meetsFate_L2 w (n + 1) (nI i) m = if m (w + 4) i = m w 9 then some (23, nI i) else f_X9_meetsFate_L2 w n (nI (i + 1)) m := by
      rw [f_X9_meetsFate_L2, hm, if_neg (nI_ge (by omega) (by omega)), chk_t (okI (by omega) (by decide)), clI (by omega), nI_1]
      rfl
    rw [e]
    by_cases h : m (w + 4) i = m w 9
    · rw [if_pos h]
      exact Or.inl ⟨i, by omega, by omega, h, rfl⟩
    · rw [if_neg h]
      rcases ih (i + 1) n m (by omega) (by omega) hm with ⟨p, h1, h2, h3, h4⟩ | ⟨h1, h2⟩
      · exact Or.inl ⟨p, by omega, h2, h3, h4⟩
      · refine Or.inr ⟨fun p q1 q2 => ?_, h2⟩
        by_cases hp : p = i
        · rw [hp]
          exact h
        · exact h1 p (by omega) q2
theorem dm_L {w c : Nat} {x : Int32} (hc : c ≤ 8) : ∀ (k i n : Nat) (m : mj_m), i + k = c → k < n → m w 8 = nI c → ((∃ p, i ≤ p ∧ p < c ∧ m (w + 4) p = m w 9 + x) ∧ f_X9_doom_L23 w x n (nI i) m = some 46) ∨ ((∀ p, i ≤ p → p < c → m (w + 4) p ≠ m w 9 + x) ∧ f_X9_doom_L23 w x n (nI i) m = some 54) := by
  intro k
  induction k with
  | zero =>
    intro i n m hi hn hm
    obtain ⟨n, rfl⟩ : ∃ n', n = n' + 1 := ⟨n - 1, by omega⟩
    refine Or.inr ⟨fun p h1 h2 => by omega, ?_⟩
    rw [f_X9_doom_L23, hm, if_pos (nI_le (by omega) (by omega))]
  | succ k ih =>
    intro i n m hi hn hm
    obtain ⟨n, rfl⟩ : ∃ n', n = n' + 1 := ⟨n - 1, by omega⟩
    have e : f_X9_doom_L23 w x (n + 1) (nI i) m = if m (w + 4) i = m w 9 + x then some 46 else f_X9_doom_L23 w x n (nI (i + 1)) m := by
      rw [f_X9_doom_L23, hm, if_neg (nI_ge (by omega) (by omega)), chk_t (okI (by omega) (by decide)), clI (by omega), nI_1]
      rfl
    rw [e]
    by_cases h : m (w + 4) i = m w 9 + x
    · rw [if_pos h]
      exact Or.inl ⟨⟨i, by omega, by omega, h⟩, rfl⟩
    · rw [if_neg h]
      rcases ih (i + 1) n m (by omega) (by omega) hm with ⟨⟨p, h1, h2, h3⟩, h4⟩ | ⟨h1, h2⟩
      · exact Or.inl ⟨⟨p, by omega, h2, h3⟩, h4⟩
      · refine Or.inr ⟨fun p q1 q2 => ?_, h2⟩
        by_cases hp : p = i
        · rw [hp]
          exact h
        · exact h1 p (by omega) q2
theorem fo_L {a : Int32} {w wd on R G fa fr we c : Nat} {x : Int32} (hW : WA a w wd on R G fa fr we) (hc : c ≤ 8) : ∀ (k i n : Nat) (m : mj_m), i + k = c → k < n → m 1 fa = nI c → (∃ p, i ≤ p ∧ p < c ∧ m 1 (fr + p) = x ∧ f_X11_fateOf_L2 a x n (nI i) m = some (26, nI p)) ∨ ((∀ p, i ≤ p → p < c → m 1 (fr + p) ≠ x) ∧ f_X11_fateOf_L2 a x n (nI i) m = some (34, 0)) := by
  have nb := hW.nb
  intro k
  induction k with
  | zero =>
    intro i n m hi hn hm
    obtain ⟨n, rfl⟩ : ∃ n', n = n' + 1 := ⟨n - 1, by omega⟩
    refine Or.inr ⟨fun p h1 h2 => by omega, ?_⟩
    rw [f_X11_fateOf_L2, hW.fm, hm]
    simp only [mj_let]
    rw [if_pos (nI_le (by omega) (by omega))]
  | succ k ih =>
    intro i n m hi hn hm
    obtain ⟨n, rfl⟩ : ∃ n', n = n' + 1 := ⟨n - 1, by omega⟩
    have e : f_X11_fateOf_L2 a x (n + 1) (nI i) m = if m 1 (fr + i) = x then some (26, nI i) else f_X11_fateOf_L2 a x n (nI (i + 1)) m := by
      rw [f_X11_fateOf_L2, hW.fm, hm]
      simp only [mj_let]
      rw [if_neg (nI_ge (by omega) (by omega)), hW.ft, chk_t (okI (by omega) (by decide)), clI (by omega), nI_1]
    rw [e]
    by_cases h : m 1 (fr + i) = x
    · rw [if_pos h]
      exact Or.inl ⟨i, by omega, by omega, h, rfl⟩
    · rw [if_neg h]
      rcases ih (i + 1) n m (by omega) (by omega) hm with ⟨p, h1, h2, h3, h4⟩ | ⟨h1, h2⟩
      · exact Or.inl ⟨p, by omega, h2, h3, h4⟩
      · refine Or.inr ⟨fun p q1 q2 => ?_, h2⟩
        by_cases hp : p = i
        · rw [hp]
          exact h
        · exact h1 p (by omega) q2
theorem fateOf_eq {a : Int32} {w wd on R G fa fr we c : Nat} {x : Int32} {m : mj_m} (hW : WA a w wd on R G fa fr we) (hc : c ≤ 8) (hm : m 1 fa = nI c) : (∃ p, p < c ∧ m 1 (fr + p) = x ∧ f_X11_fateOf a x m = some (nI p)) ∨ ((∀ p, p < c → m 1 (fr + p) ≠ x) ∧ f_X11_fateOf a x m = some (-1)) := by
  unfold f_X11_fateOf
  rcases fo_L (x := x) hW hc c 0 mj_fu m (by omega) (by unfold mj_fu; omega) hm with ⟨p, h1, h2, h3, h4⟩ | ⟨h1, h2⟩
  · refine Or.inl ⟨p, h2, h3, ?_⟩
    rw [show (0 : Int32) = nI 0 from rfl, h4]
    rfl
  · refine Or.inr ⟨fun p hp => h1 p (by omega) hp, ?_⟩
    rw [show (0 : Int32) = nI 0 from rfl, h2]
    rfl
theorem isf_L {a : Int32} {w wd on R G fa fr we c : Nat} (hW : WA a w wd on R G fa fr we) (hc : c ≤ 7) : ∀ (k i n : Nat) (m : mj_m), i + k = c → k < n → ∃ m' : mj_m, f_X11_isFated_L40 a (nI c) n (nI i) m = some m' ∧ (∀ p, p ≠ 1 → m' p = m p) ∧ (∀ s, s < fr + i ∨ fr + c ≤ s → m' 1 s = m 1 s) ∧ ∀ s, i ≤ s → s < c → m' 1 (fr + s) = m 1 (fr + s + 1) := by
  have nb := hW.nb
  intro k
  induction k with
  | zero =>
    intro i n m hi hn
    obtain ⟨n, rfl⟩ : ∃ n', n = n' + 1 := ⟨n - 1, by omega⟩
    refine ⟨m, ?_, fun _ _ => rfl, fun _ _ => rfl, fun s h1 h2 => by omega⟩
    rw [f_X11_isFated_L40, if_pos (nI_le (by omega) (by omega))]
  | succ k ih =>
    intro i n m hi hn
    obtain ⟨n, rfl⟩ : ∃ n', n = n' + 1 := ⟨n - 1, by omega⟩
    obtain ⟨m', e1, e2, e3, e4⟩ := ih (i + 1) n (mj_wrs m 1 (fr + i) (m 1 (fr + (i + 1)))) (by omega) (by omega)
    refine ⟨m', ?_, fun p hp => ?_, fun s hs => ?_, fun s h1 h2 => ?_⟩
    · rw [f_X11_isFated_L40, if_neg (nI_ge (by omega) (by omega))]
      simp only [mj_let]
      rw [nI_1, hW.ft, hW.ft, chk_t (okI (by omega) (by decide)), chk_t (okI (by omega) (by decide)), clI (by omega), clI (by omega)]
      exact e1
    · rw [e2 p hp, wr_row _ _ _ _ _ hp]
    · rw [e3 s (by omega), wr_e (Or.inr (by omega))]
    · by_cases hs : s = i
      · subst hs
        rw [e3 _ (by omega), rs]
        rfl
      · rw [e4 s (by omega) h2, wr_e (Or.inr (by omega))]
/-- one fate is gone on both sides -/
theorem I_fate_off {f g f' g' : Nat → Int32} {c p q : Nat} (h : I_fate f g (c + 1)) (hp : p ≤ c) (hq : q ≤ c) (hpq : f p = g q) (hf : ∀ i, i < c → f' i = if i = p then f c else f i) (hg : ∀ i, i < c → g' i = if i < q then g i else g (i + 1)) : I_fate f' g' c := by
  obtain ⟨f1, f2, f3, f4⟩ := h
  have F : ∀ i, i < c → ∃ i0, i0 < c + 1 ∧ i0 ≠ p ∧ f' i = f i0 ∧ (i0 = c ↔ i = p) ∧ (i0 ≠ c → i0 = i) := fun i hi => by
    by_cases h : i = p
    · exact ⟨c, by omega, by omega, by rw [hf i hi, if_pos h], ⟨fun _ => h, fun _ => rfl⟩, fun z => absurd rfl z⟩
    · exact ⟨i, by omega, h, by rw [hf i hi, if_neg h], ⟨fun z => by omega, fun z => absurd z h⟩, fun _ => rfl⟩
  have Gk : ∀ k, k < c → g' k = g (if k < q then k else k + 1) := fun k hk => by
    rw [hg k hk]
    by_cases h : k < q
    · rw [if_pos h, if_pos h]
    · rw [if_neg h, if_neg h]
  refine ⟨fun i hi => ?_, fun k hk => ?_, fun i k hi hk e => ?_, fun i k hi hk e => ?_⟩
  · obtain ⟨i0, a1, a2, a3, -⟩ := F i hi
    obtain ⟨k0, b1, b2⟩ := f1 i0 a1
    have hk0 : k0 ≠ q := fun z => a2 (f3 i0 p a1 (by omega) (by rw [b2, z, hpq]))
    by_cases z : k0 < q
    · exact ⟨k0, by omega, by rw [a3, b2, Gk k0 (by omega), if_pos z]⟩
    · exact ⟨k0 - 1, by omega, by rw [a3, b2, Gk (k0 - 1) (by omega), if_neg (by omega), show k0 - 1 + 1 = k0 by omega]⟩
  · rw [Gk k hk]
    obtain ⟨i0, b1, b2⟩ := f2 (if k < q then k else k + 1) (by split <;> omega)
    have hi0 : i0 ≠ p := fun z => by
      have := f4 (if k < q then k else k + 1) q (by split <;> omega) (by omega) (by rw [b2, z, hpq])
      split at this <;> omega
    by_cases z : i0 = c
    · refine ⟨p, by omega, ?_⟩
      rw [b2, hf p (by omega), if_pos rfl, z]
    · refine ⟨i0, by omega, ?_⟩
      rw [b2, hf i0 (by omega), if_neg hi0]
  · obtain ⟨i0, a1, a2, a3, a4, a5⟩ := F i hi
    obtain ⟨k0, b1, b2, b3, b4, b5⟩ := F k hk
    have := f3 i0 k0 a1 b1 (by rw [← a3, ← b3, e])
    by_cases z : i0 = c
    · exact (a4.mp z).trans (b4.mp (this ▸ z)).symm
    · have z' : k0 ≠ c := this ▸ z
      rw [← a5 z, ← b5 z', this]
  · rw [Gk i hi, Gk k hk] at e
    have := f4 _ _ (by split <;> omega) (by split <;> omega) e
    split at this <;> split at this <;> omega
/-- one fate more on both sides -/
theorem I_fate_on {f g f' g' : Nat → Int32} {c : Nat} {t : Int32} (h : I_fate f g c) (hf : ∀ i, i < c → f i ≠ t) (hf' : ∀ i, f' i = if i = c then t else f i) (hg' : ∀ i, i < c + 1 → g' i = if i = c then t else g i) : I_fate f' g' (c + 1) := by
  obtain ⟨f1, f2, f3, f4⟩ := h
  have hg : ∀ i, i < c → g i ≠ t := fun i hi z => by
    obtain ⟨k, hk, e⟩ := f2 i hi
    exact hf k hk (by rw [← e, z])
  refine ⟨fun i hi => ?_, fun i hi => ?_, fun i k hi hk e => ?_, fun i k hi hk e => ?_⟩
  · by_cases z : i = c
    · exact ⟨c, by omega, by rw [hf', hg' c (by omega), if_pos z, if_pos rfl]⟩
    · obtain ⟨k, hk, e⟩ := f1 i (by omega)
      exact ⟨k, by omega, by rw [hf', hg' k (by omega), if_neg z, if_neg (by omega), e]⟩
  · by_cases z : i = c
    · exact ⟨c, by omega, by rw [hf', hg' i hi, if_pos z, if_pos rfl]⟩
    · obtain ⟨k, hk, e⟩ := f2 i (by omega)
      exact ⟨k, by omega, by rw [hf', hg' i hi, if_neg z, if_neg (by omega), e]⟩
  · rw [hf', hf'] at e
    by_cases z : i = c
    · by_cases y : k = c
      · omega
      · rw [if_pos z, if_neg y] at e
        exact absurd e.symm (hf k (by omega))
    · by_cases y : k = c
      · rw [if_neg z, if_pos y] at e
        exact absurd e (hf i (by omega))
      · rw [if_neg z, if_neg y] at e
        exact f3 i k (by omega) (by omega) e
  · rw [hg' i hi, hg' k hk] at e
    by_cases z : i = c
    · by_cases y : k = c
      · omega
      · rw [if_pos z, if_neg y] at e
        exact absurd e.symm (hg k (by omega))
    · by_cases y : k = c
      · rw [if_neg z, if_pos y] at e
        exact absurd e (hg i (by omega))
      · rw [if_neg z, if_neg y] at e
        exact f4 i k (by omega) (by omega) e
/-- whether it is fated, on both sides -/
theorem fated {a : Int32} {w wd on R G fa fr we c : Nat} {l m : mj_m} (hW : WA a w wd on R G fa fr we) (hc : c ≤ 8) (h8 : l w 8 = nI c) (h9 : l w 9 = m 1 we) (hm : m 1 fa = nI c) (h : I_fate (l (w + 4)) (fun i => m 1 (fr + i)) c) : (f_X9_meetsFate w l = some (0, l) ∧ f_X11_isFated a m = some (0, m)) ∨ ∃ (l' m' : mj_m) (c' : Nat), f_X9_meetsFate w l = some (1, l') ∧ f_X11_isFated a m = some (1, m') ∧ (∀ k, k ≠ w → k ≠ w + 4 → l' k = l k) ∧ (∀ j, j ≠ 8 → l' w j = l w j) ∧ (∀ p, p ≠ 1 → m' p = m p) ∧ (∀ s, s ≠ fa → s < fr ∨ fr + 8 ≤ s → m' 1 s = m 1 s) ∧ c' ≤ 8 ∧ l' w 8 = nI c' ∧ m' 1 fa = nI c' ∧ I_fate (l' (w + 4)) (fun i => m' 1 (fr + i)) c' := by
  have nb := hW.nb
  have ef : f_X11_isFated a m = f_X11_isFated_J17 a (nI we) a m := by
    unfold f_X11_isFated
    rcases hW with ⟨rfl, rfl, rfl, rfl, rfl, rfl, rfl, rfl, rfl⟩ | ⟨rfl, rfl, rfl, rfl, rfl, rfl, rfl, rfl, rfl⟩
    · rw [if_neg one0]
      rfl
    · rw [if_pos rfl]
      rfl
  rw [ef]
  unfold f_X9_meetsFate f_X11_isFated_J17
  rw [chk_t (okI (by omega) (by decide)), clI (by omega)]
  rcases mf_L hc c 0 mj_fu l (by omega) (by unfold mj_fu; omega) h8 with ⟨p, h1, h2, h3, h4⟩ | ⟨h1, h2⟩
  · right
    rcases fateOf_eq (x := m 1 we) hW hc hm with ⟨q, b1, b2, b3⟩ | ⟨b1, b2⟩
    · obtain ⟨c, rfl⟩ : ∃ c', c = c' + 1 := ⟨c - 1, by omega⟩
      obtain ⟨m', e1, e2, e3, e4⟩ := isf_L hW (c := c) (by omega) (c - q) q mj_fu m (by omega) (by unfold mj_fu; omega)
      have x8 : mj_wrs l w 8 (nI c) w 8 = nI c := rs _ _ _ _
      refine ⟨mj_wrs (mj_wrs l w 8 (nI c)) (w + 4) p (l (w + 4) c), mj_wrs m' 1 fa (nI c), c, ?_, ?_, fun k k1 k2 => by rw [wr_row _ _ _ _ _ k2, wr_row _ _ _ _ _ k1], fun j hj => by rw [wr_e (Or.inl (by omega)), wr_e (Or.inr hj)], fun z hz => by rw [wr_row _ _ _ _ _ hz, e2 z hz], fun s s1 s2 => by rw [wr_e (Or.inr s1), e3 s (by omega)], by omega, by rw [wr_e (Or.inl (by omega)), rs], by rw [rs], ?_⟩
      · rw [show (0 : Int32) = nI 0 from rfl, h4]
        simp only [mj_b2, mj_let]
        rw [if_pos trivial, h8, nI_pred, x8, chk_t (okI (by omega) (by decide)), chk_t (okI (by omega) (by decide)), clI (by omega), clI (by omega), wr_row _ _ _ _ _ (by omega)]
      · rw [b3]
        simp only [mj_b1, mj_let]
        rw [if_neg (fun z => by
          have : (0 : Int32) ≤ nI q := nI_pos' (by omega)
          rw [z] at this
          exact absurd this (by decide)), hW.fm, hm, nI_pred, e1]
        simp only
        rcases hW with ⟨rfl, rfl, rfl, rfl, rfl, rfl, rfl, rfl, rfl⟩ | ⟨rfl, rfl, rfl, rfl, rfl, rfl, rfl, rfl, rfl⟩
        · rw [if_neg one0]
        · rw [if_pos rfl]
      · refine I_fate_off h (p := p) (q := q) (by omega) (by omega) (by rw [h3, h9, b2]) (fun i hi => ?_) (fun i hi => ?_)
        · by_cases z : i = p
          · rw [if_pos z, z, rs]
          · rw [if_neg z, wr_e (Or.inr z), wr_row _ _ _ _ _ (by omega)]
        · show mj_wrs m' 1 fa (nI c) 1 (fr + i) = _
          rw [wr_e (Or.inr (by omega))]
          by_cases z : i < q
          · rw [if_pos z, e3 _ (by omega)]
          · rw [if_neg z, e4 i (by omega) hi]
            rfl
    · obtain ⟨k, hk, e⟩ := h.1 p h2
      exact absurd (by rw [← h9, ← h3, e]) (b1 k hk)
  · left
    rcases fateOf_eq (x := m 1 we) hW hc hm with ⟨q, b1, b2, b3⟩ | ⟨b1, b2⟩
    · obtain ⟨k, hk, e⟩ := h.2.1 q b1
      exact absurd (by rw [← e, h9]; exact b2) (h1 k (by omega) hk)
    · refine ⟨?_, ?_⟩
      · rw [show (0 : Int32) = nI 0 from rfl, h2]
        rfl
      · rw [b2]
        rfl
theorem L_fate {a : Int32} {w wd on R G fa fr we : Nat} (hW : WA a w wd on R G fa fr we) {l m : mj_m} {pl : Nat → Int32} {pm : PM} {e u v : Nat} {T : TT} (h : I_link l (m 1) pl pm e u v T) (x : Int32) : ∃ (r : Int32) (l' m' : mj_m), f_X9_doom w x l = some (r, l') ∧ f_X11_fate a x m = some (r, m') ∧ I_link l' (m' 1) pl pm e u v T ∧ Fl l l' ∧ Fm m m' ∧ m' 1 11 = m 1 11 := by
  have nb := hW.nb
  have no : f_X9_doom w x l = some (-1, l) → f_X11_fate a x m = some (-1, mj_wrs m 0 0 0) → ∃ (r : Int32) (l' m' : mj_m), f_X9_doom w x l = some (r, l') ∧ f_X11_fate a x m = some (r, m') ∧ I_link l' (m' 1) pl pm e u v T ∧ Fl l l' ∧ Fm m m' ∧ m' 1 11 = m 1 11 := fun a b => ⟨-1, l, mj_wrs m 0 0 0, a, b, by rw [r10]; exact h, Fl.rf _, Fm.wr0 (by decide), by rw [r10]⟩
  obtain ⟨c, hc, h8, hm, cc, h9, hF⟩ : ∃ c, c ≤ 8 ∧ l w 8 = nI c ∧ m 1 fa = nI c ∧ mj_cl (m 1 fa) = c ∧ l w 9 = m 1 we ∧ I_fate (l (w + 4)) (fun i => m 1 (fr + i)) c := by
    obtain ⟨⟨g_set, g_rng, g_tick⟩, g_rec, ⟨g_mach, g_line, g_sent, g_pass, g_dir, g_rep, g_st⟩, g_led, g_dia, g_up, g_dn, g_plan⟩ := h
    rcases hW with ⟨rfl, rfl, rfl, rfl, rfl, rfl, rfl, rfl, rfl⟩ | ⟨rfl, rfl, rfl, rfl, rfl, rfl, rfl, rfl, rfl⟩
    · obtain ⟨⟨-, ⟨q1, q2, q3⟩, q4⟩, -⟩ := g_up
      obtain ⟨c, hc, ec, cc⟩ := cn_i q2
      exact ⟨c, hc, q1.trans ec, ec, cc, q4, cc ▸ q3⟩
    · obtain ⟨-, ⟨q1, q2, q3⟩, q4⟩ := g_dn
      obtain ⟨c, hc, ec, cc⟩ := cn_i q2
      exact ⟨c, hc, q1.trans ec, ec, cc, q4, cc ▸ q3⟩
  have ef : f_X11_fate a x m = f_X11_fate_J20 a x (nI we) (mj_wrs m 0 0 0) := by
    unfold f_X11_fate
    simp only [mj_let]
    rcases hW with ⟨rfl, rfl, rfl, rfl, rfl, rfl, rfl, rfl, rfl⟩ | ⟨rfl, rfl, rfl, rfl, rfl, rfl, rfl, rfl, rfl⟩
    · rw [if_neg one0]
      rfl
    · rw [if_pos rfl]
      rfl
  have e0 : f_X11_fate_J20 a x (nI we) (mj_wrs m 0 0 0) = if f_X11_isIn x 1 99 = 0 then some (-1, mj_wrs m 0 0 0) else if m 1 fa = 8 then some (-1, mj_wrs m 0 0 0) else mj_b1 (f_X11_fateOf a (m 1 we + x) (mj_wrs m 0 0 0)) (fun r9 => if r9 = -1 then some (nI (c + 1), mj_wrs (mj_wrs (mj_wrs m 0 0 0) 1 (fr + c) (m 1 we + x)) 1 fa (nI (c + 1))) else some (-1, mj_wrs m 0 0 0)) := by
    unfold f_X11_fate_J20
    rw [chk_t (okI (by omega) (by decide)), clI (by omega), hW.fm, r10]
    simp only [mj_let]
    by_cases q1 : f_X11_isIn x 1 99 = 0
    · rw [if_pos q1, if_pos q1]
    rw [if_neg q1, if_neg q1]
    by_cases q2 : m 1 fa = 8
    · rw [if_pos q2, if_pos q2]
    rw [if_neg q2, if_neg q2]
    congr 1
    funext r9
    by_cases q3 : r9 = -1
    · rw [if_pos q3, if_pos q3, hm, hW.ft, chk_t (okI (by omega) (by decide)), clI (by omega)]
      have ez : ∀ m : mj_m, m 1 fa = nI c → f_X11_more (nI fa) m = some (mj_wrs m 1 fa (nI (c + 1))) := fun m hm => by rw [more_eq (by omega), hm, nI_1]
      have ew : ∀ m : mj_m, f_X11_fateMany a m = m 1 fa := hW.fm
      have hz : mj_wrs (mj_wrs m 0 0 0) 1 (fr + c) (m 1 we + x) 1 fa = nI c := by rw [wr_e (Or.inr (by omega)), r10, hm]
      simp only [ew]
      rcases hW with ⟨rfl, rfl, rfl, rfl, rfl, rfl, rfl, rfl, rfl⟩ | ⟨rfl, rfl, rfl, rfl, rfl, rfl, rfl, rfl, rfl⟩
      · rw [if_neg one0, show (43 : Int32) = nI 43 from rfl, ez _ hz]
        simp only [mj_b1]
        rw [rs]
      · rw [if_pos rfl, show (44 : Int32) = nI 44 from rfl, ez _ hz]
        simp only [mj_b1]
        rw [rs]
    · rw [if_neg q3, if_neg q3]
  by_cases hx : 1 ≤ x ∧ x ≤ 99
  · by_cases h8' : c = 8
    · refine no ?_ ?_
      · unfold f_X9_doom
        rw [show f_X10_isWithin x 1 99 = 1 from isIn_t hx]
        simp only [mj_let]
        rw [if_neg one0, h8, h8', if_neg (by decide)]
      · rw [ef, e0, isIn_t hx, if_neg one0, hm, h8', if_pos (by decide)]
    · have c8 : nI c < 8 := nI_lt (b := 8) (by omega) (by decide)
      have c8' : ¬ nI c = 8 := fun z => h8' ((nI_eq (b := 8) (by omega) (by decide)).mp z)
      rcases dm_L (x := x) hc c 0 mj_fu l (by omega) (by unfold mj_fu; omega) h8 with ⟨⟨p, h1, h2, h3⟩, h4⟩ | ⟨h1, h2⟩
      · refine no ?_ ?_
        · unfold f_X9_doom
          rw [show f_X10_isWithin x 1 99 = 1 from isIn_t hx]
          simp only [mj_let]
          rw [if_neg one0, h8, if_pos c8, show (0 : Int32) = nI 0 from rfl, h4]
          rfl
        · rw [ef, e0, isIn_t hx, if_neg one0, hm, if_neg c8']
          rcases fateOf_eq (x := m 1 we + x) (m := mj_wrs m 0 0 0) hW hc (by rw [r10]; exact hm) with ⟨q, b1, b2, b3⟩ | ⟨b1, b2⟩
          · rw [b3]
            simp only [mj_b1]
            rw [if_neg (fun z => by
              have : (0 : Int32) ≤ nI q := nI_pos' (by omega)
              rw [z] at this
              exact absurd this (by decide))]
          · obtain ⟨k, hk, e⟩ := hF.1 p h2
            refine absurd ?_ (b1 k hk)
            rw [r10, ← h9, ← h3, e]
      · rcases fateOf_eq (x := m 1 we + x) (m := mj_wrs m 0 0 0) hW hc (by rw [r10]; exact hm) with ⟨q, b1, b2, b3⟩ | ⟨b1, b2⟩
        · obtain ⟨k, hk, e⟩ := hF.2.1 q b1
          refine absurd ?_ (h1 k (by omega) hk)
          rw [← e, h9, ← b2, r10]
        · refine ⟨nI (c + 1), mj_wrs (mj_wrs l (w + 4) c (m 1 we + x)) w 8 (nI (c + 1)), mj_wrs (mj_wrs (mj_wrs m 0 0 0) 1 (fr + c) (m 1 we + x)) 1 fa (nI (c + 1)), ?_, ?_, ?_, ?_, ((Fm.wr0 (by decide)).tr Fm.wr).tr Fm.wr, by rw [wr_e (Or.inr (by omega)), wr_e (Or.inr (by omega)), r10]⟩
          · unfold f_X9_doom
            rw [show f_X10_isWithin x 1 99 = 1 from isIn_t hx]
            simp only [mj_let]
            rw [if_neg one0, h8, if_pos c8, show (0 : Int32) = nI 0 from rfl, h2]
            simp only [mj_b1]
            rw [if_neg (by decide), chk_t (okI (by omega) (by decide)), clI (by omega), rs, wr_e (Or.inl (by omega)), h8, nI_1, h9]
          · rw [ef, e0, isIn_t hx, if_neg one0, hm, if_neg c8', b2]
            simp only [mj_b1]
            rw [if_pos trivial]
          · have key : I_fate (mj_wrs (mj_wrs l (w + 4) c (m 1 we + x)) w 8 (nI (c + 1)) (w + 4)) (fun i => mj_wrs (mj_wrs (mj_wrs m 0 0 0) 1 (fr + c) (m 1 we + x)) 1 fa (nI (c + 1)) 1 (fr + i)) (c + 1) := by
              refine I_fate_on (t := m 1 we + x) hF (fun i hi => by rw [← h9]; exact h1 i (by omega) hi) (fun i => ?_) (fun i hi => ?_)
              · rw [wr_e (Or.inl (by omega)), wr_at]
                by_cases z : i = c
                · rw [if_pos z, if_pos ⟨rfl, z⟩]
                · rw [if_neg z, if_neg (fun y => z y.2)]
              · show mj_wrs (mj_wrs (mj_wrs m 0 0 0) 1 (fr + c) (m 1 we + x)) 1 fa (nI (c + 1)) 1 (fr + i) = _
                rw [wr_e (Or.inr (by omega)), wr_n]
                by_cases z : i = c
                · rw [if_pos z, if_pos (by omega)]
                · rw [if_neg z, if_neg (by omega), r10]
            have hn : ∀ s, s ≠ fa ∧ s ≠ fr + c → mj_wrs (mj_wrs (mj_wrs m 0 0 0) 1 (fr + c) (m 1 we + x)) 1 fa (nI (c + 1)) 1 s = m 1 s := fun s hs => by rw [wr_e (Or.inr hs.1), wr_e (Or.inr hs.2), r10]
            have hl : ∀ k, k ≠ w ∧ k ≠ w + 4 → mj_wrs (mj_wrs l (w + 4) c (m 1 we + x)) w 8 (nI (c + 1)) k = l k := fun k hk => by rw [wr_row _ _ _ _ _ hk.1, wr_row _ _ _ _ _ hk.2]
            have nfa : mj_wrs (mj_wrs (mj_wrs m 0 0 0) 1 (fr + c) (m 1 we + x)) 1 fa (nI (c + 1)) 1 fa = nI (c + 1) := rs _ _ _ _
            have lw8 : mj_wrs (mj_wrs l (w + 4) c (m 1 we + x)) w 8 (nI (c + 1)) w 8 = nI (c + 1) := rs _ _ _ _
            have lw : ∀ j, j ≠ 8 → mj_wrs (mj_wrs l (w + 4) c (m 1 we + x)) w 8 (nI (c + 1)) w j = l w j := fun j hj => by rw [wr_e (Or.inr hj), wr_e (Or.inl (by omega))]
            obtain ⟨⟨g_set, g_rng, g_tick⟩, g_rec, ⟨g_mach, g_line, g_sent, g_pass, g_dir, g_rep, g_st⟩, g_led, g_dia, g_up, g_dn, g_plan⟩ := h
            rcases hW with ⟨rfl, rfl, rfl, rfl, rfl, rfl, rfl, rfl, rfl⟩ | ⟨rfl, rfl, rfl, rfl, rfl, rfl, rfl, rfl, rfl⟩
            · refine ⟨⟨I_set_cg g_set (by rw [hl 1 (by omega)]) (hl 2 (by omega)) (hn 12 (by omega)) (fun s _ => hn s (by omega)), I_rng_cg g_rng (hl 2 (by omega)), I_tick_cg g_tick (by rw [hl 1 (by omega)]) (hn 11 (by omega))⟩, I_rec_cg (I_rec_mono g_rec) (fun k _ _ => hl k (by omega)) (hn 38 (by omega)) (fun s _ _ => hn s (by omega)) (fun s _ _ => hn s (by omega)) (fun s _ _ => hn s (by omega)), ⟨I_mach_cg g_mach (fun _ _ => by rw [hl 17 (by omega)]) (fun s _ => hn s (by omega)), I_line_cg g_line (by rw [hl 18 (by omega)]) (hl 19 (by omega)) (hl 21 (by omega)) (hn 24 (by omega)) (hn 40 (by omega)) (fun s _ _ => hn s (by omega)), I_sent_cg g_sent (fun k _ _ => hl k (by omega)) (hn 22 (by omega)) (hn 24 (by omega)) (hn 25 (by omega)) (hn 40 (by omega)) (fun s _ _ => hn s (by omega)), I_pass_cg g_pass (by rw [hl 28 (by omega)]) (hl 29 (by omega)) (hn 29 (by omega)) (fun s _ _ => hn s (by omega)), I_dir_cg g_dir (fun _ _ => by rw [hl 17 (by omega)]) (fun s _ => hn s (by omega)), I_rep_cg g_rep (by rw [hl 17 (by omega)]) (hn 45 (by omega)) (hn 46 (by omega)) (hn 47 (by omega)), I_st_cg g_st (by rw [hl 17 (by omega)]) (by rw [hl 17 (by omega)]) (hn 31 (by omega)) (fun s _ _ => hn s (by omega))⟩, I_led_cg (I_led_mono g_led) (fun _ _ => by rw [hl 3 (by omega)]) (hl 4 (by omega)) (hl 46 (by omega)) (hn 11 (by omega)) (hn 19 (by omega)) (hn 24 (by omega)) (hn 25 (by omega)) (hn 40 (by omega)) (fun s _ _ => hn s (by omega)), I_dia_cg (I_dia_mono g_dia) (fun k _ _ => hl k (by omega)) (hn 33 (by omega)) (hn 34 (by omega)) (hn 48 (by omega)) (fun s _ _ => hn s (by omega)), ?_, I_dn_cg g_dn (fun k _ _ => hl k (by omega)) (hn 11 (by omega)) (hn 36 (by omega)) (hn 42 (by omega)) (hn 44 (by omega)) (fun s _ _ => hn s (by omega)) (fun s _ _ => hn s (by omega)), I_plan_cg g_plan (fun k _ _ => hl k (by omega)) (hn 49 (by omega))⟩
              obtain ⟨⟨⟨u1, u2, u3⟩, -, u5⟩, u6, u7⟩ := g_up
              refine ⟨⟨⟨?_, ?_, fun i hi => ?_⟩, ⟨?_, ?_, ?_⟩, ?_⟩, ?_, fun i hi => ?_⟩
              · rw [lw 7 (by decide), hn 41 (by omega)]
                exact u1
              · rw [hn 41 (by omega)]
                exact u2
              · rw [hn 41 (by omega)] at hi ⊢
                rw [hn 11 (by omega), hl _ (by omega), hl _ (by omega), hn _ (by omega)]
                obtain ⟨v1, v2, v3, v4⟩ := u3 i hi
                refine ⟨v1, v2, v3, fun k hk => ?_⟩
                rw [hn _ (by omega)]
                exact v4 k hk
              · rw [lw8, nfa]
              · rw [nfa]
                exact cn_mk (by omega) (by decide)
              · rw [nfa, clI (by omega)]
                exact key
              · rw [lw 9 (by decide), hn 35 (by omega)]
                exact u5
              · rw [lw 10 (by decide), hn 37 (by omega)]
                exact u6
              · rw [hn 41 (by omega)] at hi
                rw [hl _ (by omega), hn 40 (by omega), hn _ (by omega)]
                exact u7 i hi
            · refine ⟨⟨I_set_cg g_set (by rw [hl 1 (by omega)]) (hl 2 (by omega)) (hn 12 (by omega)) (fun s _ => hn s (by omega)), I_rng_cg g_rng (hl 2 (by omega)), I_tick_cg g_tick (by rw [hl 1 (by omega)]) (hn 11 (by omega))⟩, I_rec_cg (I_rec_mono g_rec) (fun k _ _ => hl k (by omega)) (hn 38 (by omega)) (fun s _ _ => hn s (by omega)) (fun s _ _ => hn s (by omega)) (fun s _ _ => hn s (by omega)), ⟨I_mach_cg g_mach (fun _ _ => by rw [hl 17 (by omega)]) (fun s _ => hn s (by omega)), I_line_cg g_line (by rw [hl 18 (by omega)]) (hl 19 (by omega)) (hl 21 (by omega)) (hn 24 (by omega)) (hn 40 (by omega)) (fun s _ _ => hn s (by omega)), I_sent_cg g_sent (fun k _ _ => hl k (by omega)) (hn 22 (by omega)) (hn 24 (by omega)) (hn 25 (by omega)) (hn 40 (by omega)) (fun s _ _ => hn s (by omega)), I_pass_cg g_pass (by rw [hl 28 (by omega)]) (hl 29 (by omega)) (hn 29 (by omega)) (fun s _ _ => hn s (by omega)), I_dir_cg g_dir (fun _ _ => by rw [hl 17 (by omega)]) (fun s _ => hn s (by omega)), I_rep_cg g_rep (by rw [hl 17 (by omega)]) (hn 45 (by omega)) (hn 46 (by omega)) (hn 47 (by omega)), I_st_cg g_st (by rw [hl 17 (by omega)]) (by rw [hl 17 (by omega)]) (hn 31 (by omega)) (fun s _ _ => hn s (by omega))⟩, I_led_cg (I_led_mono g_led) (fun _ _ => by rw [hl 3 (by omega)]) (hl 4 (by omega)) (hl 46 (by omega)) (hn 11 (by omega)) (hn 19 (by omega)) (hn 24 (by omega)) (hn 25 (by omega)) (hn 40 (by omega)) (fun s _ _ => hn s (by omega)), I_dia_cg (I_dia_mono g_dia) (fun k _ _ => hl k (by omega)) (hn 33 (by omega)) (hn 34 (by omega)) (hn 48 (by omega)) (fun s _ _ => hn s (by omega)), I_up_cg g_up (fun k _ _ => hl k (by omega)) (hn 11 (by omega)) (hn 35 (by omega)) (hn 37 (by omega)) (hn 40 (by omega)) (hn 41 (by omega)) (hn 43 (by omega)) (fun s _ _ => hn s (by omega)) (fun s _ _ => hn s (by omega)), ?_, I_plan_cg g_plan (fun k _ _ => hl k (by omega)) (hn 49 (by omega))⟩
              obtain ⟨⟨u1, u2, u3⟩, -, u5⟩ := g_dn
              refine ⟨⟨?_, ?_, fun i hi => ?_⟩, ⟨?_, ?_, ?_⟩, ?_⟩
              · rw [lw 7 (by decide), hn 42 (by omega)]
                exact u1
              · rw [hn 42 (by omega)]
                exact u2
              · rw [hn 42 (by omega)] at hi ⊢
                rw [hn 11 (by omega), hl _ (by omega), hl _ (by omega), hn _ (by omega)]
                obtain ⟨v1, v2, v3, v4⟩ := u3 i hi
                refine ⟨v1, v2, v3, fun k hk => ?_⟩
                rw [hn _ (by omega)]
                exact v4 k hk
              · rw [lw8, nfa]
              · rw [nfa]
                exact cn_mk (by omega) (by decide)
              · rw [nfa, clI (by omega)]
                exact key
              · rw [lw 9 (by decide), hn 36 (by omega)]
                exact u5
          · unfold Fl
            rcases hW with ⟨rfl, rfl, rfl, rfl, rfl, rfl, rfl, rfl, rfl⟩ | ⟨rfl, rfl, rfl, rfl, rfl, rfl, rfl, rfl, rfl⟩
            · simp (disch := omega) only [wr_e]
              exact ⟨trivial, trivial, trivial, trivial⟩
            · simp (disch := omega) only [wr_e]
              exact ⟨trivial, trivial, trivial, trivial⟩
  · refine no ?_ ?_
    · unfold f_X9_doom
      rw [show f_X10_isWithin x 1 99 = 0 from isIn_f hx]
      rfl
    · rw [ef, e0, isIn_f hx, if_pos rfl]
theorem c_fate : CL_fate Inv := by
  intro j M x1 x2 hj h
  obtain ⟨w, wd, on, R, G, fa, fr, we, hW⟩ := lbW x1
  obtain ⟨r, l', m', e1, e2, e3, e4, e5, e6⟩ := L_fate hW h.2.1 x2
  refine ⟨r, va_up M 0 l', m', ?_, e2, Inv_link0 h (I_link_mono e3) e4 e5 e6⟩
  unfold f_X10_fate
  simp only [mj_let]
  rw [hW.of, e1]
  rfl
