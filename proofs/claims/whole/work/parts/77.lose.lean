/-! all that waits or is sent is gone -/
def st3 (v : Int32) (f : Nat → Int32) (A B s : Nat) : Int32 := if A ≤ s / 7 ∧ s / 7 < B ∧ s / 7 < 100 ∧ s % 7 = 6 then v else f s
def rt3 (v : Int32) (f : Nat → Int32) (A B s : Nat) : Int32 := if 1097 ≤ s ∧ A ≤ (s - 1097) / 8 ∧ (s - 1097) / 8 < B ∧ (s - 1097) / 8 < 100 ∧ (s - 1097) % 8 = 6 then v else f s
theorem lnum_lt {x : Nat} (h : x < 100) : lnum x = nI x := if_pos h
theorem lnum_ge {x : Nat} (h : 100 ≤ x) : lnum x = -1 := if_neg (by omega)
theorem lose_L {b c F : Nat} (hb : 4 < b) (hc : c ≤ 20) : ∀ (k i n : Nat) (m : mj_m), i + k = c → k < n → m b 4 = nI c → (∀ q, q < c → m (b + 3) q = lnum (F + q)) → ∃ m' : mj_m, f_X2_lose_L2 b n (nI i) m = some m' ∧ (∀ p, p ≠ 4 → m' p = m p) ∧ ∀ s, m' 4 s = st3 3 (m 4) (F + i) (F + c) s := by
  intro k
  induction k with
  | zero =>
    intro i n m hi hn hm hq
    obtain ⟨n, rfl⟩ : ∃ n', n = n' + 1 := ⟨n - 1, by omega⟩
    refine ⟨m, ?_, fun _ _ => rfl, fun s => ?_⟩
    · rw [f_X2_lose_L2, hm, if_pos (nI_le (by omega) (by omega))]
    · unfold st3
      rw [if_neg (by omega)]
  | succ k ih =>
    intro i n m hi hn hm hq
    obtain ⟨n, rfl⟩ : ∃ n', n = n' + 1 := ⟨n - 1, by omega⟩
    have hlt : ¬ nI c ≤ nI i := nI_ge (by omega) (by omega)
    by_cases h100 : F + i < 100
    · have hx : m (b + 3) i = nI (F + i) := (hq i (by omega)).trans (lnum_lt h100)
      obtain ⟨m', e1, e2, e3⟩ := ih (i + 1) n (mj_wrs m 4 ((F + i) * 7 + 6) 3) (by omega) (by omega) (by rw [wr_e (Or.inl (by omega)), hm]) (fun q h => by rw [wr_e (Or.inl (by omega)), hq q h])
      refine ⟨m', ?_, fun p hp => by rw [e2 p hp, wr_row _ _ _ _ _ hp], fun s => ?_⟩
      · rw [f_X2_lose_L2, hm, if_neg hlt, chk_t (okI (by omega) (by decide))]
        simp only [mj_let]
        rw [clI (by omega), hx, if_neg (nI_pos (by omega)), if_neg (show ¬ (100 : Int32) ≤ nI (F + i) from nI_ge (b := 100) h100 (by decide)), show nI (F + i) * 7 = nI ((F + i) * 7) from nI_mul _ 7, show nI ((F + i) * 7) + 6 = nI ((F + i) * 7 + 6) from nI_add _ 6, chk_t (okI (by omega) (by decide)), clI (by omega), nI_1]
        exact e1
      · rw [e3 s]
        unfold st3
        rw [wr_at]
        by_cases hs : s = (F + i) * 7 + 6
        · rw [if_pos (⟨rfl, hs⟩ : (4 : Nat) = 4 ∧ s = (F + i) * 7 + 6)]
          subst hs
          rw [if_pos (show F + i ≤ ((F + i) * 7 + 6) / 7 ∧ ((F + i) * 7 + 6) / 7 < F + c ∧ ((F + i) * 7 + 6) / 7 < 100 ∧ ((F + i) * 7 + 6) % 7 = 6 by omega)]
          split <;> rfl
        · rw [if_neg (show ¬ ((4 : Nat) = 4 ∧ s = (F + i) * 7 + 6) by omega)]
          by_cases hr : F + i ≤ s / 7 ∧ s / 7 < F + c ∧ s / 7 < 100 ∧ s % 7 = 6
          · rw [if_pos hr, if_pos (by omega)]
          · rw [if_neg hr, if_neg (by omega)]
    · have hx : m (b + 3) i = -1 := (hq i (by omega)).trans (lnum_ge (by omega))
      obtain ⟨m', e1, e2, e3⟩ := ih (i + 1) n m (by omega) (by omega) hm hq
      refine ⟨m', ?_, e2, fun s => ?_⟩
      · rw [f_X2_lose_L2, hm, if_neg hlt, chk_t (okI (by omega) (by decide))]
        simp only [mj_let]
        rw [clI (by omega), hx, if_pos (by decide), nI_1]
        exact e1
      · rw [e3 s]
        unfold st3
        rw [if_neg (by omega), if_neg (by omega)]
theorem lose_eq {b c F : Nat} {m : mj_m} (hb : 4 < b) (hc : c ≤ 20) (hm : m b 4 = nI c) (hq : ∀ q, q < c → m (b + 3) q = lnum (F + q)) : ∃ m' : mj_m, f_X2_lose b m = some m' ∧ (∀ p, p ≠ 4 → p ≠ b → m' p = m p) ∧ m' b 4 = 0 ∧ ∀ s, m' 4 s = st3 3 (m 4) F (F + c) s := by
  obtain ⟨m', e1, e2, e3⟩ := lose_L hb hc c 0 mj_fu m (by omega) (by unfold mj_fu; omega) hm hq
  refine ⟨mj_wrs m' b 4 0, ?_, fun p h1 h2 => by rw [wr_row _ _ _ _ _ h2, e2 p h1], by rw [wr_at, if_pos ⟨rfl, rfl⟩], fun s => by rw [wr_e (Or.inl (by omega)), e3 s]; rfl⟩
  unfold f_X2_lose
  rw [show (0 : Int32) = nI 0 from rfl, e1]
  rfl
theorem stands_eq {x : Nat} {v : Int32} {m : mj_m} (hx : x ≤ 30000) : ∃ m' : mj_m, f_X11_stands (nI x) v m = some m' ∧ (∀ p, p ≠ 1 → m' p = m p) ∧ ∀ s, m' 1 s = rt3 v (m 1) x (x + 1) s := by
  by_cases h : x < 100
  · refine ⟨mj_wrs m 1 (1097 + 8 * x + 6) v, ?_, fun p hp => wr_row _ _ _ _ _ hp, fun s => ?_⟩
    · unfold f_X11_stands f_X11_ledgerAt
      rw [if_neg (show ¬ (100 : Int32) ≤ nI x from nI_ge (b := 100) h (by decide))]
      simp only [mj_let]
      rw [show (8 : Int32) * nI x = nI (8 * x) from nI_mul 8 x, show (1097 : Int32) + nI (8 * x) = nI (1097 + 8 * x) from nI_add 1097 _, show nI (1097 + 8 * x) + 6 = nI (1097 + 8 * x + 6) from nI_add _ 6, chk_t (okI (by omega) (by decide)), clI (by omega)]
    · rw [wr_n]
      unfold rt3
      by_cases hs : s = 1097 + 8 * x + 6
      · rw [if_pos hs, if_pos (by omega)]
      · rw [if_neg hs, if_neg (by omega)]
  · refine ⟨m, ?_, fun _ _ => rfl, fun s => ?_⟩
    · unfold f_X11_stands
      rw [if_pos (show (100 : Int32) ≤ nI x from nI_le (a := 100) (by omega) (by omega))]
    · unfold rt3
      rw [if_neg (by omega)]
theorem rt3_join {v : Int32} {f : Nat → Int32} {A B C s : Nat} (h1 : A ≤ B) (h2 : B ≤ C) : rt3 v (fun s => rt3 v f A B s) B C s = rt3 v f A C s := by
  unfold rt3
  dsimp only
  by_cases h : 1097 ≤ s ∧ A ≤ (s - 1097) / 8 ∧ (s - 1097) / 8 < C ∧ (s - 1097) / 8 < 100 ∧ (s - 1097) % 8 = 6
  · rw [if_pos h]
    by_cases hB : (s - 1097) / 8 < B
    · rw [if_neg (by omega), if_pos (by omega)]
    · rw [if_pos (by omega)]
  · rw [if_neg h, if_neg (by omega), if_neg (by omega)]
theorem empties_L {E : Nat} (hE : E ≤ 20000) : ∀ (k x n : Nat) (m : mj_m), x + k = E → k < n → m 1 40 = nI E → ∃ m' : mj_m, f_X11_empties_L5 n (nI x) m = some m' ∧ (∀ p, p ≠ 1 → m' p = m p) ∧ ∀ s, m' 1 s = rt3 3 (m 1) x E s := by
  intro k
  induction k with
  | zero =>
    intro x n m hx hn hm
    obtain ⟨n, rfl⟩ : ∃ n', n = n' + 1 := ⟨n - 1, by omega⟩
    refine ⟨m, ?_, fun _ _ => rfl, fun s => ?_⟩
    · rw [f_X11_empties_L5, hm, if_pos (nI_le (by omega) (by omega))]
    · unfold rt3
      rw [if_neg (by omega)]
  | succ k ih =>
    intro x n m hx hn hm
    obtain ⟨n, rfl⟩ : ∃ n', n = n' + 1 := ⟨n - 1, by omega⟩
    obtain ⟨m1, a1, a2, a3⟩ := stands_eq (x := x) (v := 3) (m := m) (by omega)
    obtain ⟨m', e1, e2, e3⟩ := ih (x + 1) n m1 (by omega) (by omega) (by rw [a3]; unfold rt3; rw [if_neg (by omega), hm])
    refine ⟨m', ?_, fun p hp => by rw [e2 p hp, a2 p hp], fun s => ?_⟩
    · rw [f_X11_empties_L5, hm, if_neg (nI_ge (by omega) (by omega)), a1]
      simp only [mj_b1, mj_let]
      rw [nI_1]
      exact e1
    · rw [e3 s, show m1 1 = fun s => rt3 3 (m 1) x (x + 1) s from funext a3, rt3_join (by omega) (by omega)]
theorem empties_eq {E a b : Nat} {m : mj_m} (hE : E ≤ 20000) (hab : a + b ≤ E) (hab2 : a + b ≤ 10000) (h40 : m 1 40 = nI E) (h24 : m 1 24 = nI a) (h25 : m 1 25 = nI b) : ∃ m' : mj_m, f_X11_empties m = some m' ∧ (∀ p, p ≠ 1 → m' p = m p) ∧ m' 1 24 = 0 ∧ m' 1 25 = 0 ∧ ∀ s, s ≠ 24 → s ≠ 25 → m' 1 s = rt3 3 (m 1) (E - a - b) E s := by
  obtain ⟨m', e1, e2, e3⟩ := empties_L hE (a + b) (E - a - b) mj_fu m (by omega) (by unfold mj_fu; omega) h40
  refine ⟨mj_wrs (mj_wrs m' 1 24 0) 1 25 0, ?_, fun p hp => by rw [wr_row _ _ _ _ _ hp, wr_row _ _ _ _ _ hp, e2 p hp], by simp [wr_at], by simp [wr_at], fun s h1 h2 => by rw [wr_e (Or.inr h2), wr_e (Or.inr h1), e3 s]⟩
  unfold f_X11_empties f_X11_firstSent
  simp only [mj_let]
  rw [h40, h24, h25, nI_sub (by omega), nI_sub (by omega), e1]
  rfl
/-- the ledger, when the same lines stand otherwise on both sides -/
theorem I_led_st {l l' : mj_m} {n n' : Nat → Int32} {e v0 A B : Nat} {v : Int32} (h : I_led l n e v0) (h4 : ∀ s, l' 4 s = st3 v (l 4) A B s) (hl3 : ∀ s, s = 2 ∨ s = 4 ∨ s = 5 → l' 3 s = l 3 s) (h46 : l' 46 = l 46) (hn : ∀ s, 1097 ≤ s → s ≤ 1896 → n' s = rt3 v n A B s) (h11 : n' 11 = n 11) (h19 : n' 19 = n 19) (h40 : n' 40 = n 40) (hs : mj_cl (n' 24) + mj_cl (n' 25) ≤ mj_cl (n 40)) : I_led l' n' e v0 := by
  obtain ⟨p1, p2, p3, p4, p5, p6, p7⟩ := h
  have en : ∀ i d, i < 100 → d < 8 → d ≠ 6 → n' (1097 + 8 * i + d) = n (1097 + 8 * i + d) := fun i d hi hd h6 => by
    rw [hn _ (by omega) (by omega)]
    unfold rt3
    rw [if_neg (by omega)]
  have el : ∀ i d, d < 7 → d ≠ 6 → l' 4 (7 * i + d) = l 4 (7 * i + d) := fun i d hd h6 => by
    rw [h4]
    unfold st3
    rw [if_neg (by omega)]
  refine ⟨?_, ?_, ?_, ?_, ?_, fun i hi h1 => ?_, fun a b ha1 ha2 hb1 hb2 h1 h2 => ?_⟩
  · rw [hl3 5 (by simp), h40]
    exact p1
  · rw [h40]
    exact p2
  · rw [h40]
    exact hs
  · rw [hl3 2 (by simp), h40]
    exact p4
  · rw [hl3 4 (by simp)]
    exact p5
  · rw [h40] at hi
    have q := p6 i hi h1
    unfold I_ll at q ⊢
    obtain ⟨q0, q1, q2, q3, q4, q5, q6, q7⟩ := q
    have e0n := en i 0 h1 (by decide) (by decide)
    have e0l := el i 0 (by decide) (by decide)
    rw [Nat.add_zero] at e0n e0l
    rw [h11, h46, hl3 4 (by simp), h19, e0n, e0l, en i 1 h1 (by decide) (by decide), en i 2 h1 (by decide) (by decide), en i 3 h1 (by decide) (by decide), en i 4 h1 (by decide) (by decide), en i 5 h1 (by decide) (by decide), en i 7 h1 (by decide) (by decide), el i 1 (by decide) (by decide), el i 2 (by decide) (by decide), el i 3 (by decide) (by decide), el i 4 (by decide) (by decide), el i 5 (by decide) (by decide)]
    refine ⟨q0, q1, q2, q3, q4, q5, ?_, q7⟩
    rw [h4, hn _ (by omega) (by omega)]
    unfold st3 rt3
    by_cases hr : A ≤ i ∧ i < B
    · rw [if_pos (by omega), if_pos (by omega)]
    · rw [if_neg (by omega), if_neg (by omega)]
      exact q6
  · rw [h40] at ha1 hb1
    rw [en a 4 ha2 (by decide) (by decide)] at h1
    rw [en b 4 hb2 (by decide) (by decide)] at h2
    rw [h46, en a 7 ha2 (by decide) (by decide), en b 7 hb2 (by decide) (by decide)]
    exact p7 a b ha1 ha2 hb1 hb2 h1 h2
