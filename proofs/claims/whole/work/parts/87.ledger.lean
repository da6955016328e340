/-! ledger -/
theorem lmany {l m : mj_m} {e v : Nat} (h : I_led l (m 1) e v) : f_X11_ledgerMany m = l 3 2 := by
  obtain ⟨-, d2, -, d4, -⟩ := h
  obtain ⟨E, hE, eE, cE⟩ := cn_i d2
  unfold f_X11_ledgerMany
  rw [d4, cE]
  by_cases q : E < 100
  · rw [if_pos q, eE, if_neg (show ¬ (100 : Int32) ≤ nI E from nI_ge (b := 100) q (by decide))]
  · by_cases hb : E < 2 ^ 31
    · rw [if_neg q, eE, if_pos (show (100 : Int32) ≤ nI E from nI_le (a := 100) (by omega) hb)]
    · have : mj_cl (m 1 40) < 2 ^ 31 := by
        unfold mj_cl
        have := Int32.toInt_lt (m 1 40)
        show (m 1 40).toInt.toNat < 2 ^ 31
        omega
      omega
theorem c_ledger : CL_ledger Inv := by
  intro j M x1 x2 hj h
  obtain ⟨-, ⟨-, -, -, g_led, -⟩, -, -⟩ := id h
  obtain ⟨d1, d2, d3, d4, d5, d6, d7⟩ := id g_led
  have r1 : mj_wrs (M 4) 0 0 0 1 = M 4 1 := wr_row _ _ _ _ _ (by decide)
  have hm : f_X11_ledgerMany (mj_wrs (M 4) 0 0 0) = M 0 3 2 := by
    have g : I_led (M 0) (mj_wrs (M 4) 0 0 0 1) (24 * j) (50 * mj_cl (M 4 1 11)) := by
      rw [r1]
      exact g_led
    exact lmany g
  obtain ⟨E, hE, eE, cE⟩ := cn_i d2
  refine askq h ?_
  unfold f_X10_ledger f_X11_ledger f_X2_cell f_X2_has
  simp only [mj_let]
  rw [hm, r1]
  by_cases hneg : x1 = -1
  · exact ⟨M 0 3 2, by rw [if_pos hneg], by rw [if_pos hneg]⟩
  rw [if_neg hneg, if_neg hneg]
  by_cases h0 : x1 < 0
  · exact ⟨-1, by rw [if_pos h0]; rfl, by rw [if_pos h0]⟩
  rw [if_neg h0, if_neg h0]
  by_cases h1 : M 0 3 2 ≤ x1
  · exact ⟨-1, by rw [if_pos h1]; rfl, by rw [if_pos h1]⟩
  rw [if_neg h1, if_neg h1]
  obtain ⟨i, hi, hi100, rfl⟩ : ∃ i : Nat, i < E ∧ i < 100 ∧ x1 = nI i := by
    rw [d4, cE] at h1
    by_cases q : E < 100
    · rw [if_pos q, eE] at h1
      obtain ⟨i, a, b⟩ := in_lt (by omega) h0 h1
      exact ⟨i, a, by omega, b⟩
    · rw [if_neg q] at h1
      obtain ⟨i, a, b⟩ := in_lt (b := 100) (by decide) h0 h1
      exact ⟨i, by omega, a, b⟩
  rw [if_neg (show ¬ (100 : Int32) ≤ nI i from nI_ge (b := 100) hi100 (by decide)), if_neg one0]
  obtain ⟨q0, q1, q2, q3, q4, q5, q6, -⟩ := d6 i (by omega) hi100
  by_cases hx : 0 ≤ x2 ∧ x2 ≤ 6
  · have n0 : ¬ x2 < 0 := by
      have := hx.1
      grind
    have n7 : x2 < 7 := by
      have := hx.2
      grind
    obtain ⟨w, hw, rfl⟩ := in_lt (a := x2) (b := 7) (by decide) n0 (by
      intro q
      have : (7 : Int32) ≤ x2 := q
      grind)
    refine ⟨M 0 4 (7 * i + w), ?_, ?_⟩
    · rw [if_neg n0, if_pos n7, show nI i * 7 = nI (i * 7) from nI_mul i 7, nI_add, chk_t (okI (by omega) (by decide)), clI (by omega), show i * 7 + w = 7 * i + w by omega]
      rfl
    · rw [isIn_t hx, if_neg one0]
      unfold f_X11_ledgerAt
      rw [show (8 : Int32) * nI i = nI (8 * i) from nI_mul 8 i, show (1097 : Int32) + nI (8 * i) = nI (1097 + 8 * i) from nI_add 1097 _, nI_add, chk_t (okI (by omega) (by decide)), clI (by omega)]
      rcases (by omega : w = 0 ∨ w = 1 ∨ w = 2 ∨ w = 3 ∨ w = 4 ∨ w = 5 ∨ w = 6) with rfl | rfl | rfl | rfl | rfl | rfl | rfl
      · rw [if_neg (show ¬ nI 0 = 3 by decide), if_neg (show ¬ nI 0 = 5 by decide), Nat.add_zero, Nat.add_zero, q0]
      · rw [if_neg (show ¬ nI 1 = 3 by decide), if_neg (show ¬ nI 1 = 5 by decide), q1]
      · rw [if_neg (show ¬ nI 2 = 3 by decide), if_neg (show ¬ nI 2 = 5 by decide), q2]
      · rw [if_pos (show nI 3 = 3 by decide), q3]
      · rw [if_neg (show ¬ nI 4 = 3 by decide), if_neg (show ¬ nI 4 = 5 by decide), q4]
      · rw [if_neg (show ¬ nI 5 = 3 by decide), if_pos (show nI 5 = 5 by decide), q5]
      · rw [if_neg (show ¬ nI 6 = 3 by decide), if_neg (show ¬ nI 6 = 5 by decide), q6]
  · refine ⟨-1, ?_, ?_⟩
    · by_cases n0 : x2 < 0
      · rw [if_pos n0]
        rfl
      · rw [if_neg n0, if_neg (fun q => hx ⟨by grind, by grind⟩)]
        rfl
    · rw [isIn_f hx, if_pos rfl]
