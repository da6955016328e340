/-! receiver -/
theorem kept_eq {Q c : Nat} {m : mj_m} (hQ : Q < 1897) (hc : m 1 Q = nI c) (hb : c < 2 ^ 30) : f_X11_keptOf (nI Q) m = some (nI (min c 100)) := by
  unfold f_X11_keptOf
  rw [chk_t (okI hQ (by decide)), clI (by omega), hc, chk_t (okI hQ (by decide))]
  by_cases h : 100 ≤ c
  · rw [if_pos (show (100 : Int32) ≤ nI c from nI_le (a := 100) h (by omega)), Nat.min_eq_right h]
    rfl
  · rw [if_neg (show ¬ (100 : Int32) ≤ nI c from nI_ge (b := 100) (by omega) (by decide)), Nat.min_eq_left (by omega)]
theorem min_eq {c : Nat} (hb : c < 2 ^ 30) : (if (100 : Int32) < nI c then 100 else nI c) = nI (min c 100) := by
  by_cases h : 100 < c
  · rw [if_pos (show (100 : Int32) < nI c from nI_lt (a := 100) h (by omega)), Nat.min_eq_right (by omega)]
    rfl
  · rw [if_neg (show ¬ (100 : Int32) < nI c from nI_nlt (b := c) (a := 100) (by omega) (by decide)), Nat.min_eq_left (by omega)]
theorem row_in {a : Int32} {B k : Nat} (hk : k ≤ 100) (hB : B ≤ 1000) (h1 : ¬ a < nI B) (h2 : ¬ nI B + nI k ≤ a) : ∃ i : Nat, i < k ∧ a = nI (B + i) := by
  rw [nI_add] at h2
  obtain ⟨v, hv, rfl⟩ := in_lt (a := a) (b := B + k) (by omega) (fun q => h1 (by
    have : (0 : Int32) ≤ nI B := nI_pos' (by omega)
    grind)) h2
  refine ⟨v - B, ?_, ?_⟩
  · have : B ≤ v := Nat.not_lt.mp (fun q => h1 (nI_lt q (by omega)))
    omega
  · have : B ≤ v := Nat.not_lt.mp (fun q => h1 (nI_lt q (by omega)))
    rw [show B + (v - B) = v by omega]
theorem c_receiver : CL_receiver Inv := by
  intro j M x1 hj h
  obtain ⟨-, ⟨⟨-, -, -, t2⟩, ⟨p1, ⟨p2, p2r⟩, ⟨p3, p3r⟩, ⟨p4, p4r⟩, p5, p6, ⟨a1, a2, a3⟩, ⟨b1, b2, b3⟩, -⟩, -⟩, -, -⟩ := id h
  have t3 := t2.2
  refine askq h ?_
  have r1 : mj_wrs (M 4) 0 0 0 1 = M 4 1 := wr_row _ _ _ _ _ (by decide)
  obtain ⟨c, hc, ec, cc⟩ := cn_i a2
  obtain ⟨d, hd, ed, cd⟩ := cn_i b2
  have bit : ∀ y : Int32, rg 0 y 1 → (if y = 0 then some (0 : Int32) else some 1) = some y := fun y hy => by
    obtain ⟨q1, q2⟩ := hy
    by_cases q : y = 0
    · rw [if_pos q, q]
    · rw [if_neg q]
      have : y = 1 := by grind
      rw [this]
  by_cases h0 : x1 = 0
  · subst h0
    refine ⟨M 0 9 2, ?_, ?_⟩
    · unfold f_X10_receiver
      simp
    · unfold f_X11_receiver
      simp only [mj_let]
      rw [show f_X11_isIn 0 0 7 = 1 by decide, if_neg one0, r1, show (13 : Int32) + 0 = nI 13 by decide, chk_t (okI (by decide) (by decide)), clI (by decide), p1.1]
  by_cases h1 : x1 = 1
  · subst h1
    refine ⟨M 0 9 3, ?_, ?_⟩
    · unfold f_X10_receiver
      have := bit (M 0 9 3) (by rw [p2]; exact p2r)
      simpa using this
    · unfold f_X11_receiver
      simp only [mj_let]
      rw [show f_X11_isIn 1 0 7 = 1 by decide, if_neg one0, r1, show (13 : Int32) + 1 = nI 14 by decide, chk_t (okI (by decide) (by decide)), clI (by decide), p2]
  by_cases h2 : x1 = 2
  · subst h2
    refine ⟨M 0 9 4, ?_, ?_⟩
    · unfold f_X10_receiver
      have := bit (M 0 9 4) (by rw [p3]; exact p3r)
      simpa using this
    · unfold f_X11_receiver
      simp only [mj_let]
      rw [show f_X11_isIn 2 0 7 = 1 by decide, if_neg one0, r1, show (13 : Int32) + 2 = nI 15 by decide, chk_t (okI (by decide) (by decide)), clI (by decide), p3]
  by_cases h3 : x1 = 3
  · subst h3
    refine ⟨M 0 9 5, ?_, ?_⟩
    · unfold f_X10_receiver
      have := bit (M 0 9 5) (by rw [p4]; exact p4r)
      simpa using this
    · unfold f_X11_receiver
      simp only [mj_let]
      rw [show f_X11_isIn 3 0 7 = 1 by decide, if_neg one0, r1, show (13 : Int32) + 3 = nI 16 by decide, chk_t (okI (by decide) (by decide)), clI (by decide), p4]
  by_cases h4 : x1 = 4
  · subst h4
    refine ⟨M 0 9 6, ?_, ?_⟩
    · unfold f_X10_receiver
      simp
    · unfold f_X11_receiver
      simp only [mj_let]
      rw [show f_X11_isIn 4 0 7 = 1 by decide, if_neg one0, r1, show (13 : Int32) + 4 = nI 17 by decide, chk_t (okI (by decide) (by decide)), clI (by decide), p5.1]
  by_cases h5 : x1 = 5
  · subst h5
    refine ⟨M 0 10 4, ?_, ?_⟩
    · unfold f_X10_receiver
      simp
    · unfold f_X11_receiver
      simp only [mj_let]
      rw [show f_X11_isIn 5 0 7 = 1 by decide, if_neg one0, r1, show (13 : Int32) + 5 = nI 18 by decide, chk_t (okI (by decide) (by decide)), clI (by decide), p6.1]
  by_cases h6 : x1 = 6
  · subst h6
    refine ⟨M 0 9 9, ?_, ?_⟩
    · unfold f_X10_receiver
      simp
    · unfold f_X11_receiver
      simp only [mj_let]
      rw [show f_X11_isIn 6 0 7 = 1 by decide, if_neg one0, r1, show (13 : Int32) + 6 = nI 19 by decide, chk_t (okI (by decide) (by decide)), clI (by decide), a1]
  by_cases h7 : x1 = 7
  · subst h7
    refine ⟨M 0 9 11, ?_, ?_⟩
    · unfold f_X10_receiver
      simp
    · unfold f_X11_receiver
      simp only [mj_let]
      rw [show f_X11_isIn 7 0 7 = 1 by decide, if_neg one0, r1, show (13 : Int32) + 7 = nI 20 by decide, chk_t (okI (by decide) (by decide)), clI (by decide), b1]
  have hn : f_X11_isIn x1 0 7 = 0 := isIn_f (fun q => by
    obtain ⟨q1, q2⟩ := q
    grind)
  have ec1 : f_X10_receiver x1 M = f_X10_commandKept x1 M := by
    unfold f_X10_receiver
    simp only [if_neg h0, if_neg h1, if_neg h2, if_neg h3, if_neg h4, if_neg h5, if_neg h6, if_neg h7]
    cases f_X10_commandKept x1 M <;> rfl
  rw [ec1]
  unfold f_X10_commandKept f_X10_commandKept_J34 f_X11_receiver
  simp only [mj_let]
  rw [hn, if_pos rfl, a1, ec, min_eq (by omega), b1, ed, min_eq (by omega), show (19 : Int32) = nI 19 from rfl, kept_eq (c := c) (by decide) (by rw [r1, ec]) (by omega)]
  simp only [mj_b1]
  by_cases hx : ¬ x1 < 100 ∧ ¬ (100 : Int32) + nI (min c 100) ≤ x1
  · obtain ⟨i, hi, rfl⟩ := row_in (B := 100) (k := min c 100) (by omega) (by decide) hx.1 hx.2
    have hin : f_X11_isIn (nI (100 + i)) 100 (99 + nI (min c 100)) = 1 := isIn_t ⟨nI_le (a := 100) (by omega) (by omega), by
      rw [show (99 : Int32) + nI (min c 100) = nI (99 + min c 100) from nI_add 99 _]
      exact nI_le (by omega) (by omega)⟩
    refine ⟨M 0 15 i, ?_, ?_⟩
    · rw [if_neg hx.1, if_neg hx.2, show nI (100 + i) - 100 = nI i from by rw [show (100 : Int32) = nI 100 from rfl, nI_sub (by omega), show 100 + i - 100 = i by omega], chk_t (okI (by omega) (by decide)), clI (by omega)]
    · rw [hin, if_neg one0, r1, show (419 : Int32) + nI (100 + i) - 100 = nI (419 + i) from by rw [show (419 : Int32) + nI (100 + i) = nI (419 + (100 + i)) from nI_add 419 _, show (100 : Int32) = nI 100 from rfl, nI_sub (by omega), show 419 + (100 + i) - 100 = 419 + i by omega], chk_t (okI (by omega) (by decide)), clI (by omega), a3 i (by omega) (by omega)]
  · have hin : f_X11_isIn x1 100 (99 + nI (min c 100)) = 0 := isIn_f (fun q => by
      obtain ⟨q1, q2⟩ := q
      rw [show (99 : Int32) + nI (min c 100) = nI (99 + min c 100) from nI_add 99 _] at q2
      rw [show (100 : Int32) + nI (min c 100) = nI (100 + min c 100) from nI_add 100 _] at hx
      refine hx ⟨by grind, fun z => ?_⟩
      have : nI (100 + min c 100) ≤ nI (99 + min c 100) := by grind
      exact absurd this (nI_ge (by omega) (by omega)))
    rw [hin, if_pos rfl, show (20 : Int32) = nI 20 from rfl, kept_eq (c := d) (by decide) (by rw [r1, ed]) (by omega)]
    simp only
    have ej : (if x1 < 100 then (if x1 < 200 then some (-2 : Int32) else if 200 + nI (min d 100) ≤ x1 then some (-2) else mj_chk (mj_ok (x1 - 200) 100) (some (M 0 16 (mj_cl (x1 - 200))))) else if (100 : Int32) + nI (min c 100) ≤ x1 then (if x1 < 200 then some (-2) else if 200 + nI (min d 100) ≤ x1 then some (-2) else mj_chk (mj_ok (x1 - 200) 100) (some (M 0 16 (mj_cl (x1 - 200))))) else mj_chk (mj_ok (x1 - 100) 100) (some (M 0 15 (mj_cl (x1 - 100))))) = (if x1 < 200 then some (-2) else if 200 + nI (min d 100) ≤ x1 then some (-2) else mj_chk (mj_ok (x1 - 200) 100) (some (M 0 16 (mj_cl (x1 - 200))))) := by
      by_cases z : x1 < 100
      · rw [if_pos z]
      · rw [if_neg z, if_pos (Decidable.byContradiction (fun y => hx ⟨z, y⟩))]
    rw [ej]
    by_cases hy : ¬ x1 < 200 ∧ ¬ (200 : Int32) + nI (min d 100) ≤ x1
    · obtain ⟨i, hi, rfl⟩ := row_in (B := 200) (k := min d 100) (by omega) (by decide) hy.1 hy.2
      have hin : f_X11_isIn (nI (200 + i)) 200 (199 + nI (min d 100)) = 1 := isIn_t ⟨nI_le (a := 200) (by omega) (by omega), by
        rw [show (199 : Int32) + nI (min d 100) = nI (199 + min d 100) from nI_add 199 _]
        exact nI_le (by omega) (by omega)⟩
      refine ⟨M 0 16 i, ?_, ?_⟩
      · rw [if_neg hy.1, if_neg hy.2, show nI (200 + i) - 200 = nI i from by rw [show (200 : Int32) = nI 200 from rfl, nI_sub (by omega), show 200 + i - 200 = i by omega], chk_t (okI (by omega) (by decide)), clI (by omega)]
      · rw [hin, if_neg one0, r1, show (519 : Int32) + nI (200 + i) - 200 = nI (519 + i) from by rw [show (519 : Int32) + nI (200 + i) = nI (519 + (200 + i)) from nI_add 519 _, show (200 : Int32) = nI 200 from rfl, nI_sub (by omega), show 519 + (200 + i) - 200 = 519 + i by omega], chk_t (okI (by omega) (by decide)), clI (by omega), b3 i (by omega) (by omega)]
    · refine ⟨-2, ?_, ?_⟩
      · by_cases z : x1 < 200
        · rw [if_pos z]
        · rw [if_neg z, if_pos (Decidable.byContradiction (fun y => hy ⟨z, y⟩))]
      · rw [isIn_f (fun q => by
          obtain ⟨q1, q2⟩ := q
          rw [show (199 : Int32) + nI (min d 100) = nI (199 + min d 100) from nI_add 199 _] at q2
          rw [show (200 : Int32) + nI (min d 100) = nI (200 + min d 100) from nI_add 200 _] at hy
          refine hy ⟨by grind, fun z => ?_⟩
          have : nI (200 + min d 100) ≤ nI (199 + min d 100) := by grind
          exact absurd this (nI_ge (by omega) (by omega))), if_pos rfl]
