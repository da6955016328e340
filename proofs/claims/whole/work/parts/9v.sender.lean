/-! sender -/
theorem c_sender : CL_sender Inv := by
  intro j M x1 hj h
  obtain ⟨-, g_l, -, -⟩ := id h
  obtain ⟨⟨g_set, g_rng, g_tick⟩, g_rec, ⟨g_mach, g_line, g_sent, g_pass, g_dir, g_rep, g_st⟩, g_led, g_dia, g_up, g_dn, g_plan⟩ := g_l
  obtain ⟨⟨p0, -⟩, ⟨p1, -⟩, ⟨p2, -⟩, p7, ⟨p8, -⟩, ⟨p9, -⟩, -⟩ := g_mach
  obtain ⟨s1, s2, s3⟩ := g_sent
  obtain ⟨q, hq, eq, cq⟩ := cn_i s2
  refine askq h ?_
  unfold f_X10_sender f_X11_sender
  simp only [lts, r10]
  by_cases h0 : x1 = 0
  · refine ⟨M 0 17 6, by rw [if_pos h0], ?_⟩
    rw [if_pos h0]
    unfold f_X11_machine
    rw [r10, p0]
  rw [if_neg h0, if_neg h0]
  by_cases h1 : x1 = 1
  · exact ⟨M 0 17 7, by rw [if_pos h1], by rw [if_pos h1, p1]⟩
  rw [if_neg h1, if_neg h1]
  by_cases h2 : x1 = 2
  · exact ⟨M 0 17 8, by rw [if_pos h2], by rw [if_pos h2, p2]⟩
  rw [if_neg h2, if_neg h2]
  by_cases h3 : x1 = 3
  · exact ⟨M 0 18 4, by rw [if_pos h3], by rw [if_pos h3, g_line.1]⟩
  rw [if_neg h3, if_neg h3]
  by_cases h4 : x1 = 4
  · exact ⟨M 0 23 4, by rw [if_pos h4], by rw [if_pos h4, s1]⟩
  rw [if_neg h4, if_neg h4]
  by_cases h5 : x1 = 5
  · obtain ⟨r, a1, a2⟩ := mkd_L (l := M 0) (m := mj_wrs (M 4) 0 0 0) (q := q) hq (by rw [s1, eq]) (by rw [r10, eq]) (fun i hi => by rw [r10]; exact (s3 i (by omega)).2.2.2.2.1) q 0 mj_fu mj_fu 0 (by omega) (by unfold mj_fu; omega) (by unfold mj_fu; omega)
    refine ⟨r, ?_, ?_⟩
    · unfold f_X7_marked
      have a1' : f_X7_marked_L4 23 mj_fu 0 0 (M 0) = some r := a1
      rw [if_pos h5, a1', b1s, b1s]
    · unfold f_X11_markedMany
      have a2' : f_X11_markedMany_L4 mj_fu 0 0 (mj_wrs (M 4) 0 0 0) = some r := a2
      rw [if_pos h5, a2', b1s, b1s]
  rw [if_neg h5, if_neg h5]
  by_cases h6 : x1 = 6
  · exact ⟨M 0 28 4, by rw [if_pos h6], by rw [if_pos h6, g_pass.1]⟩
  rw [if_neg h6, if_neg h6]
  by_cases h7 : x1 = 7
  · exact ⟨M 0 17 9, by rw [if_pos h7], by rw [if_pos h7, p7]⟩
  rw [if_neg h7, if_neg h7]
  by_cases h8 : x1 = 8
  · exact ⟨M 0 17 10, by rw [if_pos h8], by rw [if_pos h8, p8]⟩
  rw [if_neg h8, if_neg h8]
  by_cases h9 : x1 = 9
  · exact ⟨M 0 17 11, by rw [if_pos h9], by rw [if_pos h9, p9]⟩
  rw [if_neg h9, if_neg h9]
  by_cases h10 : x1 = 10
  · refine ⟨M 4 1 26 - 1, ?_, by rw [if_pos h10]⟩
    rw [if_pos h10]
    unfold f_X8_directiveKind
    rcases g_dir.1 with ⟨d1, d2⟩ | ⟨d1, d2, -⟩ | ⟨d1, d2, d3⟩
    · rw [d2, if_pos rfl, d1]
      rfl
    · rw [d2, if_neg (by decide), if_pos rfl, d1]
      rfl
    · obtain ⟨y, hy, ey⟩ := byN d3
      have e2 : M 0 17 12 = nI (256 + y) := by
        rw [d2, ey]
        exact nI_add 256 y
      have n1 : ¬ nI (256 + y) = -1 := fun z => by
        have : (0 : Int32) ≤ nI (256 + y) := nI_pos' (by omega)
        rw [z] at this
        exact absurd this (by decide)
      rw [e2, if_neg n1, if_neg (nI_ne0 (by omega) (by omega)), d1]
      rfl
  rw [if_neg h10, if_neg h10]
  have eid : ∀ x : Option Int32, mj_b1 x (fun r => some r) = x := fun x => by cases x <;> rfl
  rw [eid]
  unfold f_X10_sentFrame f_X10_sentFrame_J27
  rw [s1, eq]
  by_cases hx : ¬ x1 < 100 ∧ ¬ (100 : Int32) + nI q ≤ x1
  · obtain ⟨i, hi, rfl⟩ := row_in (B := 100) (k := q) (by omega) (by decide) hx.1 hx.2
    have hin : f_X11_isIn (nI (100 + i)) 100 (99 + nI q) = 1 := isIn_t ⟨nI_le (a := 100) (by omega) (by omega), by
      rw [show (99 : Int32) + nI q = nI (99 + q) from nI_add 99 _]
      exact nI_le (by omega) (by omega)⟩
    refine ⟨M 0 24 i, ?_, ?_⟩
    · rw [if_neg hx.1, if_neg hx.2, show nI (100 + i) - 100 = nI i from by rw [show (100 : Int32) = nI 100 from rfl, nI_sub (by omega), show 100 + i - 100 = i by omega], chk_t (okI (by omega) (by decide)), clI (by omega)]
    · rw [hin, if_neg one0, show (66 : Int32) + nI (100 + i) - 100 = nI (66 + i) from by rw [show (66 : Int32) + nI (100 + i) = nI (66 + (100 + i)) from nI_add 66 _, show (100 : Int32) = nI 100 from rfl, nI_sub (by omega), show 66 + (100 + i) - 100 = 66 + i by omega], chk_t (okI (by omega) (by decide)), clI (by omega), (s3 i (by omega)).1]
  · have hin : f_X11_isIn x1 100 (99 + nI q) = 0 := isIn_f (fun qq => by
      obtain ⟨q1, q2⟩ := qq
      rw [show (99 : Int32) + nI q = nI (99 + q) from nI_add 99 _] at q2
      rw [show (100 : Int32) + nI q = nI (100 + q) from nI_add 100 _] at hx
      refine hx ⟨by grind, fun z => ?_⟩
      have : nI (100 + q) ≤ nI (99 + q) := by grind
      exact absurd this (nI_ge (by omega) (by omega)))
    rw [hin, if_pos rfl]
    have ej : ∀ A B : Option Int32, (if x1 < 100 then A else if (100 : Int32) + nI q ≤ x1 then A else B) = A := fun A B => by
      by_cases z : x1 < 100
      · rw [if_pos z]
      · rw [if_neg z, if_pos (Decidable.byContradiction (fun y => hx ⟨z, y⟩))]
    rw [ej]
    by_cases hy : ¬ x1 < 200 ∧ ¬ (200 : Int32) + nI q ≤ x1
    · obtain ⟨i, hi, rfl⟩ := row_in (B := 200) (k := q) (by omega) (by decide) hy.1 hy.2
      have hin : f_X11_isIn (nI (200 + i)) 200 (199 + nI q) = 1 := isIn_t ⟨nI_le (a := 200) (by omega) (by omega), by
        rw [show (199 : Int32) + nI q = nI (199 + q) from nI_add 199 _]
        exact nI_le (by omega) (by omega)⟩
      have e2 : nI (200 + i) - 200 = nI i := by rw [show (200 : Int32) = nI 200 from rfl, nI_sub (by omega), show 200 + i - 200 = i by omega]
      refine ⟨M 0 25 i, ?_, ?_⟩
      · rw [if_neg hy.1, if_neg hy.2, e2, chk_t (okI (by omega) (by decide)), clI (by omega)]
      · unfold f_X11_numberOf f_X11_round
        rw [hin, if_neg one0, lts, e2, r10, (s3 i (by omega)).2.2.1]
    · refine ⟨-2, ?_, ?_⟩
      · by_cases z : x1 < 200
        · rw [if_pos z]
        · rw [if_neg z, if_pos (Decidable.byContradiction (fun y => hy ⟨z, y⟩))]
      · rw [isIn_f (fun qq => by
          obtain ⟨q1, q2⟩ := qq
          rw [show (199 : Int32) + nI q = nI (199 + q) from nI_add 199 _] at q2
          rw [show (200 : Int32) + nI q = nI (200 + q) from nI_add 200 _] at hy
          refine hy ⟨by grind, fun z => ?_⟩
          have : nI (200 + q) ≤ nI (199 + q) := by grind
          exact absurd this (nI_ge (by omega) (by omega))), if_pos rfl]
