/-! more calls that only ask -/
theorem askq {j : Nat} {M : mj_M} {c : Option Int32} {f : mj_m → Option (Int32 × mj_m)} (h : Inv j M) (hs : ∃ r, c = some r ∧ f (M 4) = some (r, mj_wrs (M 4) 0 0 0)) : ∃ (r : Int32) (m2 : mj_m), c = some r ∧ f (M 4) = some (r, m2) ∧ Inv (j + 1) (va_up M 4 m2) := by
  obtain ⟨r, e1, e2⟩ := hs
  exact ⟨r, _, e1, e2, Inv_q0 h⟩
theorem c_alarm : CL_alarm Inv := by
  intro j M x1 hj h
  obtain ⟨-, ⟨⟨-, -, -, t2⟩, -, -, -, ⟨-, ⟨d2, d3, d4⟩, -, -⟩, -⟩, -, -⟩ := id h
  have t3 := t2.2
  refine askq h ?_
  have r1 : mj_wrs (M 4) 0 0 0 1 = M 4 1 := wr_row _ _ _ _ _ (by decide)
  obtain ⟨c, hc, ec, cc⟩ := cn_i d3
  unfold f_X10_alarm f_X11_alarm f_X1_alarmAt
  simp only [mj_let]
  rw [r1, d2]
  by_cases hm : x1 = -1
  · exact ⟨M 4 1 33, by rw [if_pos hm], by rw [if_pos hm]⟩
  rw [if_neg hm, if_neg hm]
  by_cases h0 : x1 < 0
  · exact ⟨-1, by rw [if_pos h0]; rfl, by rw [if_pos h0]⟩
  rw [if_neg h0, if_neg h0]
  by_cases h1 : M 4 1 33 ≤ x1
  · exact ⟨-1, by rw [if_pos h1]; rfl, by rw [if_pos h1]⟩
  rw [if_neg h1, if_neg h1]
  by_cases h2 : (60 : Int32) ≤ x1
  · exact ⟨-1, by rw [if_pos h2]; rfl, by rw [if_pos h2]⟩
  rw [if_neg h2, if_neg h2]
  obtain ⟨i, hi, rfl⟩ := in_lt (b := 60) (by decide) h0 h2
  have hic : i < c := by
    rw [ec] at h1
    have hb : c < 2 ^ 31 := by omega
    exact Nat.not_le.mp (fun q => h1 (nI_le q (by omega)))
  refine ⟨M 0 7 i, ?_, ?_⟩
  · rw [chk_t (okI hi (by decide)), clI (by omega)]
    rfl
  · rw [show (119 : Int32) + nI i = nI (119 + i) from nI_add 119 i, chk_t (okI (by omega) (by decide)), clI (by omega), d4 i (by omega) hi]
theorem zone_eq {l m : mj_m} (s0 : l 2 0 = m 1 0 + 10) (p1 : l 9 2 = m 1 13) (x : Int32) : f_X11_zoneOf (f_X11_far x m) m = some (f_X6_zoneOf x l) := by
  have ef : f_X11_far x m = f_X10_far x (l 9 2) := by
    rw [p1]
    rfl
  rw [ef]
  unfold f_X11_zoneOf f_X6_zoneOf
  rw [set0, ← s0]
  simp only [mj_b1, mj_let]
  by_cases q0 : f_X10_far x (l 9 2) = 0
  · rw [if_pos q0, if_pos q0]
  · rw [if_neg q0, if_neg q0]
    by_cases q1 : l 2 0 / 2 ≤ f_X10_far x (l 9 2)
    · rw [if_pos q1, if_pos q1]
      by_cases q2 : f_X10_far x (l 9 2) < 256 - l 2 0 / 2
      · rw [if_pos q2, if_pos q2]
      · rw [if_neg q2, if_neg q2]
    · rw [if_neg q1, if_neg q1]
theorem c_zone : CL_zone Inv := by
  intro j M x1 hj h
  obtain ⟨-, ⟨⟨⟨-, s0, -⟩, -⟩, ⟨⟨p1, -⟩, -⟩, -⟩, -, -⟩ := id h
  have r1 : mj_wrs (M 4) 0 0 0 1 = M 4 1 := wr_row _ _ _ _ _ (by decide)
  refine ⟨f_X10_zone x1 M, mj_wrs (M 4) 0 0 0, rfl, ?_, Inv_q0 h⟩
  unfold f_X10_zone f_X11_zone
  by_cases hx : 0 ≤ x1 ∧ x1 ≤ 255
  · rw [isIn_t hx, isN_t hx]
    simp only [mj_let]
    rw [if_neg one0, if_neg one0, zone_eq (l := M 0) (by rw [r1]; exact s0) (by rw [r1]; exact p1)]
    rfl
  · rw [isIn_f hx, show f_X10_isNumber x1 = 0 from isIn_f hx]
    rfl
theorem c_judge : CL_judge Inv := by
  intro j M x1 x2 x3 x4 x5 hj h
  refine ⟨f_X10_judge x1 x2 x3 x4 x5, mj_wrs (M 4) 0 0 0, rfl, ?_, Inv_q0 h⟩
  have eW : ∀ a b c, f_X10_isWithin a b c = f_X11_isIn a b c := fun _ _ _ => rfl
  unfold f_X10_judge f_X11_judge f_X10_judge_J53
  simp only [mj_let, eW]
  have no : ∀ a b c d e, f_X10_judge_J54 a b c d e 0 = -1 := fun _ _ _ _ _ => by
    unfold f_X10_judge_J54
    rw [if_pos rfl]
  by_cases h1 : f_X11_isIn x1 1 3 = 0
  · rw [if_pos h1, if_pos h1, no]
  rw [if_neg h1, if_neg h1]
  by_cases h2 : f_X11_isIn x2 0 2 = 0
  · rw [if_pos h2, if_pos h2, no]
  rw [if_neg h2, if_neg h2]
  by_cases h3 : f_X11_isIn x3 0 3 = 0
  · rw [if_pos h3, if_pos h3, no]
  rw [if_neg h3, if_neg h3]
  by_cases h4 : f_X11_isIn x4 0 9 = 0
  · rw [if_pos h4, if_pos h4, no]
  rw [if_neg h4, if_neg h4]
  by_cases h5 : f_X11_isIn x5 1 9 = 0
  · rw [if_pos h5, if_pos h5, no]
  rw [if_neg h5, if_neg h5]
  have hx3 : 0 ≤ x3 ∧ x3 ≤ 3 := Decidable.byContradiction (fun q => h3 (isIn_f q))
  unfold f_X10_judge_J54 f_X11_judge_J76 f_X8_verdictOf f_X8_verdictOf_J11 f_X8_verdictOf_J24 f_X8_verdictOf_J54 f_X11_verdict
  simp only [mj_let]
  have d := four hx3
  clear h eW no h1 h2 h3 h4 h5 hx3
  have a0 : mj_rem 0 2 = 0 := by decide
  have a1 : mj_rem 1 2 = 1 := by decide
  have a2 : mj_rem 2 2 = 0 := by decide
  have a3 : mj_rem 3 2 = 1 := by decide
  have b0 : (0 : Int32) &&& 1 = 0 := by decide
  have b1 : (1 : Int32) &&& 1 = 1 := by decide
  have b2 : (2 : Int32) &&& 1 = 0 := by decide
  have b3 : (3 : Int32) &&& 1 = 1 := by decide
  have c0 : (0 : Int32) &&& 2 = 0 := by decide
  have c1 : (1 : Int32) &&& 2 = 0 := by decide
  have c2 : (2 : Int32) &&& 2 = 2 := by decide
  have c3 : (3 : Int32) &&& 2 = 2 := by decide
  rcases d with e | e | e | e <;> subst e <;> simp only [a0, a1, a2, a3, b0, b1, b2, b3, c0, c1, c2, c3] <;> grind
