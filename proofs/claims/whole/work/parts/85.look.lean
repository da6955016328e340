/-! look -/
theorem c_look : CL_look Inv := by
  intro j M x1 hj h
  obtain ⟨-, ⟨⟨g_set, g_rng, g_tick⟩, g_rec, ⟨g_mach, -⟩, -, -, g_up, g_dn, g_plan⟩, -, -⟩ := id h
  refine askq h ?_
  have r1 : mj_wrs (M 4) 0 0 0 1 = M 4 1 := wr_row _ _ _ _ _ (by decide)
  have r19 : mj_wrs (M 4) 0 0 0 0 19 = M 4 0 19 := wr_e (by decide)
  by_cases hx : 1 ≤ x1 ∧ x1 ≤ 11
  · have n1 : ¬ x1 < 1 := by
      have := hx.1
      grind
    have n11 : ¬ 11 < x1 := by
      have := hx.2
      grind
    have n0 : ¬ x1 = 0 := by
      have := hx.1
      grind
    obtain ⟨v, hv, ev⟩ := in_lt (a := x1 - 1) (b := 11) (by decide) (by grind) (by
      intro q
      have : (11 : Int32) ≤ x1 - 1 := q
      grind)
    have key : M 0 2 v = M 4 1 v + f_X11_firstOf (nI v) := by
      obtain ⟨-, s0, s1, s2, s3, s4, s5, s6, s7, s8, s9, s10⟩ := g_set
      rcases (by omega : v = 0 ∨ v = 1 ∨ v = 2 ∨ v = 3 ∨ v = 4 ∨ v = 5 ∨ v = 6 ∨ v = 7 ∨ v = 8 ∨ v = 9 ∨ v = 10) with rfl | rfl | rfl | rfl | rfl | rfl | rfl | rfl | rfl | rfl | rfl
      · rw [show f_X11_firstOf (nI 0) = 10 by decide]
        exact s0
      · rw [show f_X11_firstOf (nI 1) = 3 by decide]
        exact s1
      · rw [show f_X11_firstOf (nI 2) = 3 by decide]
        exact s2
      · rw [show f_X11_firstOf (nI 3) = 3 by decide]
        exact s3
      · rw [show f_X11_firstOf (nI 4) = 12 by decide]
        exact s4
      · rw [show f_X11_firstOf (nI 5) = 0 by decide]
        rw [Int32.add_zero]
        exact s5
      · rw [show f_X11_firstOf (nI 6) = 3 by decide]
        exact s6
      · rw [show f_X11_firstOf (nI 7) = 3 by decide]
        exact s7
      · rw [show f_X11_firstOf (nI 8) = 0 by decide]
        rw [Int32.add_zero]
        exact s8
      · rw [show f_X11_firstOf (nI 9) = 0 by decide]
        rw [Int32.add_zero]
        exact s9
      · rw [show f_X11_firstOf (nI 10) = 4 by decide]
        exact s10
    refine ⟨M 0 2 v, ?_, ?_⟩
    · unfold f_X10_look
      rw [if_neg n1, if_neg n11, ev, chk_t (okI hv (by decide)), clI (by omega)]
    · unfold f_X11_look
      simp only [mj_let]
      rw [if_neg n0, isIn_t hx, if_neg one0, ev, setOf hv, r1, key]
      rfl
  · have ex : f_X10_look x1 M = f_X10_look_J26 x1 M := by
      unfold f_X10_look
      by_cases n1 : x1 < 1
      · rw [if_pos n1]
      · rw [if_neg n1, if_pos (by grind)]
    rw [ex]
    unfold f_X10_look_J26 f_X11_look
    simp only [mj_let]
    rw [isIn_f hx, r1, r19]
    by_cases h0 : x1 = 0
    · subst h0
      exact ⟨M 0 1 0, by simp, by simp [g_tick.1]⟩
    by_cases h12 : x1 = 12
    · subst h12
      exact ⟨M 0 1 1, by simp, by simp [g_set.1]⟩
    by_cases h13 : x1 = 13
    · subst h13
      refine ⟨M 0 33 9, by simp, ?_⟩
      rw [show f_X11_isIn 13 13 17 = 1 by decide, show (35 : Int32) + 13 - 13 = nI 35 by decide, chk_t (okI (by decide) (by decide)), clI (by decide), g_up.1.2.2]
      simp
    by_cases h14 : x1 = 14
    · subst h14
      refine ⟨M 0 38 9, by simp, ?_⟩
      rw [show f_X11_isIn 14 13 17 = 1 by decide, show (35 : Int32) + 14 - 13 = nI 36 by decide, chk_t (okI (by decide) (by decide)), clI (by decide), g_dn.2.2]
      simp
    by_cases h15 : x1 = 15
    · subst h15
      refine ⟨M 0 33 10, by simp, ?_⟩
      rw [show f_X11_isIn 15 13 17 = 1 by decide, show (35 : Int32) + 15 - 13 = nI 37 by decide, chk_t (okI (by decide) (by decide)), clI (by decide), g_up.2.1]
      simp
    by_cases h16 : x1 = 16
    · subst h16
      refine ⟨M 0 9 12, by simp, ?_⟩
      rw [show f_X11_isIn 16 13 17 = 1 by decide, show (35 : Int32) + 16 - 13 = nI 38 by decide, chk_t (okI (by decide) (by decide)), clI (by decide), g_rec.2.2.2.2.2.2.2.2]
      simp
    by_cases h17 : x1 = 17
    · subst h17
      refine ⟨M 0 17 15, by simp, ?_⟩
      rw [show f_X11_isIn 17 13 17 = 1 by decide, show (35 : Int32) + 17 - 13 = nI 39 by decide, chk_t (okI (by decide) (by decide)), clI (by decide), g_mach.2.2.2.2.2.2]
      simp
    have hn : f_X11_isIn x1 13 17 = 0 := isIn_f (fun q => by
      obtain ⟨a, b⟩ := q
      grind)
    rw [hn]
    by_cases h18 : x1 = 18
    · subst h18
      exact ⟨M 0 43 2, by simp, by simp [g_plan.2.1]⟩
    by_cases h19 : x1 = 19
    · subst h19
      exact ⟨M 0 43 3, by simp, by simp [g_plan.1.trans (Int32.add_zero _)]⟩
    refine ⟨-100000, ?_, ?_⟩
    · simp [h0, h12, h13, h14, h15, h16, h17, h18, h19]
    · simp [h0, h12, h18, h19]
