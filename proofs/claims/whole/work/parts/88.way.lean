/-! way -/
theorem way_ask {l : mj_m} {n : Nat → Int32} {w wd on R G fa fr we : Nat} {W : Nat × Nat} {x y : Int32} (h : I_way l n w wd on R G fa fr we W) (hw : l w 1 = nI wd) (hwd : wd ≤ 5) (hG : wd < G) (hR : R + G * 41 < 1897) (hm : ¬ x = -1) : ∃ r : Int32, (if y = -1 then f_X9_tickOf w x l else f_X9_byteOf w x y l) = some r ∧ (if x < 0 then some (-1 : Int32) else if n on ≤ x then some (-1) else if f_X11_isIn y (-1) (nI wd - 1) = 0 then some (-1) else mj_chk (mj_ok (nI R + nI G * x + 1 + y) 1897) (some (n (mj_cl (nI R + nI G * x + 1 + y))))) = some r := by
  obtain ⟨⟨p1, p2, p3⟩, -, -⟩ := h
  obtain ⟨c, hc, ec, cc⟩ := cn_i p2.1
  unfold f_X9_tickOf f_X9_byteOf f_X9_has f_X9_hasByte
  rw [p1, hw]
  by_cases h0 : x < 0
  · refine ⟨-1, ?_, by rw [if_pos h0]⟩
    split <;> simp [h0, mj_let]
  by_cases h1 : n on ≤ x
  · refine ⟨-1, ?_, by rw [if_neg h0, if_pos h1]⟩
    split <;> simp [h0, h1, mj_let]
  rw [ec] at h1
  obtain ⟨i, hi, rfl⟩ := in_lt (b := c) (by omega) h0 h1
  have h48 : ¬ (48 : Int32) ≤ nI i := nI_ge (b := 48) (by omega) (by decide)
  obtain ⟨q1, -, -, q4⟩ := p3 i (by omega)
  have hb : G * i + G ≤ G * 41 := by
    rw [← Nat.mul_succ]
    exact Nat.mul_le_mul_left G (by omega)
  rw [ec]
  have ex : nI R + nI G * nI i + 1 = nI (R + G * i + 1) := by rw [nI_mul, nI_add, nI_1]
  rw [ex]
  by_cases hy : y = -1
  · subst hy
    refine ⟨l (w + 2) i, ?_, ?_⟩
    · rw [if_pos rfl, if_neg h0, if_neg h1, if_neg h48]
      simp only [mj_let]
      rw [if_neg one0, chk_t (okI (by omega) (by decide)), clI (by omega)]
    · rw [if_neg h0, if_neg h1, isIn_t ⟨by decide, by
        have : (0 : Int32) ≤ nI wd := nI_pos' (by omega)
        have : nI wd ≤ 5 := nI_le (b := 5) hwd (by decide)
        grind⟩, if_neg one0, show nI (R + G * i + 1) + -1 = nI (R + G * i) from nI_m1 (R + G * i), chk_t (okI (by omega) (by decide)), clI (by omega), q1]
  · by_cases hx : 0 ≤ y ∧ y < nI wd
    · obtain ⟨k, hk, rfl⟩ := in_lt (a := y) (b := wd) (by omega) (by
        have := hx.1
        grind) (by
        have := hx.2
        grind)
      have n0 : ¬ nI k < 0 := nI_pos (by omega)
      have n1 : ¬ nI wd ≤ nI k := nI_ge hk (by omega)
      refine ⟨l (w + 1) (5 * i + k), ?_, ?_⟩
      · rw [if_neg hy, if_neg h0, if_neg h1, if_neg h48, if_neg n0, if_neg n1]
        simp only [mj_let]
        rw [if_neg one0, show nI i * 5 = nI (i * 5) from nI_mul i 5, nI_add, chk_t (okI (by omega) (by decide)), clI (by omega), show i * 5 + k = 5 * i + k by omega]
      · rw [if_neg h0, if_neg h1, isIn_t ⟨by
          have : (0 : Int32) ≤ nI k := nI_pos' (by omega)
          grind, by
          have : nI k < nI wd := nI_lt hk (by omega)
          have : nI wd ≤ 5 := nI_le (b := 5) hwd (by decide)
          have : (0 : Int32) ≤ nI k := nI_pos' (by omega)
          grind⟩, if_neg one0, nI_add, chk_t (okI (by omega) (by decide)), clI (by omega), (q4 k hk).1]
    · refine ⟨-1, ?_, ?_⟩
      · rw [if_neg hy, if_neg h0, if_neg h1, if_neg h48]
        by_cases z : y < 0
        · rw [if_pos z]
          rfl
        · rw [if_neg z, if_pos (by grind)]
          rfl
      · rw [if_neg h0, if_neg h1, isIn_f (fun q => by
          obtain ⟨a, b⟩ := q
          have : (0 : Int32) ≤ nI wd := nI_pos' (by omega)
          have : nI wd ≤ 5 := nI_le (b := 5) hwd (by decide)
          refine hx ⟨by grind, by grind⟩), if_pos rfl]
theorem c_way : CL_way Inv := by
  intro j M x1 x2 x3 hj h
  obtain ⟨⟨-, -, k3⟩, ⟨-, -, -, -, -, g_up, g_dn, -⟩, -, -⟩ := id h
  obtain ⟨w1, -, w2, -⟩ := k3 0 (by decide)
  have r1 : mj_wrs (M 4) 0 0 0 1 = M 4 1 := wr_row _ _ _ _ _ (by decide)
  refine askq h ?_
  unfold f_X10_way f_X11_way f_X3_wayOf f_X11_wayMany f_X11_isOnWay f_X11_wayMany f_X11_byteMany f_X11_wayAt
  simp only [mj_let]
  rw [r1]
  have b1 : ∀ z : Option Int32, mj_b1 z (fun r => some r) = z := fun z => by cases z <;> rfl
  by_cases hu : lb x1 = 0
  · simp only [if_pos hu, b1]
    by_cases hm : x2 = -1
    · exact ⟨M 4 1 42, by rw [if_pos hm, g_dn.1.1], by rw [if_pos hm]⟩
    rw [if_neg hm, if_neg hm]
    obtain ⟨r, e1, e2⟩ := way_ask (x := x2) (y := x3) g_dn w2 (by decide) (by decide) (by decide) hm
    refine ⟨r, e1, ?_⟩
    by_cases q0 : x2 < 0
    · rw [if_pos q0] at e2
      cases e2
      simp [q0]
    rw [if_neg q0] at e2
    by_cases q1 : M 4 1 42 ≤ x2
    · rw [if_pos q1] at e2
      cases e2
      simp [q0, q1]
    rw [if_neg q1] at e2
    rw [if_neg q0, if_neg q1, if_neg one0]
    by_cases q2 : f_X11_isIn x3 (-1) (3 - 1) = 0
    · rw [if_pos (show f_X11_isIn x3 (-1) (nI 3 - 1) = 0 from q2)] at e2
      cases e2
      rw [if_pos q2]
    · rw [if_neg (show ¬ f_X11_isIn x3 (-1) (nI 3 - 1) = 0 from q2)] at e2
      rw [if_neg q2]
      have e3 : mj_chk (mj_ok (929 + 4 * x2 + 1 + x3) 1897) (some (M 4 1 (mj_cl (929 + 4 * x2 + 1 + x3)))) = some r := e2
      unfold mj_chk at e3 ⊢
      by_cases z : mj_ok (929 + 4 * x2 + 1 + x3) 1897 = true
      · rw [if_pos z] at e3 ⊢
        cases e3
        rfl
      · rw [if_neg z] at e3
        cases e3
  · simp only [if_neg hu, b1]
    by_cases hm : x2 = -1
    · exact ⟨M 4 1 41, by rw [if_pos hm, g_up.1.1.1], by rw [if_pos hm]⟩
    rw [if_neg hm, if_neg hm]
    obtain ⟨r, e1, e2⟩ := way_ask (x := x2) (y := x3) g_up.1 w1 (by decide) (by decide) (by decide) hm
    refine ⟨r, e1, ?_⟩
    by_cases q0 : x2 < 0
    · rw [if_pos q0] at e2
      cases e2
      simp [q0]
    rw [if_neg q0] at e2
    by_cases q1 : M 4 1 41 ≤ x2
    · rw [if_pos q1] at e2
      cases e2
      simp [q0, q1]
    rw [if_neg q1] at e2
    rw [if_neg q0, if_neg q1, if_neg one0]
    by_cases q2 : f_X11_isIn x3 (-1) (5 - 1) = 0
    · rw [if_pos (show f_X11_isIn x3 (-1) (nI 5 - 1) = 0 from q2)] at e2
      cases e2
      rw [if_pos q2]
    · rw [if_neg (show ¬ f_X11_isIn x3 (-1) (nI 5 - 1) = 0 from q2)] at e2
      rw [if_neg q2]
      have e3 : mj_chk (mj_ok (635 + 7 * x2 + 1 + x3) 1897) (some (M 4 1 (mj_cl (635 + 7 * x2 + 1 + x3)))) = some r := e2
      unfold mj_chk at e3 ⊢
      by_cases z : mj_ok (635 + 7 * x2 + 1 + x3) 1897 = true
      · rw [if_pos z] at e3 ⊢
        cases e3
        rfl
      · rw [if_neg z] at e3
        cases e3
