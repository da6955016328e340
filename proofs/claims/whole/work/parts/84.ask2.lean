/-! end, diary -/
theorem Inv_rd {j : Nat} {M : mj_M} {r' m' : mj_m} (h : Inv j M) (hr : I_rd (va_up (va_up M 3 r') 4 m')) (h03 : r' 0 3 = M 3 0 3) (hk : ∀ k, k ≠ 0 → k ≠ 2 → k ≠ 3 → k ≠ 5 → k ≠ 6 → m' k = M 4 k) (h19 : m' 0 19 = M 4 0 19) (h21 : m' 0 21 = M 4 0 21) : Inv (j + 1) (va_up (va_up M 3 r') 4 m') := by
  obtain ⟨⟨c1, c2, c3⟩, hl, -, i1, i2⟩ := h
  have e0 : va_up (va_up M 3 r') 4 m' 0 = M 0 := rfl
  have e1 : va_up (va_up M 3 r') 4 m' 1 = M 1 := rfl
  have e3 : va_up (va_up M 3 r') 4 m' 3 = r' := rfl
  have e4 : va_up (va_up M 3 r') 4 m' 4 = m' := rfl
  refine ⟨⟨?_, ?_, ?_⟩, ?_, hr, ?_, ?_⟩
  · rw [e4, hk 4 (by decide) (by decide) (by decide) (by decide) (by decide)]
    exact c1
  · rw [e4, hk 7 (by decide) (by decide) (by decide) (by decide) (by decide)]
    exact c2
  · intro β hβ
    rw [up_at, if_neg (by omega), up_at, if_neg (by omega)]
    exact c3 β hβ
  · rw [e0, e4, hk 1 (by decide) (by decide) (by decide) (by decide) (by decide), hk 8 (by decide) (by decide) (by decide) (by decide) (by decide), h19]
    exact I_link_mono hl
  · rw [e3, e4, h21, h03]
    exact i1
  · rw [e3, e1, e4, h03, hk 9 (by decide) (by decide) (by decide) (by decide) (by decide)]
    rcases i2 with h | ⟨h, hh⟩
    · exact Or.inl h
    · exact Or.inr ⟨h, I_link_mono hh⟩
theorem c_end : CL_end Inv := by
  intro j M x1 hj h
  obtain ⟨-, -, ⟨r1, r2, r3, r4, r5⟩, -⟩ := id h
  have r0 : mj_wrs (M 4) 0 0 0 0 9 = M 4 0 9 := wr_e (by decide)
  by_cases hx : 0 ≤ x1 ∧ x1 ≤ M 4 0 9
  · have n0 : ¬ x1 < 0 := by
      have := hx.1
      grind
    refine ⟨1, va_up M 3 (mj_wrs (M 3) 1 1 x1), mj_wrs (mj_wrs (M 4) 0 0 0) 0 9 x1, ?_, ?_, ?_⟩
    · unfold f_X10_end
      rw [if_neg n0, r1, if_pos hx.2]
      rfl
    · show f_X11_end x1 (M 4) = _
      unfold f_X11_end
      simp only [mj_let]
      rw [r0, isIn_t hx, if_neg one0]
    · obtain ⟨c, hc, ec, cc⟩ := cn_i r2
      obtain ⟨a, ha, rfl⟩ := nI_of n0
      have hac : a ≤ c := by
        have := hx.2
        rw [ec] at this
        exact (nI_leI ha (by omega)).mp this
      refine Inv_rd h ⟨?_, ?_, fun i hi => ?_, ?_, ?_⟩ (wr_e (by decide)) (fun k k0 _ _ _ _ => by rw [wr_row _ _ _ _ _ k0, wr_row _ _ _ _ _ k0]) (by rw [wr_e (by decide), wr_e (by decide)]) (by rw [wr_e (by decide), wr_e (by decide)])
      · show mj_wrs (M 3) 1 1 (nI a) 1 1 = mj_wrs (mj_wrs (M 4) 0 0 0) 0 9 (nI a) 0 9
        rw [wr_at, wr_at, if_pos ⟨rfl, rfl⟩, if_pos ⟨rfl, rfl⟩]
      · show cn (mj_wrs (mj_wrs (M 4) 0 0 0) 0 9 (nI a) 0 9) 400
        rw [wr_at, if_pos ⟨rfl, rfl⟩]
        exact cn_mk (by omega) (by decide)
      · have hi : i < mj_cl (mj_wrs (mj_wrs (M 4) 0 0 0) 0 9 (nI a) 0 9) := hi
        rw [wr_at, if_pos ⟨rfl, rfl⟩, clI ha] at hi
        show mj_wrs (M 3) 1 1 (nI a) 2 i = mj_wrs (mj_wrs (M 4) 0 0 0) 0 9 (nI a) 6 i ∧ rg 0 (mj_wrs (mj_wrs (M 4) 0 0 0) 0 9 (nI a) 6 i) 255
        rw [wr_e (Or.inl (by decide)), wr_e (Or.inl (by decide)), wr_e (Or.inl (by decide))]
        exact r3 i (by omega)
      · show mj_wrs (M 3) 1 1 (nI a) 1 3 = mj_wrs (mj_wrs (M 4) 0 0 0) 0 9 (nI a) 0 17
        rw [wr_e (by decide), wr_e (by decide), wr_e (by decide)]
        exact r4
      · show mj_wrs (M 3) 1 1 (nI a) 1 4 = mj_wrs (mj_wrs (M 4) 0 0 0) 0 9 (nI a) 0 18
        rw [wr_e (by decide), wr_e (by decide), wr_e (by decide)]
        exact r5
  · refine ⟨0, M, mj_wrs (M 4) 0 0 0, ?_, ?_, Inv_q0 h⟩
    · unfold f_X10_end
      by_cases n0 : x1 < 0
      · rw [if_pos n0]
      · rw [if_neg n0, r1, if_neg (fun q => hx ⟨by grind, q⟩)]
    · unfold f_X11_end
      simp only [mj_let]
      rw [r0, isIn_f hx, if_pos rfl]
theorem c_diary : CL_diary Inv := by
  intro j M x1 x2 hj h
  obtain ⟨-, ⟨-, -, -, -, ⟨⟨d1, d2, d3⟩, -, -, -⟩, -⟩, -, -⟩ := id h
  refine askq h ?_
  have r1 : mj_wrs (M 4) 0 0 0 1 = M 4 1 := wr_row _ _ _ _ _ (by decide)
  obtain ⟨c, hc, ec, cc⟩ := cn_i d2
  unfold f_X10_diary f_X11_diary f_X1_cell
  simp only [mj_let]
  rw [r1, d1]
  by_cases hm : x1 = -1
  · exact ⟨M 4 1 34, by rw [if_pos hm], by rw [if_pos hm]⟩
  rw [if_neg hm, if_neg hm]
  by_cases h0 : x1 < 0
  · exact ⟨-1, by rw [if_pos h0]; rfl, by rw [if_pos h0]⟩
  rw [if_neg h0, if_neg h0]
  by_cases h1 : M 4 1 34 ≤ x1
  · exact ⟨-1, by rw [if_pos h1]; rfl, by rw [if_pos h1]⟩
  rw [if_neg h1, if_neg h1]
  obtain ⟨i, hi, rfl⟩ := in_lt (b := c) (by omega) h0 (by rw [← ec]; exact h1)
  have h80 : ¬ (80 : Int32) ≤ nI i := nI_ge (b := 80) (by omega) (by decide)
  rw [if_neg h80]
  by_cases hx : 0 ≤ x2 ∧ x2 ≤ 2
  · have n0 : ¬ x2 < 0 := by
      have := hx.1
      grind
    have n3 : x2 < 3 := by
      have := hx.2
      grind
    obtain ⟨w, hw, rfl⟩ := in_lt (a := x2) (b := 3) (by decide) n0 (by
      intro q
      have : (3 : Int32) ≤ x2 := q
      grind)
    refine ⟨M 0 6 (i * 3 + w), ?_, ?_⟩
    · rw [if_neg n0, if_pos n3, show nI i * 3 = nI (i * 3) from nI_mul i 3, nI_add, chk_t (okI (by omega) (by decide)), clI (by omega)]
      rfl
    · rw [isIn_t hx, if_neg one0, show (3 : Int32) * nI i = nI (3 * i) from nI_mul 3 i, show (179 : Int32) + nI (3 * i) = nI (179 + 3 * i) from nI_add 179 _, nI_add, chk_t (okI (by omega) (by decide)), clI (by omega), d3 _ (by omega), show 179 + 3 * i + w = 179 + (i * 3 + w) by omega]
  · refine ⟨-1, ?_, ?_⟩
    · by_cases n0 : x2 < 0
      · rw [if_pos n0]
        rfl
      · rw [if_neg n0, if_neg (fun q => hx ⟨by grind, by grind⟩)]
        rfl
    · rw [isIn_f hx, if_pos rfl]
