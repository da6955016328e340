/-! feed -/
theorem b255' : ∀ j : Fin 32, (255#32)[j.1]'(j.2) = decide (j.1 < 8) := by decide
theorem b255 (i : Nat) (hi : i < 32) : (255#32)[i] = decide (i < 8) := by
  exact b255' ⟨i, hi⟩
theorem bv_same (x : BitVec 32) (k : Nat) (hk : k ≤ 24) : (x >>> k) &&& 255#32 = (x.sshiftRight k) &&& 255#32 := by
  ext i hi
  rw [BitVec.getElem_and, BitVec.getElem_and, b255 i hi]
  by_cases h : i < 8
  · rw [BitVec.getElem_ushiftRight, BitVec.getElem_sshiftRight]
    rw [dif_pos (by omega)]
    rfl
  · simp [h]
theorem sh24 (x : Int32) : mj_ush x 24 &&& 255 = mj_shr x 24 &&& 255 := by
  apply Int32.toBitVec_inj.mp
  exact bv_same x.toBitVec 24 (by decide)
theorem sh16 (x : Int32) : mj_ush x 16 &&& 255 = mj_shr x 16 &&& 255 := by
  apply Int32.toBitVec_inj.mp
  exact bv_same x.toBitVec 16 (by decide)
theorem sh8 (x : Int32) : mj_ush x 8 &&& 255 = mj_shr x 8 &&& 255 := by
  apply Int32.toBitVec_inj.mp
  exact bv_same x.toBitVec 8 (by decide)
theorem sh0 (x : Int32) : mj_ush x 0 &&& 255 = mj_shr x 0 &&& 255 := by
  apply Int32.toBitVec_inj.mp
  exact bv_same x.toBitVec 0 (by decide)

theorem rg255 (x : Int32) : rg 0 (x &&& 255) 255 := by
  have h : (x &&& 255).toBitVec = x.toBitVec &&& 255#32 := rfl
  have h1 : (x.toBitVec &&& 255#32).toNat ≤ 255 := by
    rw [BitVec.toNat_and]
    exact Nat.and_le_right
  have h2 : (x &&& 255).toInt = ((x.toBitVec &&& 255#32).toNat : Int) := by
    show (x &&& 255).toBitVec.toInt = _
    rw [h, BitVec.toInt_eq_toNat_of_lt (by omega)]
  constructor
  · rw [Int32.le_iff_toInt_le, h2]
    show (0 : Int) ≤ _
    omega
  · rw [Int32.le_iff_toInt_le, h2]
    show _ ≤ (255 : Int)
    omega
def RDc (r m : mj_m) (c : Nat) : Prop := r 1 1 = nI c ∧ m 0 9 = nI c ∧ ∀ i, i < c → r 2 i = m 6 i ∧ rg 0 (m 6 i) 255
def FR (r r' m m' : mj_m) : Prop := (r' 0 = r 0 ∧ r' 1 3 = r 1 3 ∧ r' 1 4 = r 1 4) ∧ (∀ k, k ≠ 0 → k ≠ 6 → m' k = m k) ∧ ∀ s, s ≠ 9 → m' 0 s = m 0 s
theorem FR.tr {r r' r'' m m' m'' : mj_m} (h : FR r r' m m') (h' : FR r' r'' m' m'') : FR r r'' m m'' := ⟨⟨h'.1.1.trans h.1.1, h'.1.2.1.trans h.1.2.1, h'.1.2.2.trans h.1.2.2⟩, fun k a b => (h'.2.1 k a b).trans (h.2.1 k a b), fun s a => (h'.2.2 s a).trans (h.2.2 s a)⟩
theorem put1 {r m : mj_m} {c n n' : Nat} {x s s' : Int32} (h : RDc r m c) (hc : c < 400) (hs : ¬ s < 0) (hs' : s + -8 = s') (hx : mj_ush x s &&& 255 = mj_shr x s &&& 255) : ∃ r' m' : mj_m, f_X5_putFour_L3 x (n + 1) s r = f_X5_putFour_L3 x n s' r' ∧ f_X11_types_L3 x (n' + 1) s m = f_X11_types_L3 x n' s' m' ∧ RDc r' m' (c + 1) ∧ FR r r' m m' := by
  obtain ⟨h1, h2, h3⟩ := h
  refine ⟨mj_wrs (mj_wrs r 2 c (mj_shr x s &&& 255)) 1 1 (nI (c + 1)), mj_wrs (mj_wrs m 6 c (mj_shr x s &&& 255)) 0 9 (nI (c + 1)), ?_, ?_, ⟨rs _ _ _ _, rs _ _ _ _, fun i hi => ?_⟩, ⟨?_, ?_, ?_⟩, fun k k0 k6 => ?_, fun t ht => ?_⟩
  · rw [f_X5_putFour_L3, if_neg hs, h1, if_neg (show ¬ (400 : Int32) ≤ nI c from nI_ge (b := 400) hc (by decide)), chk_t (okI hc (by decide)), lts, lts, lts, clI (by omega), wr_e (Or.inl (by decide)), h1, nI_1, hx, hs']
  · rw [f_X11_types_L3, if_neg hs, h2, chk_t (okI hc (by decide)), lts, lts, lts, clI (by omega), wr_e (Or.inl (by decide)), h2, nI_1, hs']
  · rw [wr_e (m := mj_wrs r 2 c (mj_shr x s &&& 255)) (Or.inl (by decide)), wr_e (m := mj_wrs m 6 c (mj_shr x s &&& 255)) (Or.inl (by decide))]
    by_cases z : i = c
    · rw [z, rs, rs]
      exact ⟨rfl, rg255 _⟩
    · rw [wr_e (Or.inr z), wr_e (Or.inr z)]
      exact h3 i (by omega)
  · rw [wr_row _ _ _ _ _ (by decide), wr_row _ _ _ _ _ (by decide)]
  · rw [wr_e (Or.inr (by decide)), wr_e (Or.inl (by decide))]
  · rw [wr_e (Or.inr (by decide)), wr_e (Or.inl (by decide))]
  · rw [wr_row _ _ _ _ _ k0, wr_row _ _ _ _ _ k6]
  · rw [wr_e (Or.inr ht), wr_e (Or.inl (by decide))]
theorem put4 {r m : mj_m} {c : Nat} (x : Int32) (h : RDc r m c) (hc : c + 4 ≤ 400) : ∃ r' m' : mj_m, f_X5_putFour x r = some r' ∧ f_X11_types x m = some m' ∧ RDc r' m' (c + 4) ∧ FR r r' m m' := by
  obtain ⟨r1, m1, a1, a2, a3, a4⟩ := put1 (n := 19999) (n' := 19999) (s' := 16) h (by omega) (by decide) (by decide) (sh24 x)
  obtain ⟨r2, m2, b1, b2, b3, b4⟩ := put1 (n := 19998) (n' := 19998) (s' := 8) a3 (by omega) (by decide) (by decide) (sh16 x)
  obtain ⟨r3, m3, c1, c2, c3, c4⟩ := put1 (n := 19997) (n' := 19997) (s' := 0) b3 (by omega) (by decide) (by decide) (sh8 x)
  obtain ⟨r4, m4, d1, d2, d3, d4⟩ := put1 (n := 19996) (n' := 19996) (s' := -8) c3 (by omega) (by decide) (by decide) (sh0 x)
  refine ⟨r4, m4, ?_, ?_, d3, ((a4.tr b4).tr c4).tr d4⟩
  · unfold f_X5_putFour
    rw [show mj_fu = 19999 + 1 from rfl, a1, show 19999 = 19998 + 1 from rfl, b1, show 19998 = 19997 + 1 from rfl, c1, show 19997 = 19996 + 1 from rfl, d1, show 19996 = 19995 + 1 from rfl, f_X5_putFour_L3, if_pos (by decide), b1s]
  · unfold f_X11_types
    rw [show mj_fu = 19999 + 1 from rfl, a2, show 19999 = 19998 + 1 from rfl, b2, show 19998 = 19997 + 1 from rfl, c2, show 19997 = 19996 + 1 from rfl, d2, show 19996 = 19995 + 1 from rfl, f_X11_types_L3, if_pos (by decide), b1s]
theorem c_feed : CL_feed Inv := by
  intro j M x1 x2 x3 x4 x5 hj h
  obtain ⟨-, -, ⟨r1, r2, r3, r4, r5⟩, -⟩ := id h
  obtain ⟨c, hc, ec, cc⟩ := cn_i r2
  have w09 : mj_wrs (M 4) 0 0 0 0 9 = nI c := by rw [wr_e (Or.inr (by decide)), ec]
  unfold f_X10_feed f_X11_feed f_X5_hasRoom
  rw [r1, ec, show nI c + 20 = nI (c + 20) from nI_add c 20]
  by_cases hr : 400 < c + 20
  · refine ⟨-1, M, mj_wrs (M 4) 0 0 0, ?_, ?_, Inv_q0 h⟩
    · rw [if_pos (show (400 : Int32) < nI (c + 20) from nI_lt (a := 400) hr (by omega)), lts, if_pos rfl]
    · rw [lts, w09, if_neg (show ¬ nI c ≤ 380 from nI_ge (b := c) (a := 380) (by omega) (by omega))]
  · rw [if_neg (show ¬ (400 : Int32) < nI (c + 20) from nI_nlt (a := 400) (by omega) (by decide)), lts, if_neg one0]
    have h0 : RDc (M 3) (mj_wrs (M 4) 0 0 0) c := by
      refine ⟨by rw [r1, ec], w09, fun i hi => ?_⟩
      rw [wr_e (Or.inl (by decide))]
      exact r3 i (by omega)
    obtain ⟨t1, m1, a1, a2, a3, a4⟩ := put4 x1 h0 (by omega)
    obtain ⟨t2, m2, b1, b2, b3, b4⟩ := put4 x2 a3 (by omega)
    obtain ⟨t3, m3, c1, c2, c3, c4⟩ := put4 x3 b3 (by omega)
    obtain ⟨t4, m4, d1, d2, d3, d4⟩ := put4 x4 c3 (by omega)
    obtain ⟨t5, m5, e1, e2, e3, e4⟩ := put4 x5 d3 (by omega)
    have F := (((a4.tr b4).tr c4).tr d4).tr e4
    obtain ⟨⟨f1, f2, f3⟩, f4, f5⟩ := F
    obtain ⟨g1, g2, g3⟩ := e3
    have w0 : ∀ s, s ≠ 0 → s ≠ 9 → m5 0 s = M 4 0 s := fun s s0 s9 => by rw [f5 s s9, wr_e (Or.inr s0)]
    refine ⟨nI (c + 4 + 4 + 4 + 4 + 4), va_up M 3 t5, m5, ?_, ?_, Inv_rd h ⟨?_, ?_, ?_, ?_, ?_⟩ (by rw [f1]) (fun k k0 _ _ _ k6 => by rw [f4 k k0 k6, wr_row _ _ _ _ _ k0]) (w0 19 (by decide) (by decide)) (w0 21 (by decide) (by decide))⟩
    · rw [a1, b1s, lts]
      simp only [b1s, lts, up_s, up_up, b1, c1, d1, e1, g1]
    · rw [show va_up M 3 t5 4 = M 4 from rfl, lts, w09, if_pos (show nI c ≤ 380 from nI_le (b := 380) (by omega) (by decide)), a2, b1s, b2, b1s, c2, b1s, d2, b1s, e2, b1s, g2]
    · show t5 1 1 = m5 0 9
      rw [g1, g2]
    · show cn (m5 0 9) 400
      rw [g2]
      exact cn_mk (by omega) (by decide)
    · show ∀ i, i < mj_cl (m5 0 9) → t5 2 i = m5 6 i ∧ rg 0 (m5 6 i) 255
      rw [g2, clI (by omega)]
      exact g3
    · show t5 1 3 = m5 0 17
      rw [f2, w0 17 (by decide) (by decide)]
      exact r4
    · show t5 1 4 = m5 0 18
      rw [f3, w0 18 (by decide) (by decide)]
      exact r5
