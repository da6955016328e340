/-! told -/
theorem c_told : CL_told Inv := by
  intro j M x1 x2 hj h
  obtain ⟨⟨c1, -⟩, g_l, -, -⟩ := id h
  have hm : I_link (M 0) (mj_wrs (M 4) 0 0 0 1) (M 4 8) (M 4 0 19, 0) (24 * j) (24 * j + 50 * mj_cl (M 4 1 11)) (50 * mj_cl (M 4 1 11)) (9999, (40, 0), (40, 0)) := by
    rw [r10]
    exact g_l
  obtain ⟨⟨g_set, g_rng, g_tick⟩, g_rec, ⟨g_mach, g_line, g_sent, g_pass, g_dir, g_rep, g_st⟩, g_led, g_dia, g_up, g_dn, g_plan⟩ := id hm
  have h22 : rg 0 (M 0 2 2) 255 := ⟨Int32.le_trans (by decide) g_rng.2.2.1.1, Int32.le_trans g_rng.2.2.1.2 (by decide)⟩
  have h23 : rg 0 (M 0 23 4) 255 := by
    obtain ⟨q, hq, eq, cq⟩ := cn_i g_sent.2.1
    rw [g_sent.1, eq]
    exact ⟨nI_pos' (by omega), nI_le (b := 255) (by omega) (by decide)⟩
  refine ⟨⟨?_, h23, h22, ?_, ?_⟩, ?_⟩
  · rcases g_rep with ⟨-, z2⟩ | ⟨-, z2⟩ | ⟨z1, z2, z3, z4⟩
    · exact Or.inl z2
    · exact Or.inr (Or.inl z2)
    · right
      right
      obtain ⟨f, hf, ef⟩ := byN (x := mj_wrs (M 4) 0 0 0 1 46) ⟨z3.1, Int32.le_trans z3.2 (by decide)⟩
      have f32 : f < 32 := by
        have q := z3.2
        rw [ef] at q
        exact Decidable.byContradiction (fun z => absurd q (show ¬ nI f ≤ nI 31 from nI_ge (by omega) (by omega)))
      obtain ⟨b, hb, eb⟩ := byN z4
      obtain ⟨y1, y2⟩ := rep_bits ⟨f, f32⟩ ⟨b, hb⟩
      have y1' : mj_ush (mj_shl (nI f) 8 ||| nI b) 8 = nI f := y1
      have y2' : (mj_shl (nI f) 8 ||| nI b) &&& 255 = nI b := y2
      have y3' : mj_ush (nI f) 3 = nI (f / 8) := (rep_f ⟨f, f32⟩).1
      rw [z2, ef, eb, y1', y2', y3']
      exact ⟨⟨nI_pos' (by omega), nI_le (b := 255) (by omega) (by decide)⟩, ⟨nI_pos' (by omega), nI_le (b := 255) (by omega) (by decide)⟩⟩
  · rw [g_mach.2.1.1]
    exact g_mach.2.1.2
  · rw [g_rec.1.1]
    exact g_rec.1.2
  have h4 : mj_wrs (M 4) 0 0 0 4 = nmT := by
    rw [wr_row _ _ _ _ _ (by decide)]
    exact c1
  have ht : TXT (mj_wrs (M 4) 0 0 0) (mj_wrs (mj_wrs (M 4) 0 0 0) 0 7 0) [] := ⟨rs _ _ _ _, by decide, fun i hi => absurd hi (Nat.not_lt_zero i), fun k k0 _ => wr_row _ _ _ _ _ k0, fun s hs => wr_e (Or.inr hs)⟩
  have fin : ∀ {m : mj_m} {L : List Nat}, TXT (mj_wrs (M 4) 0 0 0) m L → Inv (j + 1) (va_up M 4 m) := fun {m L} t => by
    have w0 : ∀ s, s ≠ 7 → s ≠ 0 → m 0 s = M 4 0 s := fun s s7 s0 => by rw [t.2.2.2.2 s s7, wr_e (Or.inr s0)]
    exact Inv_q h (fun k k0 _ _ k5 => by rw [t.2.2.2.1 k k0 k5, wr_row _ _ _ _ _ k0]) (w0 9 (by decide) (by decide)) (w0 17 (by decide) (by decide)) (w0 18 (by decide) (by decide)) (w0 19 (by decide) (by decide)) (w0 21 (by decide) (by decide))
  unfold f_X11_told f_told tt_told
  rw [lts, lts, lts]
  by_cases h0 : x1 = 0
  · subst h0
    obtain ⟨m1, a1, a2⟩ := repT ht g_rep
    refine ⟨m1, ?_, fin a2⟩
    rw [show f_X11_isIn 0 0 3 = 1 by decide, if_neg one0, if_pos rfl, a1, b1s, if_pos (Or.inl rfl), if_pos rfl]
    unfold f_X11_told_J30 f_X11_told_J39 f_X11_told_J48
    rw [if_neg (by decide), if_neg (by decide), if_neg (by decide)]
    exact j79 a2 x2
  by_cases h1 : x1 = 1
  · subst h1
    obtain ⟨m1, a1, a2⟩ := sndT h4 ht hm h22 h23
    refine ⟨m1, ?_, fin a2⟩
    rw [show f_X11_isIn 1 0 3 = 1 by decide, if_neg one0, if_neg (by decide), if_pos (Or.inr (Or.inl rfl)), if_neg (by decide), if_pos rfl]
    unfold f_X11_told_J30 f_X11_told_J39 f_X11_told_J48
    rw [if_pos rfl, a1, b1s, if_neg (by decide), if_neg (by decide)]
    exact j79 a2 x2
  by_cases hx2 : x1 = 2
  · subst hx2
    obtain ⟨m1, a1, a2⟩ := rcvT h4 ht g_rec
    refine ⟨m1, ?_, fin a2⟩
    rw [show f_X11_isIn 2 0 3 = 1 by decide, if_neg one0, if_neg (by decide), if_pos (Or.inr (Or.inr (Or.inl rfl))), if_neg (by decide), if_neg (by decide), if_pos rfl]
    unfold f_X11_told_J30 f_X11_told_J39 f_X11_told_J48
    rw [if_neg (by decide), if_pos rfl, a1, b1s, if_neg (by decide)]
    exact j79 a2 x2
  by_cases h3 : x1 = 3
  · subst h3
    obtain ⟨d1, d2⟩ := g_dia.2.2.1
    have e1 : mj_wrs (mj_wrs (M 4) 0 0 0) 0 7 0 1 = mj_wrs (M 4) 0 0 0 1 := wr_row _ _ _ _ _ (by decide)
    obtain ⟨s, hs, es⟩ := byN (x := mj_wrs (M 4) 0 0 0 1 48) ⟨d2.1, Int32.le_trans d2.2 (by decide)⟩
    have s6 : s ≤ 6 := by
      have q := d2.2
      rw [es] at q
      exact Decidable.byContradiction (fun z => absurd q (show ¬ nI s ≤ nI 6 from nI_ge (by omega) (by omega)))
    rw [show f_X11_isIn 3 0 3 = 1 by decide, if_neg one0, if_neg (by decide), if_pos (Or.inr (Or.inr (Or.inr rfl))), if_neg (by decide), if_neg (by decide), if_neg (by decide), d1, es]
    unfold f_X11_told_J30 f_X11_told_J39 f_X11_told_J48
    rw [if_neg (by decide), if_neg (by decide), if_pos rfl, e1, es]
    by_cases z : s = 0
    · subst z
      refine ⟨_, ?_, fin ht⟩
      rw [if_pos (by decide), show f_X10_alarmWord (nI 0) = 30 by decide, sw_30]
      exact j79 ht x2
    · obtain ⟨p, hN⟩ := alN (s := s) (by omega) s6
      have a31 : f_X10_alarmWord (nI s) < 31 := by
        unfold f_X10_alarmWord
        repeat' split
        all_goals decide
      obtain ⟨m1, a1, a2⟩ := nameE hN h4 ht (by have := swl a31; show 0 + _ ≤ 60; omega)
      refine ⟨m1, ?_, fin a2⟩
      have e8 : (8 : Int32) + nI s - 1 = nI (s + 7) := by
        rw [show (8 : Int32) + nI s = nI (8 + s) from nI_add 8 s, show (1 : Int32) = nI 1 from rfl, nI_sub (by omega), show 8 + s - 1 = s + 7 by omega]
      rw [if_neg (nI_nle (by omega) (by omega)), e8, a1, b1s]
      exact j79 a2 x2
  refine ⟨mj_wrs (M 4) 0 0 0, ?_, Inv_q0 h⟩
  have nin : ¬ (x1 = 0 ∨ x1 = 1 ∨ x1 = 2 ∨ x1 = 3) := fun q => by
    rcases q with q | q | q | q
    · exact h0 q
    · exact h1 q
    · exact hx2 q
    · exact h3 q
  rw [isIn_f (fun q => by
    obtain ⟨q1, q2⟩ := q
    obtain ⟨w, hw, rfl⟩ := in_lt (a := x1) (b := 4) (by decide) (Int32.not_lt.mpr q1) (fun z => absurd (Int32.le_trans z q2) (by decide))
    rcases (by omega : w = 0 ∨ w = 1 ∨ w = 2 ∨ w = 3) with rfl | rfl | rfl | rfl
    · exact h0 rfl
    · exact h1 rfl
    · exact hx2 rfl
    · exact h3 rfl), if_pos rfl, if_neg nin]
