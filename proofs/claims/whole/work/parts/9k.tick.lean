/-! the turn and one tick -/
theorem T_ok_mono {pl : Nat → Int32} {pm : PM} {e u u' v v' T : Nat} {l m l' m' : mj_m} (h : T_ok pl pm e u v T l m l' m') (hu : u ≤ u' := by omega) (hv : v ≤ v' := by omega) : T_ok pl pm e u' v' T l m l' m' := ⟨I_lk0_mono h.1, h.2⟩
theorem turn_go {l m : mj_m} {pl : Nat → Int32} {pm : PM} {e u v T : Nat} (h : I_lk0 l (m 1) pl pm e u v T) (he : e ≤ 20000) (hv : v < 2 ^ 28) (hT : T ≤ 20000) (hwd : Wd l) (hup : I_up l (m 1) (39, 1)) (hM : l 17 6 = 1 ∨ l 17 6 = 2) : ∃ l' m' : mj_m, f_X8_haveTurn_J86 l = some l' ∧ f_X11_turns_J77 m = some m' ∧ T_ok pl pm e u (v + 1) T l m l' m' := by
  have h0 := h
  obtain ⟨⟨g_set, g_rng, g_tick⟩, g_rec, ⟨g_mach, g_line, g_sent, g_pass, g_dir, g_rep, g_st⟩, g_led, g_dia, g_plan⟩ := h0
  obtain ⟨q, hq20, eq, cq⟩ := cn_i g_sent.2.1
  obtain ⟨p, hp8, ep, cp⟩ := cn_i g_line.2.1
  have lq : l 23 4 = nI q := by rw [g_sent.1, eq]
  have lp : l 18 4 = nI p := by rw [g_line.1, ep]
  have hmk : ∀ i, i < q → l 27 i = m 1 (86 + i) ∧ rg 0 (m 1 (86 + i)) 1 := fun i hi => by
    obtain ⟨q1, q2, q3, q4, q5, q6⟩ := g_sent.2.2 i (by omega)
    exact ⟨q5, q6⟩
  have off : ∀ l' : mj_m, l' 17 6 = l 17 6 → l 17 6 = 6 → l' 17 6 = 6 := fun l' a b => a.trans b
  have rest : ∀ (l1 m1 : mj_m) (i q' : Nat), I_lk0 (mj_wrs l1 27 i 0) (mj_wrs m1 1 (86 + i) 0 1) pl pm e u v T → m1 1 25 = nI q' → i < q' → q' ≤ 20 → (∀ k, 33 ≤ k → k ≤ 42 → l1 k = l k) → (∀ z, z ≠ 1 → m1 z = m z) → (∀ s, s < 21 ∨ (35 ≤ s ∧ s ≤ 44) ∨ (619 ≤ s ∧ s < 1097) → m1 1 s = m 1 s) → l1 17 6 = l 17 6 → ∃ l' m' : mj_m, f_X8_haveTurn_J104 (nI i) l1 = some l' ∧ f_X11_goesSent (nI i) m1 = some m' ∧ T_ok pl pm e u (v + 1) T l m l' m' := by
    intro l1 m1 i q' hc h25 hi hq' hl1 hm1 hs1 h6
    have hn : ∀ s, s < 21 ∨ (35 ≤ s ∧ s ≤ 44) ∨ (619 ≤ s ∧ s < 1097) → mj_wrs m1 1 (86 + i) 0 1 s = m 1 s := fun s hs => by rw [wr_e (Or.inr (by omega)), hs1 s hs]
    have hl : ∀ k, 33 ≤ k → k ≤ 42 → mj_wrs l1 27 i 0 k = l k := fun k k1 k2 => by rw [wr_row _ _ _ _ _ (by omega), hl1 k k1 k2]
    have hup' : I_up (mj_wrs l1 27 i 0) (mj_wrs m1 1 (86 + i) 0 1) (39, 1) := I_up_nu hup (fun k k1 k2 => hl k k1 (by omega)) ⟨hn 11 (by omega), hn 35 (by omega), hn 37 (by omega), hn 40 (by omega), hn 41 (by omega), hn 43 (by omega), fun s _ _ => hn s (by omega), fun s _ _ => hn s (by omega)⟩
    obtain ⟨l', m', a1, a2, a3, a4, a5, a6, a7, a8, a9⟩ := sent_go (i := i) (q := q') hc he hv hT (by
      unfold Wd
      rw [hl 33 (by decide) (by decide), hl 38 (by decide) (by decide)]
      exact hwd) hup' (by rw [wr_e (Or.inr (by omega)), h25]) hi hq'
    refine ⟨l', m', by rw [J104e (by omega)]; exact a1, by rw [gSe (by omega)]; exact a2, a3, a4, ?_, ?_, fun k k1 k2 => by rw [a7 k k1 k2, hl k (by omega) k2], ?_, fun z => by rw [a9, wr_e (Or.inl (by decide)), h6]; exact z⟩
    · refine Fl.tr ?_ a5
      unfold Fl
      rw [hl 33 (by decide) (by decide), hl 38 (by decide) (by decide)]
      exact ⟨rfl, rfl, rfl, rfl⟩
    · exact ((Fm.k hm1).tr Fm.wr).tr a6
    · refine Nd.tr ?_ a8
      exact ⟨hn 11 (by omega), hn 36 (by omega), hn 42 (by omega), hn 44 (by omega), fun s _ _ => hn s (by omega), fun s _ _ => hn s (by omega)⟩
  have nm1 : ∀ j : Nat, j < 100 → ¬ nI j = -1 := fun j hj z => by
    have : (0 : Int32) ≤ nI j := nI_pos' (by omega)
    rw [z] at this
    exact absurd this (by decide)
  unfold f_X8_haveTurn_J86 f_X11_turns_J77 f_X7_firstMarked f_X11_firstMarked
  rcases fm_L hq20 lq eq hmk q 0 mj_fu mj_fu (by omega) (by unfold mj_fu; omega) (by unfold mj_fu; omega) with ⟨j, -, j2, j3, j4⟩ | ⟨j1, j2⟩
  · have j3' : f_X7_firstMarked_L2 23 mj_fu 0 l = some (20, nI j) := j3
    have j4' : f_X11_firstMarked_L2 mj_fu 0 m = some (nI j) := j4
    rw [j3', b2s, if_pos rfl, b1s, if_neg (nm1 j (by omega)), j4', b1s, b1s, eq, if_neg (nI_ge j2 (by omega)), id1]
    exact rest l m j q (mark0 h eq j2 hq20) eq j2 hq20 (fun _ _ _ => rfl) (fun _ _ => rfl) (fun _ _ => rfl) rfl
  · have j1' : f_X7_firstMarked_L2 23 mj_fu 0 l = some (28, 0) := j1
    have j2' : f_X11_firstMarked_L2 mj_fu 0 m = some (nI q) := j2
    rw [j1', b2s, if_neg (by decide), b1s, if_pos rfl, j2', b1s, b1s, eq, if_pos (nI_le (Nat.le_refl _) (by omega)), ep]
    have stop : f_X8_makeNewFrame l = some (-1, l) → ∃ l' m' : mj_m, mj_b2 (f_X8_makeNewFrame l) (fun r15 m16 => f_X8_haveTurn_J104 r15 m16) = some l' ∧ some m = some m' ∧ T_ok pl pm e u (v + 1) T l m l' m' := fun a => by
      refine ⟨l, m, ?_, rfl, T_ok_mono (T_same h hup)⟩
      rw [a, b2s]
      unfold f_X8_haveTurn_J104
      rw [if_pos rfl]
    rcases Nat.eq_zero_or_pos p with z | z
    · rw [if_pos (by rw [z]; decide)]
      refine stop ?_
      unfold f_X8_makeNewFrame
      rw [lp, if_pos (by rw [z]; rfl)]
    · rw [if_neg (nI_nle z (by omega)), set2, b1s, ← g_set.2.2.2.1]
      by_cases hk : l 2 2 ≤ l 23 4
      · rw [if_pos (by rw [← lq]; exact hk)]
        refine stop ?_
        unfold f_X8_makeNewFrame
        rw [lp, if_neg (nI_ne0 z (by omega)), if_pos hk]
      · rw [if_neg (by rw [← lq]; exact hk), id1]
        obtain ⟨p', rfl⟩ : ∃ p', p = p' + 1 := ⟨p - 1, by omega⟩
        have hq' : q < 20 := by
          rcases Nat.lt_or_ge q 20 with y | y
          · exact y
          · exfalso
            refine hk ?_
            rw [lq, show q = 20 by omega]
            exact g_rng.2.2.1.2
        obtain ⟨lN, mN, n1, n2, n3, n4, n5, n6, n7, n8⟩ := newf h ep (by omega) eq hq' hk hM
        rw [n1, b2s, n2]
        exact rest lN mN q (q + 1) n3 n4 (by omega) (by omega) n5 n6 n7 n8
theorem turn {l m : mj_m} {pl : Nat → Int32} {pm : PM} {e u v T : Nat} (h : I_lk0 l (m 1) pl pm e u v T) (he : e ≤ 20000) (hv : v < 2 ^ 28) (hT : T ≤ 20000) (hwd : Wd l) (hup : I_up l (m 1) (39, 1)) : ∃ l' m' : mj_m, f_X8_haveTurn l = some l' ∧ f_X11_turns m = some m' ∧ T_ok pl pm e u (v + 1) T l m l' m' := by
  have p1 := h.2.2.1.1.1.1
  have hpass := h.2.2.1.2.2.2.1.1
  unfold f_X8_haveTurn f_X11_turns f_X11_machine
  simp only [lts]
  rw [← p1, ← hpass]
  by_cases hp : l 28 4 ≤ 0
  · rw [if_pos hp, if_pos hp]
    by_cases h5 : l 17 6 = 5
    · rw [if_pos h5, if_pos h5, id1, id1]
      obtain ⟨l', m', a1, a2, a3⟩ := turn_dir h he hT hwd hup h5
      refine ⟨l', m', a1, ?_, T_ok_mono a3⟩
      have e67 : f_X11_turns_J67 (l 17 6) m = some m := by
        unfold f_X11_turns_J67
        rw [h5, if_neg (by decide), if_neg (by decide)]
      rw [e67]
      exact a2
    · rw [if_neg h5, if_neg h5]
      unfold f_X11_turns_J67
      by_cases h1 : l 17 6 = 1
      · rw [if_pos h1, if_pos h1]
        exact turn_go h he hv hT hwd hup (Or.inl h1)
      · rw [if_neg h1, if_neg h1]
        by_cases h2 : l 17 6 = 2
        · rw [if_pos h2, if_pos h2]
          exact turn_go h he hv hT hwd hup (Or.inr h2)
        · rw [if_neg h2, if_neg h2]
          exact ⟨l, m, rfl, rfl, T_ok_mono (T_same h hup)⟩
  · rw [if_neg hp, if_neg hp]
    obtain ⟨l', m', a1, a2, a3⟩ := turn_past h he hT hwd hup hp
    refine ⟨l', m', ?_, ?_, T_ok_mono a3⟩
    · simp only [id1]
      exact a1
    · simp only [id1]
      exact a2
/-- the clock goes on by one -/
theorem clock {l m : mj_m} {pl : Nat → Int32} {pm : PM} {e u v T : Nat} (h : I_lk0 l (m 1) pl pm e u v T) (hT : T ≤ 20000) (hup : I_up l (m 1) (40, 0)) (hdn : I_dn l (m 1) (40, 0)) : I_lk0 (mj_wrs l 1 0 (l 1 0 + 1)) (mj_wrs m 1 11 (m 1 11 + 1) 1) pl pm e u v (T + 1) ∧ I_up (mj_wrs l 1 0 (l 1 0 + 1)) (mj_wrs m 1 11 (m 1 11 + 1) 1) (40, 1) ∧ I_dn (mj_wrs l 1 0 (l 1 0 + 1)) (mj_wrs m 1 11 (m 1 11 + 1) 1) (40, 1) := by
  have h0 := h
  obtain ⟨⟨g_set, g_rng, g_tick⟩, g_rec, ⟨g_mach, g_line, g_sent, g_pass, g_dir, g_rep, g_st⟩, g_led, g_dia, g_plan⟩ := h0
  obtain ⟨t, ht, et, ct⟩ := cn_i g_tick.2
  have hl : ∀ k, k ≠ 1 → mj_wrs l 1 0 (l 1 0 + 1) k = l k := fun k hk => wr_row _ _ _ _ _ hk
  have hn : ∀ s, s ≠ 11 → mj_wrs m 1 11 (m 1 11 + 1) 1 s = m 1 s := fun s hs => wr_e (Or.inr hs)
  have n11 : mj_wrs m 1 11 (m 1 11 + 1) 1 11 = nI (t + 1) := by rw [rs, et, nI_1]
  have c11 : mj_cl (mj_wrs m 1 11 (m 1 11 + 1) 1 11) = t + 1 := by rw [n11, clI (by omega)]
  have way : ∀ w wd on R G fa fr we : Nat, 33 ≤ w → on ≠ 11 → fa ≠ 11 → we ≠ 11 → 619 ≤ R → 619 ≤ fr → I_way l (m 1) w wd on R G fa fr we (40, 0) → I_way (mj_wrs l 1 0 (l 1 0 + 1)) (mj_wrs m 1 11 (m 1 11 + 1) 1) w wd on R G fa fr we (40, 1) := by
    intro w wd on R G fa fr we hw hon hfa hwe hR hfr ⟨⟨q1, q2, q3⟩, ⟨q4, q5, q6⟩, q7⟩
    refine ⟨⟨?_, ?_, fun i hi => ?_⟩, ⟨?_, ?_, ?_⟩, ?_⟩
    · rw [hl w (by omega), hn on hon]
      exact q1
    · rw [hn on hon]
      exact q2
    · rw [hn on hon] at hi ⊢
      obtain ⟨z1, z2, z3, z4⟩ := q3 i hi
      have z3' : mj_cl (m 1 (R + G * i)) + (mj_cl (m 1 on) - 1 - i) + 0 ≤ mj_cl (m 1 11) + 40 := z3
      rw [ct] at z2 z3'
      rw [hl (w + 2) (by omega), hl (w + 1) (by omega), c11, hn _ (by omega)]
      refine ⟨z1, cn_mono z2 (by omega), ?_, fun k hk => ?_⟩
      · show _ + _ + 1 ≤ _
        omega
      · rw [hn _ (by omega)]
        exact z4 k hk
    · rw [hl w (by omega), hn fa hfa]
      exact q4
    · rw [hn fa hfa]
      exact q5
    · rw [hl (w + 4) (by omega), hn fa hfa]
      exact I_fate_cg q6 (fun i hi => hn _ (by omega))
    · rw [hl w (by omega), hn we hwe]
      exact q7
  refine ⟨?_, ⟨way _ _ _ _ _ _ _ _ (by decide) (by decide) (by decide) (by decide) (by decide) (by decide) hup.1, ?_, fun i hi => ?_⟩, way _ _ _ _ _ _ _ _ (by decide) (by decide) (by decide) (by decide) (by decide) (by decide) hdn⟩
  · refine ⟨⟨?_, I_rng_cg g_rng (hl 2 (by omega)), ?_⟩, I_rec_cg (I_rec_mono g_rec) (fun k _ _ => hl k (by omega)) (hn 38 (by omega)) (fun s _ _ => hn s (by omega)) (fun s _ _ => hn s (by omega)) (fun s _ _ => hn s (by omega)), ⟨I_mach_cg g_mach (fun _ _ => by rw [hl 17 (by omega)]) (fun s _ => hn s (by omega)), I_line_cg g_line (by rw [hl 18 (by omega)]) (hl 19 (by omega)) (hl 21 (by omega)) (hn 24 (by omega)) (hn 40 (by omega)) (fun s _ _ => hn s (by omega)), I_sent_cg g_sent (fun k _ _ => hl k (by omega)) (hn 22 (by omega)) (hn 24 (by omega)) (hn 25 (by omega)) (hn 40 (by omega)) (fun s _ _ => hn s (by omega)), I_pass_cg g_pass (by rw [hl 28 (by omega)]) (hl 29 (by omega)) (hn 29 (by omega)) (fun s _ _ => hn s (by omega)), I_dir_cg g_dir (fun _ _ => by rw [hl 17 (by omega)]) (fun s _ => hn s (by omega)), I_rep_cg g_rep (by rw [hl 17 (by omega)]) (hn 45 (by omega)) (hn 46 (by omega)) (hn 47 (by omega)), I_st_cg g_st (by rw [hl 17 (by omega)]) (by rw [hl 17 (by omega)]) (hn 31 (by omega)) (fun s _ _ => hn s (by omega))⟩, ?_, I_dia_cg (I_dia_mono g_dia) (fun k _ _ => hl k (by omega)) (hn 33 (by omega)) (hn 34 (by omega)) (hn 48 (by omega)) (fun s _ _ => hn s (by omega)), I_plan_cg g_plan (fun k _ _ => hl k (by omega)) (hn 49 (by omega))⟩
    · unfold I_set
      rw [hl 2 (by decide), hn 12 (by decide), hn 0 (by decide), hn 1 (by decide), hn 2 (by decide), hn 3 (by decide), hn 4 (by decide), hn 5 (by decide), hn 6 (by decide), hn 7 (by decide), hn 8 (by decide), hn 9 (by decide), hn 10 (by decide), wr_e (Or.inr (by decide))]
      exact g_set
    · refine ⟨by rw [rs, rs, g_tick.1], ?_⟩
      rw [n11]
      exact cn_mk (by omega) (by omega)
    · obtain ⟨f1, f2, f3, f4, f5, f6, f7⟩ := g_led
      unfold I_led
      rw [hl 3 (by decide), hl 46 (by decide), hn 40 (by decide), hn 24 (by decide), hn 25 (by decide), c11]
      refine ⟨f1, f2, f3, f4, f5, fun i hi h1 => ?_, fun a b a1 a2 b1 b2 h1 h2 => ?_⟩
      · have z := I_ll_mono (f6 i hi h1) (show mj_cl (m 1 11) ≤ t + 1 by omega) (Nat.le_refl v)
        unfold I_ll at z ⊢
        rw [hl 4 (by decide), hl 3 (by decide), hl 46 (by decide), hn 19 (by decide)]
        simp (disch := omega) only [hn]
        exact z
      · rw [hn _ (by omega)] at h1 h2
        rw [hn _ (by omega), hn _ (by omega)]
        exact f7 a b a1 a2 b1 b2 h1 h2
  · rw [hl 33 (by decide), hn 37 (by decide)]
    exact hup.2.1
  · rw [hn 41 (by decide)] at hi
    rw [hl 36 (by decide), hn 40 (by decide), hn _ (by omega)]
    exact hup.2.2 i hi
/-- the receiver's report goes -/
theorem report {l m : mj_m} {pl : Nat → Int32} {pm : PM} {e u v T : Nat} (h : I_lk0 l (m 1) pl pm e u v T) (hT : T ≤ 20000) (hwd : Wd l) (hdn : I_dn l (m 1) (40, 1)) : ∃ l' m' : mj_m, f_X9_goes 38 (f_X6_reportWord l) (-1) l = some l' ∧ f_X11_reports m = some m' ∧ I_lk0 l' (m' 1) pl pm e u v T ∧ I_dn l' (m' 1) (41, 0) ∧ Fl l l' ∧ Fm m m' ∧ (∀ k, 33 ≤ k → k ≤ 37 → l' k = l k) ∧ Nu (m 1) (m' 1) ∧ l' 17 = l 17 := by
  have h0 := h
  obtain ⟨⟨g_set, g_rng, g_tick⟩, g_rec, ⟨g_mach, g_line, g_sent, g_pass, g_dir, g_rep, g_st⟩, g_led, g_dia, g_plan⟩ := h0
  obtain ⟨p1, p2, p3, p4, p5, -⟩ := id g_rec
  obtain ⟨nx, hnx, enx⟩ := byN p1.2
  have bitN : ∀ x : Int32, rg 0 x 1 → ∃ k : Nat, k ≤ 1 ∧ x = nI k := fun x hx => by
    rcases bit01 hx with z | z
    · exact ⟨0, by decide, z⟩
    · exact ⟨1, by decide, z⟩
  obtain ⟨k1, hk1, ek1⟩ := bitN _ p2.2
  obtain ⟨k2, hk2, ek2⟩ := bitN _ p3.2
  obtain ⟨k3, hk3, ek3⟩ := bitN _ p4.2
  obtain ⟨kc, hkc, ekc⟩ : ∃ k : Nat, k ≤ 3 ∧ m 1 17 = nI k := by
    rcases four p5.2 with z | z | z | z
    · exact ⟨0, by decide, z⟩
    · exact ⟨1, by decide, z⟩
    · exact ⟨2, by decide, z⟩
    · exact ⟨3, by decide, z⟩
  obtain ⟨f, hf⟩ : ∃ f, f = k1 + 2 * k2 + 4 * k3 + 8 * kc := ⟨_, rfl⟩
  have hf31 : f ≤ 31 := by omega
  have eword : f_X6_reportWord l = nI (f * 2 ^ 8 + nx) := by
    have fin : ∀ g : Nat, g ≤ 31 → f_X6_reportWord_J38 (nI g) l = nI (g * 2 ^ 8 + nx) := fun g hg => by
      unfold f_X6_reportWord_J38 mj_shl
      rw [pk_shlN _ 8 (by decide) (by omega), p1.1, enx, Nat.mul_comm, fa_or_sum g (by omega)]
    have f28 : ∀ g : Nat, g ≤ 27 → f_X6_reportWord_J28 (nI g) l = nI ((g + 4 * k3) * 2 ^ 8 + nx) := fun g hg => by
      unfold f_X6_reportWord_J28
      rw [p4.1, ek3]
      rcases (by omega : k3 = 0 ∨ k3 = 1) with z | z
      · rw [z, if_pos (by decide), fin g (by omega)]
        rfl
      · rw [z, if_neg (by decide), lts, show nI g + 4 = nI (g + 4) from nI_add g 4, fin _ (by omega)]
    have f18 : ∀ g : Nat, g ≤ 25 → f_X6_reportWord_J18 (nI g) l = nI ((g + 2 * k2 + 4 * k3) * 2 ^ 8 + nx) := fun g hg => by
      unfold f_X6_reportWord_J18
      rw [p3.1, ek2]
      rcases (by omega : k2 = 0 ∨ k2 = 1) with z | z
      · rw [z, if_pos (by decide), f28 g (by omega)]
        rfl
      · rw [z, if_neg (by decide), lts, show nI g + 2 = nI (g + 2) from nI_add g 2, f28 _ (by omega)]
    unfold f_X6_reportWord
    rw [lts, p5.1, ekc, show (8 : Int32) * nI kc = nI (8 * kc) from nI_mul 8 kc, p2.1, ek1]
    rcases (by omega : k1 = 0 ∨ k1 = 1) with z | z
    · rw [z, if_pos (by decide), f18 _ (by omega)]
      exact congrArg nI (by omega)
    · rw [z, if_neg (by decide), lts, nI_1, f18 _ (by omega)]
      exact congrArg nI (by omega)
  obtain ⟨B, hB⟩ : ∃ B : Nat → Nat, B = fun k => if k = 0 then f else if k = 1 then nx else (85 + f + nx) % 256 := ⟨_, rfl⟩
  have B0 : B 0 = f := by rw [hB]; rfl
  have B1 : B 1 = nx := by rw [hB]; rfl
  have B2 : B 2 = (85 + f + nx) % 256 := by rw [hB]; rfl
  have z1 : mj_wrs (mj_wrs (mj_wrs m 3 0 (nI f)) 3 1 (nI nx)) 3 2 (nI (B 2)) 1 = m 1 := by simp (disch := omega) only [wr_row]
  have esum : (nI f + nI nx + 85) &&& 255 = nI (B 2) := by
    rw [B2, nI_add, show nI (f + nx) + 85 = nI (f + nx + 85) from nI_add _ 85, show (255 : Int32) = nI (2 ^ 8 - 1) from rfl, fa_mask]
    congr 1
    omega
  have k3' : ∀ k, k < 3 → k = 0 ∨ k = 1 ∨ k = 2 := fun k hk => by omega
  obtain ⟨l', m', e1, e2, g1, g2, g3, g4, g5, g6, g7, g8, g9, g10⟩ := goes_raw (a := 0) (C := 40) (l := l) (m := mj_wrs (mj_wrs (mj_wrs m 3 0 (nI f)) 3 1 (nI nx)) 3 2 (nI (B 2))) (word := f_X6_reportWord l) (line := -1) (B := fun k => nI (B k)) WA0 (by decide) hwd.2.2.1 hwd.2.2.2 (by rw [z1]; exact g_set) g_rng (by rw [z1]; exact g_tick.1) (by rw [z1]; exact cn_mono g_tick.2 hT) (by rw [z1]; exact hdn) (fun k hk => by
      rw [eword]
      rcases (by omega : k = 0 ∨ k = 1) with rfl | rfl
      · rw [ush_k (by omega) (s := 8) (by decide)]
        show _ = nI (B 0)
        rw [B0, show f * 2 ^ 8 + nx = nx + 2 ^ 8 * f by omega, Nat.add_mul_div_left _ _ (by decide), Nat.div_eq_of_lt (by omega)]
        congr 1
        omega
      · rw [ush_k (by omega) (s := 0) (by decide)]
        show _ = nI (B 1)
        rw [B1, Nat.pow_zero, Nat.div_one]
        congr 1
        omega) (by
      show nI (B 2) = (85 + nI (B 0) + nI (B 1)) &&& 255
      rw [← esum, B0, B1]
      congr 1
      rw [show (85 : Int32) = nI 85 from rfl, nI_add, nI_add, nI_add, nI_add]
      congr 1
      omega) (fun k hk => by
      show rg 0 (nI (B k)) 255
      have : B k < 256 := by
        rcases k3' k hk with rfl | rfl | rfl
        · rw [B0]; omega
        · rw [B1]; omega
        · rw [B2]; omega
      exact ⟨nI_pos' (by omega), nI_le (b := 255) (by omega) (by decide)⟩) (fun k hk => by
      show _ = nI (B k)
      rcases k3' k hk with rfl | rfl | rfl
      · rw [B0]; simp (disch := omega) only [wr_e, rs]
      · rw [B1]; simp (disch := omega) only [wr_e, rs]
      · rw [rs])
  rw [z1] at g5 g8
  have gs : ∀ s, s ≠ 12 → s ≠ 42 → s ≠ 44 → s ≠ 36 → s < 627 ∨ 635 ≤ s → s < 929 ∨ 1093 ≤ s → m' 1 s = m 1 s := fun s a b c d e f => by
    by_cases z : s = 37
    · rw [z]
      exact g8 rfl
    · exact g5 s a b c d z (by omega) (by omega)
  have hl : ∀ k, k ≠ 1 ∧ (k < 38 ∨ 42 < k) → l' k = l k := fun k hk => g1 k hk.1 (by omega)
  have hn : ∀ s, s ≠ 12 ∧ s ≠ 42 ∧ s ≠ 44 ∧ s ≠ 36 ∧ (s < 627 ∨ 635 ≤ s) ∧ (s < 929 ∨ 1093 ≤ s) → m' 1 s = m 1 s := fun s hs => gs s hs.1 hs.2.1 hs.2.2.1 hs.2.2.2.1 hs.2.2.2.2.1 hs.2.2.2.2.2
  refine ⟨l', m', e1, ?_, ?_, g7, ?_, ?_, fun k k1 k2 => hl k (by omega), ?_, hl 17 (by omega)⟩
  · unfold f_X11_reports
    have ef : m 1 14 + 2 * m 1 15 + 4 * m 1 16 + 8 * m 1 17 = nI f := by
      rw [ek1, ek2, ek3, ekc, show (2 : Int32) * nI k2 = nI (2 * k2) from nI_mul 2 k2, show (4 : Int32) * nI k3 = nI (4 * k3) from nI_mul 4 k3, show (8 : Int32) * nI kc = nI (8 * kc) from nI_mul 8 kc, nI_add, nI_add, nI_add, hf]
    rw [lts, ef, lts, wr_row _ _ _ _ 1 (by decide), enx, lts]
    have x0 : mj_wrs (mj_wrs m 3 0 (nI f)) 3 1 (nI nx) 3 0 = nI f := by simp (disch := omega) only [wr_e, rs]
    have x1 : mj_wrs (mj_wrs m 3 0 (nI f)) 3 1 (nI nx) 3 1 = nI nx := rs _ _ _ _
    rw [x0, x1, lts, show f_X11_round (nI f + nI nx + 85) = nI (B 2) from esum, e2, b1s]
  · refine ⟨⟨?_, I_rng_cg g_rng (hl 2 (by omega)), ?_⟩, I_rec_cg (I_rec_mono g_rec) (fun k _ _ => hl k (by omega)) (hn 38 (by omega)) (fun s _ _ => hn s (by omega)) (fun s _ _ => hn s (by omega)) (fun s _ _ => hn s (by omega)), ⟨I_mach_cg g_mach (fun _ _ => by rw [hl 17 (by omega)]) (fun s _ => hn s (by omega)), I_line_cg g_line (by rw [hl 18 (by omega)]) (hl 19 (by omega)) (hl 21 (by omega)) (hn 24 (by omega)) (hn 40 (by omega)) (fun s _ _ => hn s (by omega)), I_sent_cg g_sent (fun k _ _ => hl k (by omega)) (hn 22 (by omega)) (hn 24 (by omega)) (hn 25 (by omega)) (hn 40 (by omega)) (fun s _ _ => hn s (by omega)), I_pass_cg g_pass (by rw [hl 28 (by omega)]) (hl 29 (by omega)) (hn 29 (by omega)) (fun s _ _ => hn s (by omega)), I_dir_cg g_dir (fun _ _ => by rw [hl 17 (by omega)]) (fun s _ => hn s (by omega)), I_rep_cg g_rep (by rw [hl 17 (by omega)]) (hn 45 (by omega)) (hn 46 (by omega)) (hn 47 (by omega)), I_st_cg g_st (by rw [hl 17 (by omega)]) (by rw [hl 17 (by omega)]) (hn 31 (by omega)) (fun s _ _ => hn s (by omega))⟩, I_led_cg (I_led_mono g_led) (fun _ _ => by rw [hl 3 (by omega)]) (hl 4 (by omega)) (hl 46 (by omega)) (hn 11 (by omega)) (hn 19 (by omega)) (hn 24 (by omega)) (hn 25 (by omega)) (hn 40 (by omega)) (fun s _ _ => hn s (by omega)), I_dia_cg (I_dia_mono g_dia) (fun k _ _ => hl k (by omega)) (hn 33 (by omega)) (hn 34 (by omega)) (hn 48 (by omega)) (fun s _ _ => hn s (by omega)), I_plan_cg g_plan (fun k _ _ => hl k (by omega)) (hn 49 (by omega))⟩
    · obtain ⟨-, s⟩ := g_set
      unfold I_set
      rw [hl 2 (by omega), hn 0 (by omega), hn 1 (by omega), hn 2 (by omega), hn 3 (by omega), hn 4 (by omega), hn 5 (by omega), hn 6 (by omega), hn 7 (by omega), hn 8 (by omega), hn 9 (by omega), hn 10 (by omega)]
      exact ⟨g6, s⟩
    · unfold I_tick at g_tick ⊢
      rw [g2, hn 11 (by omega)]
      exact g_tick
  · refine ⟨by rw [hl 33 (by omega)], by rw [hl 33 (by omega)], g3 1 (by decide), g3 2 (by decide)⟩
  · unfold Fm
    have z0 : m' 0 = m 0 := by
      rw [g4 0 (by decide) (by decide)]
      simp (disch := omega) only [wr_row]
    rw [z0]
    exact ⟨fun k k0 k1 k3 => by rw [g4 k k1 k3]; simp (disch := omega) only [wr_row], rfl, rfl, rfl, rfl, rfl⟩
  · exact ⟨hn 11 (by omega), hn 35 (by omega), hn 37 (by omega), hn 40 (by omega), hn 41 (by omega), hn 43 (by omega), fun s _ _ => hn s (by omega), fun s _ _ => hn s (by omega)⟩
