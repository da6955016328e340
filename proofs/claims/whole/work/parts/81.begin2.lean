set_option maxHeartbeats 1000000 in
theorem L_beg2 {l m : mj_m} {pl : Nat → Int32} {pm : PM} {e u v : Nat} {T : TT} (h : I_link l (m 1) pl pm e u v T) (he : e ≤ 20000) (h6 : l 17 6 = 6) (x : Int32) : ∃ (l' m' : mj_m), f_X8_begin 2 x l = some (1, l') ∧ f_X11_start 2 x m = some (1, m') ∧ I_link l' (m' 1) pl pm e u v T ∧ Fl l l' ∧ Fm m m' ∧ (∀ s, s < 21 → m' 1 s = m 1 s) := by
  have h0 := h.w
  obtain ⟨⟨g_set, g_rng, g_tick⟩, g_rec, ⟨g_mach, g_line, g_sent, g_pass, g_dir, g_rep, g_st⟩, g_led, g_dia, g_up, g_dn, g_plan⟩ := h
  obtain ⟨⟨p1, p1r⟩, ⟨p2, p2r⟩, -⟩ := id g_mach
  have r1 : mj_wrs m 0 0 0 1 = m 1 := wr_row _ _ _ _ _ (by decide)
  have e4 : l 2 4 = m 1 4 + 12 := g_set.2.2.2.2.2.1
  obtain ⟨l1, l2, m1, b1, b2, b3, b4, b5, b6, b7, b8, b9, b10, b11⟩ := emp (l := l) (m := mj_wrs m 0 0 0) he (by rw [r1]; exact g_line) (by rw [r1]; exact g_sent) (by rw [r1]; exact g_led)
  have q2 : l2 2 = l 2 := b4 2 (by decide) (by decide) (by decide)
  have q17 : l2 17 = l 17 := b4 17 (by decide) (by decide) (by decide)
  have z10 : ∀ s, s ≠ 24 → s ≠ 25 → s < 1097 → m1 1 s = m 1 s := fun s a b c => by rw [b10 s a b c, r1]
  obtain ⟨LA, hLA⟩ : ∃ LA : mj_m, LA = mj_wrs (mj_wrs (mj_wrs (mj_wrs (mj_wrs (mj_wrs l2 17 11 0) 17 8 (l 17 7)) 17 9 1) 17 10 (l 2 4)) 17 12 0) 17 13 1 := ⟨_, rfl⟩
  obtain ⟨MA, hMA⟩ : ∃ MA : mj_m, MA = mj_wrs (mj_wrs (mj_wrs (mj_wrs (mj_wrs (mj_wrs (mj_wrs (mj_wrs m1 1 32 0) 1 26 0) 1 30 1) 1 23 (m 1 22)) 1 26 1) 1 27 0) 1 28 1) 1 31 (l 2 4) := ⟨_, rfl⟩
  have la : ∀ k, k ≠ 17 → LA k = l2 k := fun k hk => by
    rw [hLA]
    simp only [wr_row _ _ _ _ _ hk]
  have la6 : LA 17 6 = l 17 6 := by
    rw [hLA]
    simp [wr_at, q17]
  have ma : ∀ s, s ≠ 22 → s ≠ 23 → s ≠ 26 → s ≠ 27 → s ≠ 28 → s ≠ 30 → s ≠ 31 → s ≠ 32 → MA 1 s = m1 1 s := fun s a b c d e f g i => by
    rw [hMA]
    simp [wr_at, a, b, c, d, e, f, g, i]
  have mp : ∀ p, p ≠ 1 → MA p = m1 p := fun p hp => by
    rw [hMA]
    simp only [wr_row _ _ _ _ _ hp]
  have hD : D_ok LA (MA 1) := by
    obtain ⟨d1, d2, d3⟩ := g_dia.1
    refine ⟨?_, ?_, fun i hi => ?_⟩
    · rw [la 5 (by decide), b4 5 (by decide) (by decide) (by decide), ma 34 (by decide) (by decide) (by decide) (by decide) (by decide) (by decide) (by decide) (by decide), z10 34 (by decide) (by decide) (by decide)]
      exact d1
    · rw [ma 34 (by decide) (by decide) (by decide) (by decide) (by decide) (by decide) (by decide) (by decide), z10 34 (by decide) (by decide) (by decide)]
      exact d2
    · rw [ma 34 (by decide) (by decide) (by decide) (by decide) (by decide) (by decide) (by decide) (by decide), z10 34 (by decide) (by decide) (by decide)] at hi
      have := d2.2
      rw [la 6 (by decide), b4 6 (by decide) (by decide) (by decide), ma _ (by omega) (by omega) (by omega) (by omega) (by omega) (by omega) (by omega) (by omega), z10 _ (by omega) (by omega) (by omega)]
      exact d3 i hi
  obtain ⟨lc, mc, c1, c2, c3, c4, c5, c6, c7, c8⟩ := chg (a := LA 17 6) (b := 5) hD (by rw [la 1 (by decide), b4 1 (by decide) (by decide) (by decide), ma 11 (by decide) (by decide) (by decide) (by decide) (by decide) (by decide) (by decide) (by decide), z10 11 (by decide) (by decide) (by decide)]; exact g_tick.1) (by rw [la6, ma 21 (by decide) (by decide) (by decide) (by decide) (by decide) (by decide) (by decide) (by decide), z10 21 (by decide) (by decide) (by decide)]; exact p1)
  have mcn : ∀ s, s ≠ 21 → s ≠ 34 → (s < 179 ∨ 418 < s) → mc 1 s = MA 1 s := c6
  obtain ⟨mf, hmf⟩ : ∃ mf : mj_m, mf = mc := ⟨_, rfl⟩
  have mfn : ∀ s, s ≠ 21 → s ≠ 34 → (s < 179 ∨ 418 < s) → mf 1 s = MA 1 s := fun s a b c => by
    rw [hmf, c6 s a b c]
  refine ⟨mj_wrs lc 17 6 5, mf, ?_, ?_, ?_, ?_, ?_, fun s hs => ?_⟩
  · obtain ⟨w, hw⟩ : ∃ w : Int32, w = 2 := ⟨_, rfl⟩
    have n0 : ¬ w = 0 := by
      rw [hw]
      decide
    have n1 : ¬ w = 1 := by
      rw [hw]
      decide
    have n2 : w = 2 := hw
    have n3 : ¬ w = 3 := by
      rw [hw]
      decide
    have rd : ∀ m : mj_m, mj_wrs m 17 12 0 17 12 = 0 := fun m => by rw [wr_at, if_pos ⟨rfl, rfl⟩]
    have ec : f_X8_begin w x l = mj_b2 (f_X1_change (LA 17 6) 5 LA) (fun r m => some (1, mj_wrs m 17 6 r)) := by
      unfold f_X8_begin
      rw [if_pos h6, show f_X10_isWithin w 0 3 = 1 by rw [hw]; decide]
      simp only [mj_let]
      rw [if_neg one0, if_neg n3]
      unfold f_X8_begin_J32
      rw [b1]
      simp only [mj_b1, mj_let]
      rw [b2]
      simp only
      rw [if_neg n3]
      unfold f_X8_begin_J69
      simp only [mj_let]
      rw [if_neg n0]
      unfold f_X8_begin_J100
      simp only [mj_let]
      rw [if_pos n2]
      unfold f_X8_begin_J127
      simp only [mj_let]
      rw [rd, if_neg (by decide)]
      unfold f_X8_begin_J144
      simp only [mj_let]
      rw [chk_t (show mj_isb 1 = true by decide), if_neg n0, if_neg n1]
      rw [hLA]
      rw [show (mj_wrs l2 17 11 0 : mj_m) 17 7 = l 17 7 by rw [wr_e (Or.inr (by decide)), q17]]
      rw [show (mj_wrs (mj_wrs (mj_wrs l2 17 11 0) 17 8 (l 17 7)) 17 9 1 : mj_m) 2 4 = l 2 4 by rw [wr_e (Or.inl (by decide)), wr_e (Or.inl (by decide)), wr_e (Or.inl (by decide)), q2]]
    refine (congrArg (fun z => f_X8_begin z x l) hw.symm).trans (ec.trans ?_)
    rw [c1]
    rfl
  · obtain ⟨w, hw⟩ : ∃ w : Int32, w = 2 := ⟨_, rfl⟩
    have n0 : ¬ w = 0 := by
      rw [hw]
      decide
    have n1 : ¬ w = 1 := by
      rw [hw]
      decide
    have n2 : w = 2 := hw
    have n3 : ¬ w = 3 := by
      rw [hw]
      decide
    have x22 : (mj_wrs (mj_wrs (mj_wrs m1 1 32 0) 1 26 0) 1 30 1 : mj_m) 1 22 = m 1 22 := by
      rw [wr_e (Or.inr (by decide)), wr_e (Or.inr (by decide)), wr_e (Or.inr (by decide)), z10 22 (by decide) (by decide) (by decide)]
    have ed : f_X11_directs 1 0 (mj_wrs (mj_wrs (mj_wrs (mj_wrs m1 1 32 0) 1 26 0) 1 30 1) 1 23 (m 1 22)) = some mc := by
      unfold f_X11_directs
      simp only [mj_let]
      rw [set4]
      simp only [mj_b1]
      have y4 : (mj_wrs (mj_wrs (mj_wrs (mj_wrs (mj_wrs (mj_wrs (mj_wrs m1 1 32 0) 1 26 0) 1 30 1) 1 23 (m 1 22)) 1 26 1) 1 27 0) 1 28 1 : mj_m) 1 4 = m 1 4 := by
        rw [wr_e (Or.inr (by decide)), wr_e (Or.inr (by decide)), wr_e (Or.inr (by decide)), wr_e (Or.inr (by decide)), wr_e (Or.inr (by decide)), wr_e (Or.inr (by decide)), wr_e (Or.inr (by decide)), z10 4 (by decide) (by decide) (by decide)]
      rw [y4, ← e4, ← hMA, c2]
    have er : f_X11_start w x m = some (1, mf) := by
      unfold f_X11_start f_X11_machine
      simp only [mj_let]
      rw [r1, ← p1, if_pos h6, show f_X11_isIn w 0 3 = 1 by rw [hw]; decide, if_neg one0, if_neg n3]
      unfold f_X11_start_J43
      rw [b3]
      simp only [mj_b1, mj_let]
      rw [if_neg n3]
      unfold f_X11_start_J84
      rw [x22]
      simp only [mj_let]
      rw [if_neg n0]
      unfold f_X11_start_J107
      rw [if_neg n1]
      unfold f_X11_start_J129
      rw [if_pos n2, ed]
      simp only [mj_b1]
      unfold f_X11_start_J140
      rw [if_neg n3, hmf]
    exact (congrArg (fun z => f_X11_start z x m) hw.symm).trans er
  · have l17 : ∀ j, j ≠ 6 → mj_wrs lc 17 6 5 17 j = LA 17 j := fun j hj => by rw [wr_e (Or.inr hj), c3 17 (by decide) (by decide)]
    refine beg_fin (A := 5) (X := l 17 7) (tm := l 2 4) h0 (fun k hk => ?_) (fun j hj => ?_) ?_ ?_ ?_ ?_ ?_ ?_ ?_ ?_ ?_ ?_ ?_ ?_ ?_ ?_ ?_ ?_ ?_ ?_ ?_ ?_ (fun s hs => ?_) ?_ ?_ ?_ ?_
    · rw [wr_row _ _ _ _ _ (by omega), c3 k (by omega) (by omega), la k (by omega), b4 k (by omega) (by omega) (by omega)]
    · rw [wr_e (Or.inl (by decide)), c4 j hj, la 5 (by decide), b4 5 (by decide) (by decide) (by decide)]
    · obtain ⟨d1, d2, d3⟩ := c8
      have y34 : mf 1 34 = mc 1 34 := by rw [hmf]
      refine ⟨?_, ?_, fun i hi => ?_⟩
      · rw [wr_e (Or.inl (by decide)), y34]
        exact d1
      · rw [y34]
        exact d2
      · rw [y34] at hi
        rw [wr_e (Or.inl (by decide)), hmf]
        exact d3 i hi
    · refine I_led_cg b11 (fun s _ => ?_) ?_ ?_ ?_ ?_ ?_ ?_ ?_ (fun s h1 h2 => ?_)
      · rw [wr_e (Or.inl (by decide)), c3 3 (by decide) (by decide), la 3 (by decide)]
      · rw [wr_row _ _ _ _ _ (by decide), c3 4 (by decide) (by decide), la 4 (by decide)]
      · rw [wr_row _ _ _ _ _ (by decide), c3 46 (by decide) (by decide), la 46 (by decide)]
      all_goals rw [mfn _ (by omega) (by omega) (by omega), ma _ (by omega) (by omega) (by omega) (by omega) (by omega) (by omega) (by omega) (by omega)]
    · rw [wr_e (Or.inl (by decide)), c3 18 (by decide) (by decide), la 18 (by decide), b5]
    · rw [wr_e (Or.inl (by decide)), c3 23 (by decide) (by decide), la 23 (by decide), b6]
    · rw [mfn 24 (by decide) (by decide) (by decide), ma 24 (by decide) (by decide) (by decide) (by decide) (by decide) (by decide) (by decide) (by decide), b8]
    · rw [mfn 25 (by decide) (by decide) (by decide), ma 25 (by decide) (by decide) (by decide) (by decide) (by decide) (by decide) (by decide) (by decide), b9]
    · rw [wr_at, if_pos ⟨rfl, rfl⟩]
    · rw [l17 7 (by decide), hLA]
      simp [wr_at, q17]
    · rw [l17 8 (by decide), hLA]
      simp [wr_at, q17]
    · rw [l17 9 (by decide), hLA]
      simp [wr_at, q17]
    · rw [l17 10 (by decide), hLA]
      simp [wr_at, q17]
    · rw [l17 11 (by decide), hLA]
      simp [wr_at, q17]
    · rw [l17 14 (by decide), hLA]
      simp [wr_at, q17]
    · rw [l17 15 (by decide), hLA]
      simp [wr_at, q17]
    · rw [hmf, c7]
    · rw [mfn 22 (by decide) (by decide) (by decide), hMA]
      simp [wr_at]
      rw [z10 22 (by decide) (by decide) (by decide), p2]
    · rw [mfn 23 (by decide) (by decide) (by decide), hMA]
      simp [wr_at]
      rw [p2]
    · rw [mfn 30 (by decide) (by decide) (by decide), hMA]
      simp [wr_at]
    · rw [mfn 31 (by decide) (by decide) (by decide), hMA]
      simp [wr_at]
    · rw [mfn 32 (by decide) (by decide) (by decide), hMA]
      simp [wr_at]
    · rw [mfn s (by omega) (by omega) (by omega), ma s (by omega) (by omega) (by omega) (by omega) (by omega) (by omega) (by omega) (by omega), z10 s (by omega) (by omega) (by omega)]
    · unfold I_dir
      have k6 : mj_wrs lc 17 6 5 17 6 = 5 := by rw [wr_at, if_pos ⟨rfl, rfl⟩]
      have k11 : mj_wrs lc 17 6 5 17 11 = 0 := by
        rw [l17 11 (by decide), hLA]
        simp [wr_at]
      have k12 : mj_wrs lc 17 6 5 17 12 = 0 := by
        rw [l17 12 (by decide), hLA]
        simp [wr_at]
      have k13 : mj_wrs lc 17 6 5 17 13 = 1 := by
        rw [l17 13 (by decide), hLA]
        simp [wr_at]
      have n26 : mf 1 26 = 1 := by
        rw [mfn 26 (by decide) (by decide) (by decide), hMA]
        simp [wr_at]
      have n27 : mf 1 27 = 0 := by
        rw [mfn 27 (by decide) (by decide) (by decide), hMA]
        simp [wr_at]
      have n28 : mf 1 28 = 1 := by
        rw [mfn 28 (by decide) (by decide) (by decide), hMA]
        simp [wr_at]
      rw [k6, k11, k12, k13, n26, n27, n28]
      refine ⟨Or.inr (Or.inl ⟨rfl, rfl, rfl⟩), fun _ => rfl, ⟨by decide, by decide⟩, fun _ => by decide⟩
    · exact Or.inr (Or.inr rfl)
    · rw [p2]
      exact p2r
    · have := g_rng.2.2.2.2.1
      unfold rg at this ⊢
      grind
  · refine Fl.k ?_ ?_
    · rw [wr_row _ _ _ _ _ (by decide), c3 33 (by decide) (by decide), la 33 (by decide), b4 33 (by decide) (by decide) (by decide)]
    · rw [wr_row _ _ _ _ _ (by decide), c3 38 (by decide) (by decide), la 38 (by decide), b4 38 (by decide) (by decide) (by decide)]
  · refine (Fm.wr0 (j := 0) (x := 0) (by decide)).tr (Fm.k (fun q hq => ?_))
    rw [hmf, c5 q hq, mp q hq, b7 q hq]
  · rw [mfn s (by omega) (by omega) (by omega), ma s (by omega) (by omega) (by omega) (by omega) (by omega) (by omega) (by omega) (by omega), z10 s (by omega) (by omega) (by omega)]
