/-! the timer -/
theorem givesUp_pair {l m : mj_m} {pl : Nat → Int32} {pm : PM} {e u v T : Nat} (h : I_lk0 l (m 1) pl pm e u v T) (he : e ≤ 20000) (hu : u < 2 ^ 29) (h6 : ¬ l 17 6 = 6) : ∃ l' m' : mj_m, f_X8_giveUp l = some l' ∧ f_X11_givesUp m = some m' ∧ I_lk0 l' (m' 1) pl pm e (u + 1) v T ∧ H_ok l m l' m' := by
  have h0 := h
  obtain ⟨⟨g_set, g_rng, g_tick⟩, g_rec, ⟨g_mach, g_line, g_sent, g_pass, g_dir, g_rep, g_st⟩, g_led, g_dia, g_plan⟩ := h0
  obtain ⟨⟨p1, p1r⟩, ⟨p2, p2r⟩, ⟨p3, p3r⟩, p4, p5, ⟨p6, p6r⟩, p7⟩ := id g_mach
  have held : l 17 11 = 0 := by
    by_cases z : l 17 11 = 0
    · exact z
    · exact absurd (g_st.1 z) h6
  have h5r : l 17 6 ≤ 5 := by
    obtain ⟨q1, q2⟩ := p1r
    grind
  unfold f_X8_giveUp f_X11_givesUp
  rw [← g_set.2.2.2.2.2.2.1]
  by_cases hm : l 2 5 = 0
  · rw [if_pos hm, if_pos hm, id1, id1]
    obtain ⟨l', m', a1, a2, a3, a4, -⟩ := al_pair h.w he hu 5 ⟨by decide, by decide⟩
    exact ⟨l', m', a1, a2, a3, a4⟩
  · rw [if_neg hm, if_neg hm, id1]
    unfold f_X11_suspends f_X11_machine
    rw [lts, lts, lts, ← p1]
    obtain ⟨lc, mc, c1, c2, c3, c4, c5, c6, c7, c8⟩ := chg (a := mj_wrs l 17 11 (l 17 6) 17 6) (b := 6) (l := mj_wrs l 17 11 (l 17 6)) (m := mj_wrs m 1 32 (l 17 6)) (by
      obtain ⟨f1, f2, f3⟩ := g_dia.1
      refine ⟨by simp (disch := omega) only [wr_e]; exact f1, by simp (disch := omega) only [wr_e]; exact f2, fun i hi => ?_⟩
      simp (disch := omega) only [wr_e] at hi ⊢
      exact f3 i hi) (by simp (disch := omega) only [wr_e]; exact g_tick.1) (by simp (disch := omega) only [wr_e]; exact p1)
    rw [c1, b2s, c2, b1s]
    simp only [lts]
    have k6 : mj_wrs (mj_wrs lc 17 6 6) 17 10 0 17 6 = 6 := by simp (disch := omega) only [wr_e, rs]
    have k10 : mj_wrs (mj_wrs lc 17 6 6) 17 10 0 17 10 = 0 := rs _ _ _ _
    have k11 : mj_wrs (mj_wrs lc 17 6 6) 17 10 0 17 11 = l 17 6 := by
      simp (disch := omega) only [wr_e, c3, rs]
    have kj : ∀ j, j ≠ 6 → j ≠ 10 → j ≠ 11 → mj_wrs (mj_wrs lc 17 6 6) 17 10 0 17 j = l 17 j := fun j a b c => by simp (disch := omega) only [wr_e, c3]
    have kk : ∀ k, k ≠ 5 → k ≠ 6 → k ≠ 17 → mj_wrs (mj_wrs lc 17 6 6) 17 10 0 k = l k := fun k a b c => by simp (disch := omega) only [wr_row, c3]
    have n21 : mj_wrs mc 1 31 0 1 21 = 6 - 6 := by simp (disch := omega) only [wr_e, c7]
    have n31 : mj_wrs mc 1 31 0 1 31 = 0 := rs _ _ _ _
    have n32 : mj_wrs mc 1 31 0 1 32 = l 17 6 := by simp (disch := omega) only [wr_e, c6, rs]
    have ns : ∀ s, s ≠ 21 ∧ s ≠ 31 ∧ s ≠ 32 ∧ s ≠ 34 ∧ (s < 179 ∨ 418 < s) → mj_wrs mc 1 31 0 1 s = m 1 s := fun s hs => by simp (disch := omega) only [wr_e, c6]
    have h5' : ∀ j, j ≠ 2 → mj_wrs (mj_wrs lc 17 6 6) 17 10 0 5 j = l 5 j := fun j hj => by simp (disch := omega) only [wr_e, c4]
    have hD : D_ok (mj_wrs (mj_wrs lc 17 6 6) 17 10 0) (mj_wrs mc 1 31 0 1) := by
      obtain ⟨f1, f2, f3⟩ := c8
      refine ⟨?_, ?_, fun i hi => ?_⟩
      · simp (disch := omega) only [wr_e]
        exact f1
      · simp (disch := omega) only [wr_e]
        exact f2
      · simp (disch := omega) only [wr_e] at hi
        simp (disch := omega) only [wr_e]
        exact f3 i hi
    have hp' : ∀ p, p ≠ 1 → mj_wrs mc 1 31 0 p = m p := fun p hp => by simp (disch := omega) only [wr_row, c5]
    generalize mj_wrs (mj_wrs lc 17 6 6) 17 10 0 = L at *
    generalize mj_wrs mc 1 31 0 = Q at *
    refine ⟨L, Q, rfl, rfl, I_lk0_mono (snd_fin h.w (fun k hk => kk k hk.1 hk.2.1 hk.2.2.1) h5' hD ?_ ?_ ?_ ?_ (fun i hi => ?_) (fun s hs => ns s (by omega))), ⟨fun k k1 k2 => kk k (by omega) (by omega) (by omega), hp', fun s hs => ns s (by omega)⟩⟩
    · unfold I_mach
      rw [k6, n21, kj 7 (by decide) (by decide) (by decide), ns 22 (by omega), kj 8 (by decide) (by decide) (by decide), ns 23 (by omega), kj 9 (by decide) (by decide) (by decide), ns 30 (by omega), k10, n31, k11, n32, kj 15 (by decide) (by decide) (by decide), ns 39 (by omega)]
      exact ⟨⟨by decide, by decide, by decide⟩, ⟨p2, p2r⟩, ⟨p3, p3r⟩, p4, ⟨rfl, by decide, by decide⟩, ⟨rfl, by have := p1r.1; grind, h5r⟩, p7⟩
    · obtain ⟨q1, q2, q3, q4⟩ := g_dir
      unfold I_dir
      rw [k6, k11, kj 12 (by decide) (by decide) (by decide), kj 13 (by decide) (by decide) (by decide), ns 26 (by omega), ns 27 (by omega)]
      refine ⟨q1, fun z => absurd z (by decide), q3, fun z => ?_⟩
      rcases z with z | z
      · exact absurd z (by decide)
      · exact q4 (Or.inl z)
    · exact I_rep_cg g_rep (kj 14 (by decide) (by decide) (by decide)) (ns 45 (by omega)) (ns 46 (by omega)) (ns 47 (by omega))
    · unfold I_st
      rw [k6, k11, ns 23 (by omega), ns 22 (by omega), ns 25 (by omega), ns 24 (by omega), n31]
      refine ⟨fun _ => rfl, fun _ => g_st.2.1 (Or.inl h5r), fun _ z => ?_, fun _ => rfl⟩
      refine g_st.2.2.1 ?_ (by rw [held]; unfold rg; decide)
      have := p1r.1
      unfold rg at z
      grind
    · have i20 : i < 20 := Nat.lt_of_lt_of_le hi g_sent.2.1.2
      rw [kk 27 (by decide) (by decide) (by decide), ns _ (by omega)]
      obtain ⟨q1, q2, q3, q4, q5, q6⟩ := g_sent.2.2 i hi
      exact ⟨q5, q6⟩
/-- only the timer is other -/
theorem tm_fin {l m : mj_m} {pl : Nat → Int32} {pm : PM} {e u v T : Nat} (h : I_lk0 l (m 1) pl pm e u v T) {y : Int32} (hy : rg 0 y 99) (h6 : ¬ l 17 6 = 6) : I_lk0 (mj_wrs l 17 10 y) (mj_wrs m 1 31 y 1) pl pm e u v T ∧ H_ok l m (mj_wrs l 17 10 y) (mj_wrs m 1 31 y) := by
  have hl : ∀ k, k ≠ 17 → mj_wrs l 17 10 y k = l k := fun k hk => wr_row _ _ _ _ _ hk
  have hj : ∀ j, j ≠ 10 → mj_wrs l 17 10 y 17 j = l 17 j := fun j hj => wr_e (Or.inr hj)
  have hn : ∀ s, s ≠ 31 → mj_wrs m 1 31 y 1 s = m 1 s := fun s hs => wr_e (Or.inr hs)
  refine ⟨?_, ⟨fun k k1 k2 => hl k (by omega), fun p hp => wr_row _ _ _ _ _ hp, fun s hs => hn s (by omega)⟩⟩
  obtain ⟨⟨g_set, g_rng, g_tick⟩, g_rec, ⟨g_mach, g_line, g_sent, g_pass, g_dir, g_rep, g_st⟩, g_led, g_dia, g_plan⟩ := h
  refine ⟨⟨I_set_cg g_set (by rw [hl 1 (by omega)]) (hl 2 (by omega)) (hn 12 (by omega)) (fun s _ => hn s (by omega)), I_rng_cg g_rng (hl 2 (by omega)), I_tick_cg g_tick (by rw [hl 1 (by omega)]) (hn 11 (by omega))⟩, I_rec_cg (I_rec_mono g_rec) (fun k _ _ => hl k (by omega)) (hn 38 (by omega)) (fun s _ _ => hn s (by omega)) (fun s _ _ => hn s (by omega)) (fun s _ _ => hn s (by omega)), ⟨?_, I_line_cg g_line (by rw [hl 18 (by omega)]) (hl 19 (by omega)) (hl 21 (by omega)) (hn 24 (by omega)) (hn 40 (by omega)) (fun s _ _ => hn s (by omega)), I_sent_cg g_sent (fun k _ _ => hl k (by omega)) (hn 22 (by omega)) (hn 24 (by omega)) (hn 25 (by omega)) (hn 40 (by omega)) (fun s _ _ => hn s (by omega)), I_pass_cg g_pass (by rw [hl 28 (by omega)]) (hl 29 (by omega)) (hn 29 (by omega)) (fun s _ _ => hn s (by omega)), ?_, ?_, ?_⟩, I_led_cg (I_led_mono g_led) (fun _ _ => by rw [hl 3 (by omega)]) (hl 4 (by omega)) (hl 46 (by omega)) (hn 11 (by omega)) (hn 19 (by omega)) (hn 24 (by omega)) (hn 25 (by omega)) (hn 40 (by omega)) (fun s _ _ => hn s (by omega)), I_dia_cg (I_dia_mono g_dia) (fun k _ _ => hl k (by omega)) (hn 33 (by omega)) (hn 34 (by omega)) (hn 48 (by omega)) (fun s _ _ => hn s (by omega)), I_plan_cg g_plan (fun k _ _ => hl k (by omega)) (hn 49 (by omega))⟩
  · obtain ⟨p1, p2, p3, p4, p5, p6, p7⟩ := g_mach
    unfold I_mach
    rw [hj 6 (by decide), hj 7 (by decide), hj 8 (by decide), hj 9 (by decide), hj 11 (by decide), hj 15 (by decide), hn 21 (by decide), hn 22 (by decide), hn 23 (by decide), hn 30 (by decide), hn 32 (by decide), hn 39 (by decide), rs, rs]
    exact ⟨p1, p2, p3, p4, ⟨rfl, hy⟩, p6, p7⟩
  · exact I_dir_cg g_dir (fun j hj' => hj j (by omega)) (fun s hs => hn s (by omega))
  · exact I_rep_cg g_rep (hj 14 (by decide)) (hn 45 (by decide)) (hn 46 (by decide)) (hn 47 (by decide))
  · unfold I_st
    rw [hj 6 (by decide), hj 11 (by decide), hn 22 (by decide), hn 23 (by decide), hn 24 (by decide), hn 25 (by decide)]
    exact ⟨g_st.1, g_st.2.1, g_st.2.2.1, fun z => absurd z h6⟩
theorem marks_pair {l m : mj_m} {pl : Nat → Int32} {pm : PM} {e u v T : Nat} (h : I_lk0 l (m 1) pl pm e u v T) (h6 : ¬ l 17 6 = 6) : ∃ l' m' : mj_m, f_X8_markAll l = some l' ∧ f_X11_marks m = some m' ∧ I_lk0 l' (m' 1) pl pm e u v T ∧ H_ok l m l' m' := by
  have h0 := h
  obtain ⟨⟨g_set, g_rng, g_tick⟩, g_rec, ⟨g_mach, g_line, g_sent, g_pass, g_dir, g_rep, g_st⟩, g_led, g_dia, g_plan⟩ := h0
  obtain ⟨⟨p1, p1r⟩, ⟨p2, p2r⟩, ⟨p3, p3r⟩, p4, p5, ⟨p6, p6r⟩, p7⟩ := id g_mach
  obtain ⟨q, hq20, eq, cq⟩ := cn_i g_sent.2.1
  have hmk : ∀ i, i < q → l 27 i = m 1 (86 + i) ∧ rg 0 (m 1 (86 + i)) 1 := fun i hi => by
    obtain ⟨q1, q2, q3, q4, q5, q6⟩ := g_sent.2.2 i (by omega)
    exact ⟨q5, q6⟩
  obtain ⟨l', m', k1, k2, k3, k4, k5, k6, k7, k8, k9, k10, k11, k12⟩ := mrk p1 (by rw [g_sent.1, eq]) eq hq20 g_set.2.2.2.2.2.1 p4 hmk
  have pat := g_rng.2.2.2.2.1
  refine ⟨l', m', k1, k2, snd_fin h.w (fun k hk => k3 k hk.2.2.1 hk.2.2.2) (fun j _ => by rw [k3 5 (by decide) (by decide)]) ?_ ?_ ?_ ?_ ?_ (fun i hi => k10 i (by omega)) (fun s hs => k6 s (by omega) (by omega) (by omega) (by omega)), ⟨fun k _ _ => k3 k (by omega) (by omega), k5, fun s hs => k6 s (by omega) (by omega) (by omega) (by omega)⟩⟩
  · obtain ⟨f1, f2, f3⟩ := g_dia.1
    have e34 : m' 1 34 = m 1 34 := k6 34 (by decide) (by decide) (by decide) (by omega)
    refine ⟨by rw [k3 5 (by decide) (by decide), e34]; exact f1, by rw [e34]; exact f2, fun i hi => ?_⟩
    rw [e34] at hi
    rw [k3 6 (by decide) (by decide), k6 _ (by omega) (by omega) (by omega) (by omega)]
    exact f3 i hi
  · unfold I_mach
    rw [k4 6 (by decide) (by decide) (by decide), k6 21 (by decide) (by decide) (by decide) (by omega), k4 7 (by decide) (by decide) (by decide), k6 22 (by decide) (by decide) (by decide) (by omega), k4 8 (by decide) (by decide) (by decide), k6 23 (by decide) (by decide) (by decide) (by omega), k8, k9, k4 11 (by decide) (by decide) (by decide), k6 32 (by decide) (by decide) (by decide) (by omega), k4 15 (by decide) (by decide) (by decide), k6 39 (by decide) (by decide) (by decide) (by omega)]
    exact ⟨⟨p1, p1r⟩, ⟨p2, p2r⟩, ⟨p3, p3r⟩, k7, ⟨rfl, by have := pat.1; grind, pat.2⟩, ⟨p6, p6r⟩, p7⟩
  · obtain ⟨q1, q2, q3, q4⟩ := g_dir
    unfold I_dir
    rw [k4 6 (by decide) (by decide) (by decide), k4 11 (by decide) (by decide) (by decide), k4 12 (by decide) (by decide) (by decide), k6 26 (by decide) (by decide) (by decide) (by omega), k6 27 (by decide) (by decide) (by decide) (by omega), k11, k12]
    refine ⟨q1, fun z => by rw [if_pos z, if_pos z], ?_, q4⟩
    split
    · exact ⟨by decide, by decide⟩
    · exact q3
  · exact I_rep_cg g_rep (k4 14 (by decide) (by decide) (by decide)) (k6 45 (by decide) (by decide) (by decide) (by omega)) (k6 46 (by decide) (by decide) (by decide) (by omega)) (k6 47 (by decide) (by decide) (by decide) (by omega))
  · unfold I_st
    rw [k4 6 (by decide) (by decide) (by decide), k4 11 (by decide) (by decide) (by decide), k6 22 (by decide) (by decide) (by decide) (by omega), k6 23 (by decide) (by decide) (by decide) (by omega), k6 24 (by decide) (by decide) (by decide) (by omega), k6 25 (by decide) (by decide) (by decide) (by omega)]
    exact ⟨g_st.1, g_st.2.1, g_st.2.2.1, fun z => absurd z h6⟩
def tmR (m : mj_m) : Option mj_m := if m 1 31 ≤ 0 then some m else if m 1 31 - 1 = 0 then f_X11_runsOut (mj_wrs m 1 31 (m 1 31 - 1)) else some (mj_wrs m 1 31 (m 1 31 - 1))
theorem timer {l m : mj_m} {pl : Nat → Int32} {pm : PM} {e u v T : Nat} (h : I_lk0 l (m 1) pl pm e u v T) (he : e ≤ 20000) (hu : u < 2 ^ 29) : ∃ l' m' : mj_m, f_X8_runTimer l = some l' ∧ tmR m = some m' ∧ I_lk0 l' (m' 1) pl pm e (u + 1) v T ∧ H_ok l m l' m' ∧ (l 17 6 = 6 → l' 17 6 = 6) := by
  have h0 := h
  obtain ⟨⟨g_set, g_rng, g_tick⟩, g_rec, ⟨g_mach, g_line, g_sent, g_pass, g_dir, g_rep, g_st⟩, g_led, g_dia, g_plan⟩ := h0
  obtain ⟨⟨p1, p1r⟩, -, -, p4, ⟨p5, p5r⟩, -⟩ := id g_mach
  obtain ⟨t, ht, et⟩ : ∃ t : Nat, t ≤ 99 ∧ m 1 31 = nI t := by
    obtain ⟨t, ht, e⟩ := byN ⟨p5r.1, Int32.le_trans p5r.2 (by decide)⟩
    refine ⟨t, ?_, e⟩
    have := p5r.2
    rw [e] at this
    exact (nI_leI (b := 99) (by omega) (by decide)).mp this
  unfold f_X8_runTimer tmR
  rw [p5, et]
  rcases Nat.eq_zero_or_pos t with z | z
  · subst z
    rw [if_pos (by decide), if_pos (by decide)]
    exact ⟨l, m, rfl, rfl, I_lk0_mono h, ⟨fun _ _ _ => rfl, fun _ _ => rfl, fun _ _ => rfl⟩, fun z => z⟩
  · have h6 : ¬ l 17 6 = 6 := fun y => by
      have := g_st.2.2.2 y
      rw [et] at this
      exact nI_ne0 z (by omega) this
    rw [if_neg (nI_ne0 z (by omega)), if_neg (nI_nle z (by omega)), lts, nI_p z, rs]
    obtain ⟨a1, a2⟩ := tm_fin (y := nI (t - 1)) h ⟨nI_pos' (by omega), nI_le (b := 99) (by omega) (by decide)⟩ h6
    have e6 : mj_wrs l 17 10 (nI (t - 1)) 17 6 = l 17 6 := wr_e (Or.inr (by decide))
    by_cases h1 : t = 1
    · subst h1
      rw [if_pos (show nI (1 - 1) ≤ 0 by decide), if_pos (show nI (1 - 1) = 0 by decide)]
      have b0 := a1
      obtain ⟨⟨b_set, b_rng, b_tick⟩, -, ⟨b_mach, -⟩, -⟩ := b0
      unfold f_X11_runsOut f_X11_machine f_X11_runsOut_J25
      simp only [lts]
      rw [set3, b1s]
      rw [← b_set.2.2.2.2.1, ← b_mach.1.1, ← b_mach.2.2.2.1]
      simp only [id1]
      have h6' : ¬ mj_wrs l 17 10 (nI (1 - 1)) 17 6 = 6 := by rw [e6]; exact h6
      by_cases h4 : mj_wrs l 17 10 (nI (1 - 1)) 17 6 = 4
      · rw [if_pos h4, if_pos h4, if_pos h4, ite_self]
        obtain ⟨l', m', c1, c2, c3, c4⟩ := givesUp_pair a1 he hu h6'
        exact ⟨l', m', c1, c2, c3, a2.tr c4, fun y => absurd y h6⟩
      · rw [if_neg h4, if_neg h4, if_neg h4]
        by_cases ht : mj_wrs l 17 10 (nI (1 - 1)) 17 9 < mj_wrs l 17 10 (nI (1 - 1)) 2 3
        · rw [if_pos ht, if_pos ht, if_pos trivial]
          by_cases h3 : mj_wrs l 17 10 (nI (1 - 1)) 17 6 = 3
          · rw [if_pos h3, if_pos h3, set4, b1s, ← b_set.2.2.2.2.2.1]
            have pat := b_rng.2.2.2.2.1
            obtain ⟨c1, c2⟩ := tm_fin (y := mj_wrs l 17 10 (nI (1 - 1)) 2 4) a1 ⟨by have := pat.1; grind, pat.2⟩ h6'
            exact ⟨_, _, rfl, rfl, I_lk0_mono c1, a2.tr c2, fun y => absurd y h6⟩
          · rw [if_neg h3, if_neg h3]
            obtain ⟨l', m', c1, c2, c3, c4⟩ := marks_pair a1 h6'
            exact ⟨l', m', c1, c2, I_lk0_mono c3, a2.tr c4, fun y => absurd y h6⟩
        · rw [if_neg ht, if_neg ht, if_neg one0]
          obtain ⟨l', m', c1, c2, c3, c4⟩ := givesUp_pair a1 he hu h6'
          exact ⟨l', m', c1, c2, c3, a2.tr c4, fun y => absurd y h6⟩
    · rw [if_neg (nI_nle (by omega) (by omega)), if_neg (nI_ne0 (by omega) (by omega))]
      exact ⟨_, _, rfl, rfl, I_lk0_mono a1, a2, fun y => absurd y h6⟩
