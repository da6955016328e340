/-! a frame comes, on both sides -/
theorem cnt4 {x : Int32} (h : rg 0 x 3) : (x + 1) &&& 3 = mj_rem (x + 1) 4 ∧ rg 0 ((x + 1) &&& 3) 3 := by
  rcases four h with rfl | rfl | rfl | rfl <;> exact ⟨by decide, by decide, by decide⟩
theorem rec_past {l l' : mj_m} {n n' : Nat → Int32} {v : Nat} {x : Int32} {o : Nat} (h : I_rec l n v) (hv : v < 2 ^ 28) (ho : n 20 = nI o) (hov : o ≤ v) (l16 : ∀ i, l' 16 i = if i = o ∧ o < 100 then x else l 16 i) (l911 : l' 9 11 = nI (o + 1)) (n20 : n' 20 = nI (o + 1)) (h519 : ∀ i, i < 100 → n' (519 + i) = if i = o then x else n (519 + i)) (hl9 : ∀ j, j ≠ 6 → j ≠ 11 → l' 9 j = l 9 j) (hl : ∀ k, 10 ≤ k → k ≤ 15 → l' k = l k) (hn : ∀ s, (13 ≤ s ∧ s ≤ 19 ∧ s ≠ 17) ∨ s = 38 ∨ (50 ≤ s ∧ s ≤ 57) ∨ (419 ≤ s ∧ s ≤ 518) → n' s = n s) (c6 : l' 9 6 = n' 17 ∧ rg 0 (n' 17) 3) : I_rec l' n' (v + 1) := by
  obtain ⟨p1, p2, p3, p4, p5, ⟨p6, p7, p8⟩, ⟨p9, p10, p11⟩, ⟨p12, p13, p14⟩, p15⟩ := h
  refine ⟨?_, ?_, ?_, ?_, c6, ⟨?_, ?_, fun i hi => ?_⟩, ⟨?_, ?_, fun i hi h1 => ?_⟩, ⟨by rw [l911, n20], by rw [n20]; exact cn_mk (by omega) (by omega), fun i hi h1 => ?_⟩, ?_⟩
  · rw [hl9 2 (by decide) (by decide), hn 13 (by omega)]
    exact p1
  · rw [hl9 3 (by decide) (by decide), hn 14 (by omega)]
    exact p2
  · rw [hl9 4 (by decide) (by decide), hn 15 (by omega)]
    exact p3
  · rw [hl9 5 (by decide) (by decide), hn 16 (by omega)]
    exact p4
  · rw [hl 10 (by decide) (by decide), hn 18 (by omega)]
    exact p6
  · rw [hn 18 (by omega)]
    exact p7
  · rw [hn 18 (by omega)] at hi
    rw [hl 11 (by decide) (by decide), hn _ (by have := p7.2; omega)]
    exact p8 i hi
  · rw [hl9 9 (by decide) (by decide), hn 19 (by omega)]
    exact p9
  · rw [hn 19 (by omega)]
    exact cn_mono p10 (by omega)
  · rw [hn 19 (by omega)] at hi
    rw [hl 15 (by decide) (by decide), hn _ (by omega)]
    exact p11 i hi h1
  · rw [n20, clI (by omega)] at hi
    rw [l16, h519 i h1]
    by_cases z : i = o
    · rw [if_pos ⟨z, by omega⟩, if_pos z]
    · rw [if_neg (fun y => z y.1), if_neg z]
      exact p14 i (by rw [ho, clI (by omega)]; omega) h1
  · rw [hl9 12 (by decide) (by decide), hn 38 (by omega)]
    exact p15
theorem cF_bad {m : mj_m} (h : f_X11_isGoodFrame m = 0) : f_X11_comesFrame m = some (mj_wrs m 1 38 (m 1 38 + 1)) := by
  unfold f_X11_comesFrame f_X11_comesFrame_J49 f_X11_comesFrame_J96
  rw [h, lts, if_pos rfl, if_pos rfl, if_pos rfl, if_pos rfl, m38, b1s]
theorem cF_0 {m : mj_m} (h : f_X11_isGoodFrame m = 1) (h0 : m 3 0 = 0) : f_X11_comesFrame m = tkR (m 3 1) (256 * m 3 2 + m 3 3) m := by
  unfold f_X11_comesFrame tkR
  rw [h, lts, if_neg one0, if_pos h0]
theorem cF_1 {m : mj_m} (h : f_X11_isGoodFrame m = 1) (h0 : m 3 0 = 1) : f_X11_comesFrame m = mj_b1 (f_X11_keeps 519 20 (256 * m 3 2 + m 3 3) m) (fun m12 => some (f_X11_counts m12)) := by
  unfold f_X11_comesFrame f_X11_comesFrame_J49
  rw [h, lts, if_neg one0, if_neg (by rw [h0]; exact one0), if_neg one0, if_pos h0]
  congr 1
theorem cF_2 {m : mj_m} (h : f_X11_isGoodFrame m = 1) (h0 : ¬ m 3 0 = 0) (h1 : ¬ m 3 0 = 1) : f_X11_comesFrame m = some (f_X11_isDirected (m 3 2) (m 3 3) m) := by
  unfold f_X11_comesFrame f_X11_comesFrame_J49 f_X11_comesFrame_J96
  rw [h, lts, if_neg one0, if_neg h0, if_neg one0, if_neg h1, if_neg one0, lts, if_neg one0]
theorem meet_e {l : mj_m} {b : Nat → Int32} (hby : ∀ k, k < 5 → f_X9_byteOf 33 0 (nI k) l = some (b k)) : f_X6_meet l = if (b 0 + b 1 + b 2 + b 3 + 85) &&& 255 = b 4 then (if f_X6_isGood (b 0) (b 2) (b 3) = 0 then (some (mj_wrs l 9 12 (l 9 12 + 1))) else (if b 0 = 0 then (mj_b1 (f_X9_lineOf 33 0 l) (fun r24 => f_X6_meetInOrder (b 1) ((256 * b 2) + b 3) r24 l)) else (if b 0 = 1 then f_X6_keepPast ((256 * b 2) + b 3) (mj_wrs l 9 6 (((l 9 6) + 1) &&& 3)) else some (f_X6_obey (b 2) (b 3) (mj_wrs l 9 6 (((l 9 6) + 1) &&& 3)))))) else some (mj_wrs l 9 12 (l 9 12 + 1)) := by
  have h0 : f_X9_byteOf 33 0 0 l = some (b 0) := hby 0 (by decide)
  have h1 : f_X9_byteOf 33 0 1 l = some (b 1) := hby 1 (by decide)
  have h2 : f_X9_byteOf 33 0 2 l = some (b 2) := hby 2 (by decide)
  have h3 : f_X9_byteOf 33 0 3 l = some (b 3) := hby 3 (by decide)
  have h4 : f_X9_byteOf 33 0 4 l = some (b 4) := hby 4 (by decide)
  unfold f_X6_meet f_X6_meet_J70
  rw [h0, b1s, h1, b1s, h2, b1s, h3, b1s, lts, h4, b1s]
  simp only [lts]
  have id1 : ∀ x : Option mj_m, mj_b1 x (fun y => some y) = x := fun x => by cases x <;> rfl
  simp only [id1]
set_option maxHeartbeats 1000000 in
theorem meet_core {l m : mj_m} {pl : Nat → Int32} {pm : PM} {e u v T : Nat} (h : I_lk0 l (m 1) pl pm e u v T) (he : e ≤ 20000) (hv : v < 2 ^ 28) (hT : T ≤ 20000) {b : Nat → Int32} {line : Int32} {L : Nat} (hb : ∀ k, k < 5 → m 3 k = b k) (hbr : ∀ k, k < 5 → rg 0 (b k) 255) (hby : ∀ k, k < 5 → f_X9_byteOf 33 0 (nI k) l = some (b k)) (hln : f_X9_lineOf 33 0 l = some line) (h04 : m 0 4 = nI L) (hL : L ≤ mj_cl (m 1 40)) (hline : line = if L = 0 then -1 else lnum (L - 1)) : ∃ l' m' : mj_m, f_X6_meet l = some l' ∧ f_X11_comesFrame m = some m' ∧ I_lk0 l' (m' 1) pl pm e u (v + 1) T ∧ M_ok l m l' m' := by
  obtain ⟨p1, p2, p3, p4, p5, p6, -, p12, p15⟩ := h.2.1
  have hg := good_eq (m := m) (by rw [hb 0 (by decide)]; exact hbr 0 (by decide)) (by rw [hb 2 (by decide)]; exact hbr 2 (by decide)) (by rw [hb 3 (by decide)]; exact hbr 3 (by decide))
  rw [hb 0 (by decide), hb 1 (by decide), hb 2 (by decide), hb 3 (by decide), hb 4 (by decide)] at hg
  have bad : f_X6_meet l = some (mj_wrs l 9 12 (l 9 12 + 1)) → f_X11_isGoodFrame m = 0 → ∃ l' m' : mj_m, f_X6_meet l = some l' ∧ f_X11_comesFrame m = some m' ∧ I_lk0 l' (m' 1) pl pm e u (v + 1) T ∧ M_ok l m l' m' := fun a b => ⟨_, _, a, cF_bad b, mo_no h (A := m 1 14) (W := m 1 15) (R := m 1 16) p2.2 p3.2 p4.2 (fun k hk => wr_row _ _ _ _ _ hk) (fun j a b c d => wr_e (Or.inr d)) (by rw [wr_e (Or.inr (by decide)), p2.1]) (by rw [wr_e (Or.inr (by decide)), p3.1]) (by rw [wr_e (Or.inr (by decide)), p4.1]) (rs _ _ _ _) (fun p hp => wr_row _ _ _ _ _ hp) (fun s a b c d => wr_e (Or.inr d)) (wr_e (Or.inr (by decide))) (wr_e (Or.inr (by decide))) (wr_e (Or.inr (by decide))) (rs _ _ _ _)⟩
  have em := meet_e hby
  by_cases hs : (b 0 + b 1 + b 2 + b 3 + 85) &&& 255 = b 4
  · rw [if_pos hs] at hg em
    by_cases hgd : f_X6_isGood (b 0) (b 2) (b 3) = 0
    · rw [if_pos hgd] at em
      exact bad em (by rw [hg, hgd])
    · have hg1 : f_X6_isGood (b 0) (b 2) (b 3) = 1 := by
        unfold f_X6_isGood at hgd ⊢
        simp only [lts] at hgd ⊢
        split at hgd <;> split at hgd <;> simp_all
      rw [hg1] at hg
      rw [if_neg hgd] at em
      by_cases h0 : b 0 = 0
      · rw [if_pos h0, hln, b1s] at em
        obtain ⟨l', m', e1, e2, e3, e4⟩ := mo_pair (n := b 1) (cmd := 256 * b 2 + b 3) h he hv hT h04 hL hline
        refine ⟨l', m', em.trans e1, ?_, e3, e4⟩
        rw [cF_0 hg (by rw [hb 0 (by decide), h0]), hb 1 (by decide), hb 2 (by decide), hb 3 (by decide), e2]
      · rw [if_neg h0] at em
        obtain ⟨ct1, ct2⟩ := cnt4 p5.2
        by_cases h1 : b 0 = 1
        · -- past
          rw [if_pos h1] at em
          obtain ⟨o, ho, eo, co⟩ := cn_i p12.2.1
          obtain ⟨mk, q1, q2, q3, q4, q5⟩ := keeps_eq (R := 519) (Q := 20) (x := 256 * b 2 + b 3) (m := m) (by decide) (by decide) (by decide) eo (by omega)
          have l18k : ∀ k, k ≠ 9 → mj_wrs l 9 6 ((l 9 6 + 1) &&& 3) k = l k := fun k hk => wr_row _ _ _ _ _ hk
          have l18 : mj_wrs l 9 6 ((l 9 6 + 1) &&& 3) 9 11 = nI o := by rw [wr_e (Or.inr (by decide)), p12.1, eo]
          obtain ⟨lk, k1, k2, k3⟩ := ckeep (l := mj_wrs l 9 6 ((l 9 6 + 1) &&& 3)) (x := 256 * b 2 + b 3) (o := o) (a := 9) (b := 11) l18 (by omega) (by decide) 16 (by decide)
          have J : ∀ x : mj_m, x 9 11 = nI o → f_X6_keepPast_J19 x = some (mj_wrs x 9 11 (nI (o + 1))) := fun x x9 => by
            unfold f_X6_keepPast_J19
            rw [lts, x9, nI_1]
          have ek : f_X6_keepPast (256 * b 2 + b 3) (mj_wrs l 9 6 ((l 9 6 + 1) &&& 3)) = some (mj_wrs lk 9 11 (nI (o + 1))) := by
            unfold f_X6_keepPast
            rw [l18] at k1 ⊢
            by_cases z : (100 : Int32) ≤ nI o
            · rw [if_pos z] at k1 ⊢
              cases k1
              exact J _ l18
            · rw [if_neg z] at k1 ⊢
              have z' : o < 100 := by
                rcases Nat.lt_or_ge o 100 with y | y
                · exact y
                · exact absurd (nI_le (a := 100) y (by omega)) z
              rw [chk_t (okI z' (by decide))] at k1 ⊢
              cases k1
              rw [lts]
              exact J _ (by rw [wr_e (Or.inl (by decide)), l18])
          have hl : ∀ k, k ≠ 9 ∧ k ≠ 16 → mj_wrs lk 9 11 (nI (o + 1)) k = l k := fun k hk => by rw [wr_row _ _ _ _ _ hk.1, k2 k hk.2, l18k k hk.1]
          have hn : ∀ s, s ≠ 17 ∧ s ≠ 20 ∧ (s < 519 ∨ 619 ≤ s) → mj_wrs mk 1 17 (mj_rem (m 1 17 + 1) 4) 1 s = m 1 s := fun s hs => by rw [wr_e (Or.inr hs.1), q4 s hs.2.1 hs.2.2]
          refine ⟨_, mj_wrs mk 1 17 (mj_rem (m 1 17 + 1) 4), em.trans ek, ?_, ?_, fun k _ _ _ hk => hl k (by omega), fun p hp => by rw [wr_row _ _ _ _ _ hp, q2 p hp], fun s s1 s2 s3 s4 s5 => hn s (by omega)⟩
          · rw [cF_1 hg (by rw [hb 0 (by decide), h1]), hb 2 (by decide), hb 3 (by decide), show (519 : Int32) = nI 519 from rfl, show (20 : Int32) = nI 20 from rfl, q1, b1s]
            unfold f_X11_counts
            rw [lts, q4 17 (by decide) (by omega)]
          · obtain ⟨⟨g_set, g_rng, g_tick⟩, g_rec, ⟨g_mach, g_line, g_sent, g_pass, g_dir, g_rep, g_st⟩, g_led, g_dia, g_plan⟩ := h
            refine ⟨⟨I_set_cg g_set (by rw [hl 1 (by omega)]) (hl 2 (by omega)) (hn 12 (by omega)) (fun s _ => hn s (by omega)), I_rng_cg g_rng (hl 2 (by omega)), I_tick_cg g_tick (by rw [hl 1 (by omega)]) (hn 11 (by omega))⟩, ?_, ⟨I_mach_cg g_mach (fun _ _ => by rw [hl 17 (by omega)]) (fun s _ => hn s (by omega)), I_line_cg g_line (by rw [hl 18 (by omega)]) (hl 19 (by omega)) (hl 21 (by omega)) (hn 24 (by omega)) (hn 40 (by omega)) (fun s _ _ => hn s (by omega)), I_sent_cg g_sent (fun k _ _ => hl k (by omega)) (hn 22 (by omega)) (hn 24 (by omega)) (hn 25 (by omega)) (hn 40 (by omega)) (fun s _ _ => hn s (by omega)), I_pass_cg g_pass (by rw [hl 28 (by omega)]) (hl 29 (by omega)) (hn 29 (by omega)) (fun s _ _ => hn s (by omega)), I_dir_cg g_dir (fun _ _ => by rw [hl 17 (by omega)]) (fun s _ => hn s (by omega)), I_rep_cg g_rep (by rw [hl 17 (by omega)]) (hn 45 (by omega)) (hn 46 (by omega)) (hn 47 (by omega)), I_st_cg g_st (by rw [hl 17 (by omega)]) (by rw [hl 17 (by omega)]) (hn 31 (by omega)) (fun s _ _ => hn s (by omega))⟩, I_led_cg (I_led_mono g_led) (fun _ _ => by rw [hl 3 (by omega)]) (hl 4 (by omega)) (hl 46 (by omega)) (hn 11 (by omega)) (hn 19 (by omega)) (hn 24 (by omega)) (hn 25 (by omega)) (hn 40 (by omega)) (fun s _ _ => hn s (by omega)), I_dia_cg (I_dia_mono g_dia) (fun k _ _ => hl k (by omega)) (hn 33 (by omega)) (hn 34 (by omega)) (hn 48 (by omega)) (fun s _ _ => hn s (by omega)), I_plan_cg g_plan (fun k _ _ => hl k (by omega)) (hn 49 (by omega))⟩
            refine rec_past (x := 256 * b 2 + b 3) (o := o) g_rec hv eo ho (fun i => ?_) (rs _ _ _ _) (by rw [wr_e (Or.inr (by decide)), q3]) (fun i hi => ?_) (fun j j6 j11 => ?_) (fun k _ _ => hl k (by omega)) (fun s hs => hn s (by omega)) ?_
            · rw [wr_e (Or.inl (by decide)), k3, l18k 16 (by decide)]
            · rw [wr_e (Or.inr (by omega)), q5 i hi]
            · rw [wr_e (Or.inr j11), k2 9 (by decide), wr_e (Or.inr j6)]
            · rw [rs, wr_e (Or.inr (by decide)), k2 9 (by decide), rs, p5.1, ct1]
              exact ⟨rfl, by rw [← ct1]; exact ct2⟩
        · -- a directive
          rw [if_neg h1] at em
          have h2 : b 2 = 0 ∨ b 2 = 1 := by
            have r0 := hbr 0 (by decide)
            have r2 := hbr 2 (by decide)
            unfold f_X6_isGood at hg1
            simp only [lts] at hg1
            obtain ⟨r01, r02⟩ := r0
            obtain ⟨r21, r22⟩ := r2
            by_cases k2 : b 0 = 2
            · rw [if_pos k2] at hg1
              by_cases k : 1 < b 2
              · rw [if_pos k] at hg1
                exact absurd hg1 (by decide)
              · exact bit01 ⟨r21, Int32.not_lt.mp k⟩
            · rw [if_neg k2, if_pos (by grind)] at hg1
              exact absurd hg1 (by decide)
          have eF := cF_2 hg (by rw [hb 0 (by decide)]; exact h0) (by rw [hb 0 (by decide)]; exact h1)
          rw [hb 2 (by decide), hb 3 (by decide)] at eF
          have hr3 := hbr 3 (by decide)
          have c6 : mj_wrs l 9 6 ((l 9 6 + 1) &&& 3) 9 6 = mj_wrs m 1 17 (mj_rem (m 1 17 + 1) 4) 1 17 := by rw [rs, rs, p5.1, ct1]
          have r6 : rg 0 (mj_wrs m 1 17 (mj_rem (m 1 17 + 1) 4) 1 17) 3 := by rw [rs, ← ct1]; exact ct2
          rcases h2 with h2 | h2
          · -- unlocks
            have ec : f_X6_obey (b 2) (b 3) (mj_wrs l 9 6 ((l 9 6 + 1) &&& 3)) = mj_wrs (mj_wrs (mj_wrs (mj_wrs l 9 6 ((l 9 6 + 1) &&& 3)) 9 4 0) 9 5 0) 9 3 0 := by
              unfold f_X6_obey f_X6_obey_J9 f_X6_obey_J22
              rw [if_pos h2, if_neg one0, lts, lts, if_neg one0, lts]
            have er : f_X11_isDirected (b 2) (b 3) m = mj_wrs (mj_wrs (mj_wrs (mj_wrs m 1 17 (mj_rem (m 1 17 + 1) 4)) 1 14 0) 1 15 0) 1 16 0 := by
              unfold f_X11_isDirected f_X11_isDirected_J16 f_X11_counts
              simp only [lts]
              rw [if_pos h2, rs, if_neg (by decide), h2, if_neg (by decide)]
            rw [ec] at em
            rw [er] at eF
            refine ⟨_, _, em, eF, rec_only h (fun k hk => by simp (disch := omega) only [wr_row]) (fun j hj => by simp (disch := omega) only [wr_e]) (fun p hp => by simp (disch := omega) only [wr_row]) (fun s hs => by simp (disch := omega) only [wr_e]) ?_ ?_ ?_ ?_ ?_ ?_⟩
            · simp (disch := omega) only [wr_e]
              exact p1
            · simp (disch := omega) only [wr_e, rs]
              exact ⟨trivial, by decide, by decide⟩
            · simp (disch := omega) only [wr_e, rs]
              exact ⟨trivial, by decide, by decide⟩
            · simp (disch := omega) only [wr_e, rs]
              exact ⟨trivial, by decide, by decide⟩
            · simp (disch := omega) only [wr_e]
              exact ⟨c6, r6⟩
            · simp (disch := omega) only [wr_e]
              exact p15
          · rcases bit01 p2.2 with k | k
            · -- set
              have lk : mj_wrs l 9 6 ((l 9 6 + 1) &&& 3) 9 3 = 0 := by rw [wr_e (Or.inr (by decide)), p2.1, k]
              have ec : f_X6_obey (b 2) (b 3) (mj_wrs l 9 6 ((l 9 6 + 1) &&& 3)) = mj_wrs (mj_wrs (mj_wrs (mj_wrs l 9 6 ((l 9 6 + 1) &&& 3)) 9 4 0) 9 5 0) 9 2 (b 3) := by
                unfold f_X6_obey f_X6_obey_J9 f_X6_obey_J22
                rw [h2, if_neg one0, if_pos rfl, if_pos lk, lts, lts, if_pos rfl, lts]
              have er : f_X11_isDirected (b 2) (b 3) m = mj_wrs (mj_wrs (mj_wrs (mj_wrs m 1 17 (mj_rem (m 1 17 + 1) 4)) 1 15 0) 1 16 0) 1 13 (b 3) := by
                unfold f_X11_isDirected f_X11_isDirected_J16 f_X11_counts
                simp only [lts]
                rw [h2, if_neg one0, wr_e (Or.inr (by decide)), k, if_neg (by decide), if_pos rfl]
              rw [ec] at em
              rw [er] at eF
              refine ⟨_, _, em, eF, rec_only h (fun k hk => by simp (disch := omega) only [wr_row]) (fun j hj => by simp (disch := omega) only [wr_e]) (fun p hp => by simp (disch := omega) only [wr_row]) (fun s hs => by simp (disch := omega) only [wr_e]) ?_ ?_ ?_ ?_ ?_ ?_⟩
              · rw [rs, rs]
                exact ⟨rfl, hr3⟩
              · simp (disch := omega) only [wr_e]
                exact p2
              · simp (disch := omega) only [wr_e, rs]
                exact ⟨trivial, by decide, by decide⟩
              · simp (disch := omega) only [wr_e, rs]
                exact ⟨trivial, by decide, by decide⟩
              · simp (disch := omega) only [wr_e]
                exact ⟨c6, r6⟩
              · simp (disch := omega) only [wr_e]
                exact p15
            · -- shut
              have lk : ¬ mj_wrs l 9 6 ((l 9 6 + 1) &&& 3) 9 3 = 0 := by rw [wr_e (Or.inr (by decide)), p2.1, k]; exact one0
              have ec : f_X6_obey (b 2) (b 3) (mj_wrs l 9 6 ((l 9 6 + 1) &&& 3)) = mj_wrs l 9 6 ((l 9 6 + 1) &&& 3) := by
                unfold f_X6_obey f_X6_obey_J9
                rw [h2, if_neg one0, if_pos rfl, if_neg lk]
              have er : f_X11_isDirected (b 2) (b 3) m = mj_wrs m 1 17 (mj_rem (m 1 17 + 1) 4) := by
                unfold f_X11_isDirected f_X11_isDirected_J16 f_X11_counts
                simp only [lts]
                rw [h2, if_neg one0, wr_e (Or.inr (by decide)), k, if_pos rfl]
              rw [ec] at em
              rw [er] at eF
              refine ⟨_, _, em, eF, rec_only h (fun k hk => wr_row _ _ _ _ _ hk) (fun j hj => wr_e (Or.inr (by omega))) (fun p hp => wr_row _ _ _ _ _ hp) (fun s hs => wr_e (Or.inr (by omega))) ?_ ?_ ?_ ?_ ⟨c6, r6⟩ ?_⟩
              · simp (disch := omega) only [wr_e]
                exact p1
              · simp (disch := omega) only [wr_e]
                exact p2
              · simp (disch := omega) only [wr_e]
                exact p3
              · simp (disch := omega) only [wr_e]
                exact p4
              · simp (disch := omega) only [wr_e]
                exact p15
  · rw [if_neg hs] at hg em
    exact bad em hg
