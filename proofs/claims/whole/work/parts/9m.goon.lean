/-! GO ON, direct, set, send -/
theorem L_goOn {l m : mj_m} {pl : Nat → Int32} {pm : PM} {e u v : Nat} {T : TT} (h : I_link l (m 1) pl pm e u v T) : ∃ (r : Int32) (l' m' : mj_m), f_X8_goOn l = some (r, l') ∧ (if m 1 32 = 0 then some ((0 : Int32), m) else mj_b1 (f_X11_goesOn m) (fun m5 => some (1, m5))) = some (r, m') ∧ I_link l' (m' 1) pl pm e u v T ∧ Fl l l' ∧ Fm m m' ∧ (∀ s, s < 21 → m' 1 s = m 1 s) := by
  obtain ⟨hc, hup, hdn⟩ := h.c
  have h0 := hc
  obtain ⟨⟨g_set, g_rng, g_tick⟩, g_rec, ⟨g_mach, g_line, g_sent, g_pass, g_dir, g_rep, g_st⟩, g_led, g_dia, g_plan⟩ := h0
  obtain ⟨⟨p1, p1r⟩, ⟨p2, p2r⟩, ⟨p3, p3r⟩, p4, p5, ⟨p6, p6r⟩, p7⟩ := id g_mach
  by_cases hz : l 17 11 = 0
  · refine ⟨0, l, m, ?_, ?_, h, Fl.rf _, Fm.rf _, fun _ _ => rfl⟩
    · unfold f_X8_goOn
      rw [if_pos hz]
    · rw [← p6, if_pos hz]
  have h6 : l 17 6 = 6 := g_st.1 hz
  have hS := g_st.2.1 (Or.inr hz)
  have hr : rg 1 (l 17 11) 5 := by
    rw [p6] at hz ⊢
    obtain ⟨q1, q2⟩ := p6r
    exact ⟨by grind, q2⟩
  have fin : ∀ (l' m' : mj_m) (A : Int32), rg 1 A 5 → (∀ k, k ≠ 5 ∧ k ≠ 6 ∧ k ≠ 17 ∧ k ≠ 27 → l' k = l k) → (∀ j, j ≠ 2 → l' 5 j = l 5 j) → D_ok l' (m' 1) → (∀ j, j = 7 ∨ j = 8 ∨ j = 12 ∨ j = 14 ∨ j = 15 → l' 17 j = l 17 j) → l' 17 6 = A → m' 1 21 = A - 6 → l' 17 11 = 0 → m' 1 32 = 0 → l' 17 9 = m' 1 30 → l' 17 10 = m' 1 31 → rg 0 (m' 1 31) 99 → (A = 5 → l' 17 13 = m' 1 28) → rg 0 (l' 17 13) 1 → (A = 5 → m 1 26 ≠ 0) → (4 ≤ A → m 1 24 = 0 ∧ m 1 25 = 0) → (∀ i, i < mj_cl (m 1 25) → l' 27 i = m' 1 (86 + i) ∧ rg 0 (m' 1 (86 + i)) 1) → (∀ p, p ≠ 1 → m' p = m p) → (∀ s, s ≠ 21 ∧ s ≠ 28 ∧ s ≠ 30 ∧ s ≠ 31 ∧ s ≠ 32 ∧ s ≠ 34 ∧ (s < 86 ∨ 105 < s) ∧ (s < 179 ∨ 418 < s) → m' 1 s = m 1 s) → I_link l' (m' 1) pl pm e u v T ∧ Fl l l' ∧ Fm m m' ∧ (∀ s, s < 21 → m' 1 s = m 1 s) := by
    intro l' m' A hA hl h5 hD hj k6 n21 k11 n32 k9 k10 r31 k13 k13r hd hz2 hmk hp hn
    have core : I_lk0 l' (m' 1) pl pm e u v T.1 := by
      refine snd_fin hc.w hl h5 hD ?_ ?_ ?_ ?_ hmk (fun s hs => hn s (by omega))
      · unfold I_mach
        rw [k6, n21, hj 7 (by omega), hn 22 (by omega), hj 8 (by omega), hn 23 (by omega), k9, k10, k11, n32, hj 15 (by omega), hn 39 (by omega)]
        exact ⟨⟨by grind, hA.1, by have := hA.2; grind⟩, ⟨p2, p2r⟩, ⟨p3, p3r⟩, rfl, ⟨rfl, r31⟩, ⟨rfl, by decide, by decide⟩, p7⟩
      · obtain ⟨q1, q2, q3, q4⟩ := g_dir
        unfold I_dir
        rw [k6, k11, hj 12 (by omega), hn 26 (by omega), hn 27 (by omega)]
        refine ⟨q1, k13, k13r, fun z => ?_⟩
        rcases z with z | z
        · exact hd z
        · exact absurd z (by decide)
      · exact I_rep_cg g_rep (hj 14 (by omega)) (hn 45 (by omega)) (hn 46 (by omega)) (hn 47 (by omega))
      · unfold I_st
        rw [k6, k11, hn 23 (by omega), hn 22 (by omega), hn 25 (by omega), hn 24 (by omega)]
        refine ⟨fun z => absurd rfl z, fun _ => hS, fun z _ => hz2 z, fun z => ?_⟩
        have := hA.2
        rw [z] at this
        exact absurd this (by decide)
    refine ⟨I_lk0.l core ?_ ?_, Fl.k (hl 33 (by decide)) (hl 38 (by decide)), Fm.k hp, fun s hs => hn s (by omega)⟩
    · exact I_up_nu hup (fun k a b => hl k (by omega)) ⟨hn 11 (by omega), hn 35 (by omega), hn 37 (by omega), hn 40 (by omega), hn 41 (by omega), hn 43 (by omega), fun s _ _ => hn s (by omega), fun s _ _ => hn s (by omega)⟩
    · exact I_dn_nd hdn (fun k a b => hl k (by omega)) ⟨hn 11 (by omega), hn 36 (by omega), hn 42 (by omega), hn 44 (by omega), fun s _ _ => hn s (by omega), fun s _ _ => hn s (by omega)⟩
  -- the first change
  obtain ⟨lc, mc, c1, c2, c3, c4, c5, c6, c7, c8⟩ := chg (a := l 17 6) (b := l 17 11) (l := l) (m := mj_wrs m 1 32 0) (by
    obtain ⟨f1, f2, f3⟩ := g_dia.1
    refine ⟨by rw [wr_e (Or.inr (by decide))]; exact f1, by rw [wr_e (Or.inr (by decide))]; exact f2, fun i hi => ?_⟩
    rw [wr_e (Or.inr (by decide))] at hi
    rw [wr_e (Or.inr (by omega))]
    exact f3 i hi) (by rw [wr_e (Or.inr (by decide))]; exact g_tick.1) (by rw [wr_e (Or.inr (by decide))]; exact p1)
  have c6' : ∀ s, s ≠ 21 ∧ s ≠ 32 ∧ s ≠ 34 ∧ (s < 179 ∨ 418 < s) → mc 1 s = m 1 s := fun s hs => by rw [c6 s (by omega) (by omega) (by omega), wr_e (Or.inr (by omega))]
  have n32c : mc 1 32 = 0 := by rw [c6 32 (by decide) (by decide) (by omega), rs]
  have c5' : ∀ p, p ≠ 1 → mc p = m p := fun p hp => by rw [c5 p hp, wr_row _ _ _ _ _ hp]
  have pat := g_rng.2.2.2.2.1
  have pat0 : rg 0 (l 2 4) 99 := ⟨by have := pat.1; grind, pat.2⟩
  obtain ⟨lb, hlb⟩ : ∃ lb, lb = mj_wrs (mj_wrs lc 17 6 (l 17 11)) 17 11 0 := ⟨_, rfl⟩
  have lb6 : lb 17 6 = l 17 11 := by
    rw [hlb]
    simp (disch := omega) only [wr_e, rs]
  have lb11 : lb 17 11 = 0 := by rw [hlb, rs]
  have lbj : ∀ j, j ≠ 6 → j ≠ 11 → lb 17 j = l 17 j := fun j a b => by
    rw [hlb]
    simp (disch := omega) only [wr_e, c3]
  have lbk : ∀ k, k ≠ 5 → k ≠ 6 → k ≠ 17 → lb k = l k := fun k a b c => by
    rw [hlb]
    simp (disch := omega) only [wr_row, c3]
  have lb5 : ∀ j, j ≠ 2 → lb 5 j = l 5 j := fun j hj => by
    rw [hlb]
    simp (disch := omega) only [wr_e, c4]
  have hDb : D_ok lb (mc 1) := by
    obtain ⟨f1, f2, f3⟩ := c8
    rw [hlb]
    refine ⟨by simp (disch := omega) only [wr_e]; exact f1, f2, fun i hi => by simp (disch := omega) only [wr_e]; exact f3 i hi⟩
  have ecl : f_X8_goOn l = (if l 17 11 = 4 then some ((1 : Int32), mj_wrs lb 17 10 (l 2 4)) else if l 17 11 = 5 then f_X8_goOn_J94 lb else if l 23 4 ≤ 0 then f_X8_goOn_J88 1 (l 17 11) lb else f_X8_goOn_J88 2 (l 17 11) lb) := by
    unfold f_X8_goOn
    rw [if_neg hz, c1, b2s]
    simp only [lts]
    rw [← hlb, lb6, lbk 2 (by decide) (by decide) (by decide), lbk 23 (by decide) (by decide) (by decide)]
  have er : f_X11_goesOn m = (if l 17 11 = 4 then some (mj_wrs mc 1 31 (l 2 4)) else if l 17 11 = 5 then f_X11_goesOn_J71 (l 17 11) (mj_wrs mc 1 30 0) else if l 23 4 ≤ 0 then f_X11_goesOn_J68 (l 17 11) 1 (mj_wrs mc 1 30 0) else f_X11_goesOn_J68 (l 17 11) 2 (mj_wrs mc 1 30 0)) := by
    unfold f_X11_goesOn
    rw [← p6]
    simp only [lts]
    rw [c2, b1s, set4, b1s, c6' 4 (by omega), ← g_set.2.2.2.2.2.1]
    rw [wr_e (m := mc) (Or.inr (by decide)), c6' 25 (by omega), ← g_sent.1]
  obtain ⟨q, hq20, eq, cq⟩ := cn_i g_sent.2.1
  have hmk : ∀ i, i < q → l 27 i = m 1 (86 + i) ∧ rg 0 (m 1 (86 + i)) 1 := fun i hi => by
    obtain ⟨q1, q2, q3, q4, q5, q6⟩ := g_sent.2.2 i (by omega)
    exact ⟨q5, q6⟩
  have st3 : 4 ≤ l 17 11 → m 1 24 = 0 ∧ m 1 25 = 0 := fun z => g_st.2.2.1 (by rw [h6]; decide) (fun y => by
    have := Int32.le_trans z y.2
    exact absurd this (by decide))
  have mne : ¬ m 1 32 = 0 := by rw [← p6]; exact hz
  rw [if_neg mne, ecl, er]
  by_cases w4 : l 17 11 = 4
  · rw [if_pos w4, if_pos w4, b1s]
    refine ⟨1, mj_wrs lb 17 10 (l 2 4), mj_wrs mc 1 31 (l 2 4), rfl, rfl, fin _ _ 4 ⟨by decide, by decide⟩ (fun k hk => by rw [wr_row _ _ _ _ _ (by omega), lbk k (by omega) (by omega) (by omega)]) (fun j hj => by rw [wr_e (Or.inl (by decide)), lb5 j hj]) ?_ (fun j hj => by rw [wr_e (Or.inr (by omega)), lbj j (by omega) (by omega)]) (by rw [wr_e (Or.inr (by decide)), lb6, w4]) (by rw [wr_e (Or.inr (by decide)), c7, w4]) (by rw [wr_e (Or.inr (by decide)), lb11]) (by rw [wr_e (Or.inr (by decide)), n32c]) (by rw [wr_e (Or.inr (by decide)), lbj 9 (by decide) (by decide), wr_e (Or.inr (by decide)), c6' 30 (by omega)]; exact p4) (by rw [rs, rs]) (by rw [rs]; exact pat0) (fun z => absurd z (by decide)) (by rw [wr_e (Or.inr (by decide)), lbj 13 (by decide) (by decide)]; exact g_dir.2.2.1) (fun z => absurd z (by decide)) (fun _ => st3 (by rw [w4]; decide)) (fun i hi => ?_) (fun p hp => by rw [wr_row _ _ _ _ _ hp, c5' p hp]) (fun s hs => by rw [wr_e (Or.inr (by omega)), c6' s (by omega)])⟩
    · obtain ⟨f1, f2, f3⟩ := hDb
      refine ⟨by rw [wr_e (Or.inl (by decide)), wr_e (Or.inr (by decide))]; exact f1, by rw [wr_e (Or.inr (by decide))]; exact f2, fun i hi => ?_⟩
      rw [wr_e (Or.inr (by decide))] at hi
      rw [wr_e (Or.inl (by decide)), wr_e (Or.inr (by omega))]
      exact f3 i hi
    · have i20 : i < 20 := by omega
      rw [wr_e (Or.inl (by decide)), lbk 27 (by decide) (by decide) (by decide), wr_e (Or.inr (by omega)), c6' _ (by omega)]
      exact hmk i (by omega)
  rw [if_neg w4, if_neg w4]
  by_cases w5 : l 17 11 = 5
  · rw [if_pos w5, if_pos w5]
    obtain ⟨n24, n25⟩ := st3 (by rw [w5]; decide)
    have q0 : q = 0 := by rw [← cq, n25]; decide
    obtain ⟨l1, m1, k1, k2, k3, k4, k5, k6, k7, k8, k9, k10, k11, k12⟩ := mrk (l := mj_wrs lb 17 9 0) (m := mj_wrs mc 1 30 0) (c := q) (by rw [wr_e (Or.inr (by decide)), lb6, wr_e (Or.inr (by decide)), c7]; grind) (by rw [wr_e (Or.inl (by decide)), lbk 23 (by decide) (by decide) (by decide), g_sent.1, eq]) (by rw [wr_e (Or.inr (by decide)), c6' 25 (by omega), eq]) hq20 (by rw [wr_e (Or.inl (by decide)), lbk 2 (by decide) (by decide) (by decide), wr_e (Or.inr (by decide)), c6' 4 (by omega)]; exact g_set.2.2.2.2.2.1) (by rw [rs, rs]) (fun i hi => by omega)
    have e5 : mj_wrs lb 17 9 0 17 6 = 5 := by rw [wr_e (Or.inr (by decide)), lb6, w5]
    rw [if_pos e5] at k11 k12
    have e16 : l1 17 6 = 5 := by rw [k4 6 (by decide) (by decide) (by decide), e5]
    have l24 : mj_wrs lb 17 9 0 2 4 = l 2 4 := by rw [wr_e (Or.inl (by decide)), lbk 2 (by decide) (by decide) (by decide)]
    refine ⟨1, l1, m1, ?_, ?_, fin l1 m1 5 ⟨by decide, by decide⟩ (fun k hk => by rw [k3 k (by omega) (by omega), wr_row _ _ _ _ _ (by omega), lbk k (by omega) (by omega) (by omega)]) (fun j hj => by rw [k3 5 (by decide) (by decide), wr_e (Or.inl (by decide)), lb5 j hj]) ?_ (fun j hj => by rw [k4 j (by omega) (by omega) (by omega), wr_e (Or.inr (by omega)), lbj j (by omega) (by omega)]) e16 (by rw [k6 21 (by decide) (by decide) (by decide) (by omega), wr_e (Or.inr (by decide)), c7, w5]) (by rw [k4 11 (by decide) (by decide) (by decide), wr_e (Or.inr (by decide)), lb11]) (by rw [k6 32 (by decide) (by decide) (by decide) (by omega), wr_e (Or.inr (by decide)), n32c]) k7 (by rw [k8, k9]) (by rw [k9, l24]; exact pat0) (fun _ => by rw [k11, k12]) (by rw [k11]; exact ⟨by decide, by decide⟩) (fun _ => g_dir.2.2.2 (Or.inr w5)) (fun _ => ⟨n24, n25⟩) (fun i hi => by omega) (fun p hp => by rw [k5 p hp, wr_row _ _ _ _ _ hp, c5' p hp]) (fun s hs => by rw [k6 s (by omega) (by omega) (by omega) (by omega), wr_e (Or.inr (by omega)), c6' s (by omega)])⟩
    · unfold f_X8_goOn_J94
      rw [lts, k1, b1s, e16, if_neg (by decide)]
    · unfold f_X11_goesOn_J71
      rw [k2, b1s, w5, if_pos rfl, b1s]
    · obtain ⟨f1, f2, f3⟩ := hDb
      have e34 : m1 1 34 = mc 1 34 := by rw [k6 34 (by decide) (by decide) (by decide) (by omega), wr_e (Or.inr (by decide))]
      refine ⟨by rw [k3 5 (by decide) (by decide), wr_e (Or.inl (by decide)), e34]; exact f1, by rw [e34]; exact f2, fun i hi => ?_⟩
      rw [e34] at hi
      have h80 := f2.2
      rw [k3 6 (by decide) (by decide), wr_e (Or.inl (by decide)), k6 _ (by omega) (by omega) (by omega) (by omega), wr_e (Or.inr (by omega))]
      exact f3 i hi
  rw [if_neg w5, if_neg w5]
  -- the three that move
  obtain ⟨B, hBe, hB⟩ : ∃ B : Int32, (B = if l 23 4 ≤ 0 then 1 else 2) ∧ (B = 1 ∨ B = 2) := ⟨_, rfl, by split; exact Or.inl rfl; exact Or.inr rfl⟩
  have e88 : (if l 23 4 ≤ 0 then f_X8_goOn_J88 1 (l 17 11) lb else f_X8_goOn_J88 2 (l 17 11) lb) = f_X8_goOn_J88 B (l 17 11) lb := by
    rw [hBe]
    split <;> rfl
  have e68 : (if l 23 4 ≤ 0 then f_X11_goesOn_J68 (l 17 11) 1 (mj_wrs mc 1 30 0) else f_X11_goesOn_J68 (l 17 11) 2 (mj_wrs mc 1 30 0)) = f_X11_goesOn_J68 (l 17 11) B (mj_wrs mc 1 30 0) := by
    rw [hBe]
    split <;> rfl
  rw [e88, e68]
  unfold f_X8_goOn_J88 f_X11_goesOn_J68
  obtain ⟨ld, md, d1, d2, d3, d4, d5, d6, d7, d8⟩ := chg (a := l 17 11) (b := B) (l := lb) (m := mj_wrs mc 1 30 0) (by
    obtain ⟨f1, f2, f3⟩ := hDb
    refine ⟨by rw [wr_e (Or.inr (by decide))]; exact f1, by rw [wr_e (Or.inr (by decide))]; exact f2, fun i hi => ?_⟩
    rw [wr_e (Or.inr (by decide))] at hi
    rw [wr_e (Or.inr (by omega))]
    exact f3 i hi) (by rw [lbk 1 (by decide) (by decide) (by decide), wr_e (Or.inr (by decide)), c6' 11 (by omega)]; exact g_tick.1) (by rw [wr_e (Or.inr (by decide)), c7]; grind)
  rw [d1, b2s, d2, b1s]
  simp only [lts]
  unfold f_X8_goOn_J94 f_X11_goesOn_J71
  have d6' : ∀ s, s ≠ 21 ∧ s ≠ 30 ∧ s ≠ 32 ∧ s ≠ 34 ∧ (s < 179 ∨ 418 < s) → md 1 s = m 1 s := fun s hs => by rw [d6 s (by omega) (by omega) (by omega), wr_e (Or.inr (by omega)), c6' s (by omega)]
  have d30 : md 1 30 = 0 := by rw [d6 30 (by decide) (by decide) (by omega), rs]
  have d32 : md 1 32 = 0 := by rw [d6 32 (by decide) (by decide) (by omega), wr_e (Or.inr (by decide)), n32c]
  have ldk : ∀ k, k ≠ 5 → k ≠ 6 → k ≠ 17 → mj_wrs (mj_wrs ld 17 6 B) 17 9 0 k = l k := fun k a b c => by rw [wr_row _ _ _ _ _ c, wr_row _ _ _ _ _ c, d3 k a b, lbk k a b c]
  have ldj : ∀ j, j ≠ 6 → j ≠ 9 → mj_wrs (mj_wrs ld 17 6 B) 17 9 0 17 j = lb 17 j := fun j a b => by rw [wr_e (Or.inr b), wr_e (Or.inr a), d3 17 (by decide) (by decide)]
  have ld6 : mj_wrs (mj_wrs ld 17 6 B) 17 9 0 17 6 = B := by rw [wr_e (Or.inr (by decide)), rs]
  have b5 : ¬ B = 5 := by rcases hB with z | z <;> rw [z] <;> decide
  obtain ⟨l1, m1, k1, k2, k3, k4, k5, k6, k7, k8, k9, k10, k11, k12⟩ := mrk (l := mj_wrs (mj_wrs ld 17 6 B) 17 9 0) (m := md) (c := q) (by rw [ld6, d7]; grind) (by rw [ldk 23 (by decide) (by decide) (by decide), g_sent.1, eq]) (by rw [d6' 25 (by omega), eq]) hq20 (by rw [ldk 2 (by decide) (by decide) (by decide), d6' 4 (by omega)]; exact g_set.2.2.2.2.2.1) (by rw [rs, d30]) (fun i hi => by rw [ldk 27 (by decide) (by decide) (by decide), d6' _ (by omega)]; exact hmk i hi)
  rw [if_neg (by rw [ld6]; exact b5)] at k11 k12
  rw [lts, k1, b1s, k2, b1s, if_neg w5]
  have m25 : m1 1 25 = nI q := by rw [k6 25 (by decide) (by decide) (by decide) (by omega), d6' 25 (by omega), eq]
  have l16 : l1 17 6 = B := by rw [k4 6 (by decide) (by decide) (by decide), ld6]
  have l24 : mj_wrs (mj_wrs ld 17 6 B) 17 9 0 2 4 = l 2 4 := by rw [ldk 2 (by decide) (by decide) (by decide)]
  have lq : l 23 4 = nI q := by rw [g_sent.1, eq]
  -- whether the timer stands
  obtain ⟨l2, m2, x1, x2, x3, x4, x5, x6, x7, x8, x9⟩ : ∃ l2 m2 : mj_m, (if l1 17 6 = 1 then some ((1 : Int32), mj_wrs l1 17 10 0) else some (1, l1)) = some (1, l2) ∧ (if m1 1 25 = 0 then some (mj_wrs m1 1 31 0) else some m1) = some m2 ∧ (∀ k, k ≠ 17 → l2 k = l1 k) ∧ (∀ j, j ≠ 10 → l2 17 j = l1 17 j) ∧ (∀ p, p ≠ 1 → m2 p = m1 p) ∧ (∀ s, s ≠ 31 → m2 1 s = m1 1 s) ∧ l2 17 10 = m2 1 31 ∧ rg 0 (m2 1 31) 99 ∧ True := by
    rw [l16, m25]
    rcases Nat.eq_zero_or_pos q with z | z
    · have : B = 1 := by rw [hBe, lq, z, if_pos (by decide)]
      rw [if_pos this, if_pos (by rw [z]; rfl)]
      exact ⟨_, _, rfl, rfl, fun k hk => wr_row _ _ _ _ _ hk, fun j hj => wr_e (Or.inr hj), fun p hp => wr_row _ _ _ _ _ hp, fun s hs => wr_e (Or.inr hs), by rw [rs, rs], by rw [rs]; exact ⟨by decide, by decide⟩, trivial⟩
    · have : ¬ B = 1 := by
        rw [hBe, lq, if_neg (nI_nle z (by omega))]
        decide
      rw [if_neg this, if_neg (nI_ne0 z (by omega))]
      exact ⟨_, _, rfl, rfl, fun _ _ => rfl, fun _ _ => rfl, fun _ _ => rfl, fun _ _ => rfl, by rw [k8, k9], by rw [k9, l24]; exact pat0, trivial⟩
  simp only [lts]
  rw [x1, x2, b1s]
  refine ⟨1, l2, m2, rfl, rfl, fin l2 m2 B ?_ (fun k hk => by rw [x3 k (by omega), k3 k (by omega) (by omega), ldk k (by omega) (by omega) (by omega)]) (fun j hj => by rw [x3 5 (by decide), k3 5 (by decide) (by decide), wr_e (Or.inl (by decide)), wr_e (Or.inl (by decide)), d4 j hj, lb5 j hj]) ?_ (fun j hj => by rw [x4 j (by omega), k4 j (by omega) (by omega) (by omega), ldj j (by omega) (by omega), lbj j (by omega) (by omega)]) (by rw [x4 6 (by decide), l16]) (by rw [x6 21 (by decide), k6 21 (by decide) (by decide) (by decide) (by omega), d7]) (by rw [x4 11 (by decide), k4 11 (by decide) (by decide) (by decide), ldj 11 (by decide) (by decide), lb11]) (by rw [x6 32 (by decide), k6 32 (by decide) (by decide) (by decide) (by omega), d32]) (by rw [x4 9 (by decide), k7, x6 30 (by decide)]) x7 x8 (fun z => absurd z b5) (by rw [x4 13 (by decide), k11, ldj 13 (by decide) (by decide), lbj 13 (by decide) (by decide)]; exact g_dir.2.2.1) (fun z => absurd z b5) (fun z => ?_) (fun i hi => ?_) (fun p hp => by rw [x5 p hp, k5 p hp, d5 p hp, wr_row _ _ _ _ _ hp, c5' p hp]) (fun s hs => by rw [x6 s (by omega), k6 s (by omega) (by omega) (by omega) (by omega), d6' s (by omega)])⟩
  · rcases hB with z | z <;> rw [z] <;> exact ⟨by decide, by decide⟩
  · obtain ⟨f1, f2, f3⟩ := d8
    have e34 : m2 1 34 = md 1 34 := by rw [x6 34 (by decide), k6 34 (by decide) (by decide) (by decide) (by omega)]
    refine ⟨by rw [x3 5 (by decide), k3 5 (by decide) (by decide), wr_e (Or.inl (by decide)), wr_e (Or.inl (by decide)), e34]; exact f1, by rw [e34]; exact f2, fun i hi => ?_⟩
    rw [e34] at hi
    have h80 := f2.2
    rw [x3 6 (by decide), k3 6 (by decide) (by decide), wr_e (Or.inl (by decide)), wr_e (Or.inl (by decide)), x6 _ (by omega), k6 _ (by omega) (by omega) (by omega) (by omega)]
    exact f3 i hi
  · exfalso
    rcases hB with y | y <;> rw [y] at z <;> exact absurd z (by decide)
  · rw [x3 27 (by decide), x6 _ (by omega)]
    exact k10 i (by omega)
theorem c_direct : CL_direct Inv := by
  intro j M x1 hj h
  have ht : mj_cl (M 4 1 11) ≤ 9999 := h.2.1.1.2.2.2.2
  by_cases h0 : x1 = 0
  · subst h0
    obtain ⟨r, l', m', e1, e2, e3, e4, e5, e6⟩ := L_halt h.2.1 (by omega) (by omega)
    refine ⟨r, va_up M 0 l', m', ?_, e2, Inv_link0 h (I_link_mono e3) e4 e5 e6⟩
    unfold f_X10_direct
    rw [if_pos rfl, e1, b2s, lts]
  · by_cases h1 : x1 = 1
    · subst h1
      have h' : I_link (M 0) (mj_wrs (M 4) 0 0 0 1) (M 4 8) (M 4 0 19, 0) (24 * j) (24 * j + 50 * mj_cl (M 4 1 11)) (50 * mj_cl (M 4 1 11)) (9999, (40, 0), (40, 0)) := by
        rw [r10]
        exact h.2.1
      obtain ⟨r, l', m', e1, e2, e3, e4, e5, e6⟩ := L_goOn h'
      have hr : r = 0 ∨ r = 1 := by
        rw [r10] at e2
        by_cases z : M 4 1 32 = 0
        · rw [if_pos z] at e2
          cases e2
          exact Or.inl rfl
        · rw [if_neg z] at e2
          cases hg : f_X11_goesOn (mj_wrs (M 4) 0 0 0) with
          | none => rw [hg] at e2; cases e2
          | some m5 =>
            rw [hg, b1s] at e2
            cases e2
            exact Or.inr rfl
      refine ⟨r, va_up M 0 l', m', ?_, ?_, Inv_link0 h (I_link_mono e3) e4 ((Fm.wr0 (by decide)).tr e5) (by rw [e6 11 (by decide), r10])⟩
      · unfold f_X10_direct
        rw [if_neg h0, if_pos rfl, e1, b2s, lts]
        rcases hr with z | z
        · rw [z, if_pos rfl]
        · rw [z, if_neg one0]
      · show f_X11_direct 1 (M 4) = _
        unfold f_X11_direct
        rw [lts, if_neg h0, if_pos rfl]
        exact e2
    · refine ⟨0, M, mj_wrs (M 4) 0 0 0, ?_, ?_, Inv_q0 h⟩
      · unfold f_X10_direct
        rw [if_neg h0, if_neg h1]
      · unfold f_X11_direct
        rw [lts, if_neg h0, if_neg h1]
