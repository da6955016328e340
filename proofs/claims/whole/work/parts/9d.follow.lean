/-! the table is followed, on both sides -/
theorem letGo0 {l : mj_m} {q : Nat} (h : l 23 4 = nI q) (hq : q ≤ 20) : f_X2_letGo (nI 0) l = some l := by
  have e : f_X2_letGo_L2 (nI 0) mj_fu 0 l = some l := by
    rw [show mj_fu = 19999 + 1 from rfl, f_X2_letGo_L2, if_pos (by decide)]
  unfold f_X2_letGo f_X2_letGo_J55 f_X7_removeFirst
  rw [e, b1s, h, if_neg (nI_nlt (by omega) (by omega)), if_pos (by decide), b1s]
theorem id1 (x : Option mj_m) : mj_b1 x (fun y => some y) = x := by cases x <;> rfl
theorem J193e {x w r h : Int32} {m m1 : mj_m} {V : Int32} (hV : f_X11_verdict (m 1 21 + 6) h r w (m 1 30) (m 1 3 + 3) = V) (hm : f_X11_more (110 + V) m = some m1) : f_X11_hears_J193 x w r h m = f_X11_isSaid V h x w m1 := by
  unfold f_X11_hears_J193 f_X11_machine
  rw [lts, set3, b1s, lts, hV, hm, b1s, id1]
/-- the class, once the verdict is there -/
theorem fol_e {x y V h : Int32} {l l1 : mj_m} {D : Int32} (hh : f_X8_standingOf x l = h) (hV : f_X8_verdictOf (l 17 6) h y (l 17 9) (l 2 3) = V) (hn : f_X1_noteVerdict V l = some l1) (hD : f_X10_far x (l1 17 8) = D) : f_X8_followTable x y l = if V = 7 then f_X8_giveAlarm 4 l1 else if V = 8 then f_X8_giveAlarm 2 l1 else mj_b1 (f_X2_letGo D l1) (fun m26 => if V = 6 then f_X8_giveAlarm 5 m26 else if V = 3 then (if h = 2 then f_X8_followTable_J118 y V (mj_wrs (mj_wrs m26 17 8 x) 17 9 0) else f_X8_followTable_J118 y V (mj_wrs m26 17 8 x)) else if V = 1 then f_X8_followTable_J163 y V (mj_wrs (mj_wrs m26 17 8 x) 17 10 0) else if V = 2 then f_X8_followTable_J163 y V (mj_wrs (mj_wrs (mj_wrs m26 17 8 x) 17 9 1) 17 10 (m26 2 4)) else f_X8_followTable_J163 y V (mj_wrs m26 17 8 x)) := by
  unfold f_X8_followTable
  rw [lts, hh, lts, hV, hn, b1s]
  simp only [id1]
  rw [lts, hD]
  have e : ∀ m26 : mj_m, mj_wrs (mj_wrs m26 17 8 x) 17 9 1 2 4 = m26 2 4 := fun m26 => by rw [wr_e (Or.inl (by decide)), wr_e (Or.inl (by decide))]
  simp only [lts, e]
set_option maxHeartbeats 2000000 in
theorem follow {l m : mj_m} {pl : Nat → Int32} {pm : PM} {e u v T : Nat} (h : I_lk0 l (m 1) pl pm e u v T) (he : e ≤ 20000) (hu : u < 2 ^ 29) {x : Nat} (hx : x < 256) {r w : Int32} (hr : r = 0 ∨ r = 1) (hw : w = 0 ∨ w = 1) {how : Int32} (hM : l 17 6 = 1 ∨ l 17 6 = 2 ∨ l 17 6 = 3) (hin : (nI x - m 1 23) &&& 255 ≤ (m 1 22 - m 1 23) &&& 255) (hhow : how = if nI x = m 1 22 then 0 else if nI x = m 1 23 then 1 else 2) : ∃ l' m' : mj_m, f_X8_followTable (nI x) (r + w2 w) l = some l' ∧ f_X11_hears_J193 (nI x) w r how m = some m' ∧ I_lk0 l' (m' 1) pl pm e (u + 1) v T ∧ H_ok l m l' m' := by
  have h0 := h
  obtain ⟨⟨g_set, g_rng, g_tick⟩, g_rec, ⟨g_mach, g_line, g_sent, g_pass, g_dir, g_rep, g_st⟩, g_led, g_dia, g_plan⟩ := h0
  obtain ⟨⟨p1, p1r⟩, ⟨p2, p2r⟩, ⟨p3, p3r⟩, p4, p5, ⟨p6, p6r⟩, p7⟩ := id g_mach
  obtain ⟨N, hN, eN⟩ := byN p2r
  obtain ⟨S, hS, eS⟩ := byN p3r
  obtain ⟨q, hq20, eq, cq⟩ := cn_i g_sent.2.1
  have held : l 17 11 = 0 := by
    by_cases z : l 17 11 = 0
    · exact z
    · have := g_st.1 z
      rw [this] at hM
      rcases hM with z | z | z <;> exact absurd z (by decide)
  have hS2 : S = (N + 256 - q) % 256 := by
    have := g_st.2.1 (Or.inl (by rcases hM with z | z | z <;> rw [z] <;> decide))
    rw [eS, eN, eq, far_eq (by omega)] at this
    exact (nI_eq (by omega) (by omega)).mp this
  rw [eS, eN, far_eq (by omega), far_eq (by omega)] at hin
  have hdq := (nI_leI (by omega) (by omega)).mp hin
  obtain ⟨d, hd⟩ : ∃ d, d = (x + 256 - S) % 256 := ⟨_, rfl⟩
  have hdq' : d ≤ q := by omega
  have hxd : x = (N + 256 - q + d) % 256 := by omega
  have hxN : nI x = m 1 22 ↔ d = q := by
    rw [eN, nI_eq (by omega) (by omega)]
    omega
  have hxS : nI x = m 1 23 ↔ d = 0 := by
    rw [eS, nI_eq (by omega) (by omega)]
    omega
  have hrx : rg 0 (nI x) 255 := ⟨nI_pos' (by omega), nI_le (b := 255) (by omega) (by decide)⟩
  have hhow3 : how = 0 ∨ how = 1 ∨ how = 2 := by
    rw [hhow]
    split
    · exact Or.inl rfl
    · split
      · exact Or.inr (Or.inl rfl)
      · exact Or.inr (Or.inr rfl)
  have how0 : how = 0 → d = q := fun z => by
    rw [hhow] at z
    by_cases y : nI x = m 1 22
    · exact hxN.mp y
    · rw [if_neg y] at z
      by_cases y2 : nI x = m 1 23
      · rw [if_pos y2] at z
        exact absurd z (by decide)
      · rw [if_neg y2] at z
        exact absurd z (by decide)
  have how1 : how = 1 → d = 0 := fun z => by
    rw [hhow] at z
    by_cases y : nI x = m 1 22
    · rw [if_pos y] at z
      exact absurd z (by decide)
    · rw [if_neg y] at z
      by_cases y2 : nI x = m 1 23
      · exact hxS.mp y2
      · rw [if_neg y2] at z
        exact absurd z (by decide)
  have hst : f_X8_standingOf (nI x) l = how := by
    unfold f_X8_standingOf
    rw [p2, p3, hhow]
  obtain ⟨V, hV⟩ : ∃ V, V = f_X11_verdict (l 17 6) how r w (m 1 30) (m 1 3 + 3) := ⟨_, rfl⟩
  have hVc : f_X8_verdictOf (l 17 6) how (r + w2 w) (l 17 9) (l 2 3) = V := by
    rw [verd hr hw, p4, g_set.2.2.2.2.1, hV]
  have hvh := verd_h (a := l 17 6) (t := m 1 30) (L := m 1 3 + 3) (r := r) (w := w) hhow3
  rw [← hV] at hvh
  obtain ⟨k, hk, hVk⟩ : ∃ k : Nat, k < 9 ∧ V = nI k := by
    rcases hvh with ⟨-, z | z⟩ | ⟨-, z | z | z | z | z | z | z⟩ | ⟨-, z | z | z | z⟩
    · exact ⟨1, by decide, z⟩
    · exact ⟨7, by decide, z⟩
    · exact ⟨0, by decide, z⟩
    · exact ⟨3, by decide, z⟩
    · exact ⟨4, by decide, z⟩
    · exact ⟨5, by decide, z⟩
    · exact ⟨6, by decide, z⟩
    · exact ⟨7, by decide, z⟩
    · exact ⟨8, by decide, z⟩
    · exact ⟨2, by decide, z⟩
    · exact ⟨3, by decide, z⟩
    · exact ⟨6, by decide, z⟩
    · exact ⟨7, by decide, z⟩
  obtain ⟨n1, n2, n3⟩ := note_pair h hk
  rw [← hVk] at n1 n2
  have H1 : H_ok l m (mj_wrs l 8 k (l 8 k + 1)) (mj_wrs m 1 (110 + k) (m 1 (110 + k) + 1)) := ⟨fun p p1 p2 => wr_row _ _ _ _ _ (by omega), fun p hp => wr_row _ _ _ _ _ hp, fun s hs => wr_e (Or.inr (by omega))⟩
  have k17 : mj_wrs l 8 k (l 8 k + 1) 17 = l 17 := wr_row _ _ _ _ _ (by decide)
  have k23 : mj_wrs l 8 k (l 8 k + 1) 23 4 = nI q := by rw [wr_e (Or.inl (by decide)), g_sent.1, eq]
  have ks : ∀ s, s < 110 ∨ 118 < s → mj_wrs m 1 (110 + k) (m 1 (110 + k) + 1) 1 s = m 1 s := fun s hs => wr_e (Or.inr (by omega))
  have efar : f_X10_far (nI x) (mj_wrs l 8 k (l 8 k + 1) 17 8) = nI d := by
    unfold f_X10_far
    rw [k17, p3, eS, far_eq (by omega), hd]
  rw [fol_e hst hVc n1 efar, J193e (by rw [← p1, ← hV]) n2]
  generalize mj_wrs l 8 k (l 8 k + 1) = lz at *
  generalize mj_wrs m 1 (110 + k) (m 1 (110 + k) + 1) = mz at *
  clear hVc n1 n2 hV
  by_cases V7 : V = 7
  · rw [V7, if_pos rfl, sd_no (by decide) (Or.inr rfl)]
    obtain ⟨l', m', a1, a2, a3, a4, -⟩ := al_pair n3.w he hu 4 ⟨by decide, by decide⟩
    exact ⟨l', m', a1, sd7 a2, a3, H1.tr a4⟩
  rw [if_neg V7]
  have hvh : (how = 0 ∧ V = 1) ∨ (how = 1 ∧ (V = 0 ∨ V = 3 ∨ V = 4 ∨ V = 5 ∨ V = 6 ∨ V = 8)) ∨ (how = 2 ∧ (V = 2 ∨ V = 3 ∨ V = 6)) := by
    rcases hvh with ⟨z, y | y⟩ | ⟨z, y | y | y | y | y | y | y⟩ | ⟨z, y | y | y | y⟩
    · exact Or.inl ⟨z, y⟩
    · exact absurd y V7
    · exact Or.inr (Or.inl ⟨z, Or.inl y⟩)
    · exact Or.inr (Or.inl ⟨z, Or.inr (Or.inl y)⟩)
    · exact Or.inr (Or.inl ⟨z, Or.inr (Or.inr (Or.inl y))⟩)
    · exact Or.inr (Or.inl ⟨z, Or.inr (Or.inr (Or.inr (Or.inl y)))⟩)
    · exact Or.inr (Or.inl ⟨z, Or.inr (Or.inr (Or.inr (Or.inr (Or.inl y))))⟩)
    · exact absurd y V7
    · exact Or.inr (Or.inl ⟨z, Or.inr (Or.inr (Or.inr (Or.inr (Or.inr y))))⟩)
    · exact Or.inr (Or.inr ⟨z, Or.inl y⟩)
    · exact Or.inr (Or.inr ⟨z, Or.inr (Or.inl y)⟩)
    · exact Or.inr (Or.inr ⟨z, Or.inr (Or.inr y)⟩)
    · exact absurd y V7
  by_cases V8 : V = 8
  · have hh : ¬ how = 2 := by
      rcases hvh with ⟨z, -⟩ | ⟨z, -⟩ | ⟨-, y⟩
      · rw [z]; decide
      · rw [z]; decide
      · rw [V8] at y
        rcases y with y | y | y <;> exact absurd y (by decide)
    rw [V8, if_pos rfl, sd_no (by decide) (Or.inl hh)]
    obtain ⟨l', m', a1, a2, a3, a4, -⟩ := al_pair n3.w he hu 2 ⟨by decide, by decide⟩
    exact ⟨l', m', a1, sd8 a2, a3, H1.tr a4⟩
  rw [if_neg V8]
  -- what goes
  obtain ⟨lA, mA, b1, b2, b3, b4, b5, b6, b7⟩ : ∃ lA mA : mj_m, f_X2_letGo (nI d) lz = some lA ∧ f_X11_isSaid V how (nI x) w mz = f_X11_isSaid_J21 V how (nI x) w mA ∧ I_lwc lA (mA 1) pl pm e u v T ∧ (∀ k, k ≠ 4 → k < 23 ∨ 27 < k → lA k = lz k) ∧ (∀ p, p ≠ 1 → mA p = mz p) ∧ mA 1 25 = nI (q - d) ∧ (∀ s, s ≠ 25 → s < 66 ∨ 105 < s → s < 1097 → mA 1 s = mz 1 s) := by
    have go : (V = 1 ∨ (how = 2 ∧ ¬ V = 7)) → ∃ lA mA : mj_m, f_X2_letGo (nI d) lz = some lA ∧ f_X11_isSaid V how (nI x) w mz = f_X11_isSaid_J21 V how (nI x) w mA ∧ I_lwc lA (mA 1) pl pm e u v T ∧ (∀ k, k ≠ 4 → k < 23 ∨ 27 < k → lA k = lz k) ∧ (∀ p, p ≠ 1 → mA p = mz p) ∧ mA 1 25 = nI (q - d) ∧ (∀ s, s ≠ 25 → s < 66 ∨ 105 < s → s < 1097 → mA 1 s = mz 1 s) := fun c => by
      obtain ⟨l', m', a1, a2, -, a3, a4, a5, a6, a7⟩ := lg_core (N := N) (d := d) (q := q) (x := x) n3 he hN (by rw [ks 22 (by omega), eN]) (by rw [ks 25 (by omega), eq]) hdq' hq20 hxd
      exact ⟨l', m', a1, by rw [sd_go c, a2, b1s], a3, a4, a5, a6, a7⟩
    rcases hvh with ⟨z, y⟩ | ⟨z, y⟩ | ⟨z, y⟩
    · exact go (Or.inl y)
    · have d0 := how1 z
      rw [d0]
      have hq1 : ¬ V = 1 := by
        rcases y with y | y | y | y | y | y <;> rw [y] <;> decide
      have hh : ¬ how = 2 := by rw [z]; decide
      exact ⟨lz, mz, letGo0 k23 hq20, sd_no hq1 (Or.inl hh), n3.w, fun _ _ _ => rfl, fun _ _ => rfl, by rw [ks 25 (by omega), eq]; rfl, fun _ _ _ _ => rfl⟩
    · exact go (Or.inr ⟨z, V7⟩)
  rw [b1, b1s, b2]
  have HA : H_ok lz mz lA mA := ⟨fun k k1 k2 => b4 k (by omega) (by omega), b5, fun s hs => b7 s (by omega) (by omega) (by omega)⟩
  have H2 := H1.tr HA
  by_cases V6 : V = 6
  · rw [V6, if_pos rfl]
    obtain ⟨l', m', a1, a2, a3, a4, -⟩ := al_pair b3 he hu 5 ⟨by decide, by decide⟩
    exact ⟨l', m', a1, sd6 a2, a3, H2.tr a4⟩
  rw [if_neg V6]
  have A17 : lA 17 = l 17 := by rw [b4 17 (by decide) (by omega), k17]
  have An : ∀ s, s ≠ 25 → s < 66 → mA 1 s = m 1 s := fun s s1 s2 => by rw [b7 s s1 (by omega) (by omega), ks s (by omega)]
  obtain ⟨⟨A_set, A_rng, A_tick⟩, A_rec, ⟨A_mach, A_line, A_sent, A_pass, A_dir, A_rep⟩, A_led, A_dia, A_plan⟩ := id b3
  have hx2 : nI x = (mA 1 22 - mA 1 25) &&& 255 := by
    rw [An 22 (by decide) (by decide), eN, b6, far_eq (by omega)]
    congr 1
    omega
  have heldA : lA 17 11 = 0 := by rw [A17, held]
  have A6 : lA 17 6 = mA 1 21 + 6 := A_mach.1.1
  have Apat : rg 1 (lA 2 4) 99 := A_rng.2.2.2.2.1
  have Apat0 : rg 0 (lA 2 4) 99 := ⟨by have := Apat.1; grind, Apat.2⟩
  have A24 : lA 2 4 = mA 1 4 + 12 := A_set.2.2.2.2.2.1
  have hmk : ∀ i, i < mj_cl (mA 1 25) → lA 27 i = mA 1 (86 + i) ∧ rg 0 (mA 1 (86 + i)) 1 := fun i hi => by
    obtain ⟨q1, q2, q3, q4, q5, q6⟩ := A_sent.2.2 i hi
    exact ⟨q5, q6⟩
  have wx : (r + w2 w) &&& 2 = 0 ↔ w = 0 := by
    rcases hr with rfl | rfl <;> rcases hw with rfl | rfl <;> decide

  by_cases V1 : V = 1
  · have hB : f_X8_machineBehind V (if (r + w2 w) &&& 2 = 0 then 0 else 1) (mj_wrs (mj_wrs lA 17 8 (nI x)) 17 10 0) = 1 := by
      rw [mb, V1]
      rfl
    obtain ⟨lc, mc, c1, c2, c3, c4, c5, c6, c7, c8⟩ := chg (a := (mj_wrs (mj_wrs lA 17 8 (nI x)) 17 10 0) 17 6) (b := 1) (l := mj_wrs (mj_wrs lA 17 8 (nI x)) 17 10 0) (m := mA) (by
      obtain ⟨f1, f2, f3⟩ := A_dia.1
      exact ⟨by simp (disch := omega) only [wr_e]; exact f1, f2, fun i hi => by simp (disch := omega) only [wr_e]; exact f3 i hi⟩) (by simp (disch := omega) only [wr_e]; exact A_tick.1) (by simp (disch := omega) only [wr_e]; exact A6)
    have hAx : (1 : Int32) = 1 ∨ (1 : Int32) = 2 ∨ (1 : Int32) = 3 := by first | decide | (rw [A17]; exact hM)
    have ec := J163e hB c1
    refine ⟨mj_wrs lc 17 6 1, mj_wrs (mj_wrs mc 1 31 0) 1 23 (nI x), ?_, ?_, I_lk0_mono (said_fin (A := 1) (x := nI x) b3 hAx hrx hx2 heldA (fun k hk => ?_) (fun j hj => ?_) ?_ (fun j j1 j2 j3 j4 => ?_) (rs _ _ _ _) ?_ ?_ ?_ ?_ ?_ ?_ (fun i hi => ?_) (fun s hs => ?_)), H2.tr ⟨fun k k1 k2 => ?_, fun p hp => ?_, fun s hs => ?_⟩⟩
    · rw [V1] at ec ⊢
      rw [if_neg (by decide), if_pos rfl]
      exact ec
    · rw [V1]
      exact sd1 c2
    · rw [wr_row _ _ _ _ _ (by omega), c3 k (by omega) (by omega)]
      simp (disch := omega) only [wr_row]
    · rw [wr_e (Or.inl (by decide)), c4 j hj]
      simp (disch := omega) only [wr_e]
    · obtain ⟨f1, f2, f3⟩ := c8
      refine ⟨?_, ?_, fun i hi => ?_⟩
      · simp (disch := omega) only [wr_e]
        exact f1
      · simp (disch := omega) only [wr_e]
        exact f2
      · simp (disch := omega) only [wr_e] at hi
        have h80 := f2.2
        simp (disch := omega) only [wr_e]
        exact f3 i hi
    · rw [wr_e (Or.inr j1), c3 17 (by decide) (by decide)]
      simp (disch := omega) only [wr_e]
    · simp (disch := omega) only [wr_e]
      exact c7
    · rw [wr_e (Or.inr (by decide)), c3 17 (by decide) (by decide)]
      simp (disch := omega) only [wr_e, rs]
    · simp (disch := omega) only [wr_e, rs]
    · rw [wr_e (Or.inr (by decide)), c3 17 (by decide) (by decide)]
      simp (disch := omega) only [wr_e, rs, c6]
      exact A_mach.2.2.2.1
    · rw [wr_e (Or.inr (by decide)), c3 17 (by decide) (by decide)]
      simp (disch := omega) only [wr_e, rs, c6]
      skip
    · simp (disch := omega) only [wr_e, rs, c6]
      exact ⟨by decide, by decide⟩
    · rw [wr_e (Or.inl (by decide)), c3 27 (by decide) (by decide)]
      have i20 : i < 20 := Nat.lt_of_lt_of_le hi A_sent.2.1.2
      simp (disch := omega) only [wr_e, c6]
      exact hmk i hi
    · simp (disch := omega) only [wr_e, c6]
    · rw [wr_row _ _ _ _ _ (by omega), c3 k (by omega) (by omega)]
      simp (disch := omega) only [wr_row]
    · simp (disch := omega) only [wr_row, c5]
    · simp (disch := omega) only [wr_e, c6]
  by_cases V2 : V = 2
  · have hB : f_X8_machineBehind V (if (r + w2 w) &&& 2 = 0 then 0 else 1) (mj_wrs (mj_wrs (mj_wrs lA 17 8 (nI x)) 17 9 1) 17 10 (lA 2 4)) = 1 := by
      rw [mb, V2]
      rfl
    obtain ⟨lc, mc, c1, c2, c3, c4, c5, c6, c7, c8⟩ := chg (a := (mj_wrs (mj_wrs (mj_wrs lA 17 8 (nI x)) 17 9 1) 17 10 (lA 2 4)) 17 6) (b := 1) (l := mj_wrs (mj_wrs (mj_wrs lA 17 8 (nI x)) 17 9 1) 17 10 (lA 2 4)) (m := mA) (by
      obtain ⟨f1, f2, f3⟩ := A_dia.1
      exact ⟨by simp (disch := omega) only [wr_e]; exact f1, f2, fun i hi => by simp (disch := omega) only [wr_e]; exact f3 i hi⟩) (by simp (disch := omega) only [wr_e]; exact A_tick.1) (by simp (disch := omega) only [wr_e]; exact A6)
    have hAx : (1 : Int32) = 1 ∨ (1 : Int32) = 2 ∨ (1 : Int32) = 3 := by first | decide | (rw [A17]; exact hM)
    have ec := J163e hB c1
    refine ⟨mj_wrs lc 17 6 1, mj_wrs (mj_wrs (mj_wrs mc 1 30 1) 1 31 (mc 1 4 + 12)) 1 23 (nI x), ?_, ?_, I_lk0_mono (said_fin (A := 1) (x := nI x) b3 hAx hrx hx2 heldA (fun k hk => ?_) (fun j hj => ?_) ?_ (fun j j1 j2 j3 j4 => ?_) (rs _ _ _ _) ?_ ?_ ?_ ?_ ?_ ?_ (fun i hi => ?_) (fun s hs => ?_)), H2.tr ⟨fun k k1 k2 => ?_, fun p hp => ?_, fun s hs => ?_⟩⟩
    · rw [V2] at ec ⊢
      rw [if_neg (by decide), if_neg (by decide), if_pos rfl]
      exact ec
    · rw [V2]
      exact sd2 c2
    · rw [wr_row _ _ _ _ _ (by omega), c3 k (by omega) (by omega)]
      simp (disch := omega) only [wr_row]
    · rw [wr_e (Or.inl (by decide)), c4 j hj]
      simp (disch := omega) only [wr_e]
    · obtain ⟨f1, f2, f3⟩ := c8
      refine ⟨?_, ?_, fun i hi => ?_⟩
      · simp (disch := omega) only [wr_e]
        exact f1
      · simp (disch := omega) only [wr_e]
        exact f2
      · simp (disch := omega) only [wr_e] at hi
        have h80 := f2.2
        simp (disch := omega) only [wr_e]
        exact f3 i hi
    · rw [wr_e (Or.inr j1), c3 17 (by decide) (by decide)]
      simp (disch := omega) only [wr_e]
    · simp (disch := omega) only [wr_e]
      exact c7
    · rw [wr_e (Or.inr (by decide)), c3 17 (by decide) (by decide)]
      simp (disch := omega) only [wr_e, rs]
    · simp (disch := omega) only [wr_e, rs]
    · rw [wr_e (Or.inr (by decide)), c3 17 (by decide) (by decide)]
      simp (disch := omega) only [wr_e, rs]
      
    · rw [wr_e (Or.inr (by decide)), c3 17 (by decide) (by decide)]
      simp (disch := omega) only [wr_e, rs, c6]
      exact A24
    · simp (disch := omega) only [wr_e, rs, c6]
      rw [← A24]
      exact Apat0
    · rw [wr_e (Or.inl (by decide)), c3 27 (by decide) (by decide)]
      have i20 : i < 20 := Nat.lt_of_lt_of_le hi A_sent.2.1.2
      simp (disch := omega) only [wr_e, c6]
      exact hmk i hi
    · simp (disch := omega) only [wr_e, c6]
    · rw [wr_row _ _ _ _ _ (by omega), c3 k (by omega) (by omega)]
      simp (disch := omega) only [wr_row]
    · simp (disch := omega) only [wr_row, c5]
    · simp (disch := omega) only [wr_e, c6]
  by_cases V0 : V = 0
  · have hB : f_X8_machineBehind V (if (r + w2 w) &&& 2 = 0 then 0 else 1) (mj_wrs lA 17 8 (nI x)) = (lA 17 6) := by
      rw [mb, V0]
      simp (disch := omega) only [wr_e]
      rfl
    obtain ⟨lc, mc, c1, c2, c3, c4, c5, c6, c7, c8⟩ := chg (a := (mj_wrs lA 17 8 (nI x)) 17 6) (b := (lA 17 6)) (l := mj_wrs lA 17 8 (nI x)) (m := mA) (by
      obtain ⟨f1, f2, f3⟩ := A_dia.1
      exact ⟨by simp (disch := omega) only [wr_e]; exact f1, f2, fun i hi => by simp (disch := omega) only [wr_e]; exact f3 i hi⟩) (by simp (disch := omega) only [wr_e]; exact A_tick.1) (by simp (disch := omega) only [wr_e]; exact A6)
    have hAx : ((lA 17 6) : Int32) = 1 ∨ ((lA 17 6) : Int32) = 2 ∨ ((lA 17 6) : Int32) = 3 := by first | decide | (rw [A17]; exact hM)
    have ec := J163e hB c1
    refine ⟨mj_wrs lc 17 6 (lA 17 6), mj_wrs mc 1 23 (nI x), ?_, ?_, I_lk0_mono (said_fin (A := (lA 17 6)) (x := nI x) b3 hAx hrx hx2 heldA (fun k hk => ?_) (fun j hj => ?_) ?_ (fun j j1 j2 j3 j4 => ?_) (rs _ _ _ _) ?_ ?_ ?_ ?_ ?_ ?_ (fun i hi => ?_) (fun s hs => ?_)), H2.tr ⟨fun k k1 k2 => ?_, fun p hp => ?_, fun s hs => ?_⟩⟩
    · rw [V0] at ec ⊢
      rw [if_neg (by decide), if_neg (by decide), if_neg (by decide)]
      exact ec
    · rw [V0]
      have e0 : mc = mA := by
        have hbe : f_X11_becomes (lA 17 6) mA = some mA := by
          unfold f_X11_becomes f_X11_machine
          rw [lts, if_pos A6]
        rw [hbe] at c2
        exact (Option.some.inj c2).symm
      rw [e0]
      exact sd0
    · rw [wr_row _ _ _ _ _ (by omega), c3 k (by omega) (by omega)]
      simp (disch := omega) only [wr_row]
    · rw [wr_e (Or.inl (by decide)), c4 j hj]
      simp (disch := omega) only [wr_e]
    · obtain ⟨f1, f2, f3⟩ := c8
      refine ⟨?_, ?_, fun i hi => ?_⟩
      · simp (disch := omega) only [wr_e]
        exact f1
      · simp (disch := omega) only [wr_e]
        exact f2
      · simp (disch := omega) only [wr_e] at hi
        have h80 := f2.2
        simp (disch := omega) only [wr_e]
        exact f3 i hi
    · rw [wr_e (Or.inr j1), c3 17 (by decide) (by decide)]
      simp (disch := omega) only [wr_e]
    · simp (disch := omega) only [wr_e]
      exact c7
    · rw [wr_e (Or.inr (by decide)), c3 17 (by decide) (by decide)]
      simp (disch := omega) only [wr_e, rs]
    · simp (disch := omega) only [wr_e, rs]
    · rw [wr_e (Or.inr (by decide)), c3 17 (by decide) (by decide)]
      simp (disch := omega) only [wr_e, rs, c6]
      exact A_mach.2.2.2.1
    · rw [wr_e (Or.inr (by decide)), c3 17 (by decide) (by decide)]
      simp (disch := omega) only [wr_e, rs, c6]
      exact A_mach.2.2.2.2.1.1
    · simp (disch := omega) only [wr_e, rs, c6]
      exact A_mach.2.2.2.2.1.2
    · rw [wr_e (Or.inl (by decide)), c3 27 (by decide) (by decide)]
      have i20 : i < 20 := Nat.lt_of_lt_of_le hi A_sent.2.1.2
      simp (disch := omega) only [wr_e, c6]
      exact hmk i hi
    · simp (disch := omega) only [wr_e, c6]
    · rw [wr_row _ _ _ _ _ (by omega), c3 k (by omega) (by omega)]
      simp (disch := omega) only [wr_row]
    · simp (disch := omega) only [wr_row, c5]
    · simp (disch := omega) only [wr_e, c6]
  by_cases V4 : V = 4
  · have hB : f_X8_machineBehind V (if (r + w2 w) &&& 2 = 0 then 0 else 1) (mj_wrs lA 17 8 (nI x)) = 3 := by
      rw [mb, V4]
      rfl
    obtain ⟨lc, mc, c1, c2, c3, c4, c5, c6, c7, c8⟩ := chg (a := (mj_wrs lA 17 8 (nI x)) 17 6) (b := 3) (l := mj_wrs lA 17 8 (nI x)) (m := mA) (by
      obtain ⟨f1, f2, f3⟩ := A_dia.1
      exact ⟨by simp (disch := omega) only [wr_e]; exact f1, f2, fun i hi => by simp (disch := omega) only [wr_e]; exact f3 i hi⟩) (by simp (disch := omega) only [wr_e]; exact A_tick.1) (by simp (disch := omega) only [wr_e]; exact A6)
    have hAx : (3 : Int32) = 1 ∨ (3 : Int32) = 2 ∨ (3 : Int32) = 3 := by first | decide | (rw [A17]; exact hM)
    have ec := J163e hB c1
    refine ⟨mj_wrs lc 17 6 3, mj_wrs mc 1 23 (nI x), ?_, ?_, I_lk0_mono (said_fin (A := 3) (x := nI x) b3 hAx hrx hx2 heldA (fun k hk => ?_) (fun j hj => ?_) ?_ (fun j j1 j2 j3 j4 => ?_) (rs _ _ _ _) ?_ ?_ ?_ ?_ ?_ ?_ (fun i hi => ?_) (fun s hs => ?_)), H2.tr ⟨fun k k1 k2 => ?_, fun p hp => ?_, fun s hs => ?_⟩⟩
    · rw [V4] at ec ⊢
      rw [if_neg (by decide), if_neg (by decide), if_neg (by decide)]
      exact ec
    · rw [V4]
      exact sd4 c2
    · rw [wr_row _ _ _ _ _ (by omega), c3 k (by omega) (by omega)]
      simp (disch := omega) only [wr_row]
    · rw [wr_e (Or.inl (by decide)), c4 j hj]
      simp (disch := omega) only [wr_e]
    · obtain ⟨f1, f2, f3⟩ := c8
      refine ⟨?_, ?_, fun i hi => ?_⟩
      · simp (disch := omega) only [wr_e]
        exact f1
      · simp (disch := omega) only [wr_e]
        exact f2
      · simp (disch := omega) only [wr_e] at hi
        have h80 := f2.2
        simp (disch := omega) only [wr_e]
        exact f3 i hi
    · rw [wr_e (Or.inr j1), c3 17 (by decide) (by decide)]
      simp (disch := omega) only [wr_e]
    · simp (disch := omega) only [wr_e]
      exact c7
    · rw [wr_e (Or.inr (by decide)), c3 17 (by decide) (by decide)]
      simp (disch := omega) only [wr_e, rs]
    · simp (disch := omega) only [wr_e, rs]
    · rw [wr_e (Or.inr (by decide)), c3 17 (by decide) (by decide)]
      simp (disch := omega) only [wr_e, rs, c6]
      exact A_mach.2.2.2.1
    · rw [wr_e (Or.inr (by decide)), c3 17 (by decide) (by decide)]
      simp (disch := omega) only [wr_e, rs, c6]
      exact A_mach.2.2.2.2.1.1
    · simp (disch := omega) only [wr_e, rs, c6]
      exact A_mach.2.2.2.2.1.2
    · rw [wr_e (Or.inl (by decide)), c3 27 (by decide) (by decide)]
      have i20 : i < 20 := Nat.lt_of_lt_of_le hi A_sent.2.1.2
      simp (disch := omega) only [wr_e, c6]
      exact hmk i hi
    · simp (disch := omega) only [wr_e, c6]
    · rw [wr_row _ _ _ _ _ (by omega), c3 k (by omega) (by omega)]
      simp (disch := omega) only [wr_row]
    · simp (disch := omega) only [wr_row, c5]
    · simp (disch := omega) only [wr_e, c6]
  by_cases V5 : V = 5
  · have hB : f_X8_machineBehind V (if (r + w2 w) &&& 2 = 0 then 0 else 1) (mj_wrs lA 17 8 (nI x)) = 2 := by
      rw [mb, V5]
      rfl
    obtain ⟨lc, mc, c1, c2, c3, c4, c5, c6, c7, c8⟩ := chg (a := (mj_wrs lA 17 8 (nI x)) 17 6) (b := 2) (l := mj_wrs lA 17 8 (nI x)) (m := mA) (by
      obtain ⟨f1, f2, f3⟩ := A_dia.1
      exact ⟨by simp (disch := omega) only [wr_e]; exact f1, f2, fun i hi => by simp (disch := omega) only [wr_e]; exact f3 i hi⟩) (by simp (disch := omega) only [wr_e]; exact A_tick.1) (by simp (disch := omega) only [wr_e]; exact A6)
    have hAx : (2 : Int32) = 1 ∨ (2 : Int32) = 2 ∨ (2 : Int32) = 3 := by first | decide | (rw [A17]; exact hM)
    have ec := J163e hB c1
    refine ⟨mj_wrs lc 17 6 2, mj_wrs mc 1 23 (nI x), ?_, ?_, I_lk0_mono (said_fin (A := 2) (x := nI x) b3 hAx hrx hx2 heldA (fun k hk => ?_) (fun j hj => ?_) ?_ (fun j j1 j2 j3 j4 => ?_) (rs _ _ _ _) ?_ ?_ ?_ ?_ ?_ ?_ (fun i hi => ?_) (fun s hs => ?_)), H2.tr ⟨fun k k1 k2 => ?_, fun p hp => ?_, fun s hs => ?_⟩⟩
    · rw [V5] at ec ⊢
      rw [if_neg (by decide), if_neg (by decide), if_neg (by decide)]
      exact ec
    · rw [V5]
      exact sd5 c2
    · rw [wr_row _ _ _ _ _ (by omega), c3 k (by omega) (by omega)]
      simp (disch := omega) only [wr_row]
    · rw [wr_e (Or.inl (by decide)), c4 j hj]
      simp (disch := omega) only [wr_e]
    · obtain ⟨f1, f2, f3⟩ := c8
      refine ⟨?_, ?_, fun i hi => ?_⟩
      · simp (disch := omega) only [wr_e]
        exact f1
      · simp (disch := omega) only [wr_e]
        exact f2
      · simp (disch := omega) only [wr_e] at hi
        have h80 := f2.2
        simp (disch := omega) only [wr_e]
        exact f3 i hi
    · rw [wr_e (Or.inr j1), c3 17 (by decide) (by decide)]
      simp (disch := omega) only [wr_e]
    · simp (disch := omega) only [wr_e]
      exact c7
    · rw [wr_e (Or.inr (by decide)), c3 17 (by decide) (by decide)]
      simp (disch := omega) only [wr_e, rs]
    · simp (disch := omega) only [wr_e, rs]
    · rw [wr_e (Or.inr (by decide)), c3 17 (by decide) (by decide)]
      simp (disch := omega) only [wr_e, rs, c6]
      exact A_mach.2.2.2.1
    · rw [wr_e (Or.inr (by decide)), c3 17 (by decide) (by decide)]
      simp (disch := omega) only [wr_e, rs, c6]
      exact A_mach.2.2.2.2.1.1
    · simp (disch := omega) only [wr_e, rs, c6]
      exact A_mach.2.2.2.2.1.2
    · rw [wr_e (Or.inl (by decide)), c3 27 (by decide) (by decide)]
      have i20 : i < 20 := Nat.lt_of_lt_of_le hi A_sent.2.1.2
      simp (disch := omega) only [wr_e, c6]
      exact hmk i hi
    · simp (disch := omega) only [wr_e, c6]
    · rw [wr_row _ _ _ _ _ (by omega), c3 k (by omega) (by omega)]
      simp (disch := omega) only [wr_row]
    · simp (disch := omega) only [wr_row, c5]
    · simp (disch := omega) only [wr_e, c6]
  have V3 : V = 3 := by
    rcases hvh with ⟨-, y⟩ | ⟨-, y⟩ | ⟨-, y⟩
    · exact absurd y V1
    · rcases y with y | y | y | y | y | y
      · exact absurd y V0
      · exact y
      · exact absurd y V4
      · exact absurd y V5
      · exact absurd y V6
      · exact absurd y V8
    · rcases y with y | y | y
      · exact absurd y V2
      · exact y
      · exact absurd y V6
  rw [V3, if_pos rfl]
  obtain ⟨lb, mb', f1, f2, f3, f4, f5, f6, f7, f8⟩ : ∃ lb mb' : mj_m, (if how = 2 then f_X8_followTable_J118 (r + w2 w) 3 (mj_wrs (mj_wrs lA 17 8 (nI x)) 17 9 0) else f_X8_followTable_J118 (r + w2 w) 3 (mj_wrs lA 17 8 (nI x))) = f_X8_followTable_J118 (r + w2 w) 3 lb ∧ (if how = 2 then mj_wrs mA 1 30 0 else mA) = mb' ∧ (∀ k, k ≠ 17 → lb k = lA k) ∧ (∀ j, j ≠ 8 → j ≠ 9 → lb 17 j = lA 17 j) ∧ lb 17 8 = nI x ∧ lb 17 9 = mb' 1 30 ∧ (∀ p, p ≠ 1 → mb' p = mA p) ∧ ∀ s, s ≠ 30 → mb' 1 s = mA 1 s := by
    by_cases z : how = 2
    · rw [if_pos z, if_pos z]
      exact ⟨_, _, rfl, rfl, fun k hk => by simp (disch := omega) only [wr_row], fun j j1 j2 => by simp (disch := omega) only [wr_e], by simp (disch := omega) only [wr_e, rs], by rw [rs, rs], fun p hp => wr_row _ _ _ _ _ hp, fun s hs => wr_e (Or.inr hs)⟩
    · rw [if_neg z, if_neg z]
      exact ⟨_, _, rfl, rfl, fun k hk => wr_row _ _ _ _ _ hk, fun j j1 j2 => wr_e (Or.inr j1), rs _ _ _ _, by rw [wr_e (Or.inr (by decide))]; exact A_mach.2.2.2.1, fun _ _ => rfl, fun _ _ => rfl⟩
  rw [f1]
  have c25 : mj_cl (mA 1 25) = q - d := by rw [b6, clI (by omega)]
  obtain ⟨l1, m1, k1, k2, k3, k4, k5, k6, k7, k8, k9, k10, k11, k12⟩ := mrk (l := lb) (m := mb') (c := q - d) (by rw [f4 6 (by decide) (by decide), f8 21 (by decide)]; exact A6) (by rw [f3 23 (by decide), A_sent.1, b6]) (by rw [f8 25 (by decide), b6]) (by omega) (by rw [f3 2 (by decide), f8 4 (by decide)]; exact A24) f6 (fun i hi => by rw [f3 27 (by decide), f8 _ (by omega)]; exact hmk i (by omega))
  have l16 : l1 17 6 = lA 17 6 := by rw [k4 6 (by decide) (by decide) (by decide), f4 6 (by decide) (by decide)]
  have h5 : ¬ lb 17 6 = 5 := by
    rw [f4 6 (by decide) (by decide), A17]
    rcases hM with z | z | z <;> rw [z] <;> decide
  rw [if_neg h5] at k11 k12
  obtain ⟨B, hBe⟩ : ∃ B : Int32, B = if w = 0 then 2 else 3 := ⟨_, rfl⟩
  have hB : f_X8_machineBehind 3 (if (r + w2 w) &&& 2 = 0 then 0 else 1) l1 = B := by
    rw [mb, hBe]
    by_cases z : w = 0
    · rw [if_pos (wx.mpr z), if_pos z]
      rfl
    · rw [if_neg (fun y => z (wx.mp y)), if_neg z]
      rfl
  obtain ⟨lc, mc, c1, c2, c3, c4, c5, c6, c7, c8⟩ := chg (a := l1 17 6) (b := B) (l := l1) (m := m1) (by
    obtain ⟨g1, g2, g3⟩ := A_dia.1
    have e34 : m1 1 34 = mA 1 34 := by rw [k6 34 (by decide) (by decide) (by decide) (by omega), f8 34 (by decide)]
    refine ⟨by rw [k3 5 (by decide) (by decide), f3 5 (by decide), e34]; exact g1, by rw [e34]; exact g2, fun i hi => ?_⟩
    rw [e34] at hi
    have h80 := g2.2
    rw [k3 6 (by decide) (by decide), f3 6 (by decide), k6 _ (by omega) (by omega) (by omega) (by omega), f8 _ (by omega)]
    exact g3 i hi) (by rw [k3 1 (by decide) (by decide), f3 1 (by decide), k6 11 (by decide) (by decide) (by decide) (by omega), f8 11 (by decide)]; exact A_tick.1) (by rw [l16, k6 21 (by decide) (by decide) (by decide) (by omega), f8 21 (by decide)]; exact A6)
  have hAx : B = 1 ∨ B = 2 ∨ B = 3 := by
    rw [hBe]
    split
    · exact Or.inr (Or.inl rfl)
    · exact Or.inr (Or.inr rfl)
  have pat : l1 17 10 = lA 2 4 := by rw [k8, f3 2 (by decide)]
  have pat' : m1 1 31 = lA 2 4 := by rw [k9, f3 2 (by decide)]
  refine ⟨mj_wrs lc 17 6 B, mj_wrs mc 1 23 (nI x), ?_, sd3 (by rw [f2]; exact k2) (by rw [← hBe]; exact c2), I_lk0_mono (said_fin (A := B) (x := nI x) b3 hAx hrx hx2 heldA (fun k hk => ?_) (fun j hj => ?_) ?_ (fun j j1 j2 j3 j4 => ?_) (rs _ _ _ _) ?_ ?_ (rs _ _ _ _) ?_ ?_ ?_ (fun i hi => ?_) (fun s hs => ?_)), H2.tr ⟨fun k k1' k2' => ?_, fun p hp => ?_, fun s hs => ?_⟩⟩
  · unfold f_X8_followTable_J118
    rw [k1, b1s]
    exact J163e hB c1
  · rw [wr_row _ _ _ _ _ (by omega), c3 k (by omega) (by omega), k3 k (by omega) (by omega), f3 k (by omega)]
  · rw [wr_e (Or.inl (by decide)), c4 j hj, k3 5 (by decide) (by decide), f3 5 (by decide)]
  · obtain ⟨g1, g2, g3⟩ := c8
    refine ⟨?_, ?_, fun i hi => ?_⟩
    · rw [wr_e (Or.inl (by decide)), wr_e (Or.inr (by decide))]
      exact g1
    · rw [wr_e (Or.inr (by decide))]
      exact g2
    · rw [wr_e (Or.inr (by decide))] at hi
      rw [wr_e (Or.inl (by decide)), wr_e (Or.inr (by omega))]
      exact g3 i hi
  · rw [wr_e (Or.inr j1), c3 17 (by decide) (by decide)]
    by_cases z : j = 13
    · rw [z, k11, f4 13 (by decide) (by decide)]
    · rw [k4 j j3 j4 z, f4 j j2 j3]
  · rw [wr_e (Or.inr (by decide)), c7]
  · rw [wr_e (Or.inr (by decide)), c3 17 (by decide) (by decide), k4 8 (by decide) (by decide) (by decide), f5]
  · rw [wr_e (Or.inr (by decide)), c3 17 (by decide) (by decide), wr_e (Or.inr (by decide)), c6 30 (by decide) (by decide) (by omega), k7]
  · rw [wr_e (Or.inr (by decide)), c3 17 (by decide) (by decide), wr_e (Or.inr (by decide)), c6 31 (by decide) (by decide) (by omega), pat, pat']
  · rw [wr_e (Or.inr (by decide)), c6 31 (by decide) (by decide) (by omega), pat']
    exact Apat0
  · rw [c25] at hi
    rw [wr_e (Or.inl (by decide)), c3 27 (by decide) (by decide), wr_e (Or.inr (by omega)), c6 _ (by omega) (by omega) (by omega)]
    exact k10 i hi
  · rw [wr_e (Or.inr (by omega)), c6 s (by omega) (by omega) (by omega)]
    by_cases z : s = 28
    · rw [z, k12, f8 28 (by decide)]
    · rw [k6 s z (by omega) (by omega) (by omega), f8 s (by omega)]
  · rw [wr_row _ _ _ _ _ (by omega), c3 k (by omega) (by omega), k3 k (by omega) (by omega), f3 k (by omega)]
  · rw [wr_row _ _ _ _ _ hp, c5 p hp, k5 p hp, f7 p hp]
  · rw [wr_e (Or.inr (by omega)), c6 s (by omega) (by omega) (by omega), k6 s (by omega) (by omega) (by omega) (by omega), f8 s (by omega)]
