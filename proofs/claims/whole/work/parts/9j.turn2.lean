/-! the turn: frames in order -/
theorem shl16 {N : Nat} (h : N < 256) : mj_shl (nI N) 16 = nI (N * 2 ^ 16) := by
  unfold mj_shl
  exact pk_shlN _ 16 (by decide) (by omega)
theorem or0 (x : Int32) : (0 : Int32) ||| x = x := by
  apply Int32.toBitVec_inj.1
  simp
theorem sent_go {l m : mj_m} {pl : Nat → Int32} {pm : PM} {e u v T : Nat} (h : I_lk0 l (m 1) pl pm e u v T) (he : e ≤ 20000) (hv : v < 2 ^ 28) (hT : T ≤ 20000) (hwd : Wd l) (hup : I_up l (m 1) (39, 1)) {i q : Nat} (hq : m 1 25 = nI q) (hi : i < q) (hq20 : q ≤ 20) : ∃ l' m' : mj_m, mj_b1 (f_X2_noteWent (l 26 i) l) (fun m5 => f_X9_goes 33 ((0 ||| (mj_shl (m5 25 i) 16)) ||| (m5 24 i)) (m5 26 i) m5) = some l' ∧ mj_b1 (f_X11_goesOf (f_X11_firstSent m + nI i) m) (fun m5 => f_X11_goesFrame 0 (f_X11_numberOf (nI i) m5) ((m5 1 (66 + i)) / 256) (mj_rem (m5 1 (66 + i)) 256) (f_X11_firstSent m5 + nI i) m5) = some m' ∧ I_lk0 l' (m' 1) pl pm e u (v + 1) T ∧ I_up l' (m' 1) (40, 0) ∧ Fl l l' ∧ Fm m m' ∧ (∀ k, 38 ≤ k → k ≤ 42 → l' k = l k) ∧ Nd (m 1) (m' 1) ∧ l' 17 6 = l 17 6 := by
  have h0 := h
  obtain ⟨⟨g_set, g_rng, g_tick⟩, g_rec, ⟨g_mach, g_line, g_sent, g_pass, g_dir, g_rep, g_st⟩, g_led, g_dia, g_plan⟩ := h0
  obtain ⟨a1, a2, a3⟩ := id g_line
  obtain ⟨b1, b2, b3⟩ := id g_sent
  obtain ⟨d1, d2, d3, -⟩ := id g_led
  obtain ⟨p, hp, ep, cp⟩ := cn_i a2
  obtain ⟨E, hE, eE, cE⟩ := cn_i d2
  have cq : mj_cl (m 1 25) = q := by rw [hq, clI (by omega)]
  rw [cp, cq, cE] at d3
  obtain ⟨N, hN, eN⟩ := byN g_mach.2.1.2
  obtain ⟨q1, q2, q3, q4, q5, q6⟩ := b3 i (by omega)
  rw [eN, hq, num_eq (by omega)] at q3
  rw [cE, cp, cq] at q4
  obtain ⟨x, hx, ex⟩ := cmdN q2
  obtain ⟨y, hy, ey⟩ : ∃ y, y < 256 ∧ y = (N + 256 + i - q) % 256 := ⟨_, Nat.mod_lt _ (by decide), rfl⟩
  rw [← ey] at q3
  obtain ⟨l5, m5, w1, w2, w3, w4, w5, w6⟩ := went_eq (x := E - p - q + i) g_led he hv g_tick.1 (cn_mono g_tick.2 hT) (by rw [cE]; omega)
  have hl : ∀ k, k ≠ 4 → l5 k = l k := w3
  have hn : ∀ s, s < 1097 → m5 1 s = m 1 s := w5
  have hc5 : I_lk0 l5 (m5 1) pl pm e u (v + 1) T := by
    refine ⟨⟨I_set_cg g_set (by rw [hl 1 (by omega)]) (hl 2 (by omega)) (hn 12 (by omega)) (fun s _ => hn s (by omega)), I_rng_cg g_rng (hl 2 (by omega)), I_tick_cg g_tick (by rw [hl 1 (by omega)]) (hn 11 (by omega))⟩, I_rec_cg (I_rec_mono g_rec) (fun k _ _ => hl k (by omega)) (hn 38 (by omega)) (fun s _ _ => hn s (by omega)) (fun s _ _ => hn s (by omega)) (fun s _ _ => hn s (by omega)), ⟨I_mach_cg g_mach (fun _ _ => by rw [hl 17 (by omega)]) (fun s _ => hn s (by omega)), I_line_cg g_line (by rw [hl 18 (by omega)]) (hl 19 (by omega)) (hl 21 (by omega)) (hn 24 (by omega)) (hn 40 (by omega)) (fun s _ _ => hn s (by omega)), I_sent_cg g_sent (fun k _ _ => hl k (by omega)) (hn 22 (by omega)) (hn 24 (by omega)) (hn 25 (by omega)) (hn 40 (by omega)) (fun s _ _ => hn s (by omega)), I_pass_cg g_pass (by rw [hl 28 (by omega)]) (hl 29 (by omega)) (hn 29 (by omega)) (fun s _ _ => hn s (by omega)), I_dir_cg g_dir (fun _ _ => by rw [hl 17 (by omega)]) (fun s _ => hn s (by omega)), I_rep_cg g_rep (by rw [hl 17 (by omega)]) (hn 45 (by omega)) (hn 46 (by omega)) (hn 47 (by omega)), I_st_cg g_st (by rw [hl 17 (by omega)]) (by rw [hl 17 (by omega)]) (hn 31 (by omega)) (fun s _ _ => hn s (by omega))⟩, ?_, I_dia_cg (I_dia_mono g_dia) (fun k _ _ => hl k (by omega)) (hn 33 (by omega)) (hn 34 (by omega)) (hn 48 (by omega)) (fun s _ _ => hn s (by omega)), I_plan_cg g_plan (fun k _ _ => hl k (by omega)) (hn 49 (by omega))⟩
    exact w6
  have fs : ∀ z : mj_m, z 1 40 = nI E → z 1 24 = nI p → z 1 25 = nI q → f_X11_firstSent z + nI i = nI (E - p - q + i) := fun z z1 z2 z3 => by
    unfold f_X11_firstSent
    rw [z1, z2, z3, nI_sub (by omega), nI_sub (by omega), nI_add]
  obtain ⟨l6, m6, s1, s2, s3, s4⟩ := sendU (l := l5) (m := m5) (kd := 0) (n := y) (hi := x / 256) (lo := x % 256) (L := E - p - q + i + 1) (word := (0 ||| (mj_shl (l5 25 i) 16)) ||| (l5 24 i)) (line := l5 26 i) (a5 := nI (E - p - q + i)) (by
      unfold Wd
      rw [hl 33 (by decide), hl 38 (by decide)]
      exact hwd) hc5.1.1 hc5.1.2.1 hc5.1.2.2.1 (cn_mono hc5.1.2.2.2 hT) (I_up_nu hup (fun k k1 k2 => hl k (by omega)) ⟨hn 11 (by decide), hn 35 (by decide), hn 37 (by decide), hn 40 (by decide), hn 41 (by decide), hn 43 (by decide), fun s _ _ => hn s (by omega), fun s _ _ => hn s (by omega)⟩) (by decide) hy (by omega) (by omega) (by
      rw [hl 25 (by decide), hl 24 (by decide), q3, q1, ex, shl16 hy, or0, Nat.mul_comm, fa_or_sum y (by omega)]
      congr 1
      omega) (by rw [nI_1]) (by rw [hn 40 (by decide), cE]; omega) (by rw [hn 40 (by decide), cE]; omega) (by
      rw [hl 26 (by decide), q4, if_neg (by omega)]
      congr 1)
  obtain ⟨f1, f2, f3, f4⟩ := U_fl s3
  refine ⟨l6, m6, ?_, ?_, core_U hc5 s3, s4, ?_, (Fm.k w4).tr f2, fun k k1 k2 => by rw [f3 k k1 k2, hl k (by omega)], ?_, ?_⟩
  · rw [q4, w1, b1s]
    exact s1
  · rw [fs m eE ep hq, w2, b1s, fs m5 (by rw [hn 40 (by decide), eE]) (by rw [hn 24 (by decide), ep]) (by rw [hn 25 (by decide), hq])]
    have en : f_X11_numberOf (nI i) m5 = nI y := by
      unfold f_X11_numberOf f_X11_round
      rw [lts, hn 22 (by decide), hn 25 (by decide), eN, hq, num_eq (by omega), ey]
    rw [en, hn _ (by omega), ex, show (256 : Int32) = nI 256 from rfl, pk_div (by omega) (by decide) (by decide), show mj_rem (nI x) (nI 256) = nI (x % 256) from pk_rem (by omega) (by decide) (by decide)]
    exact s2
  · refine Fl.tr ?_ f1
    unfold Fl
    rw [hl 33 (by decide), hl 38 (by decide)]
    exact ⟨rfl, rfl, rfl, rfl⟩
  · refine Nd.tr ?_ f4
    exact ⟨hn 11 (by decide), hn 36 (by decide), hn 42 (by decide), hn 44 (by decide), fun s _ _ => hn s (by omega), fun s _ _ => hn s (by omega)⟩
  · rw [s3.1 17 (by decide) (by omega), hl 17 (by decide)]
theorem J104e {i : Nat} (hi : i < 20) {l : mj_m} : f_X8_haveTurn_J104 (nI i) l = mj_b1 (f_X2_noteWent (mj_wrs l 27 i 0 26 i) (mj_wrs l 27 i 0)) (fun m5 => f_X9_goes 33 ((0 ||| (mj_shl (m5 25 i) 16)) ||| (m5 24 i)) (m5 26 i) m5) := by
  have ne : ¬ nI i = -1 := fun z => by
    have : (0 : Int32) ≤ nI i := nI_pos' (by omega)
    rw [z] at this
    exact absurd this (by decide)
  unfold f_X8_haveTurn_J104
  rw [if_neg ne, chk_t (okI hi (by decide)), lts, clI (by omega)]
  simp only [chk_t (okI hi (show 20 ≤ 100000 by decide)), id1]
theorem gSe {i : Nat} (hi : i < 20) {m : mj_m} : f_X11_goesSent (nI i) m = mj_b1 (f_X11_goesOf (f_X11_firstSent (mj_wrs m 1 (86 + i) 0) + nI i) (mj_wrs m 1 (86 + i) 0)) (fun m5 => f_X11_goesFrame 0 (f_X11_numberOf (nI i) m5) ((m5 1 (66 + i)) / 256) (mj_rem (m5 1 (66 + i)) 256) (f_X11_firstSent m5 + nI i) m5) := by
  unfold f_X11_goesSent
  rw [show (86 : Int32) + nI i = nI (86 + i) from nI_add 86 i, show (66 : Int32) + nI i = nI (66 + i) from nI_add 66 i, chk_t (okI (by omega) (by decide)), lts, lts, clI (by omega)]
  have e : mj_cl (nI (66 + i)) = 66 + i := clI (by omega)
  simp only [chk_t (okI (show 66 + i < 1897 by omega) (show 1897 ≤ 100000 by decide)), lts, e, id1]
theorem fm_L {l m : mj_m} {q : Nat} (hq : q ≤ 20) (h23 : l 23 4 = nI q) (h25 : m 1 25 = nI q) (hmk : ∀ i, i < q → l 27 i = m 1 (86 + i) ∧ rg 0 (m 1 (86 + i)) 1) : ∀ (k i n n' : Nat), i + k = q → k < n → k < n' → (∃ j, i ≤ j ∧ j < q ∧ f_X7_firstMarked_L2 23 n (nI i) l = some (20, nI j) ∧ f_X11_firstMarked_L2 n' (nI i) m = some (nI j)) ∨ (f_X7_firstMarked_L2 23 n (nI i) l = some (28, 0) ∧ f_X11_firstMarked_L2 n' (nI i) m = some (nI q)) := by
  intro k
  induction k with
  | zero =>
    intro i n n' hi hn hn'
    obtain ⟨n, rfl⟩ : ∃ k, n = k + 1 := ⟨n - 1, by omega⟩
    obtain ⟨n', rfl⟩ : ∃ k, n' = k + 1 := ⟨n' - 1, by omega⟩
    refine Or.inr ⟨?_, ?_⟩
    · rw [f_X7_firstMarked_L2, h23, if_pos (nI_le (by omega) (by omega))]
    · rw [f_X11_firstMarked_L2, h25, if_pos (nI_le (by omega) (by omega)), show i = q by omega]
  | succ k ih =>
    intro i n n' hi hn hn'
    obtain ⟨n, rfl⟩ : ∃ k, n = k + 1 := ⟨n - 1, by omega⟩
    obtain ⟨n', rfl⟩ : ∃ k, n' = k + 1 := ⟨n' - 1, by omega⟩
    obtain ⟨z1, z2⟩ := hmk i (by omega)
    have z1' : l (23 + 4) i = m 1 (86 + i) := z1
    rw [f_X7_firstMarked_L2, h23, if_neg (nI_ge (by omega) (by omega)), chk_t (okI (by omega) (by decide)), clI (by omega), z1', f_X11_firstMarked_L2, h25, if_neg (nI_ge (by omega) (by omega)), show (86 : Int32) + nI i = nI (86 + i) from nI_add 86 i, chk_t (okI (by omega) (by decide)), clI (by omega), lts, lts, nI_1]
    rcases bit01 z2 with y | y
    · rw [if_neg (by rw [y]; decide), if_pos y]
      rcases ih (i + 1) n n' (by omega) (by omega) (by omega) with ⟨j, j1, j2, j3, j4⟩ | ⟨j1, j2⟩
      · exact Or.inl ⟨j, by omega, j2, j3, j4⟩
      · exact Or.inr ⟨j1, j2⟩
    · rw [if_pos y, if_neg (by rw [y]; decide)]
      exact Or.inl ⟨i, by omega, by omega, rfl, rfl⟩
theorem mark0 {l m : mj_m} {pl : Nat → Int32} {pm : PM} {e u v T : Nat} (h : I_lk0 l (m 1) pl pm e u v T) {i q : Nat} (hq : m 1 25 = nI q) (hi : i < q) (hq20 : q ≤ 20) : I_lk0 (mj_wrs l 27 i 0) (mj_wrs m 1 (86 + i) 0 1) pl pm e u v T := by
  have hl : ∀ k, k ≠ 27 → mj_wrs l 27 i 0 k = l k := fun k hk => wr_row _ _ _ _ _ hk
  have hn : ∀ s, s < 86 ∨ 105 < s → mj_wrs m 1 (86 + i) 0 1 s = m 1 s := fun s hs => wr_e (Or.inr (by omega))
  obtain ⟨⟨g_set, g_rng, g_tick⟩, g_rec, ⟨g_mach, g_line, g_sent, g_pass, g_dir, g_rep, g_st⟩, g_led, g_dia, g_plan⟩ := h
  refine ⟨⟨I_set_cg g_set (by rw [hl 1 (by omega)]) (hl 2 (by omega)) (hn 12 (by omega)) (fun s _ => hn s (by omega)), I_rng_cg g_rng (hl 2 (by omega)), I_tick_cg g_tick (by rw [hl 1 (by omega)]) (hn 11 (by omega))⟩, I_rec_cg (I_rec_mono g_rec) (fun k _ _ => hl k (by omega)) (hn 38 (by omega)) (fun s _ _ => hn s (by omega)) (fun s _ _ => hn s (by omega)) (fun s _ _ => hn s (by omega)), ⟨I_mach_cg g_mach (fun _ _ => by rw [hl 17 (by omega)]) (fun s _ => hn s (by omega)), I_line_cg g_line (by rw [hl 18 (by omega)]) (hl 19 (by omega)) (hl 21 (by omega)) (hn 24 (by omega)) (hn 40 (by omega)) (fun s _ _ => hn s (by omega)), ?_, I_pass_cg g_pass (by rw [hl 28 (by omega)]) (hl 29 (by omega)) (hn 29 (by omega)) (fun s _ _ => hn s (by omega)), I_dir_cg g_dir (fun _ _ => by rw [hl 17 (by omega)]) (fun s _ => hn s (by omega)), I_rep_cg g_rep (by rw [hl 17 (by omega)]) (hn 45 (by omega)) (hn 46 (by omega)) (hn 47 (by omega)), I_st_cg g_st (by rw [hl 17 (by omega)]) (by rw [hl 17 (by omega)]) (hn 31 (by omega)) (fun s _ _ => hn s (by omega))⟩, I_led_cg (I_led_mono g_led) (fun _ _ => by rw [hl 3 (by omega)]) (hl 4 (by omega)) (hl 46 (by omega)) (hn 11 (by omega)) (hn 19 (by omega)) (hn 24 (by omega)) (hn 25 (by omega)) (hn 40 (by omega)) (fun s _ _ => hn s (by omega)), I_dia_cg (I_dia_mono g_dia) (fun k _ _ => hl k (by omega)) (hn 33 (by omega)) (hn 34 (by omega)) (hn 48 (by omega)) (fun s _ _ => hn s (by omega)), I_plan_cg g_plan (fun k _ _ => hl k (by omega)) (hn 49 (by omega))⟩
  obtain ⟨b1, b2, b3⟩ := g_sent
  refine ⟨?_, ?_, fun j hj => ?_⟩
  · rw [hl 23 (by decide), hn 25 (by omega)]
    exact b1
  · rw [hn 25 (by omega)]
    exact b2
  · rw [hn 25 (by omega)] at hj
    have hjq : j < q := by
      rw [hq, clI (by omega)] at hj
      exact hj
    obtain ⟨q1, q2, q3, q4, q5, q6⟩ := b3 j hj
    rw [hl 24 (by decide), hl 25 (by decide), hl 26 (by decide), hn 22 (by omega), hn 25 (by omega), hn 40 (by omega), hn 24 (by omega), hn (66 + j) (by omega)]
    refine ⟨q1, q2, q3, q4, ?_⟩
    by_cases z : j = i
    · rw [z, rs, rs]
      exact ⟨rfl, by decide, by decide⟩
    · rw [wr_e (Or.inr z), wr_e (Or.inr (by omega))]
      exact ⟨q5, q6⟩
set_option maxHeartbeats 1000000 in
theorem newf {l m : mj_m} {pl : Nat → Int32} {pm : PM} {e u v T : Nat} (h : I_lk0 l (m 1) pl pm e u v T) {p q : Nat} (hp : m 1 24 = nI (p + 1)) (hp8 : p < 8) (hq : m 1 25 = nI q) (hq20 : q < 20) (hk : ¬ l 2 2 ≤ l 23 4) (hM : l 17 6 = 1 ∨ l 17 6 = 2) : ∃ lN mN : mj_m, f_X8_makeNewFrame l = some (nI q, lN) ∧ f_X11_goesNew m = f_X11_goesSent (nI q) mN ∧ I_lk0 (mj_wrs lN 27 q 0) (mj_wrs mN 1 (86 + q) 0 1) pl pm e u v T ∧ mN 1 25 = nI (q + 1) ∧ (∀ k, 33 ≤ k → k ≤ 42 → lN k = l k) ∧ (∀ z, z ≠ 1 → mN z = m z) ∧ (∀ s, s < 21 ∨ (35 ≤ s ∧ s ≤ 44) ∨ (619 ≤ s ∧ s < 1097) → mN 1 s = m 1 s) ∧ lN 17 6 = l 17 6 := by
  have h0 := h
  obtain ⟨⟨g_set, g_rng, g_tick⟩, g_rec, ⟨g_mach, g_line, g_sent, g_pass, g_dir, g_rep, g_st⟩, g_led, g_dia, g_plan⟩ := h0
  obtain ⟨⟨p1, p1r⟩, ⟨p2, p2r⟩, ⟨p3, p3r⟩, p4, p5, ⟨p6, p6r⟩, p7⟩ := id g_mach
  obtain ⟨a1, a2, a3⟩ := id g_line
  obtain ⟨b1, b2, b3⟩ := id g_sent
  obtain ⟨d1, d2, d3, -⟩ := id g_led
  obtain ⟨E, hE, eE, cE⟩ := cn_i d2
  obtain ⟨N, hN, eN⟩ := byN p2r
  have cp : mj_cl (m 1 24) = p + 1 := by rw [hp, clI (by omega)]
  have cq : mj_cl (m 1 25) = q := by rw [hq, clI (by omega)]
  rw [cp, cq, cE] at d3
  obtain ⟨y1, y2, y3⟩ := a3 0 (by omega)
  rw [cE, cp] at y3
  have y1' : l 19 0 = m 1 58 := y1
  -- the tries
  obtain ⟨lt, mt, k1, k2, k3, k4, k5, k6, k7⟩ : ∃ lt mt : mj_m, (if l 23 4 = 0 then f_X8_makeNewFrame_J58 (mj_wrs l 17 9 1) else f_X8_makeNewFrame_J58 l) = f_X8_makeNewFrame_J58 lt ∧ f_X11_goesNew m = f_X11_goesNew_J18 mt ∧ (∀ k, k ≠ 17 → lt k = l k) ∧ (∀ j, j ≠ 9 → lt 17 j = l 17 j) ∧ lt 17 9 = mt 1 30 ∧ (∀ z, z ≠ 1 → mt z = m z) ∧ ∀ s, s ≠ 30 → mt 1 s = m 1 s := by
    unfold f_X11_goesNew
    rw [b1]
    by_cases z : m 1 25 = 0
    · rw [if_pos z, if_pos z, lts]
      exact ⟨_, _, rfl, rfl, fun k hk => wr_row _ _ _ _ _ hk, fun j hj => wr_e (Or.inr hj), by rw [rs, rs], fun z hz => wr_row _ _ _ _ _ hz, fun s hs => wr_e (Or.inr hs)⟩
    · rw [if_neg z, if_neg z]
      exact ⟨_, _, rfl, rfl, fun _ _ => rfl, fun _ _ => rfl, p4, fun _ _ => rfl, fun _ _ => rfl⟩
  -- the class
  have c1 := add_eq (b := 23) (c := q) (x := l 19 0) (y := l 17 7) (z := l 21 0) (m := mj_wrs lt 17 10 (l 2 4)) (by rw [wr_e (Or.inl (by decide)), k3 23 (by decide), b1, hq]) (by omega)
  obtain ⟨la, hla⟩ : ∃ la, la = mj_wrs (mj_wrs (mj_wrs (mj_wrs (mj_wrs (mj_wrs lt 17 10 (l 2 4)) (23 + 1) q (l 19 0)) (23 + 2) q (l 17 7)) (23 + 3) q (l 21 0)) (23 + 4) q 0) 23 4 (nI (q + 1)) := ⟨_, rfl⟩
  rw [← hla] at c1
  have la_k : ∀ k, k < 17 ∨ (17 < k ∧ k < 23) ∨ 27 < k → la k = l k := fun k hk => by
    rw [hla, ← k3 k (by omega)]
    simp (disch := omega) only [wr_row]
  have la_17 : ∀ j, j ≠ 10 → la 17 j = lt 17 j := fun j hj => by
    rw [hla]
    simp (disch := omega) only [wr_e]
  have la_10 : la 17 10 = l 2 4 := by
    rw [hla]
    simp (disch := omega) only [wr_e, rs]
  have la_23 : la 23 4 = nI (q + 1) := by rw [hla, rs]
  have la_q : ∀ k, 24 ≤ k → k ≤ 27 → ∀ i, i ≠ q → la k i = l k i := fun k _ _ i hi => by
    rw [hla, ← k3 k (by omega)]
    simp (disch := omega) only [wr_e]
  have la_24 : la 24 q = l 19 0 := by
    rw [hla]
    simp (disch := omega) only [wr_e, rs]
  have la_25 : la 25 q = l 17 7 := by
    rw [hla]
    simp (disch := omega) only [wr_e, rs]
  have la_26 : la 26 q = l 21 0 := by
    rw [hla]
    simp (disch := omega) only [wr_e, rs]
  obtain ⟨lr, r1, r2, r3, r4⟩ := removeFirst_eq (b := 18) (c := p + 1) (d := 1) (m := la) (by rw [la_k 18 (by omega), a1, hp]) (by omega) (by omega) (by omega)
  have r1' : f_X7_removeFirst 18 1 la = some lr := r1
  -- the reference
  obtain ⟨mr, t1, t2, t3, t4, t5⟩ := takesFirst_eq (R := 58) (Q := 24) (c := p) (m := mj_wrs mt 1 31 (l 2 4)) (by decide) (by omega) (Or.inl (by decide)) (by rw [wr_e (Or.inr (by decide)), k7 24 (by decide), hp])
  have t4' : ∀ s, s ≠ 24 → s ≠ 30 → s ≠ 31 → s < 58 ∨ 65 < s → mr 1 s = m 1 s := fun s s1 s2 s3 s4 => by rw [t4 s s1 (by omega), wr_e (Or.inr s3), k7 s s2]
  have e58 : mj_wrs mt 1 31 (l 2 4) 1 58 = m 1 58 := by rw [wr_e (Or.inr (by decide)), k7 58 (by decide)]
  have pu := puts_eq (R := 66) (Q := 25) (c := q) (v := m 1 58) (m := mr) (by decide) (by rw [t4' 25 (by decide) (by decide) (by decide) (by omega), hq]) (by omega) (by omega)
  refine ⟨mj_wrs lr 17 7 (nI ((N + 1) % 256)), mj_wrs (mj_wrs (mj_wrs mr 1 (66 + q) (m 1 58)) 1 25 (nI (q + 1))) 1 22 (nI ((N + 1) % 256)), ?_, ?_, ?_, ?_, fun k k1 k2 => ?_, fun z hz => ?_, fun s hs => ?_, ?_⟩
  · unfold f_X8_makeNewFrame
    rw [a1, hp, if_neg (nI_ne0 (by omega) (by omega)), if_neg hk, b1, hq, if_pos (show nI q < 20 from nI_lt (b := 20) hq20 (by decide))]
    simp only [lts]
    rw [b1, hq] at k1
    rw [k1]
    unfold f_X8_makeNewFrame_J58
    simp only [lts]
    have x1 : mj_wrs lt 17 10 (lt 2 4) = mj_wrs lt 17 10 (l 2 4) := by rw [k3 2 (by decide)]
    rw [x1]
    have x2 : mj_wrs lt 17 10 (l 2 4) 19 0 = l 19 0 := by rw [wr_e (Or.inl (by decide)), k3 19 (by decide)]
    have x3 : mj_wrs lt 17 10 (l 2 4) 17 7 = l 17 7 := by rw [wr_e (Or.inr (by decide)), k4 7 (by decide)]
    have x4 : mj_wrs lt 17 10 (l 2 4) 21 0 = l 21 0 := by rw [wr_e (Or.inl (by decide)), k3 21 (by decide)]
    rw [x2, x3, x4, c1, b1s, r1', b1s]
    have x5 : lr 17 7 = nI N := by rw [r2 17 (by omega), la_17 7 (by decide), k4 7 (by decide), p2, eN]
    have x6 : lr 23 4 = nI (q + 1) := by rw [r2 23 (by omega), la_23]
    rw [x5, nI_1, show (255 : Int32) = nI (2 ^ 8 - 1) from rfl, fa_mask, wr_e (Or.inl (by decide)), x6, nI_pred]
  · rw [k2]
    unfold f_X11_goesNew_J18 f_X11_round
    rw [set4, b1s]
    simp only [lts]
    have x1 : mj_wrs mt 1 31 (mt 1 4 + 12) = mj_wrs mt 1 31 (l 2 4) := by rw [k7 4 (by decide), g_set.2.2.2.2.2.1]
    rw [x1, show (58 : Int32) = nI 58 from rfl, show (24 : Int32) = nI 24 from rfl, t1, b2s, e58, show (66 : Int32) = nI 66 from rfl, show (25 : Int32) = nI 25 from rfl, pu, b1s]
    have x2 : mj_wrs (mj_wrs mr 1 (66 + q) (m 1 58)) 1 25 (nI (q + 1)) 1 22 = nI N := by
      rw [wr_e (Or.inr (by decide)), wr_e (Or.inr (by omega)), t4' 22 (by decide) (by decide) (by decide) (by omega), eN]
    rw [x2, nI_1, show (255 : Int32) = nI (2 ^ 8 - 1) from rfl, fa_mask, wr_e (Or.inr (by decide)), rs, nI_pred, id1]
  · have hl : ∀ k, k < 17 ∨ (22 < k ∧ k < 23) ∨ 27 < k → mj_wrs (mj_wrs lr 17 7 (nI ((N + 1) % 256))) 27 q 0 k = l k := fun k hk => by
      rw [wr_row _ _ _ _ _ (by omega), wr_row _ _ _ _ _ (by omega), r2 k (by omega), la_k k (by omega)]
    have hn : ∀ s, s ≠ 22 ∧ s ≠ 24 ∧ s ≠ 25 ∧ s ≠ 30 ∧ s ≠ 31 ∧ (s < 58 ∨ 105 < s) → mj_wrs (mj_wrs (mj_wrs (mj_wrs mr 1 (66 + q) (m 1 58)) 1 25 (nI (q + 1))) 1 22 (nI ((N + 1) % 256))) 1 (86 + q) 0 1 s = m 1 s := fun s hs => by
      rw [wr_e (Or.inr (by omega)), wr_e (Or.inr (by omega)), wr_e (Or.inr (by omega)), wr_e (Or.inr (by omega)), t4' s (by omega) (by omega) (by omega) (by omega)]
    have j17 : ∀ j, j ≠ 7 → j ≠ 10 → mj_wrs (mj_wrs lr 17 7 (nI ((N + 1) % 256))) 27 q 0 17 j = lt 17 j := fun j a b => by
      rw [wr_e (Or.inl (by decide)), wr_e (Or.inr a), r2 17 (by omega), la_17 j b]
    have j17' : ∀ j, j ≠ 7 → j ≠ 9 → j ≠ 10 → mj_wrs (mj_wrs lr 17 7 (nI ((N + 1) % 256))) 27 q 0 17 j = l 17 j := fun j a b c => by rw [j17 j a c, k4 j b]
    have j7 : mj_wrs (mj_wrs lr 17 7 (nI ((N + 1) % 256))) 27 q 0 17 7 = nI ((N + 1) % 256) := by rw [wr_e (Or.inl (by decide)), rs]
    have j10 : mj_wrs (mj_wrs lr 17 7 (nI ((N + 1) % 256))) 27 q 0 17 10 = l 2 4 := by rw [wr_e (Or.inl (by decide)), wr_e (Or.inr (by decide)), r2 17 (by omega), la_10]
    have n22 : mj_wrs (mj_wrs (mj_wrs (mj_wrs mr 1 (66 + q) (m 1 58)) 1 25 (nI (q + 1))) 1 22 (nI ((N + 1) % 256))) 1 (86 + q) 0 1 22 = nI ((N + 1) % 256) := by rw [wr_e (Or.inr (by omega)), rs]
    have n24 : mj_wrs (mj_wrs (mj_wrs (mj_wrs mr 1 (66 + q) (m 1 58)) 1 25 (nI (q + 1))) 1 22 (nI ((N + 1) % 256))) 1 (86 + q) 0 1 24 = nI p := by
      rw [wr_e (Or.inr (by omega)), wr_e (Or.inr (by omega)), wr_e (Or.inr (by omega)), wr_e (Or.inr (by omega)), t3]
    have n25 : mj_wrs (mj_wrs (mj_wrs (mj_wrs mr 1 (66 + q) (m 1 58)) 1 25 (nI (q + 1))) 1 22 (nI ((N + 1) % 256))) 1 (86 + q) 0 1 25 = nI (q + 1) := by
      rw [wr_e (Or.inr (by omega)), wr_e (Or.inr (by omega)), rs]
    have n30 : mj_wrs (mj_wrs (mj_wrs (mj_wrs mr 1 (66 + q) (m 1 58)) 1 25 (nI (q + 1))) 1 22 (nI ((N + 1) % 256))) 1 (86 + q) 0 1 30 = mt 1 30 := by
      rw [wr_e (Or.inr (by omega)), wr_e (Or.inr (by omega)), wr_e (Or.inr (by omega)), wr_e (Or.inr (by omega)), t4 30 (by decide) (by omega), wr_e (Or.inr (by decide))]
    have n31 : mj_wrs (mj_wrs (mj_wrs (mj_wrs mr 1 (66 + q) (m 1 58)) 1 25 (nI (q + 1))) 1 22 (nI ((N + 1) % 256))) 1 (86 + q) 0 1 31 = l 2 4 := by
      rw [wr_e (Or.inr (by omega)), wr_e (Or.inr (by omega)), wr_e (Or.inr (by omega)), wr_e (Or.inr (by omega)), t4 31 (by decide) (by omega), rs]
    have n40 := hn 40 (by omega)
    have pat := g_rng.2.2.2.2.1
    refine ⟨⟨I_set_cg g_set (by rw [hl 1 (by omega)]) (hl 2 (by omega)) (hn 12 (by omega)) (fun s _ => hn s (by omega)), I_rng_cg g_rng (hl 2 (by omega)), I_tick_cg g_tick (by rw [hl 1 (by omega)]) (hn 11 (by omega))⟩, I_rec_cg (I_rec_mono g_rec) (fun k _ _ => hl k (by omega)) (hn 38 (by omega)) (fun s _ _ => hn s (by omega)) (fun s _ _ => hn s (by omega)) (fun s _ _ => hn s (by omega)), ⟨?_, ?_, ?_, I_pass_cg g_pass (by rw [hl 28 (by omega)]) (hl 29 (by omega)) (hn 29 (by omega)) (fun s _ _ => hn s (by omega)), ?_, ?_, ?_⟩, ?_, I_dia_cg (I_dia_mono g_dia) (fun k _ _ => hl k (by omega)) (hn 33 (by omega)) (hn 34 (by omega)) (hn 48 (by omega)) (fun s _ _ => hn s (by omega)), I_plan_cg g_plan (fun k _ _ => hl k (by omega)) (hn 49 (by omega))⟩
    · unfold I_mach
      rw [j17' 6 (by decide) (by decide) (by decide), hn 21 (by omega), j7, n22, j17' 8 (by decide) (by decide) (by decide), hn 23 (by omega), j17 9 (by decide) (by decide), n30, j10, n31, j17' 11 (by decide) (by decide) (by decide), hn 32 (by omega), j17' 15 (by decide) (by decide) (by decide), hn 39 (by omega)]
      exact ⟨⟨p1, p1r⟩, ⟨rfl, nI_pos' (by omega), nI_le (b := 255) (by omega) (by decide)⟩, ⟨p3, p3r⟩, k5, ⟨rfl, by have := pat.1; grind, pat.2⟩, ⟨p6, p6r⟩, p7⟩
    · refine ⟨?_, by rw [n24]; exact cn_mk (by omega) (by decide), fun i hi => ?_⟩
      · rw [n24, wr_e (Or.inl (by decide)), wr_e (Or.inl (by decide)), r3]
        rfl
      · rw [n24, clI (by omega)] at hi
        obtain ⟨z1, z2, z3⟩ := a3 (i + 1) (by omega)
        rw [cE, cp] at z3
        have e58i : mj_wrs (mj_wrs (mj_wrs (mj_wrs mr 1 (66 + q) (m 1 58)) 1 25 (nI (q + 1))) 1 22 (nI ((N + 1) % 256))) 1 (86 + q) 0 1 (58 + i) = m 1 (58 + (i + 1)) := by
          rw [wr_e (Or.inr (by omega)), wr_e (Or.inr (by omega)), wr_e (Or.inr (by omega)), wr_e (Or.inr (by omega)), t5 i hi, wr_e (Or.inr (by omega)), k7 _ (by omega)]
          rfl
        rw [n24, n40, cE, clI (by omega), e58i]
        have q19 : mj_wrs (mj_wrs lr 17 7 (nI ((N + 1) % 256))) 27 q 0 19 i = l 19 (i + 1) := by
          rw [wr_e (Or.inl (by decide)), wr_e (Or.inl (by decide)), r4 1 (by decide) (by decide) i (by omega), la_k (18 + 1) (by omega)]
        have q21 : mj_wrs (mj_wrs lr 17 7 (nI ((N + 1) % 256))) 27 q 0 21 i = l 21 (i + 1) := by
          rw [wr_e (Or.inl (by decide)), wr_e (Or.inl (by decide)), r4 3 (by decide) (by decide) i (by omega), la_k (18 + 3) (by omega)]
        rw [q19, q21]
        refine ⟨z1, z2, ?_⟩
        rw [z3]
        congr 1
        omega
    · have l23' : ∀ k, 23 ≤ k → k ≤ 26 → mj_wrs (mj_wrs lr 17 7 (nI ((N + 1) % 256))) 27 q 0 k = la k := fun k _ _ => by
        rw [wr_row _ _ _ _ _ (by omega), wr_row _ _ _ _ _ (by omega), r2 k (by omega)]
      refine ⟨by rw [l23' 23 (by decide) (by decide), la_23, n25], by rw [n25]; exact cn_mk (by omega) (by decide), fun i hi => ?_⟩
      rw [n25, clI (by omega)] at hi
      rw [n22, n24, n25, n40, cE, clI (by omega), clI (by omega), num_eq (by omega), l23' 24 (by decide) (by decide), l23' 25 (by decide) (by decide), l23' 26 (by decide) (by decide)]
      by_cases z : i = q
      · subst z
        have x66 : mj_wrs (mj_wrs (mj_wrs (mj_wrs mr 1 (66 + i) (m 1 58)) 1 25 (nI (i + 1))) 1 22 (nI ((N + 1) % 256))) 1 (86 + i) 0 1 (66 + i) = m 1 58 := by
          rw [wr_e (Or.inr (by omega)), wr_e (Or.inr (by omega)), wr_e (Or.inr (by omega)), rs]
        rw [x66, la_24, la_25, la_26, rs, rs]
        refine ⟨y1', y2, ?_, ?_, rfl, by decide, by decide⟩
        · rw [p2, eN]
          congr 1
          omega
        · rw [y3]
          congr 1
          omega
      · obtain ⟨z1, z2, z3, z4, z5, z6⟩ := b3 i (by omega)
        rw [eN, hq, num_eq (by omega)] at z3
        rw [cE, cp, cq] at z4
        have x66 : mj_wrs (mj_wrs (mj_wrs (mj_wrs mr 1 (66 + q) (m 1 58)) 1 25 (nI (q + 1))) 1 22 (nI ((N + 1) % 256))) 1 (86 + q) 0 1 (66 + i) = m 1 (66 + i) := by
          rw [wr_e (Or.inr (by omega)), wr_e (Or.inr (by omega)), wr_e (Or.inr (by omega)), wr_e (Or.inr (by omega)), t4' _ (by omega) (by omega) (by omega) (by omega)]
        have x86 : mj_wrs (mj_wrs (mj_wrs (mj_wrs mr 1 (66 + q) (m 1 58)) 1 25 (nI (q + 1))) 1 22 (nI ((N + 1) % 256))) 1 (86 + q) 0 1 (86 + i) = m 1 (86 + i) := by
          rw [wr_e (Or.inr (by omega)), wr_e (Or.inr (by omega)), wr_e (Or.inr (by omega)), wr_e (Or.inr (by omega)), t4' _ (by omega) (by omega) (by omega) (by omega)]
        have l27' : mj_wrs (mj_wrs lr 17 7 (nI ((N + 1) % 256))) 27 q 0 27 i = l 27 i := by
          rw [wr_e (Or.inr z), wr_e (Or.inl (by decide)), r2 27 (by omega), la_q 27 (by decide) (by decide) i z]
        rw [x66, x86, l27', la_q 24 (by decide) (by decide) i z, la_q 25 (by decide) (by decide) i z, la_q 26 (by decide) (by decide) i z]
        refine ⟨z1, z2, ?_, ?_, z5, z6⟩
        · rw [z3]
          congr 1
          omega
        · rw [z4]
          congr 1
          omega
    · exact I_dir_cg g_dir (fun j hj => j17' j (by omega) (by omega) (by omega)) (fun s hs => hn s (by omega))
    · exact I_rep_cg g_rep (j17' 14 (by decide) (by decide) (by decide)) (hn 45 (by omega)) (hn 46 (by omega)) (hn 47 (by omega))
    · have st2 := g_st.2.1 (Or.inl (by rcases hM with z | z <;> rw [z] <;> decide))
      unfold I_st
      rw [j17' 6 (by decide) (by decide) (by decide), j17' 11 (by decide) (by decide) (by decide), n22, n25, hn 23 (by omega)]
      refine ⟨g_st.1, fun _ => ?_, fun z => ?_, fun z => ?_⟩
      · rw [st2, eN, hq, far_eq (by omega), far_eq (by omega)]
        congr 1
        omega
      · exfalso
        rcases hM with y | y <;> rw [y] at z <;> exact absurd z (by decide)
      · exfalso
        rcases hM with y | y <;> rw [y] at z <;> exact absurd z (by decide)
    · obtain ⟨f1, f2, f3, f4, f5, f6, f7⟩ := g_led
      have e1 : I_led (mj_wrs (mj_wrs lr 17 7 (nI ((N + 1) % 256))) 27 q 0) (fun s => if s = 24 then m 1 24 else if s = 25 then m 1 25 else mj_wrs (mj_wrs (mj_wrs (mj_wrs mr 1 (66 + q) (m 1 58)) 1 25 (nI (q + 1))) 1 22 (nI ((N + 1) % 256))) 1 (86 + q) 0 1 s) e v := by
        refine I_led_cg ⟨f1, f2, f3, f4, f5, f6, f7⟩ (fun s _ => by rw [hl 3 (by omega)]) (hl 4 (by omega)) (hl 46 (by omega)) ?_ ?_ rfl rfl ?_ (fun s s1 s2 => ?_)
        · exact hn 11 (by omega)
        · exact hn 19 (by omega)
        · exact hn 40 (by omega)
        · show (if s = 24 then _ else if s = 25 then _ else _) = _
          rw [if_neg (by omega), if_neg (by omega), hn s (by omega)]
      obtain ⟨g1, g2, g3, g4, g5, g6, g7⟩ := e1
      refine ⟨g1, g2, ?_, g4, g5, fun i hi h1 => ?_, fun a b a1 a2 b1 b2 h1 h2 => ?_⟩
      · rw [n24, n25, n40, cE, clI (by omega), clI (by omega)]
        omega
      · have z := g6 i hi h1
        unfold I_ll at z ⊢
        have e (d : Nat) : (if 1097 + 8 * i + d = 24 then m 1 24 else if 1097 + 8 * i + d = 25 then m 1 25 else mj_wrs (mj_wrs (mj_wrs (mj_wrs mr 1 (66 + q) (m 1 58)) 1 25 (nI (q + 1))) 1 22 (nI ((N + 1) % 256))) 1 (86 + q) 0 1 (1097 + 8 * i + d)) = mj_wrs (mj_wrs (mj_wrs (mj_wrs mr 1 (66 + q) (m 1 58)) 1 25 (nI (q + 1))) 1 22 (nI ((N + 1) % 256))) 1 (86 + q) 0 1 (1097 + 8 * i + d) := by rw [if_neg (by omega), if_neg (by omega)]
        have e0 := e 0
        rw [Nat.add_zero] at e0
        simp only [e, e0] at z
        exact z
      · have e (a d : Nat) : (if 1097 + 8 * a + d = 24 then m 1 24 else if 1097 + 8 * a + d = 25 then m 1 25 else mj_wrs (mj_wrs (mj_wrs (mj_wrs mr 1 (66 + q) (m 1 58)) 1 25 (nI (q + 1))) 1 22 (nI ((N + 1) % 256))) 1 (86 + q) 0 1 (1097 + 8 * a + d)) = mj_wrs (mj_wrs (mj_wrs (mj_wrs mr 1 (66 + q) (m 1 58)) 1 25 (nI (q + 1))) 1 22 (nI ((N + 1) % 256))) 1 (86 + q) 0 1 (1097 + 8 * a + d) := by rw [if_neg (by omega), if_neg (by omega)]
        have := g7 a b a1 a2 b1 b2 (by simp only [e]; exact h1) (by simp only [e]; exact h2)
        simp only [e] at this
        exact this
  · rw [wr_e (Or.inr (by decide)), rs]
  · rw [wr_row _ _ _ _ _ (by omega), r2 k (by omega), la_k k (by omega)]
  · rw [wr_row _ _ _ _ _ hz, wr_row _ _ _ _ _ hz, wr_row _ _ _ _ _ hz, t2 z hz, wr_row _ _ _ _ _ hz, k6 z hz]
  · rw [wr_e (Or.inr (by omega)), wr_e (Or.inr (by omega)), wr_e (Or.inr (by omega)), t4' s (by omega) (by omega) (by omega) (by omega)]
  · rw [wr_e (Or.inr (by decide)), r2 17 (by omega), la_17 6 (by decide), k4 6 (by decide)]
