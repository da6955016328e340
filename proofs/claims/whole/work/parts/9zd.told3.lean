/-! told: sender, report -/
theorem len1 {L : List Nat} {n : Nat} (c : Nat) (h : L.length ≤ n) : (L ++ [c]).length ≤ n + 1 := by
  rw [List.length_append]
  show L.length + 1 ≤ n + 1
  omega
theorem lenN {L : List Nat} {n : Nat} (x : Int32) (h : L.length ≤ n) : (L ++ tt_n x).length ≤ n + 3 := by
  rw [List.length_append]
  have := dg_le (mj_cl x)
  unfold tt_n
  omega
theorem lenW {L : List Nat} {n i : Nat} (hi : i < 31) (h : L.length ≤ n) : (L ++ sw i).length ≤ n + 10 := by
  rw [List.length_append]
  have := swl hi
  omega
theorem mw31 (x : Int32) : f_X10_machineWord x < 31 := by
  unfold f_X10_machineWord
  repeat' split
  all_goals decide
theorem sndT {m0 m l : mj_m} {pl : Nat → Int32} {pm : PM} {e u v : Nat} {T : TT} (h4 : m0 4 = nmT) (ht : TXT m0 m []) (h : I_link l (m0 1) pl pm e u v T) (h22 : rg 0 (l 2 2) 255) (h23 : rg 0 (l 23 4) 255) : ∃ m' : mj_m, f_X11_saysSender m = some m' ∧ TXT m0 m' (tt_snd l) := by
  obtain ⟨⟨g_set, g_rng, g_tick⟩, g_rec, ⟨g_mach, g_line, g_sent, g_pass, g_dir, g_rep, g_st⟩, g_led, g_dia, g_up, g_dn, g_plan⟩ := h
  obtain ⟨⟨p1, p1r⟩, ⟨p2, p2r⟩, -, -, -, ⟨p6, p6r⟩, -⟩ := g_mach
  have g2 : l 2 2 = m0 1 2 + 3 := (set_iff.mp g_set).2 2 (by decide)
  have e1 : ∀ {m : mj_m} {L : List Nat}, TXT m0 m L → m 1 = m0 1 := fun h => h.2.2.2.1 1 (by decide) (by decide)
  obtain ⟨s, hs, es⟩ := byN (x := l 17 6) ⟨Int32.le_trans (by decide) p1r.1, Int32.le_trans p1r.2 (by decide)⟩
  have s1 : 1 ≤ s := by
    have q := p1r.1
    rw [es] at q
    exact Decidable.byContradiction (fun z => absurd q (show ¬ nI 1 ≤ nI s from nI_ge (by omega) (by decide)))
  have s6 : s ≤ 6 := by
    have q := p1r.2
    rw [es] at q
    exact Decidable.byContradiction (fun z => absurd q (show ¬ nI s ≤ nI 6 from nI_ge (by omega) (by omega)))
  obtain ⟨p, hN⟩ := mwN s1 s6
  have ewd := es
  have em : f_X11_machine m - 1 = nI (s - 1) := by
    unfold f_X11_machine
    rw [e1 ht, ← p1, es]
    exact nI_sub (b := 1) s1
  have b0 : ([] ++ sw (f_X10_machineWord (nI s))).length ≤ 10 := lenW (L := []) (n := 0) (mw31 _) (Nat.le_refl _)
  obtain ⟨m1, a1, a2⟩ := nameE hN h4 ht (by have := swl (mw31 (nI s)); show 0 + _ ≤ 60; omega)
  obtain ⟨m2, c1, c2⟩ := says' a2 (by omega) 32 (x := 32) rfl
  have b1 := len1 32 b0
  have r25 : rg 0 (m0 1 25) 255 := by
    rw [← g_sent.1]
    exact h23
  obtain ⟨m3, d1, d2⟩ := num' c2 (by omega) r25
  have b2 := lenN (m0 1 25) b1
  obtain ⟨m4, f1, f2⟩ := says' d2 (by omega) 47 (x := 47) rfl
  have b3 := len1 47 b2
  have r2 : rg 0 (m0 1 2 + 3) 255 := by
    rw [← g2]
    exact h22
  obtain ⟨m5, i1, i2⟩ := num' f2 (by omega) r2
  have b4 := lenN (m0 1 2 + 3) b3
  obtain ⟨m6, j1, j2⟩ := says' i2 (by omega) 32 (x := 32) rfl
  have b5 := len1 32 b4
  obtain ⟨m7, k1, k2⟩ := says' j2 (by omega) 35 (x := 35) rfl
  have b6 := len1 35 b5
  obtain ⟨m8, n1, n2⟩ := num' k2 (by omega) p2r
  have b7 := lenN (m0 1 22) b6
  have t0 : tt_sn0 l = ((((((([] ++ sw (f_X10_machineWord (nI s))) ++ [32]) ++ tt_n (m0 1 25)) ++ [47]) ++ tt_n (m0 1 2 + 3)) ++ [32]) ++ [35]) ++ tt_n (m0 1 22) := by
    unfold tt_sn0
    rw [es, g_sent.1, g2, p2, sw_19, ← List.append_assoc]
  unfold f_X11_saysSender tt_snd
  rw [lts, em, a1, b1s, c1, b1s, e1 c2, d1, b1s, f1, b1s, set2, b1s, e1 f2, i1, b1s, j1, b1s, k1, b1s, e1 k2, n1, b1s, e1 n2, p6, t0]
  by_cases z : m0 1 32 = 0
  · exact ⟨m8, by rw [if_pos z], by rw [if_pos z]; exact n2⟩
  · rw [if_neg z, if_neg z]
    obtain ⟨w, hw, ew⟩ := byN (x := m0 1 32) ⟨p6r.1, Int32.le_trans p6r.2 (by decide)⟩
    have w1 : 1 ≤ w := by
      by_cases y : w = 0
      · rw [y] at ew
        exact absurd ew z
      · omega
    have w6 : w ≤ 6 := by
      have q := p6r.2
      rw [ew] at q
      exact Decidable.byContradiction (fun z => absurd q (show ¬ nI w ≤ nI 5 from nI_ge (by omega) (by omega)))
    obtain ⟨p', hN'⟩ := mwN w1 w6
    have ew1 : m0 1 32 - 1 = nI (w - 1) := by
      rw [ew]
      exact nI_sub (b := 1) w1
    obtain ⟨m9, o1, o2⟩ := says' n2 (by omega) 32 (x := 32) rfl
    have b8 := len1 32 b7
    obtain ⟨m10, q1, q2⟩ := heldE h4 o2 (by omega)
    have b9 : (((((((((([] ++ sw (f_X10_machineWord (nI s))) ++ [32]) ++ tt_n (m0 1 25)) ++ [47]) ++ tt_n (m0 1 2 + 3)) ++ [32]) ++ [35]) ++ tt_n (m0 1 22)) ++ [32]) ++ [72, 69, 76, 68]).length ≤ 10 + 1 + 3 + 1 + 3 + 1 + 1 + 3 + 1 + 4 := by
      rw [List.length_append]
      exact Nat.add_le_add_right b8 4
    obtain ⟨m11, u1, u2⟩ := says' q2 (by omega) 32 (x := 32) rfl
    have b10 := len1 32 b9
    obtain ⟨m12, x1, x2⟩ := nameE hN' h4 u2 (by have := swl (mw31 (nI w)); omega)
    refine ⟨m12, ?_, ?_⟩
    · rw [o1, b1s, q1, b1s, u1, b1s, e1 u2, ew1, x1, b1s]
    · rw [ew, sw_20, ← List.append_assoc, ← List.append_assoc]
      exact x2
