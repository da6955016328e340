/-! the turn: what goes past, directives -/
theorem core_U {l m : mj_m} {pl : Nat → Int32} {pm : PM} {e u v T : Nat} (h : I_lk0 l (m 1) pl pm e u v T) {l' m' : mj_m} (hU : U_ok l m l' m') : I_lk0 l' (m' 1) pl pm e u v T := by
  obtain ⟨u1, u2, u3, u4, u5, u6, u7⟩ := hU
  have hl : ∀ k, k ≠ 1 ∧ (k < 33 ∨ 37 < k) → l' k = l k := fun k hk => u1 k hk.1 hk.2
  have hn : ∀ s, s ≠ 12 ∧ s ≠ 41 ∧ s ≠ 43 ∧ s ≠ 35 ∧ s ≠ 37 ∧ (s < 619 ∨ 627 ≤ s) ∧ (s < 635 ∨ 922 ≤ s) → m' 1 s = m 1 s := fun s hs => u6 s hs.1 hs.2.1 hs.2.2.1 hs.2.2.2.1 hs.2.2.2.2.1 hs.2.2.2.2.2.1 hs.2.2.2.2.2.2
  obtain ⟨⟨g_set, g_rng, g_tick⟩, g_rec, ⟨g_mach, g_line, g_sent, g_pass, g_dir, g_rep, g_st⟩, g_led, g_dia, g_plan⟩ := h
  refine ⟨⟨?_, I_rng_cg g_rng (hl 2 (by omega)), ?_⟩, I_rec_cg (I_rec_mono g_rec) (fun k _ _ => hl k (by omega)) (hn 38 (by omega)) (fun s _ _ => hn s (by omega)) (fun s _ _ => hn s (by omega)) (fun s _ _ => hn s (by omega)), ⟨I_mach_cg g_mach (fun _ _ => by rw [hl 17 (by omega)]) (fun s _ => hn s (by omega)), I_line_cg g_line (by rw [hl 18 (by omega)]) (hl 19 (by omega)) (hl 21 (by omega)) (hn 24 (by omega)) (hn 40 (by omega)) (fun s _ _ => hn s (by omega)), I_sent_cg g_sent (fun k _ _ => hl k (by omega)) (hn 22 (by omega)) (hn 24 (by omega)) (hn 25 (by omega)) (hn 40 (by omega)) (fun s _ _ => hn s (by omega)), I_pass_cg g_pass (by rw [hl 28 (by omega)]) (hl 29 (by omega)) (hn 29 (by omega)) (fun s _ _ => hn s (by omega)), I_dir_cg g_dir (fun _ _ => by rw [hl 17 (by omega)]) (fun s _ => hn s (by omega)), I_rep_cg g_rep (by rw [hl 17 (by omega)]) (hn 45 (by omega)) (hn 46 (by omega)) (hn 47 (by omega)), I_st_cg g_st (by rw [hl 17 (by omega)]) (by rw [hl 17 (by omega)]) (hn 31 (by omega)) (fun s _ _ => hn s (by omega))⟩, I_led_cg (I_led_mono g_led) (fun _ _ => by rw [hl 3 (by omega)]) (hl 4 (by omega)) (hl 46 (by omega)) (hn 11 (by omega)) (hn 19 (by omega)) (hn 24 (by omega)) (hn 25 (by omega)) (hn 40 (by omega)) (fun s _ _ => hn s (by omega)), I_dia_cg (I_dia_mono g_dia) (fun k _ _ => hl k (by omega)) (hn 33 (by omega)) (hn 34 (by omega)) (hn 48 (by omega)) (fun s _ _ => hn s (by omega)), I_plan_cg g_plan (fun k _ _ => hl k (by omega)) (hn 49 (by omega))⟩
  · obtain ⟨-, s⟩ := g_set
    unfold I_set
    rw [hl 2 (by omega), hn 0 (by omega), hn 1 (by omega), hn 2 (by omega), hn 3 (by omega), hn 4 (by omega), hn 5 (by omega), hn 6 (by omega), hn 7 (by omega), hn 8 (by omega), hn 9 (by omega), hn 10 (by omega)]
    exact ⟨u7, s⟩
  · unfold I_tick at g_tick ⊢
    rw [u2, hn 11 (by omega)]
    exact g_tick
theorem U_fl {l m l' m' : mj_m} (hU : U_ok l m l' m') : Fl l l' ∧ Fm m m' ∧ (∀ k, 38 ≤ k → k ≤ 42 → l' k = l k) ∧ Nd (m 1) (m' 1) := by
  obtain ⟨u1, u2, u3, u4, u5, u6, u7⟩ := hU
  refine ⟨⟨u3 1 (by decide), u3 2 (by decide), by rw [u1 38 (by decide) (by omega)], by rw [u1 38 (by decide) (by omega)]⟩, ⟨fun k k0 k1 k3 => u4 k k0 k1 k3, u5 9 (by decide), u5 17 (by decide), u5 18 (by decide), u5 19 (by decide), u5 21 (by decide)⟩, fun k k1 k2 => u1 k (by omega) (by omega), ?_⟩
  refine ⟨?_, ?_, ?_, ?_, fun s s1 s2 => ?_, fun s s1 s2 => ?_⟩ <;> exact u6 _ (by omega) (by omega) (by omega) (by omega) (by omega) (by omega) (by omega)
def T_ok (pl : Nat → Int32) (pm : PM) (e u v T : Nat) (l m l' m' : mj_m) : Prop := I_lk0 l' (m' 1) pl pm e u v T ∧ I_up l' (m' 1) (40, 0) ∧ Fl l l' ∧ Fm m m' ∧ (∀ k, 38 ≤ k → k ≤ 42 → l' k = l k) ∧ Nd (m 1) (m' 1) ∧ (l 17 6 = 6 → l' 17 6 = 6)
theorem I_up_39 {l : mj_m} {n : Nat → Int32} (h : I_up l n (39, 1)) : I_up l n (40, 0) := ⟨I_way_mn h.1, h.2⟩
theorem T_same {l m : mj_m} {pl : Nat → Int32} {pm : PM} {e u v T : Nat} (h : I_lk0 l (m 1) pl pm e u v T) (hup : I_up l (m 1) (39, 1)) : T_ok pl pm e u v T l m l m := ⟨h, I_up_39 hup, Fl.rf _, Fm.rf _, fun _ _ _ => rfl, Nd.rf _, fun z => z⟩
theorem cmdN {x : Int32} (h : rg 0 x 9999) : ∃ c : Nat, c ≤ 9999 ∧ x = nI c := by
  obtain ⟨c, hc, rfl⟩ := in_lt (a := x) (b := 10000) (by decide) (Int32.not_lt.mpr h.1) (fun z => by
    have : (10000 : Int32) ≤ 9999 := Int32.le_trans z h.2
    exact absurd this (by decide))
  exact ⟨c, by omega, rfl⟩
theorem turn_past {l m : mj_m} {pl : Nat → Int32} {pm : PM} {e u v T : Nat} (h : I_lk0 l (m 1) pl pm e u v T) (he : e ≤ 20000) (hT : T ≤ 20000) (hwd : Wd l) (hup : I_up l (m 1) (39, 1)) (hp : ¬ l 28 4 ≤ 0) : ∃ l' m' : mj_m, mj_b1 (f_X9_goes 33 (16777216 ||| (l 29 0)) (-1) l) (fun m26 => f_X7_removeFirst 28 1 m26) = some l' ∧ mj_b2 (f_X11_takesFirst 106 29 m) (fun r21 m22 => f_X11_goesFrame 1 0 (r21 / 256) (mj_rem r21 256) (-1) m22) = some m' ∧ T_ok pl pm e u v T l m l' m' := by
  have h0 := h
  obtain ⟨⟨g_set, g_rng, g_tick⟩, g_rec, ⟨g_mach, g_line, g_sent, g_pass, g_dir, g_rep, g_st⟩, g_led, g_dia, g_plan⟩ := h0
  obtain ⟨a1, a2, a3⟩ := id g_pass
  obtain ⟨c0, hc4, ec, cc⟩ := cn_i a2
  obtain ⟨c, rfl⟩ : ∃ c, c0 = c + 1 := ⟨c0 - 1, by
    rcases Nat.eq_zero_or_pos c0 with z | z
    · exfalso
      rw [a1, ec, z] at hp
      exact hp (by decide)
    · omega⟩
  obtain ⟨b1, b2⟩ := a3 0 (by omega)
  obtain ⟨x, hx, ex⟩ := cmdN b2
  have ex' : m 1 106 = nI x := ex
  obtain ⟨m1, t1, t2, t3, t4, t5⟩ := takesFirst_eq (R := 106) (Q := 29) (c := c) (m := m) (by decide) (by omega) (Or.inl (by decide)) ec
  have t4' : ∀ s, s ≠ 29 → s < 106 ∨ 109 < s → m1 1 s = m 1 s := fun s s1 s2 => t4 s s1 (by omega)
  have g40 := g_led.2.1.2
  obtain ⟨l1, m2, s1, s2, s3, s4⟩ := sendU (l := l) (m := m1) (kd := 1) (n := 0) (hi := x / 256) (lo := x % 256) (L := 0) (word := 16777216 ||| l 29 0) (line := -1) (a5 := -1) hwd (I_set_s g_set rfl rfl (fun s hs => t4' s (by omega) (by omega))) g_rng (by rw [t4' 11 (by decide) (by omega)]; exact g_tick.1) (by rw [t4' 11 (by decide) (by omega)]; exact cn_mono g_tick.2 hT) (I_up_nu hup (fun _ _ _ => rfl) ⟨t4' 11 (by decide) (by omega), t4' 35 (by decide) (by omega), t4' 37 (by decide) (by omega), t4' 40 (by decide) (by omega), t4' 41 (by decide) (by omega), t4' 43 (by decide) (by omega), fun s _ _ => t4' s (by omega) (by omega), fun s _ _ => t4' s (by omega) (by omega)⟩) (by decide) (by decide) (by omega) (by omega) (by
      rw [b1, ex, show (16777216 : Int32) = nI (2 ^ 24 * 1) from rfl, fa_or_sum 1 (by omega)]
      congr 1
      omega) (by decide) (Nat.zero_le _) (by rw [t4' 40 (by decide) (by omega)]; omega) rfl
  obtain ⟨u1, u2, u3, u4, u5, u6, u7⟩ := id s3
  obtain ⟨l2, r1, r2, r3, r4⟩ := removeFirst_eq (b := 28) (c := c + 1) (d := 1) (m := l1) (by rw [u1 28 (by decide) (by omega), a1, ec]) (by omega) (by omega) (by omega)
  obtain ⟨f1, f2, f3, f4⟩ := U_fl s3
  have r1' : f_X7_removeFirst 28 1 l1 = some l2 := r1
  have hl : ∀ k, k ≠ 1 ∧ (k < 28 ∨ 37 < k) → l2 k = l k := fun k hk => by rw [r2 k (by omega), u1 k hk.1 (by omega)]
  have hn : ∀ s, s ≠ 12 ∧ s ≠ 29 ∧ s ≠ 41 ∧ s ≠ 43 ∧ s ≠ 35 ∧ s ≠ 37 ∧ (s < 106 ∨ 109 < s) ∧ (s < 619 ∨ 627 ≤ s) ∧ (s < 635 ∨ 922 ≤ s) → m2 1 s = m 1 s := fun s hs => by rw [u6 s (by omega) (by omega) (by omega) (by omega) (by omega) (by omega) (by omega), t4' s (by omega) (by omega)]
  refine ⟨l2, m2, by rw [s1, b1s, r1'], ?_, ?_, ?_, ?_, ?_, fun k k1 k2 => by rw [r2 k (by omega), f3 k k1 k2], ?_, fun z => by rw [hl 17 (by omega)]; exact z⟩
  · rw [show (106 : Int32) = nI 106 from rfl, show (29 : Int32) = nI 29 from rfl, t1, b2s, ex', show (256 : Int32) = nI 256 from rfl, pk_div (by omega) (by decide) (by decide), show mj_rem (nI x) (nI 256) = nI (x % 256) from pk_rem (by omega) (by decide) (by decide)]
    exact s2
  · refine ⟨⟨?_, I_rng_cg g_rng (hl 2 (by omega)), ?_⟩, I_rec_cg (I_rec_mono g_rec) (fun k _ _ => hl k (by omega)) (hn 38 (by omega)) (fun s _ _ => hn s (by omega)) (fun s _ _ => hn s (by omega)) (fun s _ _ => hn s (by omega)), ⟨I_mach_cg g_mach (fun _ _ => by rw [hl 17 (by omega)]) (fun s _ => hn s (by omega)), I_line_cg g_line (by rw [hl 18 (by omega)]) (hl 19 (by omega)) (hl 21 (by omega)) (hn 24 (by omega)) (hn 40 (by omega)) (fun s _ _ => hn s (by omega)), I_sent_cg g_sent (fun k _ _ => hl k (by omega)) (hn 22 (by omega)) (hn 24 (by omega)) (hn 25 (by omega)) (hn 40 (by omega)) (fun s _ _ => hn s (by omega)), ?_, I_dir_cg g_dir (fun _ _ => by rw [hl 17 (by omega)]) (fun s _ => hn s (by omega)), I_rep_cg g_rep (by rw [hl 17 (by omega)]) (hn 45 (by omega)) (hn 46 (by omega)) (hn 47 (by omega)), I_st_cg g_st (by rw [hl 17 (by omega)]) (by rw [hl 17 (by omega)]) (hn 31 (by omega)) (fun s _ _ => hn s (by omega))⟩, I_led_cg (I_led_mono g_led) (fun _ _ => by rw [hl 3 (by omega)]) (hl 4 (by omega)) (hl 46 (by omega)) (hn 11 (by omega)) (hn 19 (by omega)) (hn 24 (by omega)) (hn 25 (by omega)) (hn 40 (by omega)) (fun s _ _ => hn s (by omega)), I_dia_cg (I_dia_mono g_dia) (fun k _ _ => hl k (by omega)) (hn 33 (by omega)) (hn 34 (by omega)) (hn 48 (by omega)) (fun s _ _ => hn s (by omega)), I_plan_cg g_plan (fun k _ _ => hl k (by omega)) (hn 49 (by omega))⟩
    · obtain ⟨-, s⟩ := g_set
      unfold I_set
      rw [hl 2 (by omega), hn 0 (by omega), hn 1 (by omega), hn 2 (by omega), hn 3 (by omega), hn 4 (by omega), hn 5 (by omega), hn 6 (by omega), hn 7 (by omega), hn 8 (by omega), hn 9 (by omega), hn 10 (by omega), r2 1 (by omega)]
      exact ⟨u7, s⟩
    · unfold I_tick at g_tick ⊢
      rw [r2 1 (by omega), u2, hn 11 (by omega)]
      exact g_tick
    · have e29 : m2 1 29 = nI c := by rw [u6 29 (by decide) (by decide) (by decide) (by decide) (by decide) (by omega) (by omega), t3]
      refine ⟨by rw [r3, e29]; rfl, by rw [e29]; exact cn_mk (by omega) (by decide), fun i hi => ?_⟩
      rw [e29, clI (by omega)] at hi
      rw [r4 1 (by decide) (by decide) i (by omega), u1 (28 + 1) (by decide) (by omega), u6 _ (by omega) (by omega) (by omega) (by omega) (by omega) (by omega) (by omega), t5 i hi]
      exact a3 (i + 1) (by omega)
  · exact I_up_nu s4 (fun k k1 k2 => r2 k (by omega)) (Nu.rf _)
  · refine f1.tr ?_
    unfold Fl
    rw [r2 33 (by omega), r2 38 (by omega)]
    exact ⟨rfl, rfl, rfl, rfl⟩
  · exact (Fm.k t2).tr f2
  · refine Nd.tr ?_ f4
    exact ⟨t4' 11 (by decide) (by omega), t4' 36 (by decide) (by omega), t4' 42 (by decide) (by omega), t4' 44 (by decide) (by omega), fun s _ _ => t4' s (by omega) (by omega), fun s _ _ => t4' s (by omega) (by omega)⟩
/-- the directive is marked no more -/
theorem dm_fin {l m : mj_m} {pl : Nat → Int32} {pm : PM} {e u v T : Nat} (h : I_lk0 l (m 1) pl pm e u v T) : I_lk0 (mj_wrs l 17 13 0) (mj_wrs m 1 28 0 1) pl pm e u v T := by
  have hl : ∀ k, k ≠ 17 → mj_wrs l 17 13 0 k = l k := fun k hk => wr_row _ _ _ _ _ hk
  have hj : ∀ j, j ≠ 13 → mj_wrs l 17 13 0 17 j = l 17 j := fun j hj => wr_e (Or.inr hj)
  have hn : ∀ s, s ≠ 28 → mj_wrs m 1 28 0 1 s = m 1 s := fun s hs => wr_e (Or.inr hs)
  obtain ⟨⟨g_set, g_rng, g_tick⟩, g_rec, ⟨g_mach, g_line, g_sent, g_pass, g_dir, g_rep, g_st⟩, g_led, g_dia, g_plan⟩ := h
  refine ⟨⟨I_set_cg g_set (by rw [hl 1 (by omega)]) (hl 2 (by omega)) (hn 12 (by omega)) (fun s _ => hn s (by omega)), I_rng_cg g_rng (hl 2 (by omega)), I_tick_cg g_tick (by rw [hl 1 (by omega)]) (hn 11 (by omega))⟩, I_rec_cg (I_rec_mono g_rec) (fun k _ _ => hl k (by omega)) (hn 38 (by omega)) (fun s _ _ => hn s (by omega)) (fun s _ _ => hn s (by omega)) (fun s _ _ => hn s (by omega)), ⟨?_, I_line_cg g_line (by rw [hl 18 (by omega)]) (hl 19 (by omega)) (hl 21 (by omega)) (hn 24 (by omega)) (hn 40 (by omega)) (fun s _ _ => hn s (by omega)), I_sent_cg g_sent (fun k _ _ => hl k (by omega)) (hn 22 (by omega)) (hn 24 (by omega)) (hn 25 (by omega)) (hn 40 (by omega)) (fun s _ _ => hn s (by omega)), I_pass_cg g_pass (by rw [hl 28 (by omega)]) (hl 29 (by omega)) (hn 29 (by omega)) (fun s _ _ => hn s (by omega)), ?_, ?_, ?_⟩, I_led_cg (I_led_mono g_led) (fun _ _ => by rw [hl 3 (by omega)]) (hl 4 (by omega)) (hl 46 (by omega)) (hn 11 (by omega)) (hn 19 (by omega)) (hn 24 (by omega)) (hn 25 (by omega)) (hn 40 (by omega)) (fun s _ _ => hn s (by omega)), I_dia_cg (I_dia_mono g_dia) (fun k _ _ => hl k (by omega)) (hn 33 (by omega)) (hn 34 (by omega)) (hn 48 (by omega)) (fun s _ _ => hn s (by omega)), I_plan_cg g_plan (fun k _ _ => hl k (by omega)) (hn 49 (by omega))⟩
  · exact I_mach_cg g_mach (fun j hj' => hj j (by omega)) (fun s hs => hn s (by omega))
  · obtain ⟨q1, q2, q3, q4⟩ := g_dir
    unfold I_dir
    rw [hj 6 (by decide), hj 11 (by decide), hj 12 (by decide), hn 26 (by decide), hn 27 (by decide), rs, rs]
    exact ⟨q1, fun _ => rfl, ⟨by decide, by decide⟩, q4⟩
  · exact I_rep_cg g_rep (hj 14 (by decide)) (hn 45 (by decide)) (hn 46 (by decide)) (hn 47 (by decide))
  · exact I_st_cg g_st (hj 6 (by decide)) (hj 11 (by decide)) (hn 31 (by decide)) (fun s _ _ => hn s (by omega))
theorem turn_dir {l m : mj_m} {pl : Nat → Int32} {pm : PM} {e u v T : Nat} (h : I_lk0 l (m 1) pl pm e u v T) (he : e ≤ 20000) (hT : T ≤ 20000) (hwd : Wd l) (hup : I_up l (m 1) (39, 1)) (h5 : l 17 6 = 5) : ∃ l' m' : mj_m, (if l 17 13 = 0 then some l else f_X9_goes 33 (33554432 ||| (mj_wrs l 17 13 0 17 12)) (-1) (mj_wrs l 17 13 0)) = some l' ∧ (if m 1 28 = 1 then f_X11_goesDirective m else some m) = some m' ∧ T_ok pl pm e u v T l m l' m' := by
  have h0 := h
  obtain ⟨⟨g_set, g_rng, g_tick⟩, g_rec, ⟨g_mach, g_line, g_sent, g_pass, g_dir, g_rep, g_st⟩, g_led, g_dia, g_plan⟩ := h0
  obtain ⟨q1, q2, q3, q4⟩ := g_dir
  rw [← q2 h5]
  rcases bit01 q3 with z | z
  · rw [if_pos z, if_neg (by rw [z]; decide)]
    exact ⟨l, m, rfl, rfl, T_same h hup⟩
  · rw [if_neg (by rw [z]; exact one0), if_pos z]
    have hd := dm_fin h
    have hn : ∀ s, s ≠ 28 → mj_wrs m 1 28 0 1 s = m 1 s := fun s hs => wr_e (Or.inr hs)
    have g40 := g_led.2.1.2
    have hup' : I_up (mj_wrs l 17 13 0) (mj_wrs m 1 28 0 1) (39, 1) := I_up_nu hup (fun k k1 k2 => wr_row _ _ _ _ _ (by omega)) ⟨hn 11 (by decide), hn 35 (by decide), hn 37 (by decide), hn 40 (by decide), hn 41 (by decide), hn 43 (by decide), fun s _ _ => hn s (by omega), fun s _ _ => hn s (by omega)⟩
    have hwd' : Wd (mj_wrs l 17 13 0) := by
      unfold Wd
      rw [wr_row _ _ _ _ 33 (by decide), wr_row _ _ _ _ 38 (by decide)]
      exact hwd
    obtain ⟨hi, lo, hhi, hlo, e1, e2, e3⟩ : ∃ hi lo : Nat, hi < 256 ∧ lo < 256 ∧ (33554432 : Int32) ||| l 17 12 = nI (2 * 2 ^ 24 + 0 * 2 ^ 16 + hi * 2 ^ 8 + lo) ∧ m 1 26 - 1 = nI hi ∧ m 1 27 = nI lo := by
      rcases q1 with ⟨y, -⟩ | ⟨y1, y2, y3⟩ | ⟨y1, y2, y3⟩
      · exact absurd y (q4 (Or.inl h5))
      · exact ⟨0, 0, by decide, by decide, by rw [y2]; decide, by rw [y1]; decide, y3⟩
      · obtain ⟨w, hw, ew⟩ := byN y3
        refine ⟨1, w, by decide, hw, ?_, by rw [y1]; decide, ew⟩
        rw [y2, ew, show (256 : Int32) + nI w = nI (256 + w) from nI_add 256 w, show (33554432 : Int32) = nI (2 ^ 24 * 2) from rfl, fa_or_sum 2 (by omega)]
        congr 1
        omega
    obtain ⟨l1, m2, s1, s2, s3, s4⟩ := sendU (l := mj_wrs l 17 13 0) (m := mj_wrs m 1 28 0) (kd := 2) (n := 0) (hi := hi) (lo := lo) (L := 0) (word := 33554432 ||| mj_wrs l 17 13 0 17 12) (line := -1) (a5 := -1) hwd' hd.1.1 hd.1.2.1 hd.1.2.2.1 (cn_mono hd.1.2.2.2 hT) hup' (by decide) (by decide) hhi hlo (by rw [wr_e (Or.inr (by decide)), e1]) (by decide) (Nat.zero_le _) (by rw [hn 40 (by decide)]; omega) rfl
    obtain ⟨f1, f2, f3, f4⟩ := U_fl s3
    refine ⟨l1, m2, s1, ?_, core_U hd s3, s4, ?_, (Fm.wr (j := 28) (x := 0)).tr f2, fun k k1 k2 => by rw [f3 k k1 k2, wr_row _ _ _ _ _ (by omega)], ?_, fun y => by rw [h5] at y; exact absurd y (by decide)⟩
    · unfold f_X11_goesDirective
      rw [lts, hn 26 (by decide), hn 27 (by decide), e2, e3, id1]
      exact s2
    · exact (Fl.wr (Or.inl (by decide)) (Or.inl (by decide))).tr f1
    · refine Nd.tr ?_ f4
      exact ⟨hn 11 (by decide), hn 36 (by decide), hn 42 (by decide), hn 44 (by decide), fun s _ _ => hn s (by omega), fun s _ _ => hn s (by omega)⟩
