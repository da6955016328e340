/-! reports come, on both sides -/
theorem rep_fin {l m : mj_m} {pl : Nat → Int32} {pm : PM} {e u v T : Nat} (h : I_lk0 l (m 1) pl pm e u v T) {l' m' : mj_m} (hl : ∀ k, k ≠ 17 → l' k = l k) (hj : ∀ j, j ≠ 14 → j ≠ 15 → l' 17 j = l 17 j) (hn : ∀ s, s ≠ 39 ∧ s ≠ 45 ∧ s ≠ 46 ∧ s ≠ 47 → m' 1 s = m 1 s) (k15 : l' 17 15 = m' 1 39) (hrep : I_rep l' (m' 1)) : I_lk0 l' (m' 1) pl pm e u v T := by
  obtain ⟨⟨g_set, g_rng, g_tick⟩, g_rec, ⟨g_mach, g_line, g_sent, g_pass, g_dir, g_rep, g_st⟩, g_led, g_dia, g_plan⟩ := h
  refine ⟨⟨I_set_cg g_set (by rw [hl 1 (by omega)]) (hl 2 (by omega)) (hn 12 (by omega)) (fun s _ => hn s (by omega)), I_rng_cg g_rng (hl 2 (by omega)), I_tick_cg g_tick (by rw [hl 1 (by omega)]) (hn 11 (by omega))⟩, I_rec_cg (I_rec_mono g_rec) (fun k _ _ => hl k (by omega)) (hn 38 (by omega)) (fun s _ _ => hn s (by omega)) (fun s _ _ => hn s (by omega)) (fun s _ _ => hn s (by omega)), ⟨?_, I_line_cg g_line (by rw [hl 18 (by omega)]) (hl 19 (by omega)) (hl 21 (by omega)) (hn 24 (by omega)) (hn 40 (by omega)) (fun s _ _ => hn s (by omega)), I_sent_cg g_sent (fun k _ _ => hl k (by omega)) (hn 22 (by omega)) (hn 24 (by omega)) (hn 25 (by omega)) (hn 40 (by omega)) (fun s _ _ => hn s (by omega)), I_pass_cg g_pass (by rw [hl 28 (by omega)]) (hl 29 (by omega)) (hn 29 (by omega)) (fun s _ _ => hn s (by omega)), ?_, ?_, ?_⟩, I_led_cg (I_led_mono g_led) (fun _ _ => by rw [hl 3 (by omega)]) (hl 4 (by omega)) (hl 46 (by omega)) (hn 11 (by omega)) (hn 19 (by omega)) (hn 24 (by omega)) (hn 25 (by omega)) (hn 40 (by omega)) (fun s _ _ => hn s (by omega)), I_dia_cg (I_dia_mono g_dia) (fun k _ _ => hl k (by omega)) (hn 33 (by omega)) (hn 34 (by omega)) (hn 48 (by omega)) (fun s _ _ => hn s (by omega)), I_plan_cg g_plan (fun k _ _ => hl k (by omega)) (hn 49 (by omega))⟩
  · obtain ⟨p1, p2, p3, p4, p5, p6, p7⟩ := g_mach
    unfold I_mach
    rw [hj 6 (by decide) (by decide), hj 7 (by decide) (by decide), hj 8 (by decide) (by decide), hj 9 (by decide) (by decide), hj 10 (by decide) (by decide), hj 11 (by decide) (by decide), hn 21 (by omega), hn 22 (by omega), hn 23 (by omega), hn 30 (by omega), hn 31 (by omega), hn 32 (by omega)]
    exact ⟨p1, p2, p3, p4, p5, p6, k15⟩
  · exact I_dir_cg g_dir (fun j hj' => hj j (by omega) (by omega)) (fun s hs => hn s (by omega))
  · exact hrep
  · exact I_st_cg g_st (hj 6 (by decide) (by decide)) (hj 11 (by decide) (by decide)) (hn 31 (by omega)) (fun s _ _ => hn s (by omega))
theorem m39 (m : mj_m) : f_X11_more 39 m = some (mj_wrs m 1 39 (m 1 39 + 1)) := more_eq (Q := 39) (by decide)
theorem hear_core {l m : mj_m} {pl : Nat → Int32} {pm : PM} {e u v T : Nat} (h : I_lk0 l (m 1) pl pm e u v T) (he : e ≤ 20000) (hu : u < 2 ^ 29) {b : Nat → Int32} (hb : ∀ k, k < 3 → m 3 k = b k) (hbr : ∀ k, k < 3 → rg 0 (b k) 255) (hby : ∀ k, k < 3 → f_X9_byteOf 38 0 (nI k) l = some (b k)) : ∃ l' m' : mj_m, f_X8_hear l = some l' ∧ f_X11_comesReport m = some m' ∧ I_lk0 l' (m' 1) pl pm e (u + 1) v T ∧ H_ok l m l' m' ∧ (l 17 6 = 6 → l' 17 6 = 6) := by
  have e0 : f_X9_byteOf 38 0 0 l = some (b 0) := hby 0 (by decide)
  have e1 : f_X9_byteOf 38 0 1 l = some (b 1) := hby 1 (by decide)
  have e2 : f_X9_byteOf 38 0 2 l = some (b 2) := hby 2 (by decide)
  obtain ⟨f, hf, ef⟩ := byN (hbr 0 (by decide))
  obtain ⟨x, hx, ex⟩ := byN (hbr 1 (by decide))
  have rnd : ∀ y, f_X11_round y = y &&& 255 := fun _ => rfl
  have em : f_X8_hear l = if (b 0 + b 1 + 85) &&& 255 = b 2 then (if b 0 ≤ 31 then (if l 17 6 = 6 then some (mj_wrs (mj_wrs l 17 14 (mj_shl (b 0) 8 ||| b 1)) 17 15 (l 17 15 + 1)) else (if b 0 &&& 1 = 0 then (if b 0 &&& 4 = 0 then f_X8_hear_J98 (b 0) (b 1) 0 (mj_wrs (mj_wrs l 17 14 (mj_shl (b 0) 8 ||| b 1)) 17 15 (l 17 15 + 1)) else f_X8_hear_J98 (b 0) (b 1) 1 (mj_wrs (mj_wrs l 17 14 (mj_shl (b 0) 8 ||| b 1)) 17 15 (l 17 15 + 1))) else f_X8_hearLocked (mj_wrs (mj_wrs l 17 14 (mj_shl (b 0) 8 ||| b 1)) 17 15 (l 17 15 + 1)))) else some (mj_wrs l 17 14 (-2))) else some (mj_wrs l 17 14 (-2)) := by
    have z15 : mj_wrs l 17 14 (mj_shl (b 0) 8 ||| b 1) 17 15 = l 17 15 := wr_e (Or.inr (by decide))
    have z6 : mj_wrs (mj_wrs l 17 14 (mj_shl (b 0) 8 ||| b 1)) 17 15 (l 17 15 + 1) 17 6 = l 17 6 := by rw [wr_e (Or.inr (by decide)), wr_e (Or.inr (by decide))]
    unfold f_X8_hear
    rw [e0, b1s, e1, b1s, e2, b1s]
    simp only [lts, id1, z15, z6]
  have bad : f_X8_hear l = some (mj_wrs l 17 14 (-2)) → f_X11_comesReport m = some (mj_wrs m 1 45 1) → ∃ l' m' : mj_m, f_X8_hear l = some l' ∧ f_X11_comesReport m = some m' ∧ I_lk0 l' (m' 1) pl pm e (u + 1) v T ∧ H_ok l m l' m' ∧ (l 17 6 = 6 → l' 17 6 = 6) := fun a b => by
    refine ⟨_, _, a, b, I_lk0_mono (rep_fin h (fun k hk => wr_row _ _ _ _ _ hk) (fun j j1 _ => wr_e (Or.inr j1)) (fun s hs => wr_e (Or.inr hs.2.1)) ?_ ?_), ⟨fun k k1 k2 => wr_row _ _ _ _ _ (by omega), fun p hp => wr_row _ _ _ _ _ hp, fun s hs => wr_e (Or.inr (by omega))⟩, fun z => by rw [wr_e (Or.inr (by decide))]; exact z⟩
    · rw [wr_e (Or.inr (by decide)), wr_e (Or.inr (by decide))]
      exact h.2.2.1.1.2.2.2.2.2.2
    · unfold I_rep
      rw [rs, rs]
      exact Or.inr (Or.inl ⟨rfl, rfl⟩)
  have c44 : f_X11_comesReport_J44 m = some (mj_wrs m 1 45 1) := by
    unfold f_X11_comesReport_J44 f_X11_comesReport_J45 f_X11_comesReport_J61
    rw [if_pos rfl, chk_t (by decide), lts, show mj_cl (45 : Int32) = 45 by decide, if_pos rfl]
  have er : f_X11_comesReport m = if 32 ≤ b 0 then f_X11_comesReport_J44 m else if b 2 = (b 0 + b 1 + 85) &&& 255 then f_X11_comesReport_J45 1 m else f_X11_comesReport_J44 m := by
    unfold f_X11_comesReport
    rw [hb 0 (by decide), hb 1 (by decide), hb 2 (by decide), rnd, lts]
  by_cases hs : (b 0 + b 1 + 85) &&& 255 = b 2
  · rw [if_pos hs] at em
    rw [if_pos hs.symm] at er
    by_cases h31 : b 0 ≤ 31
    · have h32 : ¬ 32 ≤ b 0 := fun z => by
        have : (32 : Int32) ≤ 31 := Int32.le_trans z h31
        exact absurd this (by decide)
      rw [if_pos h31] at em
      rw [if_neg h32] at er
      -- a good report
      have hg : I_lk0 (mj_wrs (mj_wrs l 17 14 (mj_shl (b 0) 8 ||| b 1)) 17 15 (l 17 15 + 1)) (mj_wrs (mj_wrs (mj_wrs (mj_wrs m 1 45 2) 1 46 (b 0)) 1 47 (b 1)) 1 39 (m 1 39 + 1) 1) pl pm e u v T := by
        refine rep_fin h (fun k hk => by simp (disch := omega) only [wr_row]) (fun j j1 j2 => by simp (disch := omega) only [wr_e]) (fun s hs => by simp (disch := omega) only [wr_e]) ?_ ?_
        · rw [rs, rs, h.2.2.1.1.2.2.2.2.2.2]
        · unfold I_rep
          refine Or.inr (Or.inr ?_)
          simp (disch := omega) only [wr_e, rs]
          exact ⟨trivial, trivial, ⟨(hbr 0 (by decide)).1, h31⟩, hbr 1 (by decide)⟩
      have Hg : H_ok l m (mj_wrs (mj_wrs l 17 14 (mj_shl (b 0) 8 ||| b 1)) 17 15 (l 17 15 + 1)) (mj_wrs (mj_wrs (mj_wrs (mj_wrs m 1 45 2) 1 46 (b 0)) 1 47 (b 1)) 1 39 (m 1 39 + 1)) := ⟨fun k k1 k2 => by simp (disch := omega) only [wr_row], fun p hp => by simp (disch := omega) only [wr_row], fun s hs => by simp (disch := omega) only [wr_e]⟩
      have ej : f_X11_comesReport_J45 1 m = if l 17 6 = 6 then some (mj_wrs (mj_wrs (mj_wrs (mj_wrs m 1 45 2) 1 46 (b 0)) 1 47 (b 1)) 1 39 (m 1 39 + 1)) else f_X11_hears (b 0) (b 1) (mj_wrs (mj_wrs (mj_wrs (mj_wrs m 1 45 2) 1 46 (b 0)) 1 47 (b 1)) 1 39 (m 1 39 + 1)) := by
        unfold f_X11_comesReport_J45 f_X11_comesReport_J61 f_X11_machine
        rw [if_neg one0, chk_t (by decide), lts, show mj_cl (45 : Int32) = 45 by decide, if_neg one0, lts, lts, wr_row _ _ _ _ 3 (by decide), wr_row _ _ _ _ 3 (by decide), wr_row _ _ _ _ 3 (by decide), hb 0 (by decide), hb 1 (by decide), m39, b1s, lts]
        have z39 : mj_wrs (mj_wrs (mj_wrs m 1 45 2) 1 46 (b 0)) 1 47 (b 1) 1 39 = m 1 39 := by simp (disch := omega) only [wr_e]
        rw [z39]
        have z21 : mj_wrs (mj_wrs (mj_wrs (mj_wrs m 1 45 2) 1 46 (b 0)) 1 47 (b 1)) 1 39 (m 1 39 + 1) 1 21 + 6 = l 17 6 := by
          simp (disch := omega) only [wr_e]
          exact h.2.2.1.1.1.1.symm
        have z3 : mj_wrs (mj_wrs (mj_wrs (mj_wrs m 1 45 2) 1 46 (b 0)) 1 47 (b 1)) 1 39 (m 1 39 + 1) 3 = m 3 := by simp (disch := omega) only [wr_row]
        rw [z21, z3, hb 0 (by decide), hb 1 (by decide), id1]
      rw [ej] at er
      by_cases h6 : l 17 6 = 6
      · rw [if_pos h6] at em er
        exact ⟨_, _, em, er, I_lk0_mono hg, Hg, fun z => by rw [wr_e (Or.inr (by decide)), wr_e (Or.inr (by decide))]; exact z⟩
      · rw [if_neg h6] at em er
        rw [ef, ex] at em er hg Hg
        obtain ⟨l', m', a1, a2, a3, a4⟩ := hears_pair (x := x) (f := f) hg he hu (by rw [wr_e (Or.inr (by decide)), wr_e (Or.inr (by decide))]; exact h6) hx
        exact ⟨l', m', em.trans a1, er.trans a2, a3, Hg.tr a4, fun z => absurd z h6⟩
    · rw [if_neg h31] at em
      have h32 : 32 ≤ b 0 := by grind
      rw [if_pos h32, c44] at er
      exact bad em er
  · rw [if_neg hs] at em
    have hs' : ¬ b 2 = (b 0 + b 1 + 85) &&& 255 := fun z => hs z.symm
    rw [if_neg hs', ite_self, c44] at er
    exact bad em er
/-- what the way up sees -/
def Nu (n n' : Nat → Int32) : Prop := n' 11 = n 11 ∧ n' 35 = n 35 ∧ n' 37 = n 37 ∧ n' 40 = n 40 ∧ n' 41 = n 41 ∧ n' 43 = n 43 ∧ (∀ s, 619 ≤ s → s < 627 → n' s = n s) ∧ ∀ s, 635 ≤ s → s < 929 → n' s = n s
theorem I_up_nu {l l' : mj_m} {n n' : Nat → Int32} {W : Nat × Nat} (h : I_up l n W) (hl : ∀ k, 33 ≤ k → k ≤ 37 → l' k = l k) (hn : Nu n n') : I_up l' n' W := by
  obtain ⟨h1, h2, h3, h4, h5, h6, h7, h8⟩ := hn
  exact I_up_cg h hl h1 h2 h3 h4 h5 h6 h7 h8
theorem Nu.rf (n : Nat → Int32) : Nu n n := ⟨rfl, rfl, rfl, rfl, rfl, rfl, fun _ _ _ => rfl, fun _ _ _ => rfl⟩
theorem Nu.tr {n n' n'' : Nat → Int32} (h : Nu n n') (h' : Nu n' n'') : Nu n n'' := by
  obtain ⟨a1, a2, a3, a4, a5, a6, a7, a8⟩ := h
  obtain ⟨b1, b2, b3, b4, b5, b6, b7, b8⟩ := h'
  exact ⟨b1.trans a1, b2.trans a2, b3.trans a3, b4.trans a4, b5.trans a5, b6.trans a6, fun s x y => (b7 s x y).trans (a7 s x y), fun s x y => (b8 s x y).trans (a8 s x y)⟩
theorem arrD {l m : mj_m} {pl : Nat → Int32} {pm : PM} {e u v T : Nat} (h : I_lk0 l (m 1) pl pm e u v T) {W : Nat × Nat} (hd : I_dn l (m 1) W) (he : e ≤ 20000) (hu : u < 2 ^ 29) (hwd : Wd l) {c : Nat} (hc : m 1 42 = nI (c + 1)) (hc40 : c ≤ 40) (hdue : m 1 929 ≤ m 1 11) : ∃ l1 l2 m1 m2 : mj_m, f_X8_hear l = some l1 ∧ f_X9_takeOff 38 0 l1 = some (1, l2) ∧ f_X11_comes 0 m = some (1, m1) ∧ f_X11_comesReport m1 = some m2 ∧ I_lk0 l2 (m2 1) pl pm e (u + 1) v T ∧ I_dn l2 (m2 1) W ∧ Fl l l2 ∧ Fm m m2 ∧ (∀ k, 33 ≤ k → k ≤ 37 → l2 k = l k) ∧ Nu (m 1) (m2 1) ∧ m2 1 42 = nI c ∧ (l 17 6 = 6 → l2 17 6 = 6) := by
  obtain ⟨m1, c1, c2, -, c4, c5, c6, c7, c8⟩ := comes_yes WA0 hc hc40 hdue
  obtain ⟨⟨q1, q2, q3⟩, -⟩ := id hd
  have lc : l 38 7 = nI (c + 1) := q1.trans hc
  have cc : mj_cl (m 1 42) = c + 1 := by rw [hc, clI (by omega)]
  obtain ⟨v1, v2, v3, v4⟩ := q3 0 (by omega)
  have h0 : I_lk0 l (m1 1) pl pm e u v T := I_lk0_w h (fun _ _ => rfl) (fun s hs => c7 s (by omega) (by omega))
  have b929 : ∀ k, k < 3 → m 1 (929 + 1 + k) = l 39 k := fun k hk => by
    have := (v4 k hk).1
    rw [Nat.mul_zero, Nat.zero_add] at this
    exact this.symm
  obtain ⟨l1, m2, e1, e2, e3, ⟨f1, f2, f3⟩, f4⟩ := hear_core (m := m1) h0 he hu (b := fun k => l 39 k) (fun k hk => by rw [c2 k hk, b929 k hk]) (fun k hk => by
      have := (v4 k hk).2
      rw [Nat.mul_zero, Nat.add_zero] at this
      show rg 0 (l 39 k) 255
      rw [← b929 k hk]
      exact this) (fun k hk => byteOf_eq lc hc40 hwd.2.2.1 hk (by decide))
  have l1c : l1 38 7 = nI (c + 1) := by rw [f1 38 (by decide) (by decide), lc]
  obtain ⟨l2, a1, a2, a3, a4, a5, a6⟩ := takeOff_eq (i := 0) l1c (by omega) (by omega)
  refine ⟨l1, l2, m1, m2, e1, a1, c1, e2, I_lk0_w e3 (fun k hk => a2 k (by omega)) (fun _ _ => rfl), ?_, ?_, ?_, fun k _ _ => by rw [a2 k (by omega), f1 k (by omega) (by omega)], ?_, by rw [f3 42 (by omega), c6], fun z => by rw [a2 17 (by omega)]; exact f4 z⟩
  · refine way_drop (i := 0) WA0 hd hc hc40 (by omega) a4 (fun j hj => by rw [a3 j hj, f1 38 (by omega) (by omega)]) (fun j hj => by rw [a5 2 (Or.inl rfl) j (by omega), f1 (38 + 2) (by omega) (by omega)]) (fun j hj => by rw [a6 j (by omega), f1 (38 + 1) (by omega) (by omega)]) (by rw [a2 (38 + 4) (by omega), f1 (38 + 4) (by omega) (by omega)]) (by rw [f3 42 (by omega), c6]) ?_ ?_
    · intro s s1 s0 s2
      rw [f3 s (by omega), c7 s s1 (by omega)]
    · intro s s1 s2
      rw [f3 s (by omega), c8 s (by omega) (by omega)]
  · unfold Fl
    rw [a3 1 (by decide), a3 2 (by decide), a2 33 (by omega), f1 33 (by omega) (by omega), f1 38 (by omega) (by omega)]
    exact ⟨rfl, rfl, rfl, rfl⟩
  · unfold Fm
    rw [f2 0 (by decide), c5 9 (by decide), c5 17 (by decide), c5 18 (by decide), c5 19 (by decide), c5 21 (by decide)]
    exact ⟨fun k k0 k1 k3 => by rw [f2 k k1, c4 k k0 k1 k3], rfl, rfl, rfl, rfl, rfl⟩
  · refine ⟨?_, ?_, ?_, ?_, ?_, ?_, fun s s1 s2 => ?_, fun s s1 s2 => ?_⟩ <;> rw [f3 _ (by omega), c7 _ (by omega) (by omega)]
theorem dnLoop {pl : Nat → Int32} {pm : PM} {e v T : Nat} {W : Nat × Nat} {x1 x2 x3 : Int32} (he : e ≤ 20000) : ∀ (c i n n' u : Nat) (l m : mj_m), m 1 42 = nI c → c ≤ 41 → i + c ≤ 47 → c < n → c < n' → u + c < 2 ^ 29 → Wd l → I_lk0 l (m 1) pl pm e u v T → I_dn l (m 1) W → ∃ (l' m' : mj_m) (c' : Nat), f_X3_passTicks_L94 x1 x2 x3 n (nI i) l = some l' ∧ f_X11_ticks_L42 n' m = some m' ∧ I_lk0 l' (m' 1) pl pm e (u + c) v T ∧ I_dn l' (m' 1) W ∧ Fl l l' ∧ Fm m m' ∧ (∀ k, 33 ≤ k → k ≤ 37 → l' k = l k) ∧ Nu (m 1) (m' 1) ∧ m' 1 42 = nI c' ∧ c' ≤ c ∧ (c' = 0 ∨ ¬ m' 1 929 ≤ m' 1 11) ∧ (l 17 6 = 6 → l' 17 6 = 6) := by
  have stop : ∀ (c i n n' u : Nat) (l m : mj_m), m 1 42 = nI c → c ≤ 41 → i + c ≤ 47 → c < n → c < n' → I_lk0 l (m 1) pl pm e u v T → I_dn l (m 1) W → (c = 0 ∨ ¬ m 1 929 ≤ m 1 11) → ∃ (l' m' : mj_m) (c' : Nat), f_X3_passTicks_L94 x1 x2 x3 n (nI i) l = some l' ∧ f_X11_ticks_L42 n' m = some m' ∧ I_lk0 l' (m' 1) pl pm e (u + c) v T ∧ I_dn l' (m' 1) W ∧ Fl l l' ∧ Fm m m' ∧ (∀ k, 33 ≤ k → k ≤ 37 → l' k = l k) ∧ Nu (m 1) (m' 1) ∧ m' 1 42 = nI c' ∧ c' ≤ c ∧ (c' = 0 ∨ ¬ m' 1 929 ≤ m' 1 11) ∧ (l 17 6 = 6 → l' 17 6 = 6) := by
    intro c i n n' u l m hc hc41 hi hn hn' h hu hno
    obtain ⟨n, rfl⟩ : ∃ k, n = k + 1 := ⟨n - 1, by omega⟩
    obtain ⟨n', rfl⟩ : ∃ k, n' = k + 1 := ⟨n' - 1, by omega⟩
    refine ⟨l, m, c, ?_, ?_, I_lk0_mono h, hu, Fl.rf _, Fm.rf _, fun _ _ _ => rfl, Nu.rf _, hc, Nat.le_refl _, hno, fun z => z⟩
    · rw [f_X3_passTicks_L94, if_neg (show ¬ (48 : Int32) ≤ nI i from nI_ge (b := 48) (by omega) (by decide)), lts, due_f (w := 38) (c := c) (by rw [hu.cn.1, hc]) ?_, if_pos rfl]
      rcases hno with z | z
      · exact Or.inl z
      · by_cases y : c = 0
        · exact Or.inl y
        · right
          have := (hu.1.2.2 0 (by rw [hc, clI (by omega)]; omega)).1
          rw [show (38 + 2 : Nat) = 40 from rfl] at this
          rw [show (38 + 2 : Nat) = 40 from rfl, this, h.1.2.2.1]
          exact z
    · rw [f_X11_ticks_L42, comes_no WA0 hc hc41 hno, b2s, if_pos rfl]
  intro c
  induction c with
  | zero =>
    intro i n n' u l m hc hc41 hi hn hn' hv hw h hu
    exact stop 0 i n n' u l m hc hc41 hi hn hn' h hu (Or.inl rfl)
  | succ c ih =>
    intro i n n' u l m hc hc41 hi hn hn' hv hw h hu
    by_cases hd : m 1 929 ≤ m 1 11
    · obtain ⟨l1, l2, m1, m2, a1, a2, a3, a4, a5, a6, a7, a8, a9, a10, a11, a12⟩ := arrD h hu he (by omega) hw hc (by omega) hd
      obtain ⟨n, rfl⟩ : ∃ k, n = k + 1 := ⟨n - 1, by omega⟩
      obtain ⟨n', rfl⟩ : ∃ k, n' = k + 1 := ⟨n' - 1, by omega⟩
      obtain ⟨l', m', c', b1, b2, b3, b4, b5, b6, b7, b8, b9, b10, b11, b12⟩ := ih (i + 1) n n' (u + 1) l2 m2 a11 (by omega) (by omega) (by omega) (by omega) (by omega) (hw.fl a7) a5 a6
      refine ⟨l', m', c', ?_, ?_, ?_, b4, a7.tr b5, a8.tr b6, fun k k1 k2 => by rw [b7 k k1 k2, a9 k k1 k2], a10.tr b8, b9, by omega, b11, fun z => b12 (a12 z)⟩
      · rw [f_X3_passTicks_L94, if_neg (show ¬ (48 : Int32) ≤ nI i from nI_ge (b := 48) (by omega) (by decide)), lts, due_t (w := 38) (c := c) (by rw [hu.cn.1, hc]) (by omega) ?_, if_neg one0, a1, b1s, a2, b2s, lts, nI_1]
        · exact b1
        · have := (hu.1.2.2 0 (by rw [hc, clI (by omega)]; omega)).1
          rw [show (38 + 2 : Nat) = 40 from rfl] at this
          rw [show (38 + 2 : Nat) = 40 from rfl, this, h.1.2.2.1]
          exact hd
      · rw [f_X11_ticks_L42, a3, b2s, if_neg one0, a4, b1s]
        exact b2
      · rw [show u + (c + 1) = u + 1 + c by omega]
        exact b3
    · exact stop (c + 1) i n n' u l m hc hc41 hi hn hn' h hu (Or.inr hd)
