/-! drop, spoil -/
theorem lbW (x : Int32) : ∃ w wd on R G fa fr we : Nat, WA (lb x) w wd on R G fa fr we := by
  unfold lb
  by_cases h : x = 0
  · rw [if_pos h]
    exact ⟨_, _, _, _, _, _, _, _, WA0⟩
  · rw [if_neg h]
    exact ⟨_, _, _, _, _, _, _, _, WA1⟩
theorem WA.cn {a : Int32} {w wd on R G fa fr we : Nat} (hW : WA a w wd on R G fa fr we) {l : mj_m} {n pl : Nat → Int32} {pm : PM} {e u v : Nat} {T : TT} (h : I_link l n pl pm e u v T) : ∃ c : Nat, c ≤ 41 ∧ l w 7 = nI c ∧ n on = nI c ∧ mj_cl (n on) = c := by
  obtain ⟨⟨g_set, g_rng, g_tick⟩, g_rec, ⟨g_mach, g_line, g_sent, g_pass, g_dir, g_rep, g_st⟩, g_led, g_dia, g_up, g_dn, g_plan⟩ := h
  rcases hW with ⟨rfl, rfl, rfl, rfl, rfl, rfl, rfl, rfl, rfl⟩ | ⟨rfl, rfl, rfl, rfl, rfl, rfl, rfl, rfl, rfl⟩
  · obtain ⟨h1, h2, h3⟩ := g_up.cn
    obtain ⟨c, hc, ec, cc⟩ := cn_i h2
    exact ⟨c, hc, h1.trans ec, ec, cc⟩
  · obtain ⟨h1, h2, h3⟩ := g_dn.cn
    obtain ⟨c, hc, ec, cc⟩ := cn_i h2
    exact ⟨c, hc, h1.trans ec, ec, cc⟩
theorem r10 (m : mj_m) : mj_wrs m 0 0 0 1 = m 1 := wr_row _ _ _ _ _ (by decide)
theorem onWay_t {a : Int32} {w wd on R G fa fr we c i : Nat} {m : mj_m} (hW : WA a w wd on R G fa fr we) (hc : m 1 on = nI c) (hi : i < c) (hc41 : c ≤ 41) : f_X11_isOnWay a (nI i) m = 1 := by
  unfold f_X11_isOnWay
  rw [if_neg (nI_pos (by omega)), hW.mn, hc]
  simp only [mj_let]
  rw [if_neg (nI_ge hi (by omega))]
theorem onWay_f {a : Int32} {w wd on R G fa fr we c : Nat} {x : Int32} {m : mj_m} (hW : WA a w wd on R G fa fr we) (hc : m 1 on = nI c) (hx : x < 0 ∨ nI c ≤ x) : f_X11_isOnWay a x m = 0 := by
  unfold f_X11_isOnWay
  by_cases h : x < 0
  · rw [if_pos h]
  · rw [if_neg h, hW.mn, hc]
    simp only [mj_let]
    rw [if_pos (hx.resolve_left h)]
theorem L_drop {a : Int32} {w wd on R G fa fr we : Nat} (hW : WA a w wd on R G fa fr we) {l m : mj_m} {pl : Nat → Int32} {pm : PM} {e u v : Nat} {T : TT} (h : I_link l (m 1) pl pm e u v T) (x : Int32) : ∃ (r : Int32) (l' m' : mj_m), f_X9_takeOff w x l = some (r, l') ∧ f_X11_drop a x m = some (r, m') ∧ I_link l' (m' 1) pl pm e u v T ∧ Fl l l' ∧ Fm m m' ∧ m' 1 11 = m 1 11 := by
  obtain ⟨c, hc, lc, nc, cc⟩ := hW.cn h
  have nb := hW.nb
  by_cases hx : ¬ x < 0 ∧ ¬ nI c ≤ x
  · obtain ⟨i, hi, rfl⟩ := in_lt (b := c) (by omega) hx.1 hx.2
    obtain ⟨c, rfl⟩ : ∃ c', c = c' + 1 := ⟨c - 1, by omega⟩
    obtain ⟨l', a1, a2, a3, a4, a5, a6⟩ := takeOff_eq lc hc hi
    obtain ⟨m', b1, b2, b3, b4, b5⟩ := drops_eq (c := c) (i := i) (m := mj_wrs m 0 0 0) hW (by omega) (by omega) (by rw [r10]; exact nc)
    rw [r10] at b4 b5
    refine ⟨1, l', m', a1, ?_, ?_, ?_, (Fm.wr0 (j := 0) (x := 0) (by decide)).tr (Fm.k b2), b4 11 (by omega) (by omega)⟩
    · unfold f_X11_drop
      simp only [mj_let]
      rw [onWay_t hW (by rw [r10]; exact nc) hi hc, if_neg one0, b1]
      rfl
    · obtain ⟨⟨g_set, g_rng, g_tick⟩, g_rec, ⟨g_mach, g_line, g_sent, g_pass, g_dir, g_rep, g_st⟩, g_led, g_dia, g_up, g_dn, g_plan⟩ := h
      rcases hW with ⟨rfl, rfl, rfl, rfl, rfl, rfl, rfl, rfl, rfl⟩ | ⟨rfl, rfl, rfl, rfl, rfl, rfl, rfl, rfl, rfl⟩
      · have hl : ∀ k, k < 33 ∨ 36 < k → l' k = l k := fun k hk => a2 k (by omega)
        have hn : ∀ s, s ≠ 41 ∧ (s < 635 ∨ 929 ≤ s) → m' 1 s = m 1 s := fun s hs => b4 s (by omega) (by omega)
        refine ⟨⟨I_set_cg g_set (by rw [hl 1 (by omega)]) (hl 2 (by omega)) (hn 12 (by omega)) (fun s _ => hn s (by omega)), I_rng_cg g_rng (hl 2 (by omega)), I_tick_cg g_tick (by rw [hl 1 (by omega)]) (hn 11 (by omega))⟩, I_rec_cg (I_rec_mono g_rec) (fun k _ _ => hl k (by omega)) (hn 38 (by omega)) (fun s _ _ => hn s (by omega)) (fun s _ _ => hn s (by omega)) (fun s _ _ => hn s (by omega)), ⟨I_mach_cg g_mach (fun _ _ => by rw [hl 17 (by omega)]) (fun s _ => hn s (by omega)), I_line_cg g_line (by rw [hl 18 (by omega)]) (hl 19 (by omega)) (hl 21 (by omega)) (hn 24 (by omega)) (hn 40 (by omega)) (fun s _ _ => hn s (by omega)), I_sent_cg g_sent (fun k _ _ => hl k (by omega)) (hn 22 (by omega)) (hn 24 (by omega)) (hn 25 (by omega)) (hn 40 (by omega)) (fun s _ _ => hn s (by omega)), I_pass_cg g_pass (by rw [hl 28 (by omega)]) (hl 29 (by omega)) (hn 29 (by omega)) (fun s _ _ => hn s (by omega)), I_dir_cg g_dir (fun _ _ => by rw [hl 17 (by omega)]) (fun s _ => hn s (by omega)), I_rep_cg g_rep (by rw [hl 17 (by omega)]) (hn 45 (by omega)) (hn 46 (by omega)) (hn 47 (by omega)), I_st_cg g_st (by rw [hl 17 (by omega)]) (by rw [hl 17 (by omega)]) (hn 31 (by omega)) (fun s _ _ => hn s (by omega))⟩, I_led_cg (I_led_mono g_led) (fun _ _ => by rw [hl 3 (by omega)]) (hl 4 (by omega)) (hl 46 (by omega)) (hn 11 (by omega)) (hn 19 (by omega)) (hn 24 (by omega)) (hn 25 (by omega)) (hn 40 (by omega)) (fun s _ _ => hn s (by omega)), I_dia_cg (I_dia_mono g_dia) (fun k _ _ => hl k (by omega)) (hn 33 (by omega)) (hn 34 (by omega)) (hn 48 (by omega)) (fun s _ _ => hn s (by omega)), ?_, I_dn_cg g_dn (fun k _ _ => hl k (by omega)) (hn 11 (by omega)) (hn 36 (by omega)) (hn 42 (by omega)) (hn 44 (by omega)) (fun s _ _ => hn s (by omega)) (fun s _ _ => hn s (by omega)), I_plan_cg g_plan (fun k _ _ => hl k (by omega)) (hn 49 (by omega))⟩
        exact up_drop g_up nc (by omega) (by omega) a4 a3 a5 a6 (a2 _ (by omega)) b3 (fun s x _ y => b4 s x y) b5
      · have hl : ∀ k, k < 38 ∨ 41 < k → l' k = l k := fun k hk => a2 k (by omega)
        have hn : ∀ s, s ≠ 42 ∧ (s < 929 ∨ 1097 ≤ s) → m' 1 s = m 1 s := fun s hs => b4 s (by omega) (by omega)
        refine ⟨⟨I_set_cg g_set (by rw [hl 1 (by omega)]) (hl 2 (by omega)) (hn 12 (by omega)) (fun s _ => hn s (by omega)), I_rng_cg g_rng (hl 2 (by omega)), I_tick_cg g_tick (by rw [hl 1 (by omega)]) (hn 11 (by omega))⟩, I_rec_cg (I_rec_mono g_rec) (fun k _ _ => hl k (by omega)) (hn 38 (by omega)) (fun s _ _ => hn s (by omega)) (fun s _ _ => hn s (by omega)) (fun s _ _ => hn s (by omega)), ⟨I_mach_cg g_mach (fun _ _ => by rw [hl 17 (by omega)]) (fun s _ => hn s (by omega)), I_line_cg g_line (by rw [hl 18 (by omega)]) (hl 19 (by omega)) (hl 21 (by omega)) (hn 24 (by omega)) (hn 40 (by omega)) (fun s _ _ => hn s (by omega)), I_sent_cg g_sent (fun k _ _ => hl k (by omega)) (hn 22 (by omega)) (hn 24 (by omega)) (hn 25 (by omega)) (hn 40 (by omega)) (fun s _ _ => hn s (by omega)), I_pass_cg g_pass (by rw [hl 28 (by omega)]) (hl 29 (by omega)) (hn 29 (by omega)) (fun s _ _ => hn s (by omega)), I_dir_cg g_dir (fun _ _ => by rw [hl 17 (by omega)]) (fun s _ => hn s (by omega)), I_rep_cg g_rep (by rw [hl 17 (by omega)]) (hn 45 (by omega)) (hn 46 (by omega)) (hn 47 (by omega)), I_st_cg g_st (by rw [hl 17 (by omega)]) (by rw [hl 17 (by omega)]) (hn 31 (by omega)) (fun s _ _ => hn s (by omega))⟩, I_led_cg (I_led_mono g_led) (fun _ _ => by rw [hl 3 (by omega)]) (hl 4 (by omega)) (hl 46 (by omega)) (hn 11 (by omega)) (hn 19 (by omega)) (hn 24 (by omega)) (hn 25 (by omega)) (hn 40 (by omega)) (fun s _ _ => hn s (by omega)), I_dia_cg (I_dia_mono g_dia) (fun k _ _ => hl k (by omega)) (hn 33 (by omega)) (hn 34 (by omega)) (hn 48 (by omega)) (fun s _ _ => hn s (by omega)), I_up_cg g_up (fun k _ _ => hl k (by omega)) (hn 11 (by omega)) (hn 35 (by omega)) (hn 37 (by omega)) (hn 40 (by omega)) (hn 41 (by omega)) (hn 43 (by omega)) (fun s _ _ => hn s (by omega)) (fun s _ _ => hn s (by omega)), ?_, I_plan_cg g_plan (fun k _ _ => hl k (by omega)) (hn 49 (by omega))⟩
        exact way_drop WA0 g_dn nc (by omega) (by omega) a4 a3 (a5 2 (Or.inl rfl)) a6 (a2 _ (by omega)) b3 (fun s x _ y => b4 s x y) b5
    · unfold Fl
      rcases hW with ⟨rfl, rfl, rfl, rfl, rfl, rfl, rfl, rfl, rfl⟩ | ⟨rfl, rfl, rfl, rfl, rfl, rfl, rfl, rfl, rfl⟩
      · rw [a3 1 (by decide), a3 2 (by decide), a2 38 (by omega)]
        exact ⟨rfl, rfl, rfl, rfl⟩
      · rw [a3 1 (by decide), a3 2 (by decide), a2 33 (by omega)]
        exact ⟨rfl, rfl, rfl, rfl⟩
  · have hx' : x < 0 ∨ nI c ≤ x := by
      by_cases q : x < 0
      · exact Or.inl q
      · exact Or.inr (Decidable.byContradiction (fun z => hx ⟨q, z⟩))
    refine ⟨0, l, mj_wrs m 0 0 0, ?_, ?_, by rw [r10]; exact h, Fl.rf _, Fm.wr0 (by decide), by rw [r10]⟩
    · unfold f_X9_takeOff
      rw [has_f lc hx']
      rfl
    · unfold f_X11_drop
      simp only [mj_let]
      rw [onWay_f hW (by rw [r10]; exact nc) hx', if_pos rfl]
theorem c_drop : CL_drop Inv := by
  intro j M x1 x2 hj h
  obtain ⟨w, wd, on, R, G, fa, fr, we, hW⟩ := lbW x1
  obtain ⟨r, l', m', e1, e2, e3, e4, e5, e6⟩ := L_drop hW h.2.1 x2
  refine ⟨r, va_up M 0 l', m', ?_, e2, Inv_link0 h (I_link_mono e3) e4 e5 e6⟩
  unfold f_X10_drop
  simp only [mj_let]
  rw [hW.of, e1]
  rfl
/-- one byte of one on the way is made another -/
theorem way_put {a : Int32} {l : mj_m} {m : mj_m} {w wd on R G fa fr we i k : Nat} {W : Nat × Nat} {x : Int32} (hW : WA a w wd on R G fa fr we) (h : I_way l (m 1) w wd on R G fa fr we W) (hi : i < 41) (hk : k < wd) (hx : rg 0 x 255) : I_way (mj_wrs l (w + 1) (5 * i + k) x) (mj_wrs m 1 (R + G * i + 1 + k) x 1) w wd on R G fa fr we W := by
  obtain ⟨⟨p1, p2, p3⟩, ⟨p4, p5, p6⟩, p7⟩ := h
  have nb := hW.nb
  have hn : ∀ s, s < 619 → mj_wrs m 1 (R + G * i + 1 + k) x 1 s = m 1 s := fun s hs => wr_e (Or.inr (by omega))
  have hon := hn on (by omega)
  rcases hW with ⟨rfl, rfl, rfl, rfl, rfl, rfl, rfl, rfl, rfl⟩ | ⟨rfl, rfl, rfl, rfl, rfl, rfl, rfl, rfl, rfl⟩
  all_goals
    refine ⟨⟨?_, ?_, fun q hq => ?_⟩, ⟨?_, ?_, ?_⟩, ?_⟩
    · rw [wr_e (Or.inl (by omega)), hn _ (by omega)]
      exact p1
    · rw [hn _ (by omega)]
      exact p2
    · rw [hon] at hq ⊢
      have hq41 : q < 41 := Nat.lt_of_lt_of_le hq p2.1.2
      obtain ⟨q1, q2, q3, q4⟩ := p3 q hq
      rw [hn 11 (by omega), wr_e (Or.inl (by omega)), wr_e (Or.inr (by omega))]
      refine ⟨q1, q2, q3, fun z hz => ?_⟩
      by_cases hqi : q = i ∧ z = k
      · obtain ⟨rfl, rfl⟩ := hqi
        rw [rs, rs]
        exact ⟨rfl, hx⟩
      · rw [wr_e (Or.inr (by omega)), wr_e (Or.inr (by omega))]
        exact q4 z hz
    · rw [wr_e (Or.inl (by omega)), hn _ (by omega)]
      exact p4
    · rw [hn _ (by omega)]
      exact p5
    · rw [wr_row _ _ _ _ _ (by omega), hn _ (by omega)]
      exact I_fate_cg p6 (fun i hi => by
        have := p5.2
        rw [wr_e (Or.inr (by omega))])
    · rw [wr_e (Or.inl (by omega)), hn _ (by omega)]
      exact p7
theorem L_spoil {a : Int32} {w wd on R G fa fr we : Nat} (hW : WA a w wd on R G fa fr we) {l m : mj_m} {pl : Nat → Int32} {pm : PM} {e u v : Nat} {T : TT} (h : I_link l (m 1) pl pm e u v T) (hwd : l w 1 = nI wd) (x y z : Int32) : ∃ (r : Int32) (l' m' : mj_m), f_X9_putByte w x y z l = some (r, l') ∧ f_X11_spoil a x y z m = some (r, m') ∧ I_link l' (m' 1) pl pm e u v T ∧ Fl l l' ∧ Fm m m' ∧ m' 1 11 = m 1 11 := by
  obtain ⟨c, hc, lc, nc, cc⟩ := hW.cn h
  have nb := hW.nb
  have no : f_X9_putByte w x y z l = some (0, l) → f_X11_spoil a x y z m = some (0, mj_wrs m 0 0 0) → ∃ (r : Int32) (l' m' : mj_m), f_X9_putByte w x y z l = some (r, l') ∧ f_X11_spoil a x y z m = some (r, m') ∧ I_link l' (m' 1) pl pm e u v T ∧ Fl l l' ∧ Fm m m' ∧ m' 1 11 = m 1 11 := fun a b => ⟨0, l, mj_wrs m 0 0 0, a, b, by rw [r10]; exact h, Fl.rf _, Fm.wr0 (by decide), by rw [r10]⟩
  by_cases hx : ¬ x < 0 ∧ ¬ nI c ≤ x
  · obtain ⟨i, hi, rfl⟩ := in_lt (b := c) (by omega) hx.1 hx.2
    have h48 : ¬ (48 : Int32) ≤ nI i := nI_ge (b := 48) (by omega) (by decide)
    by_cases hy : ¬ y < 0 ∧ ¬ nI wd ≤ y
    · obtain ⟨k, hk, rfl⟩ := in_lt (b := wd) (by omega) hy.1 hy.2
      have hb : f_X9_hasByte w (nI i) (nI k) l = 1 := by
        unfold f_X9_hasByte
        rw [if_neg hx.1, lc, if_neg hx.2, if_neg h48, if_neg hy.1, hwd, if_neg hy.2]
      have hin : f_X11_isIn (nI k) 0 (nI wd - 1) = 1 := isIn_t ⟨nI_pos' (by omega), by
        rw [nI_p (by omega)]
        exact nI_le (by omega) (by omega)⟩
      by_cases hz : 0 ≤ z ∧ z ≤ 255
      · have hG : R + G * i + 1 + k < 1897 := by
          rcases hW with ⟨rfl, rfl, rfl, rfl, rfl, rfl, rfl, rfl, rfl⟩ | ⟨rfl, rfl, rfl, rfl, rfl, rfl, rfl, rfl, rfl⟩ <;> omega
        refine ⟨1, mj_wrs l (w + 1) (5 * i + k) z, mj_wrs (mj_wrs m 0 0 0) 1 (R + G * i + 1 + k) z, ?_, ?_, ?_, ?_, (Fm.wr0 (by decide)).tr Fm.wr, by rw [wr_e (Or.inr (by omega)), r10]⟩
        · unfold f_X9_putByte
          rw [hb]
          simp only [mj_let]
          rw [if_neg one0, show f_X10_isWithin z 0 255 = 1 from isIn_t hz, if_neg one0, show nI i * 5 = nI (i * 5) from nI_mul i 5, nI_add, chk_t (okI (by omega) (by decide)), clI (by omega), show i * 5 + k = 5 * i + k by omega]
        · unfold f_X11_spoil
          simp only [mj_let]
          rw [onWay_t hW (by rw [r10]; exact nc) hi hc, if_neg one0, hW.by, hin, if_neg one0, isIn_t hz, if_neg one0, hW.at, nI_1, nI_add, chk_t (okI (by omega) (by decide)), clI (by omega)]
        · obtain ⟨⟨g_set, g_rng, g_tick⟩, g_rec, ⟨g_mach, g_line, g_sent, g_pass, g_dir, g_rep, g_st⟩, g_led, g_dia, g_up, g_dn, g_plan⟩ := h
          rcases hW with ⟨rfl, rfl, rfl, rfl, rfl, rfl, rfl, rfl, rfl⟩ | ⟨rfl, rfl, rfl, rfl, rfl, rfl, rfl, rfl, rfl⟩
          · have hl : ∀ p, p < 34 ∨ 34 < p → mj_wrs l (33 + 1) (5 * i + k) z p = l p := fun p hp => wr_row _ _ _ _ _ (by omega)
            have hn : ∀ s, (s < 635 ∨ 929 ≤ s) → mj_wrs (mj_wrs m 0 0 0) 1 (635 + 7 * i + 1 + k) z 1 s = m 1 s := fun s hs => by rw [wr_e (Or.inr (by omega)), r10]
            refine ⟨⟨I_set_cg g_set (by rw [hl 1 (by omega)]) (hl 2 (by omega)) (hn 12 (by omega)) (fun s _ => hn s (by omega)), I_rng_cg g_rng (hl 2 (by omega)), I_tick_cg g_tick (by rw [hl 1 (by omega)]) (hn 11 (by omega))⟩, I_rec_cg (I_rec_mono g_rec) (fun k _ _ => hl k (by omega)) (hn 38 (by omega)) (fun s _ _ => hn s (by omega)) (fun s _ _ => hn s (by omega)) (fun s _ _ => hn s (by omega)), ⟨I_mach_cg g_mach (fun _ _ => by rw [hl 17 (by omega)]) (fun s _ => hn s (by omega)), I_line_cg g_line (by rw [hl 18 (by omega)]) (hl 19 (by omega)) (hl 21 (by omega)) (hn 24 (by omega)) (hn 40 (by omega)) (fun s _ _ => hn s (by omega)), I_sent_cg g_sent (fun k _ _ => hl k (by omega)) (hn 22 (by omega)) (hn 24 (by omega)) (hn 25 (by omega)) (hn 40 (by omega)) (fun s _ _ => hn s (by omega)), I_pass_cg g_pass (by rw [hl 28 (by omega)]) (hl 29 (by omega)) (hn 29 (by omega)) (fun s _ _ => hn s (by omega)), I_dir_cg g_dir (fun _ _ => by rw [hl 17 (by omega)]) (fun s _ => hn s (by omega)), I_rep_cg g_rep (by rw [hl 17 (by omega)]) (hn 45 (by omega)) (hn 46 (by omega)) (hn 47 (by omega)), I_st_cg g_st (by rw [hl 17 (by omega)]) (by rw [hl 17 (by omega)]) (hn 31 (by omega)) (fun s _ _ => hn s (by omega))⟩, I_led_cg (I_led_mono g_led) (fun _ _ => by rw [hl 3 (by omega)]) (hl 4 (by omega)) (hl 46 (by omega)) (hn 11 (by omega)) (hn 19 (by omega)) (hn 24 (by omega)) (hn 25 (by omega)) (hn 40 (by omega)) (fun s _ _ => hn s (by omega)), I_dia_cg (I_dia_mono g_dia) (fun k _ _ => hl k (by omega)) (hn 33 (by omega)) (hn 34 (by omega)) (hn 48 (by omega)) (fun s _ _ => hn s (by omega)), ?_, I_dn_cg g_dn (fun k _ _ => hl k (by omega)) (hn 11 (by omega)) (hn 36 (by omega)) (hn 42 (by omega)) (hn 44 (by omega)) (fun s _ _ => hn s (by omega)) (fun s _ _ => hn s (by omega)), I_plan_cg g_plan (fun k _ _ => hl k (by omega)) (hn 49 (by omega))⟩
            obtain ⟨u1, u2, u3⟩ := g_up
            refine ⟨way_put WA1 (m := mj_wrs m 0 0 0) (by rw [r10]; exact u1) (by omega) hk hz, ?_, fun q hq => ?_⟩
            · rw [hl 33 (by omega), hn 37 (by omega)]
              exact u2
            · rw [hn 41 (by omega)] at hq
              rw [hl 36 (by omega), hn 40 (by omega), wr_e (Or.inr (by omega)), r10]
              exact u3 q hq
          · have hl : ∀ p, p < 39 ∨ 39 < p → mj_wrs l (38 + 1) (5 * i + k) z p = l p := fun p hp => wr_row _ _ _ _ _ (by omega)
            have hn : ∀ s, (s < 929 ∨ 1097 ≤ s) → mj_wrs (mj_wrs m 0 0 0) 1 (929 + 4 * i + 1 + k) z 1 s = m 1 s := fun s hs => by rw [wr_e (Or.inr (by omega)), r10]
            refine ⟨⟨I_set_cg g_set (by rw [hl 1 (by omega)]) (hl 2 (by omega)) (hn 12 (by omega)) (fun s _ => hn s (by omega)), I_rng_cg g_rng (hl 2 (by omega)), I_tick_cg g_tick (by rw [hl 1 (by omega)]) (hn 11 (by omega))⟩, I_rec_cg (I_rec_mono g_rec) (fun k _ _ => hl k (by omega)) (hn 38 (by omega)) (fun s _ _ => hn s (by omega)) (fun s _ _ => hn s (by omega)) (fun s _ _ => hn s (by omega)), ⟨I_mach_cg g_mach (fun _ _ => by rw [hl 17 (by omega)]) (fun s _ => hn s (by omega)), I_line_cg g_line (by rw [hl 18 (by omega)]) (hl 19 (by omega)) (hl 21 (by omega)) (hn 24 (by omega)) (hn 40 (by omega)) (fun s _ _ => hn s (by omega)), I_sent_cg g_sent (fun k _ _ => hl k (by omega)) (hn 22 (by omega)) (hn 24 (by omega)) (hn 25 (by omega)) (hn 40 (by omega)) (fun s _ _ => hn s (by omega)), I_pass_cg g_pass (by rw [hl 28 (by omega)]) (hl 29 (by omega)) (hn 29 (by omega)) (fun s _ _ => hn s (by omega)), I_dir_cg g_dir (fun _ _ => by rw [hl 17 (by omega)]) (fun s _ => hn s (by omega)), I_rep_cg g_rep (by rw [hl 17 (by omega)]) (hn 45 (by omega)) (hn 46 (by omega)) (hn 47 (by omega)), I_st_cg g_st (by rw [hl 17 (by omega)]) (by rw [hl 17 (by omega)]) (hn 31 (by omega)) (fun s _ _ => hn s (by omega))⟩, I_led_cg (I_led_mono g_led) (fun _ _ => by rw [hl 3 (by omega)]) (hl 4 (by omega)) (hl 46 (by omega)) (hn 11 (by omega)) (hn 19 (by omega)) (hn 24 (by omega)) (hn 25 (by omega)) (hn 40 (by omega)) (fun s _ _ => hn s (by omega)), I_dia_cg (I_dia_mono g_dia) (fun k _ _ => hl k (by omega)) (hn 33 (by omega)) (hn 34 (by omega)) (hn 48 (by omega)) (fun s _ _ => hn s (by omega)), I_up_cg g_up (fun k _ _ => hl k (by omega)) (hn 11 (by omega)) (hn 35 (by omega)) (hn 37 (by omega)) (hn 40 (by omega)) (hn 41 (by omega)) (hn 43 (by omega)) (fun s _ _ => hn s (by omega)) (fun s _ _ => hn s (by omega)), ?_, I_plan_cg g_plan (fun k _ _ => hl k (by omega)) (hn 49 (by omega))⟩
            exact way_put WA0 (m := mj_wrs m 0 0 0) (by rw [r10]; exact g_dn) (by omega) hk hz
        · rcases hW with ⟨rfl, rfl, rfl, rfl, rfl, rfl, rfl, rfl, rfl⟩ | ⟨rfl, rfl, rfl, rfl, rfl, rfl, rfl, rfl, rfl⟩
          · exact Fl.wr (Or.inl (by omega)) (Or.inl (by omega))
          · exact Fl.wr (Or.inl (by omega)) (Or.inl (by omega))
      · refine no ?_ ?_
        · unfold f_X9_putByte
          rw [hb]
          simp only [mj_let]
          rw [if_neg one0, show f_X10_isWithin z 0 255 = 0 from isIn_f hz, if_pos rfl]
        · unfold f_X11_spoil
          simp only [mj_let]
          rw [onWay_t hW (by rw [r10]; exact nc) hi hc, if_neg one0, hW.by, hin, if_neg one0, isIn_f hz, if_pos rfl]
    · have hin : f_X11_isIn y 0 (nI wd - 1) = 0 := isIn_f (fun q => hy ⟨by
        have := q.1
        grind, by
        have := q.2
        rw [nI_p (by omega)] at this
        intro z
        have : nI wd ≤ nI (wd - 1) := by grind
        exact absurd this (nI_ge (by omega) (by omega))⟩)
      refine no ?_ ?_
      · unfold f_X9_putByte
        have hb : f_X9_hasByte w (nI i) y l = 0 := by
          unfold f_X9_hasByte
          rw [if_neg hx.1, lc, if_neg hx.2, if_neg h48, hwd]
          by_cases q : y < 0
          · rw [if_pos q]
          · rw [if_neg q, if_pos (Decidable.byContradiction (fun z => hy ⟨q, z⟩))]
        rw [hb]
        rfl
      · unfold f_X11_spoil
        simp only [mj_let]
        rw [onWay_t hW (by rw [r10]; exact nc) hi hc, if_neg one0, hW.by, hin, if_pos rfl]
  · have hx' : x < 0 ∨ nI c ≤ x := by
      by_cases q : x < 0
      · exact Or.inl q
      · exact Or.inr (Decidable.byContradiction (fun z => hx ⟨q, z⟩))
    refine no ?_ ?_
    · have hb : f_X9_hasByte w x y l = 0 := by
        unfold f_X9_hasByte
        rw [lc]
        by_cases q : x < 0
        · rw [if_pos q]
        · rw [if_neg q, if_pos (hx'.resolve_left q)]
      unfold f_X9_putByte
      rw [hb]
      rfl
    · unfold f_X11_spoil
      simp only [mj_let]
      rw [onWay_f hW (by rw [r10]; exact nc) hx', if_pos rfl]
theorem Inv.wd {a : Int32} {w wd on R G fa fr we : Nat} (hW : WA a w wd on R G fa fr we) {j : Nat} {M : mj_M} (h : Inv j M) : M 0 w 1 = nI wd ∧ M 0 w 2 = nI (if a = 1 then 6 else 7) := by
  obtain ⟨h1, h2, h3, h4⟩ := h.1.2.2 0 (by decide)
  rcases hW with ⟨rfl, rfl, rfl, rfl, rfl, rfl, rfl, rfl, rfl⟩ | ⟨rfl, rfl, rfl, rfl, rfl, rfl, rfl, rfl, rfl⟩
  · exact ⟨h1, h2⟩
  · exact ⟨h3, h4⟩
theorem c_spoil : CL_spoil Inv := by
  intro j M x1 x2 x3 x4 hj h
  obtain ⟨w, wd, on, R, G, fa, fr, we, hW⟩ := lbW x1
  obtain ⟨r, l', m', e1, e2, e3, e4, e5, e6⟩ := L_spoil hW h.2.1 (Inv.wd hW h).1 x2 x3 x4
  refine ⟨r, va_up M 0 l', m', ?_, e2, Inv_link0 h (I_link_mono e3) e4 e5 e6⟩
  unfold f_X10_spoil
  simp only [mj_let]
  rw [hW.of, e1]
  rfl
