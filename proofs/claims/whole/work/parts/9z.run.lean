/-! run -/
def clsLine (k x : Int32) (m4 : mj_m) : Option (Int32 × mj_m) := (if k = 0 then (mj_b2 (f_X8_queue x m4) (fun r9 m10 => if r9 = (-1) then (some (0, m10)) else (some (1, m10)))) else if k = 1 then (mj_b2 (f_X8_queuePast x m4) (fun r14 m15 => if r14 = (-1) then (some (0, m15)) else (some (1, m15)))) else if k = 2 then (mj_b2 (f_X8_begin 0 0 m4) (fun r19 m20 => some (r19, m20))) else if k = 3 then (mj_b2 (f_X8_begin 1 0 m4) (fun r23 m24 => some (r23, m24))) else if k = 4 then (mj_b2 (f_X8_begin 2 0 m4) (fun r27 m28 => some (r27, m28))) else if k = 5 then (mj_b2 (f_X8_begin 3 x m4) (fun r31 m32 => some (r31, m32))) else if k = 6 then (mj_b2 (f_X8_halt m4) (fun r35 m36 => some (r35, m36))) else if k = 7 then (mj_b2 (f_X8_goOn m4) (fun r39 m40 => some (r39, m40))) else if k = 8 then (mj_p2 (f_X8_countFrom x m4) (fun r43 m44 => some (r43, m44))) else if k = 9 then (mj_b2 (f_X6_handOver m4) (fun r47 m48 => if r47 = (-1) then (some (0, m48)) else (some (1, m48)))) else if k = 10 then (mj_let (f_X3_hasTimeFor x m4) (fun r52 => if r52 = 0 then (some (0, m4)) else (mj_b1 (f_X3_passTicks x 0 m4) (fun m55 => some (1, m55))))) else if k = 11 then (mj_b2 (f_X9_takeOff 33 ((m4 33 7) - 1) m4) (fun r58 m59 => some (r58, m59))) else if k = 12 then (mj_b2 (f_X9_takeOff 38 (x - 1) m4) (fun r62 m63 => some (r62, m63))) else (mj_let (f_X3_hasTimeFor x m4) (fun r65 => if r65 = 0 then (some (0, m4)) else (mj_b1 (f_X3_passTicks x 0 m4) (fun m68 => some (1, m68))))))
theorem planX {l l' m m' : mj_m} {pl : Nat → Int32} {pm pm' : PM} {e u v : Nat} {T : TT} (h : I_link l (m 1) pl pm e u v T) (hl : ∀ p, p ≠ 43 → l' p = l p) (hn : ∀ s, s ≠ 49 → m' 1 s = m 1 s) (hp : I_plan l' (m' 1) pl pm') : I_link l' (m' 1) pl pm' e u v T := by
  obtain ⟨⟨g_set, g_rng, g_tick⟩, g_rec, ⟨g_mach, g_line, g_sent, g_pass, g_dir, g_rep, g_st⟩, g_led, g_dia, g_up, g_dn, g_plan⟩ := h
  refine ⟨⟨I_set_cg g_set (by rw [hl 1 (by omega)]) (hl 2 (by omega)) (hn 12 (by omega)) (fun s _ => hn s (by omega)), I_rng_cg g_rng (hl 2 (by omega)), I_tick_cg g_tick (by rw [hl 1 (by omega)]) (hn 11 (by omega))⟩, I_rec_cg (I_rec_mono g_rec) (fun k _ _ => hl k (by omega)) (hn 38 (by omega)) (fun s _ _ => hn s (by omega)) (fun s _ _ => hn s (by omega)) (fun s _ _ => hn s (by omega)), ⟨I_mach_cg g_mach (fun _ _ => by rw [hl 17 (by omega)]) (fun s _ => hn s (by omega)), I_line_cg g_line (by rw [hl 18 (by omega)]) (hl 19 (by omega)) (hl 21 (by omega)) (hn 24 (by omega)) (hn 40 (by omega)) (fun s _ _ => hn s (by omega)), I_sent_cg g_sent (fun k _ _ => hl k (by omega)) (hn 22 (by omega)) (hn 24 (by omega)) (hn 25 (by omega)) (hn 40 (by omega)) (fun s _ _ => hn s (by omega)), I_pass_cg g_pass (by rw [hl 28 (by omega)]) (hl 29 (by omega)) (hn 29 (by omega)) (fun s _ _ => hn s (by omega)), I_dir_cg g_dir (fun _ _ => by rw [hl 17 (by omega)]) (fun s _ => hn s (by omega)), I_rep_cg g_rep (by rw [hl 17 (by omega)]) (hn 45 (by omega)) (hn 46 (by omega)) (hn 47 (by omega)), I_st_cg g_st (by rw [hl 17 (by omega)]) (by rw [hl 17 (by omega)]) (hn 31 (by omega)) (fun s _ _ => hn s (by omega))⟩, I_led_cg (I_led_mono g_led) (fun _ _ => by rw [hl 3 (by omega)]) (hl 4 (by omega)) (hl 46 (by omega)) (hn 11 (by omega)) (hn 19 (by omega)) (hn 24 (by omega)) (hn 25 (by omega)) (hn 40 (by omega)) (fun s _ _ => hn s (by omega)), I_dia_cg (I_dia_mono g_dia) (fun k _ _ => hl k (by omega)) (hn 33 (by omega)) (hn 34 (by omega)) (hn 48 (by omega)) (fun s _ _ => hn s (by omega)), I_up_cg g_up (fun k _ _ => hl k (by omega)) (hn 11 (by omega)) (hn 35 (by omega)) (hn 37 (by omega)) (hn 40 (by omega)) (hn 41 (by omega)) (hn 43 (by omega)) (fun s _ _ => hn s (by omega)) (fun s _ _ => hn s (by omega)), I_dn_cg g_dn (fun k _ _ => hl k (by omega)) (hn 11 (by omega)) (hn 36 (by omega)) (hn 42 (by omega)) (hn 44 (by omega)) (fun s _ _ => hn s (by omega)) (fun s _ _ => hn s (by omega)), ?_⟩
  exact hp
def RUNOK (pl : Nat → Int32) (pm : PM) (e u v : Nat) (k x y : Int32) (l m : mj_m) : Prop := ∃ (r : Int32) (l' m' : mj_m) (q : Nat), clsLine k x l = some (r, l') ∧ f_X11_runsLine (wm k) y m = some (r, m') ∧ I_link l' (m' 1) pl pm (e + 1) (u + 1 + 50 * q) (v + 50 * q) (9999, (40, 0), (40, 0)) ∧ Fl l l' ∧ Fm m m' ∧ mj_cl (m' 1 11) = mj_cl (m 1 11) + q ∧ q ≤ 60
theorem lineP {pl : Nat → Int32} {pm : PM} {e u v : Nat} {l m : mj_m} (h : I_link l (m 1) pl pm e u v (9999, (40, 0), (40, 0))) (hwd : Wd l) (he : e ≤ 20000) (hu : u + 3000 < 2 ^ 28) (hv : v + 3000 < 2 ^ 28) {k : Nat} (hk : k ≤ 12) {x y : Int32} (hxy : wm (nI k) ≤ 5 → x = y) : RUNOK pl pm e u v (nI k) x y l m := by
  have neg1 : ∀ (r : Int32) (z : mj_m), (if r = -1 then some ((0 : Int32), z) else some (1, z)) = some (if r = -1 then 0 else 1, z) := fun r z => by
    by_cases w : r = -1
    · rw [if_pos w, if_pos w]
    · rw [if_neg w, if_neg w]
  rcases (by omega : k = 0 ∨ k = 1 ∨ k = 2 ∨ k = 3 ∨ k = 4 ∨ k = 5 ∨ k = 6 ∨ k = 7 ∨ k = 8 ∨ k = 9 ∨ k = 10 ∨ k = 11 ∨ k = 12) with rfl | rfl | rfl | rfl | rfl | rfl | rfl | rfl | rfl | rfl | rfl | rfl | rfl
  · have exy : x = y := hxy (by decide)
    subst exy
    obtain ⟨r, l1, m1, a1, a2, a3, a4, a5, a6⟩ := L_send h he (by decide) x
    refine ⟨if r = -1 then 0 else 1, l1, m1, 0, ?_, ?_, I_link_mono a3, a4, a5, by rw [a6]; rfl, by decide⟩
    · unfold clsLine
      rw [if_pos (show nI 0 = 0 from rfl), a1, b2s, neg1]
    · rw [show wm (nI 0) = 0 from by decide]
      unfold f_X11_runsLine
      rw [if_pos (by decide), a2, b2s, neg1]
  · have exy : x = y := hxy (by decide)
    subst exy
    obtain ⟨r, l1, m1, a1, a2, a3, a4, a5, a6⟩ := L_past h x
    refine ⟨if r = -1 then 0 else 1, l1, m1, 0, ?_, ?_, I_link_mono a3, a4, a5, by rw [a6]; rfl, by decide⟩
    · unfold clsLine
      rw [if_neg (show ¬ nI 1 = 0 by decide), if_pos (show nI 1 = 1 from rfl), a1, b2s, neg1]
    · rw [show wm (nI 1) = 1 from by decide]
      unfold f_X11_runsLine
      rw [if_neg (by decide), if_pos (by decide), a2, b2s, neg1]
  · obtain ⟨r, l1, m1, a1, a2, a3, a4, a5, a6⟩ := L_begin h he 0 0
    refine ⟨r, l1, m1, 0, ?_, ?_, I_link_mono a3, a4, a5, by rw [a6 11 (by decide)]; rfl, by decide⟩
    · unfold clsLine
      rw [if_neg (show ¬ nI 2 = 0 by decide), if_neg (show ¬ nI 2 = 1 by decide), if_pos (show nI 2 = 2 from rfl), a1, b2s]
    · rw [show wm (nI 2) = 6 from by decide]
      unfold f_X11_runsLine
      rw [if_neg (by decide), if_neg (by decide), if_neg (by decide), if_neg (by decide), if_neg (by decide), if_neg (by decide), if_neg (by decide), show (6 : Int32) - 6 = 0 by decide, a2, b2s]
  · obtain ⟨r, l1, m1, a1, a2, a3, a4, a5, a6⟩ := L_begin h he 1 0
    refine ⟨r, l1, m1, 0, ?_, ?_, I_link_mono a3, a4, a5, by rw [a6 11 (by decide)]; rfl, by decide⟩
    · unfold clsLine
      rw [if_neg (show ¬ nI 3 = 0 by decide), if_neg (show ¬ nI 3 = 1 by decide), if_neg (show ¬ nI 3 = 2 by decide), if_pos (show nI 3 = 3 from rfl), a1, b2s]
    · rw [show wm (nI 3) = 7 from by decide]
      unfold f_X11_runsLine
      rw [if_neg (by decide), if_neg (by decide), if_neg (by decide), if_neg (by decide), if_neg (by decide), if_neg (by decide), if_neg (by decide), show (7 : Int32) - 6 = 1 by decide, a2, b2s]
  · obtain ⟨r, l1, m1, a1, a2, a3, a4, a5, a6⟩ := L_begin h he 2 0
    refine ⟨r, l1, m1, 0, ?_, ?_, I_link_mono a3, a4, a5, by rw [a6 11 (by decide)]; rfl, by decide⟩
    · unfold clsLine
      rw [if_neg (show ¬ nI 4 = 0 by decide), if_neg (show ¬ nI 4 = 1 by decide), if_neg (show ¬ nI 4 = 2 by decide), if_neg (show ¬ nI 4 = 3 by decide), if_pos (show nI 4 = 4 from rfl), a1, b2s]
    · rw [show wm (nI 4) = 8 from by decide]
      unfold f_X11_runsLine
      rw [if_neg (by decide), if_neg (by decide), if_neg (by decide), if_neg (by decide), if_neg (by decide), if_neg (by decide), if_neg (by decide), show (8 : Int32) - 6 = 2 by decide, a2, b2s]
  · have exy : x = y := hxy (by decide)
    subst exy
    obtain ⟨r, l1, m1, a1, a2, a3, a4, a5, a6⟩ := L_begin h he 3 x
    refine ⟨r, l1, m1, 0, ?_, ?_, I_link_mono a3, a4, a5, by rw [a6 11 (by decide)]; rfl, by decide⟩
    · unfold clsLine
      rw [if_neg (show ¬ nI 5 = 0 by decide), if_neg (show ¬ nI 5 = 1 by decide), if_neg (show ¬ nI 5 = 2 by decide), if_neg (show ¬ nI 5 = 3 by decide), if_neg (show ¬ nI 5 = 4 by decide), if_pos (show nI 5 = 5 from rfl), a1, b2s]
    · rw [show wm (nI 5) = 2 from by decide]
      unfold f_X11_runsLine
      rw [if_neg (by decide), if_neg (by decide), if_pos (by decide), a2, b2s]
  · obtain ⟨r, l1, m1, a1, a2, a3, a4, a5, a6⟩ := L_halt h he (by omega)
    refine ⟨r, l1, m1, 0, ?_, ?_, I_link_mono a3, a4, a5, by rw [a6]; rfl, by decide⟩
    · unfold clsLine
      rw [if_neg (show ¬ nI 6 = 0 by decide), if_neg (show ¬ nI 6 = 1 by decide), if_neg (show ¬ nI 6 = 2 by decide), if_neg (show ¬ nI 6 = 3 by decide), if_neg (show ¬ nI 6 = 4 by decide), if_neg (show ¬ nI 6 = 5 by decide), if_pos (show nI 6 = 6 from rfl), a1, b2s]
    · rw [show wm (nI 6) = 9 from by decide]
      unfold f_X11_runsLine
      rw [if_neg (by decide), if_neg (by decide), if_neg (by decide), if_neg (by decide), if_neg (by decide), if_neg (by decide), if_pos (by decide), if_pos (by decide), show (9 : Int32) - 9 = 0 by decide, a2, b2s]
  · obtain ⟨r, l1, m1, a1, a2, a3, a4, a5, a6⟩ := L_goOn (m := mj_wrs m 0 0 0) (by rw [r10]; exact h)
    have a2' : f_X11_direct 1 m = some (r, m1) := by
      unfold f_X11_direct
      rw [lts, if_neg (by decide), if_pos rfl]
      exact a2
    refine ⟨r, l1, m1, 0, ?_, ?_, I_link_mono a3, a4, (Fm.wr0 (by decide)).tr a5, by rw [a6 11 (by decide), r10]; rfl, by decide⟩
    · unfold clsLine
      rw [if_neg (show ¬ nI 7 = 0 by decide), if_neg (show ¬ nI 7 = 1 by decide), if_neg (show ¬ nI 7 = 2 by decide), if_neg (show ¬ nI 7 = 3 by decide), if_neg (show ¬ nI 7 = 4 by decide), if_neg (show ¬ nI 7 = 5 by decide), if_neg (show ¬ nI 7 = 6 by decide), if_pos (show nI 7 = 7 from rfl), a1, b2s]
    · rw [show wm (nI 7) = 10 from by decide]
      unfold f_X11_runsLine
      rw [if_neg (by decide), if_neg (by decide), if_neg (by decide), if_neg (by decide), if_neg (by decide), if_neg (by decide), if_pos (by decide), if_neg (by decide), if_pos (by decide), show (10 : Int32) - 9 = 1 by decide, a2', b2s]
  · have exy : x = y := hxy (by decide)
    subst exy
    obtain ⟨r, l1, m1, a1, a2, a3, a4, a5, a6⟩ := L_ren h x
    have p2e : ∀ (p : Int32 × mj_m), mj_p2 p (fun a b => some (a, b)) = some p := fun _ => rfl
    refine ⟨r, l1, m1, 0, ?_, ?_, I_link_mono a3, a4, a5, by rw [a6]; rfl, by decide⟩
    · unfold clsLine
      rw [if_neg (show ¬ nI 8 = 0 by decide), if_neg (show ¬ nI 8 = 1 by decide), if_neg (show ¬ nI 8 = 2 by decide), if_neg (show ¬ nI 8 = 3 by decide), if_neg (show ¬ nI 8 = 4 by decide), if_neg (show ¬ nI 8 = 5 by decide), if_neg (show ¬ nI 8 = 6 by decide), if_neg (show ¬ nI 8 = 7 by decide), if_pos (show nI 8 = 8 from rfl), a1, p2e]
    · rw [show wm (nI 8) = 3 from by decide]
      unfold f_X11_runsLine
      rw [if_neg (by decide), if_neg (by decide), if_neg (by decide), if_pos (by decide), a2, p2e]
  · obtain ⟨r, l1, m1, a1, a2, a3, a4, a5, a6, -⟩ := L_take h
    refine ⟨if r = -1 then 0 else 1, l1, m1, 0, ?_, ?_, I_link_mono a3, a4, a5, by rw [a6]; rfl, by decide⟩
    · unfold clsLine
      rw [if_neg (show ¬ nI 9 = 0 by decide), if_neg (show ¬ nI 9 = 1 by decide), if_neg (show ¬ nI 9 = 2 by decide), if_neg (show ¬ nI 9 = 3 by decide), if_neg (show ¬ nI 9 = 4 by decide), if_neg (show ¬ nI 9 = 5 by decide), if_neg (show ¬ nI 9 = 6 by decide), if_neg (show ¬ nI 9 = 7 by decide), if_neg (show ¬ nI 9 = 8 by decide), if_pos (show nI 9 = 9 from rfl), a1, b2s, neg1]
    · rw [show wm (nI 9) = 11 from by decide]
      unfold f_X11_runsLine
      rw [if_neg (by decide), if_neg (by decide), if_neg (by decide), if_neg (by decide), if_neg (by decide), if_neg (by decide), if_pos (by decide), if_neg (by decide), if_neg (by decide), if_pos (by decide), a2, b2s, neg1]
  · have exy : x = y := hxy (by decide)
    subst exy
    rcases L_tick (K_of h) hwd he hu hv (by decide) x with ⟨a1, a2⟩ | ⟨l1, m1, q, a1, a2, a3, a4, a5, a6, a7, a8, a9⟩
    · refine ⟨0, l, m, 0, ?_, ?_, I_link_mono h, Fl.rf _, Fm.rf _, rfl, by decide⟩
      · unfold clsLine
        rw [if_neg (show ¬ nI 10 = 0 by decide), if_neg (show ¬ nI 10 = 1 by decide), if_neg (show ¬ nI 10 = 2 by decide), if_neg (show ¬ nI 10 = 3 by decide), if_neg (show ¬ nI 10 = 4 by decide), if_neg (show ¬ nI 10 = 5 by decide), if_neg (show ¬ nI 10 = 6 by decide), if_neg (show ¬ nI 10 = 7 by decide), if_neg (show ¬ nI 10 = 8 by decide), if_neg (show ¬ nI 10 = 9 by decide), if_pos (show nI 10 = 10 from rfl), lts, a1, if_pos rfl]
      · rw [show wm (nI 10) = 4 from by decide]
        unfold f_X11_runsLine
        rw [if_neg (by decide), if_neg (by decide), if_neg (by decide), if_neg (by decide), if_pos (by decide), a2, b2s, if_pos rfl]
    · refine ⟨1, l1, m1, q, ?_, ?_, I_link_mono (of_K a5), a6, a7, a8, a9⟩
      · unfold clsLine
        rw [if_neg (show ¬ nI 10 = 0 by decide), if_neg (show ¬ nI 10 = 1 by decide), if_neg (show ¬ nI 10 = 2 by decide), if_neg (show ¬ nI 10 = 3 by decide), if_neg (show ¬ nI 10 = 4 by decide), if_neg (show ¬ nI 10 = 5 by decide), if_neg (show ¬ nI 10 = 6 by decide), if_neg (show ¬ nI 10 = 7 by decide), if_neg (show ¬ nI 10 = 8 by decide), if_neg (show ¬ nI 10 = 9 by decide), if_pos (show nI 10 = 10 from rfl), lts, a1, if_neg one0, a2, b1s]
      · rw [show wm (nI 10) = 4 from by decide]
        unfold f_X11_runsLine
        rw [if_neg (by decide), if_neg (by decide), if_neg (by decide), if_neg (by decide), if_pos (by decide), a3, b2s, if_neg a4]
  · have hW : WA 1 33 5 41 635 7 43 619 35 := Or.inl ⟨rfl, rfl, rfl, rfl, rfl, rfl, rfl, rfl, rfl⟩
    obtain ⟨c, hc, c1, c2, c3⟩ := hW.cn h
    obtain ⟨r, l1, m1, a1, a2, a3, a4, a5, a6⟩ := L_drop hW h (nI c - 1)
    refine ⟨r, l1, m1, 0, ?_, ?_, I_link_mono a3, a4, a5, by rw [a6]; rfl, by decide⟩
    · unfold clsLine
      rw [if_neg (show ¬ nI 11 = 0 by decide), if_neg (show ¬ nI 11 = 1 by decide), if_neg (show ¬ nI 11 = 2 by decide), if_neg (show ¬ nI 11 = 3 by decide), if_neg (show ¬ nI 11 = 4 by decide), if_neg (show ¬ nI 11 = 5 by decide), if_neg (show ¬ nI 11 = 6 by decide), if_neg (show ¬ nI 11 = 7 by decide), if_neg (show ¬ nI 11 = 8 by decide), if_neg (show ¬ nI 11 = 9 by decide), if_neg (show ¬ nI 11 = 10 by decide), if_pos (show nI 11 = 11 from rfl), c1, a1, b2s]
    · rw [show wm (nI 11) = 12 from by decide]
      unfold f_X11_runsLine
      rw [if_neg (by decide), if_neg (by decide), if_neg (by decide), if_neg (by decide), if_neg (by decide), if_neg (by decide), if_pos (by decide), if_neg (by decide), if_neg (by decide), if_neg (by decide), lts, hW.mn, c2, a2, b2s]
  · have exy : x = y := hxy (by decide)
    subst exy
    have hW : WA 0 38 3 42 929 4 44 627 36 := Or.inr ⟨rfl, rfl, rfl, rfl, rfl, rfl, rfl, rfl, rfl⟩
    obtain ⟨r, l1, m1, a1, a2, a3, a4, a5, a6⟩ := L_drop hW h (x - 1)
    refine ⟨r, l1, m1, 0, ?_, ?_, I_link_mono a3, a4, a5, by rw [a6]; rfl, by decide⟩
    · unfold clsLine
      rw [if_neg (show ¬ nI 12 = 0 by decide), if_neg (show ¬ nI 12 = 1 by decide), if_neg (show ¬ nI 12 = 2 by decide), if_neg (show ¬ nI 12 = 3 by decide), if_neg (show ¬ nI 12 = 4 by decide), if_neg (show ¬ nI 12 = 5 by decide), if_neg (show ¬ nI 12 = 6 by decide), if_neg (show ¬ nI 12 = 7 by decide), if_neg (show ¬ nI 12 = 8 by decide), if_neg (show ¬ nI 12 = 9 by decide), if_neg (show ¬ nI 12 = 10 by decide), if_neg (show ¬ nI 12 = 11 by decide), if_pos (show nI 12 = 12 from rfl), a1, b2s]
    · rw [show wm (nI 12) = 5 from by decide]
      unfold f_X11_runsLine
      rw [if_neg (by decide), if_neg (by decide), if_neg (by decide), if_neg (by decide), if_neg (by decide), if_pos (by decide), a2, b2s]
