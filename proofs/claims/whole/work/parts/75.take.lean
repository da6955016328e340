/-! take, renumber -/
theorem Fm.k {m m' : mj_m} (h : ∀ p, p ≠ 1 → m' p = m p) : Fm m m' := by
  have e := h 0 (by decide)
  exact ⟨fun k _ h1 _ => h k h1, by rw [e], by rw [e], by rw [e], by rw [e], by rw [e]⟩
theorem Fl.k {l l' : mj_m} (h1 : l' 33 = l 33) (h2 : l' 38 = l 38) : Fl l l' := by
  unfold Fl
  rw [h1, h2]
  exact ⟨rfl, rfl, rfl, rfl⟩
theorem L_take {l m : mj_m} {pl : Nat → Int32} {pm : PM} {e u v : Nat} {T : TT} (h : I_link l (m 1) pl pm e u v T) : ∃ (r : Int32) (l' m' : mj_m), f_X6_handOver l = some (r, l') ∧ f_X11_takesOne m = some (r, m') ∧ I_link l' (m' 1) pl pm e u v T ∧ Fl l l' ∧ Fm m m' ∧ m' 1 11 = m 1 11 ∧ ((m 1 18 = 0 ∧ m' = m ∧ l' = l) ∨ ∃ c : Nat, c < 8 ∧ m 1 18 = nI (c + 1) ∧ m' 1 18 = nI c) := by
  have h0 := h
  obtain ⟨⟨g_set, g_rng, g_tick⟩, g_rec, ⟨g_mach, g_line, g_sent, g_pass, g_dir, g_rep, g_st⟩, g_led, g_dia, g_up, g_dn, g_plan⟩ := h
  obtain ⟨p1, p2, p3, p4, p5, ⟨p6, p7, p8⟩, p9, p10, p11⟩ := id g_rec
  obtain ⟨c0, hc8, hc, hcl⟩ := cn_i p7
  rcases Nat.eq_zero_or_pos c0 with hz | hpos
  · subst hz
    refine ⟨-1, l, m, ?_, ?_, h0, Fl.rf _, Fm.rf _, rfl, Or.inl ⟨hc, rfl, rfl⟩⟩
    · unfold f_X6_handOver
      rw [p6, hc, if_pos (by decide)]
    · unfold f_X11_takesOne
      rw [hc, if_pos (by decide)]
  · obtain ⟨c, rfl⟩ : ∃ c, c0 = c + 1 := ⟨c0 - 1, by omega⟩
    have hne : ¬ nI (c + 1) = 0 := nI_ne0 (by omega) (by omega)
    obtain ⟨l1, a1, a2, a3, a4⟩ := removeFirst_eq (b := 10) (c := c + 1) (d := 1) (m := l) (by rw [p6, hc]) (by omega) (by omega) (by omega)
    obtain ⟨m1, b1, b2, b3, b4, b5⟩ := takesFirst_eq (R := 50) (Q := 18) (c := c) (m := mj_wrs m 1 15 0) (by decide) (by omega) (Or.inl (by decide)) (by rw [wr_e (Or.inr (by decide)), hc])
    have hr : l 11 0 = m 1 50 := p8 0 (by omega)
    refine ⟨m 1 50, mj_wrs l1 9 4 0, m1, ?_, ?_, ?_, ?_, ?_, ?_, Or.inr ⟨c, by omega, hc, b3⟩⟩
    · unfold f_X6_handOver
      rw [p6, hc, if_neg hne]
      simp only [mj_let]
      rw [show (1 : Int32) = nI 1 from rfl, a1, ← hr]
      rfl
    · unfold f_X11_takesOne
      rw [hc, if_neg hne]
      simp only [mj_let]
      rw [show (50 : Int32) = nI 50 from rfl, show (18 : Int32) = nI 18 from rfl, b1, wr_e (Or.inr (by decide))]
      rfl
    · have hl : ∀ k, k < 9 ∨ 14 < k → mj_wrs l1 9 4 0 k = l k := fun k hk => by
        rw [wr_row _ _ _ _ _ (by omega), a2 k (by omega)]
      have hn : ∀ s, s ≠ 15 ∧ s ≠ 18 ∧ (s < 50 ∨ 50 + c ≤ s) → m1 1 s = m 1 s := fun s hs => by
        rw [b4 s (by omega) (by omega), wr_e (Or.inr (by omega))]
      have h9 : ∀ j, j ≠ 4 → mj_wrs l1 9 4 0 9 j = l 9 j := fun j hj => by
        rw [wr_e (Or.inr hj), a2 9 (by omega)]
      refine ⟨⟨I_set_cg g_set (by rw [hl 1 (by omega)]) (hl 2 (by omega)) (hn 12 (by omega)) (fun s _ => hn s (by omega)), I_rng_cg g_rng (hl 2 (by omega)), I_tick_cg g_tick (by rw [hl 1 (by omega)]) (hn 11 (by omega))⟩, ?_, ⟨I_mach_cg g_mach (fun _ _ => by rw [hl 17 (by omega)]) (fun s _ => hn s (by omega)), I_line_cg g_line (by rw [hl 18 (by omega)]) (hl 19 (by omega)) (hl 21 (by omega)) (hn 24 (by omega)) (hn 40 (by omega)) (fun s _ _ => hn s (by omega)), I_sent_cg g_sent (fun k _ _ => hl k (by omega)) (hn 22 (by omega)) (hn 24 (by omega)) (hn 25 (by omega)) (hn 40 (by omega)) (fun s _ _ => hn s (by omega)), I_pass_cg g_pass (by rw [hl 28 (by omega)]) (hl 29 (by omega)) (hn 29 (by omega)) (fun s _ _ => hn s (by omega)), I_dir_cg g_dir (fun _ _ => by rw [hl 17 (by omega)]) (fun s _ => hn s (by omega)), I_rep_cg g_rep (by rw [hl 17 (by omega)]) (hn 45 (by omega)) (hn 46 (by omega)) (hn 47 (by omega)), I_st_cg g_st (by rw [hl 17 (by omega)]) (by rw [hl 17 (by omega)]) (hn 31 (by omega)) (fun s _ _ => hn s (by omega))⟩, I_led_cg (I_led_mono g_led) (fun _ _ => by rw [hl 3 (by omega)]) (hl 4 (by omega)) (hl 46 (by omega)) (hn 11 (by omega)) (hn 19 (by omega)) (hn 24 (by omega)) (hn 25 (by omega)) (hn 40 (by omega)) (fun s _ _ => hn s (by omega)), I_dia_cg (I_dia_mono g_dia) (fun k _ _ => hl k (by omega)) (hn 33 (by omega)) (hn 34 (by omega)) (hn 48 (by omega)) (fun s _ _ => hn s (by omega)), I_up_cg g_up (fun k _ _ => hl k (by omega)) (hn 11 (by omega)) (hn 35 (by omega)) (hn 37 (by omega)) (hn 40 (by omega)) (hn 41 (by omega)) (hn 43 (by omega)) (fun s _ _ => hn s (by omega)) (fun s _ _ => hn s (by omega)), I_dn_cg g_dn (fun k _ _ => hl k (by omega)) (hn 11 (by omega)) (hn 36 (by omega)) (hn 42 (by omega)) (hn 44 (by omega)) (fun s _ _ => hn s (by omega)) (fun s _ _ => hn s (by omega)), I_plan_cg g_plan (fun k _ _ => hl k (by omega)) (hn 49 (by omega))⟩
      obtain ⟨q1, q2, q3⟩ := p9
      obtain ⟨q4, q5, q6⟩ := p10
      refine ⟨?_, ?_, ?_, ?_, ?_, ⟨?_, ?_, fun i hi => ?_⟩, ⟨?_, ?_, fun i hi h1 => ?_⟩, ⟨?_, ?_, fun i hi h1 => ?_⟩, ?_⟩
      · rw [h9 2 (by decide), hn 13 (by omega)]
        exact p1
      · rw [h9 3 (by decide), hn 14 (by omega)]
        exact p2
      · rw [wr_at, if_pos ⟨rfl, rfl⟩, b4 15 (by decide) (by omega), wr_at, if_pos ⟨rfl, rfl⟩]
        exact ⟨rfl, by decide, by decide⟩
      · rw [h9 5 (by decide), hn 16 (by omega)]
        exact p4
      · rw [h9 6 (by decide), hn 17 (by omega)]
        exact p5
      · rw [wr_e (Or.inl (by decide)), a3, b3]
        rfl
      · rw [b3]
        exact cn_mk (by omega) (by decide)
      · rw [b3, clI (by omega)] at hi
        rw [wr_e (Or.inl (by decide)), a4 1 (by decide) (by decide) i (by omega), b5 i hi, wr_e (Or.inr (by omega))]
        exact p8 (i + 1) (by omega)
      · rw [h9 9 (by decide), hn 19 (by omega)]
        exact q1
      · rw [hn 19 (by omega)]
        exact q2
      · rw [hn 19 (by omega)] at hi
        rw [hl 15 (by omega), hn _ (by omega)]
        exact q3 i hi h1
      · rw [h9 11 (by decide), hn 20 (by omega)]
        exact q4
      · rw [hn 20 (by omega)]
        exact q5
      · rw [hn 20 (by omega)] at hi
        rw [hl 16 (by omega), hn _ (by omega)]
        exact q6 i hi h1
      · rw [h9 12 (by decide), hn 38 (by omega)]
        exact p11
    · refine Fl.tr ?_ (Fl.wr (Or.inl (by decide)) (Or.inl (by decide)))
      unfold Fl
      rw [a2 33 (by omega), a2 38 (by omega)]
      exact ⟨rfl, rfl, rfl, rfl⟩
    · exact Fm.tr (Fm.wr (j := 15) (x := 0)) (Fm.k b2)
    · rw [b4 11 (by decide) (by omega), wr_e (Or.inr (by decide))]
theorem c_take : CL_take Inv := by
  intro j M hj h
  have h' : I_link (M 0) (mj_wrs (M 4) 0 0 0 1) (M 4 8) (M 4 0 19, 0) (24 * j) (24 * j + 50 * mj_cl (M 4 1 11)) (50 * mj_cl (M 4 1 11)) (9999, (40, 0), (40, 0)) := by
    rw [wr_row _ _ _ _ _ (by decide)]
    exact h.2.1
  obtain ⟨r, l', m', e1, e2, e3, e4, e5, e6, -⟩ := L_take h'
  refine ⟨r, va_up M 0 l', m', ?_, ?_, Inv_link0 h (I_link_mono e3) e4 ((Fm.wr0 (by decide)).tr e5) (e6.trans (wr_e (Or.inl (by decide))))⟩
  · unfold f_X10_take
    rw [e1]
    rfl
  · show f_X11_take (M 4) = _
    unfold f_X11_take
    simp only [mj_let]
    rw [e2]
    rfl
theorem L_ren {l m : mj_m} {pl : Nat → Int32} {pm : PM} {e u v : Nat} {T : TT} (h : I_link l (m 1) pl pm e u v T) (x : Int32) : ∃ (r : Int32) (l' m' : mj_m), f_X8_countFrom x l = (r, l') ∧ f_X11_renumber x m = (r, m') ∧ I_link l' (m' 1) pl pm e u v T ∧ Fl l l' ∧ Fm m m' ∧ m' 1 11 = m 1 11 := by
  have no : f_X8_countFrom x l = (0, l) → f_X11_renumber x m = (0, mj_wrs m 0 0 0) → ∃ (r : Int32) (l' m' : mj_m), f_X8_countFrom x l = (r, l') ∧ f_X11_renumber x m = (r, m') ∧ I_link l' (m' 1) pl pm e u v T ∧ Fl l l' ∧ Fm m m' ∧ m' 1 11 = m 1 11 := by
    intro e1 e2
    refine ⟨0, l, mj_wrs m 0 0 0, e1, e2, ?_, Fl.rf _, Fm.wr0 (by decide), wr_e (Or.inl (by decide))⟩
    rw [wr_row _ _ _ _ _ (by decide)]
    exact h
  obtain ⟨⟨g_set, g_rng, g_tick⟩, g_rec, ⟨g_mach, g_line, g_sent, g_pass, g_dir, g_rep, g_st⟩, g_led, g_dia, g_up, g_dn, g_plan⟩ := h
  obtain ⟨⟨p1, p1r⟩, p2, p3, p4, p5, ⟨p6, p6r⟩, p7⟩ := id g_mach
  have r1 : mj_wrs m 0 0 0 1 = m 1 := wr_row _ _ _ _ _ (by decide)
  by_cases hx : 0 ≤ x ∧ x ≤ 255
  · by_cases h6 : l 17 6 = 6
    · by_cases h0 : l 17 11 = 0
      · have e1 : f_X8_countFrom x l = (1, mj_wrs (mj_wrs l 17 7 x) 17 8 x) := by
          unfold f_X8_countFrom
          rw [if_pos h6, if_pos h0, show f_X10_isNumber x = 1 from isIn_t hx]
          rfl
        have e2 : f_X11_renumber x m = (1, mj_wrs (mj_wrs (mj_wrs m 0 0 0) 1 22 x) 1 23 x) := by
          unfold f_X11_renumber f_X11_machine
          simp only [mj_let]
          rw [isIn_t hx, if_neg one0, r1, ← p1, if_pos h6, ← p6, h0, if_pos (by decide)]
        refine ⟨_, _, _, e1, e2, ?_, (Fl.wr (Or.inl (by decide)) (Or.inl (by decide))).tr (Fl.wr (Or.inl (by decide)) (Or.inl (by decide))), ((Fm.wr0 (by decide)).tr Fm.wr).tr Fm.wr, by rw [wr_e (Or.inr (by decide)), wr_e (Or.inr (by decide)), wr_e (Or.inl (by decide))]⟩
        have hl : ∀ k, k ≠ 17 → mj_wrs (mj_wrs l 17 7 x) 17 8 x k = l k := fun k hk => by
          rw [wr_row _ _ _ _ _ hk, wr_row _ _ _ _ _ hk]
        have h17 : ∀ j, j ≠ 7 → j ≠ 8 → mj_wrs (mj_wrs l 17 7 x) 17 8 x 17 j = l 17 j := fun j a b => by
          rw [wr_e (Or.inr b), wr_e (Or.inr a)]
        have hn : ∀ s, s ≠ 22 ∧ s ≠ 23 → mj_wrs (mj_wrs (mj_wrs m 0 0 0) 1 22 x) 1 23 x 1 s = m 1 s := fun s hs => by
          rw [wr_e (Or.inr hs.2), wr_e (Or.inr hs.1), wr_e (Or.inl (by decide))]
        have n22 : mj_wrs (mj_wrs (mj_wrs m 0 0 0) 1 22 x) 1 23 x 1 22 = x := by simp [wr_at]
        have n23 : mj_wrs (mj_wrs (mj_wrs m 0 0 0) 1 22 x) 1 23 x 1 23 = x := by simp [wr_at]
        have l7 : mj_wrs (mj_wrs l 17 7 x) 17 8 x 17 7 = x := by simp [wr_at]
        have l8 : mj_wrs (mj_wrs l 17 7 x) 17 8 x 17 8 = x := by simp [wr_at]
        have hz := g_st.2.2.1 (by rw [h6]; decide) (by rw [h0]; unfold rg; decide)
        refine ⟨⟨I_set_cg g_set (by rw [hl 1 (by omega)]) (hl 2 (by omega)) (hn 12 (by omega)) (fun s _ => hn s (by omega)), I_rng_cg g_rng (hl 2 (by omega)), I_tick_cg g_tick (by rw [hl 1 (by omega)]) (hn 11 (by omega))⟩, I_rec_cg (I_rec_mono g_rec) (fun k _ _ => hl k (by omega)) (hn 38 (by omega)) (fun s _ _ => hn s (by omega)) (fun s _ _ => hn s (by omega)) (fun s _ _ => hn s (by omega)), ⟨?_, I_line_cg g_line (by rw [hl 18 (by omega)]) (hl 19 (by omega)) (hl 21 (by omega)) (hn 24 (by omega)) (hn 40 (by omega)) (fun s _ _ => hn s (by omega)), ?_, I_pass_cg g_pass (by rw [hl 28 (by omega)]) (hl 29 (by omega)) (hn 29 (by omega)) (fun s _ _ => hn s (by omega)), I_dir_cg g_dir (fun j hj => h17 j (by omega) (by omega)) (fun s _ => hn s (by omega)), I_rep_cg g_rep (h17 14 (by decide) (by decide)) (hn 45 (by omega)) (hn 46 (by omega)) (hn 47 (by omega)), ?_⟩, I_led_cg (I_led_mono g_led) (fun _ _ => by rw [hl 3 (by omega)]) (hl 4 (by omega)) (hl 46 (by omega)) (hn 11 (by omega)) (hn 19 (by omega)) (hn 24 (by omega)) (hn 25 (by omega)) (hn 40 (by omega)) (fun s _ _ => hn s (by omega)), I_dia_cg (I_dia_mono g_dia) (fun k _ _ => hl k (by omega)) (hn 33 (by omega)) (hn 34 (by omega)) (hn 48 (by omega)) (fun s _ _ => hn s (by omega)), I_up_cg g_up (fun k _ _ => hl k (by omega)) (hn 11 (by omega)) (hn 35 (by omega)) (hn 37 (by omega)) (hn 40 (by omega)) (hn 41 (by omega)) (hn 43 (by omega)) (fun s _ _ => hn s (by omega)) (fun s _ _ => hn s (by omega)), I_dn_cg g_dn (fun k _ _ => hl k (by omega)) (hn 11 (by omega)) (hn 36 (by omega)) (hn 42 (by omega)) (hn 44 (by omega)) (fun s _ _ => hn s (by omega)) (fun s _ _ => hn s (by omega)), I_plan_cg g_plan (fun k _ _ => hl k (by omega)) (hn 49 (by omega))⟩
        · unfold I_mach
          rw [h17 6 (by decide) (by decide), l7, l8, h17 9 (by decide) (by decide), h17 10 (by decide) (by decide), h17 11 (by decide) (by decide), h17 15 (by decide) (by decide), n22, n23, hn 21 (by omega), hn 30 (by omega), hn 31 (by omega), hn 32 (by omega), hn 39 (by omega)]
          exact ⟨⟨p1, p1r⟩, ⟨rfl, hx⟩, ⟨rfl, hx⟩, p4, p5, ⟨p6, p6r⟩, p7⟩
        · obtain ⟨s1, s2, s3⟩ := g_sent
          refine ⟨?_, ?_, fun i hi => ?_⟩
          · rw [hl 23 (by decide), hn 25 (by omega)]
            exact s1
          · rw [hn 25 (by omega)]
            exact s2
          · rw [hn 25 (by omega), hz.2] at hi
            exact absurd hi (by rw [show mj_cl (0 : Int32) = 0 by decide]; omega)
        · unfold I_st
          rw [h17 6 (by decide) (by decide), h17 11 (by decide) (by decide), h6, h0, hn 24 (by omega), hn 25 (by omega), hn 31 (by omega)]
          refine ⟨fun q => absurd rfl q, fun q => ?_, fun _ _ => hz, fun _ => g_st.2.2.2 h6⟩
          rcases q with q | q
          · exact absurd q (by decide)
          · exact absurd rfl q
      · refine no ?_ ?_
        · unfold f_X8_countFrom
          rw [if_pos h6, if_neg h0]
        · unfold f_X11_renumber f_X11_machine
          simp only [mj_let]
          rw [isIn_t hx, if_neg one0, r1, ← p1, if_pos h6, ← p6, if_neg (fun q => h0 (by have := p6r.1; rw [← p6] at this; exact Int32.le_antisymm q this))]
    · refine no ?_ ?_
      · unfold f_X8_countFrom
        rw [if_neg h6]
      · unfold f_X11_renumber f_X11_machine
        simp only [mj_let]
        rw [isIn_t hx, if_neg one0, r1, ← p1, if_neg h6]
  · refine no ?_ ?_
    · unfold f_X8_countFrom
      rw [show f_X10_isNumber x = 0 from isIn_f hx]
      split
      · split <;> rfl
      · rfl
    · unfold f_X11_renumber
      rw [isIn_f hx]
      rfl
theorem c_renumber : CL_renumber Inv := by
  intro j M x1 hj h
  obtain ⟨r, l', m', e1, e2, e3, e4, e5, e6⟩ := L_ren h.2.1 x1
  refine ⟨r, va_up M 0 l', m', ?_, e2, Inv_link0 h (I_link_mono e3) e4 e5 e6⟩
  unfold f_X10_renumber
  rw [e1]
  rfl
