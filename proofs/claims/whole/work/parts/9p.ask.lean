/-! send as a whole; sender, truth -/
set_option maxHeartbeats 1000000 in
theorem L_send {l m : mj_m} {pl : Nat → Int32} {pm : PM} {e u v : Nat} {T : TT} (h : I_link l (m 1) pl pm e u v T) (he : e ≤ 20000) (hT : T.1 ≤ 20000) (x : Int32) : ∃ (r : Int32) (l' m' : mj_m), f_X8_queue x l = some (r, l') ∧ f_X11_send x m = some (r, m') ∧ I_link l' (m' 1) pl pm (e + 1) u v T ∧ Fl l l' ∧ Fm m m' ∧ m' 1 11 = m 1 11 := by
  have no : f_X8_queue x l = some (-1, l) → f_X11_send x m = some (-1, mj_wrs m 0 0 0) → ∃ (r : Int32) (l' m' : mj_m), f_X8_queue x l = some (r, l') ∧ f_X11_send x m = some (r, m') ∧ I_link l' (m' 1) pl pm (e + 1) u v T ∧ Fl l l' ∧ Fm m m' ∧ m' 1 11 = m 1 11 := fun a b => ⟨-1, l, mj_wrs m 0 0 0, a, b, by rw [r10]; exact I_link_mono h, Fl.rf _, Fm.wr0 (by decide), by rw [r10]⟩
  have h0 := h
  obtain ⟨⟨g_set, g_rng, g_tick⟩, g_rec, ⟨g_mach, g_line, g_sent, g_pass, g_dir, g_rep, g_st⟩, g_led, g_dia, g_up, g_dn, g_plan⟩ := h0
  obtain ⟨⟨p1, p1r⟩, -⟩ := id g_mach
  obtain ⟨a1, a2, a3⟩ := id g_line
  obtain ⟨p, hp8, ep, cp⟩ := cn_i a2
  by_cases hx : 0 ≤ x ∧ x ≤ 9999
  · have mov : f_X11_isMoving (mj_wrs m 0 0 0) = if 3 < l 17 6 then 0 else 1 := by
      unfold f_X11_isMoving f_X11_machine
      rw [lts, lts, r10, ← p1]
      by_cases z : 3 < l 17 6
      · rw [if_pos z, isIn_f (fun q => by
          have := q.2
          exact absurd z (Int32.not_lt.mpr this))]
      · rw [if_neg z, isIn_t ⟨p1r.1, Int32.not_lt.mp z⟩]
    by_cases hM : 3 < l 17 6
    · refine no ?_ ?_
      · unfold f_X8_queue
        rw [ic_t hx, lts, if_neg one0, if_pos hM]
      · unfold f_X11_send
        rw [lts, lts, isIn_t hx, if_neg one0, lts, mov, if_pos hM, if_pos rfl]
    · rw [if_neg hM] at mov
      by_cases h8 : p = 8
      · refine no ?_ ?_
        · unfold f_X8_queue
          rw [ic_t hx, lts, if_neg one0, if_neg hM, a1, ep, h8, if_neg (by decide)]
        · unfold f_X11_send
          rw [lts, lts, isIn_t hx, if_neg one0, lts, mov, if_neg one0, r10, ep, h8, if_pos (by decide)]
      · have pu := puts_eq (R := 58) (Q := 24) (c := p) (v := x) (m := mj_wrs m 0 0 0) (by decide) (by rw [r10, ep]) (by omega) (by omega)
        have q9 : ∀ s, s ≠ 24 → s ≠ 58 + p → mj_wrs (mj_wrs (mj_wrs m 0 0 0) 1 (58 + p) x) 1 24 (nI (p + 1)) 1 s = m 1 s := fun s a b => by rw [wr_e (Or.inr a), wr_e (Or.inr b), r10]
        have q24 : mj_wrs (mj_wrs (mj_wrs m 0 0 0) 1 (58 + p) x) 1 24 (nI (p + 1)) 1 24 = nI (p + 1) := rs _ _ _ _
        have q58 : mj_wrs (mj_wrs (mj_wrs m 0 0 0) 1 (58 + p) x) 1 24 (nI (p + 1)) 1 (58 + p) = x := by rw [wr_e (Or.inr (by omega)), rs]
        have q0 : ∀ z, z ≠ 1 → mj_wrs (mj_wrs (mj_wrs m 0 0 0) 1 (58 + p) x) 1 24 (nI (p + 1)) z = mj_wrs m 0 0 0 z := fun z hz => by simp (disch := omega) only [wr_row]
        have er0 : f_X11_send x m = mj_b1 (f_X11_isLedgered x (mj_wrs (mj_wrs (mj_wrs m 0 0 0) 1 (58 + p) x) 1 24 (nI (p + 1)))) (fun m11 => some (m11 1 24, m11)) := by
          unfold f_X11_send
          rw [lts, lts, isIn_t hx, if_neg one0, lts, mov, if_neg one0, r10, ep, if_neg (show ¬ nI p = 8 from fun z => h8 ((nI_eq (b := 8) (by omega) (by decide)).mp z)), show (58 : Int32) = nI 58 from rfl, show (24 : Int32) = nI 24 from rfl, pu, b1s]
        generalize mj_wrs (mj_wrs (mj_wrs m 0 0 0) 1 (58 + p) x) 1 24 (nI (p + 1)) = m9 at *
        obtain ⟨E, hE, eE, cE⟩ := cn_i g_led.2.1
        have d3 := g_led.2.2.1
        obtain ⟨l7, m11, o1, o2, o3, o4, o5, o6, o7⟩ := open_pair (l := l) (m := m9) (n0 := m 1) (x := x) g_led (fun s a b => q9 s a (by omega)) he (by rw [q9 11 (by decide) (by omega)]; exact g_tick.1) (by rw [q9 11 (by decide) (by omega)]; exact cn_mono g_tick.2 hT) (by omega)
        have e940 : mj_cl (m9 1 40) = E := by rw [q9 40 (by decide) (by omega), cE]
        rw [e940] at o1 o6
        have ad := add_eq (b := 18) (c := p) (x := x) (y := 0) (z := lnum E) (m := l7) (by rw [o3 18 (by decide) (by decide), a1, ep]) (by omega)
        have hl : ∀ k, k ≠ 3 ∧ k ≠ 4 ∧ (k < 18 ∨ 22 < k) → mj_wrs (mj_wrs (mj_wrs (mj_wrs (mj_wrs l7 (18 + 1) p x) (18 + 2) p 0) (18 + 3) p (lnum E)) (18 + 4) p 0) 18 4 (nI (p + 1)) k = l k := fun k hk => by
          rw [wr_row _ _ _ _ _ (by omega), wr_row _ _ _ _ _ (by omega), wr_row _ _ _ _ _ (by omega), wr_row _ _ _ _ _ (by omega), wr_row _ _ _ _ _ (by omega), o3 k hk.1 hk.2.1]
        have l184 : mj_wrs (mj_wrs (mj_wrs (mj_wrs (mj_wrs l7 (18 + 1) p x) (18 + 2) p 0) (18 + 3) p (lnum E)) (18 + 4) p 0) 18 4 (nI (p + 1)) 18 4 = nI (p + 1) := rs _ _ _ _
        have l19 : ∀ i, mj_wrs (mj_wrs (mj_wrs (mj_wrs (mj_wrs l7 (18 + 1) p x) (18 + 2) p 0) (18 + 3) p (lnum E)) (18 + 4) p 0) 18 4 (nI (p + 1)) 19 i = if i = p then x else l 19 i := fun i => by
          by_cases z : i = p
          · rw [if_pos z, z]
            simp (disch := omega) only [wr_e, rs]
          · rw [if_neg z]
            simp (disch := omega) only [wr_e]
            rw [o3 19 (by decide) (by decide)]
        have l21 : ∀ i, mj_wrs (mj_wrs (mj_wrs (mj_wrs (mj_wrs l7 (18 + 1) p x) (18 + 2) p 0) (18 + 3) p (lnum E)) (18 + 4) p 0) 18 4 (nI (p + 1)) 21 i = if i = p then lnum E else l 21 i := fun i => by
          by_cases z : i = p
          · rw [if_pos z, z]
            simp (disch := omega) only [wr_e, rs]
          · rw [if_neg z]
            simp (disch := omega) only [wr_e]
            rw [o3 21 (by decide) (by decide)]
        have l34 : ∀ k, k = 3 ∨ k = 4 ∨ k = 46 → mj_wrs (mj_wrs (mj_wrs (mj_wrs (mj_wrs l7 (18 + 1) p x) (18 + 2) p 0) (18 + 3) p (lnum E)) (18 + 4) p 0) 18 4 (nI (p + 1)) k = l7 k := fun k hk => by
          rw [wr_row _ _ _ _ _ (by omega), wr_row _ _ _ _ _ (by omega), wr_row _ _ _ _ _ (by omega), wr_row _ _ _ _ _ (by omega), wr_row _ _ _ _ _ (by omega)]
        have hn : ∀ s, s ≠ 24 ∧ s ≠ 40 ∧ s ≠ 58 + p ∧ s < 1097 → m11 1 s = m 1 s := fun s hs => by rw [o5 s (by omega) (by omega), q9 s (by omega) (by omega)]
        have n24 : m11 1 24 = nI (p + 1) := by rw [o5 24 (by decide) (by decide), q24]
        have n58 : m11 1 (58 + p) = x := by rw [o5 _ (by omega) (by omega), q58]
        generalize mj_wrs (mj_wrs (mj_wrs (mj_wrs (mj_wrs l7 (18 + 1) p x) (18 + 2) p 0) (18 + 3) p (lnum E)) (18 + 4) p 0) 18 4 (nI (p + 1)) = L at *
        refine ⟨nI (p + 1), L, m11, ?_, ?_, ?_, ?_, ?_, ?_⟩
        · unfold f_X8_queue
          rw [ic_t hx, lts, if_neg one0, if_neg hM, a1, ep, if_pos (show nI p < 8 from nI_lt (b := 8) (by omega) (by decide)), o1, b2s, ad, b1s, l184]
        · rw [er0, o2, b1s, n24]
        · refine ⟨⟨I_set_cg g_set (by rw [hl 1 (by omega)]) (hl 2 (by omega)) (hn 12 (by omega)) (fun s _ => hn s (by omega)), I_rng_cg g_rng (hl 2 (by omega)), I_tick_cg g_tick (by rw [hl 1 (by omega)]) (hn 11 (by omega))⟩, I_rec_cg (I_rec_mono g_rec) (fun k _ _ => hl k (by omega)) (hn 38 (by omega)) (fun s _ _ => hn s (by omega)) (fun s _ _ => hn s (by omega)) (fun s _ _ => hn s (by omega)), ⟨I_mach_cg g_mach (fun _ _ => by rw [hl 17 (by omega)]) (fun s _ => hn s (by omega)), ?_, ?_, I_pass_cg g_pass (by rw [hl 28 (by omega)]) (hl 29 (by omega)) (hn 29 (by omega)) (fun s _ _ => hn s (by omega)), I_dir_cg g_dir (fun _ _ => by rw [hl 17 (by omega)]) (fun s _ => hn s (by omega)), I_rep_cg g_rep (by rw [hl 17 (by omega)]) (hn 45 (by omega)) (hn 46 (by omega)) (hn 47 (by omega)), ?_⟩, ?_, I_dia_cg (I_dia_mono g_dia) (fun k _ _ => hl k (by omega)) (hn 33 (by omega)) (hn 34 (by omega)) (hn 48 (by omega)) (fun s _ _ => hn s (by omega)), ?_, I_dn_cg g_dn (fun k _ _ => hl k (by omega)) (hn 11 (by omega)) (hn 36 (by omega)) (hn 42 (by omega)) (hn 44 (by omega)) (fun s _ _ => hn s (by omega)) (fun s _ _ => hn s (by omega)), I_plan_cg g_plan (fun k _ _ => hl k (by omega)) (hn 49 (by omega))⟩
          · refine ⟨by rw [l184, n24], by rw [n24]; exact cn_mk (by omega) (by decide), fun i hi => ?_⟩
            rw [n24, clI (by omega)] at hi
            rw [n24, o6, clI (by omega), clI (by omega), l19, l21]
            by_cases z : i = p
            · rw [if_pos z, if_pos z, z, n58]
              refine ⟨rfl, hx, ?_⟩
              congr 1
              omega
            · rw [if_neg z, if_neg z, hn _ (by omega)]
              obtain ⟨z1, z2, z3⟩ := a3 i (by omega)
              rw [cE, cp] at z3
              refine ⟨z1, z2, ?_⟩
              rw [z3]
              congr 1
              omega
          · obtain ⟨b1, b2, b3⟩ := g_sent
            refine ⟨by rw [hl 23 (by omega), hn 25 (by omega)]; exact b1, by rw [hn 25 (by omega)]; exact b2, fun i hi => ?_⟩
            rw [hn 25 (by omega)] at hi
            have i20 : i < 20 := Nat.lt_of_lt_of_le hi b2.2
            obtain ⟨z1, z2, z3, z4, z5, z6⟩ := b3 i hi
            rw [cE, cp] at z4
            rw [hl 24 (by omega), hl 25 (by omega), hl 26 (by omega), hl 27 (by omega), hn 22 (by omega), hn 25 (by omega), n24, o6, clI (by omega), clI (by omega), hn _ (by omega), hn _ (by omega)]
            refine ⟨z1, z2, z3, ?_, z5, z6⟩
            rw [z4]
            congr 1
            omega
          · unfold I_st
            rw [hl 17 (by omega), hn 22 (by omega), hn 23 (by omega), hn 25 (by omega), hn 31 (by omega)]
            refine ⟨g_st.1, g_st.2.1, fun z => ?_, g_st.2.2.2⟩
            exfalso
            have : (4 : Int32) ≤ 3 := Int32.le_trans z (Int32.not_lt.mp hM)
            exact absurd this (by decide)
          · have := o7 (m11 1) (fun _ _ => rfl) (by rw [n24, cp, clI (by omega)])
            exact I_led_cg this (fun s _ => by rw [l34 3 (by omega)]) (l34 4 (by omega)) (l34 46 (by omega)) rfl rfl rfl rfl rfl (fun _ _ _ => rfl)
          · obtain ⟨u1, u2, u3⟩ := g_up
            refine ⟨I_way_cg u1 (fun k _ _ => hl k (by omega)) (hn 11 (by omega)) (hn 41 (by omega)) (hn 43 (by omega)) (hn 35 (by omega)) (fun s _ _ => hn s (by omega)) (fun s _ _ => hn s (by omega)) (by decide), by rw [hl 33 (by omega), hn 37 (by omega)]; exact u2, fun i hi => ?_⟩
            rw [hn 41 (by omega)] at hi
            have hi41 : i < 41 := Nat.lt_of_lt_of_le hi u1.1.2.1.1.2
            obtain ⟨z1, z2⟩ := u3 i hi
            rw [hl 36 (by omega), hn _ (by omega), o6, clI (by omega)]
            rw [cE] at z1
            exact ⟨cn_mono z1 (by omega), z2⟩
        · exact Fl.k (hl 33 (by omega)) (hl 38 (by omega))
        · refine (Fm.wr0 (j := 0) (x := 0) (by decide)).tr (Fm.k (fun z hz => ?_))
          rw [o4 z hz, q0 z hz]
        · exact hn 11 (by omega)
  · refine no ?_ ?_
    · unfold f_X8_queue
      rw [ic_f hx, lts, if_pos rfl]
    · unfold f_X11_send
      rw [lts, lts, isIn_f hx, if_pos rfl]
theorem c_send : CL_send Inv := by
  intro j M x1 hj h
  obtain ⟨r, l', m', e1, e2, e3, e4, e5, e6⟩ := L_send h.2.1 (by omega) (by decide) x1
  refine ⟨r, va_up M 0 l', m', ?_, e2, Inv_link0 h (I_link_mono e3) e4 e5 e6⟩
  unfold f_X10_send
  rw [e1, b2s, lts]
theorem mkd_L {l m : mj_m} {q : Nat} (hq : q ≤ 20) (h23 : l 23 4 = nI q) (h25 : m 1 25 = nI q) (hmk : ∀ i, i < q → l 27 i = m 1 (86 + i)) : ∀ (k i n n' : Nat) (a : Int32), i + k = q → k < n → k < n' → ∃ r, f_X7_marked_L4 23 n a (nI i) l = some r ∧ f_X11_markedMany_L4 n' a (nI i) m = some r := by
  intro k
  induction k with
  | zero =>
    intro i n n' a hi hn hn'
    obtain ⟨n, rfl⟩ : ∃ k, n = k + 1 := ⟨n - 1, by omega⟩
    obtain ⟨n', rfl⟩ : ∃ k, n' = k + 1 := ⟨n' - 1, by omega⟩
    refine ⟨a, ?_, ?_⟩
    · rw [f_X7_marked_L4, h23, if_pos (nI_le (by omega) (by omega))]
    · rw [f_X11_markedMany_L4, h25, if_pos (nI_le (by omega) (by omega))]
  | succ k ih =>
    intro i n n' a hi hn hn'
    obtain ⟨n, rfl⟩ : ∃ k, n = k + 1 := ⟨n - 1, by omega⟩
    obtain ⟨n', rfl⟩ : ∃ k, n' = k + 1 := ⟨n' - 1, by omega⟩
    obtain ⟨r, e1, e2⟩ := ih (i + 1) n n' (a + m 1 (86 + i)) (by omega) (by omega) (by omega)
    refine ⟨r, ?_, ?_⟩
    · rw [f_X7_marked_L4, h23, if_neg (nI_ge (by omega) (by omega)), chk_t (okI (by omega) (by decide)), lts, lts, clI (by omega), show l (23 + 4) i = m 1 (86 + i) from hmk i (by omega), nI_1]
      exact e1
    · rw [f_X11_markedMany_L4, h25, if_neg (nI_ge (by omega) (by omega)), show (86 : Int32) + nI i = nI (86 + i) from nI_add 86 i, chk_t (okI (by omega) (by decide)), lts, lts, clI (by omega), nI_1]
      exact e2
theorem near_L {l m : mj_m} {q : Nat} (hq : q ≤ 20) (h23 : l 23 4 = nI q) (h25 : m 1 25 = nI q) (hS : l 17 8 = m 1 23) (hX : l 9 2 = m 1 13) (hnum : ∀ i, i < q → l 25 i = (m 1 22 - m 1 25 + nI i) &&& 255) : ∀ (k i n n' : Nat) (a : Int32), i + k = q → k < n → k < n' → ∃ r, f_X7_nearer_L5 23 (l 17 8) (f_X10_far (l 9 2) (l 17 8)) n a (nI i) l = some r ∧ f_X11_takenMany_L4 n' a (nI i) m = some r := by
  intro k
  induction k with
  | zero =>
    intro i n n' a hi hn hn'
    obtain ⟨n, rfl⟩ : ∃ k, n = k + 1 := ⟨n - 1, by omega⟩
    obtain ⟨n', rfl⟩ : ∃ k, n' = k + 1 := ⟨n' - 1, by omega⟩
    refine ⟨a, ?_, ?_⟩
    · rw [f_X7_nearer_L5, h23, if_pos (nI_le (by omega) (by omega))]
    · rw [f_X11_takenMany_L4, h25, if_pos (nI_le (by omega) (by omega))]
  | succ k ih =>
    intro i n n' a hi hn hn'
    obtain ⟨n, rfl⟩ : ∃ k, n = k + 1 := ⟨n - 1, by omega⟩
    obtain ⟨n', rfl⟩ : ∃ k, n' = k + 1 := ⟨n' - 1, by omega⟩
    have c : f_X7_nearer_L5 23 (l 17 8) (f_X10_far (l 9 2) (l 17 8)) (n + 1) a (nI i) l = if f_X10_far (l 9 2) (l 17 8) ≤ f_X10_far (l 25 i) (l 17 8) then f_X7_nearer_L5 23 (l 17 8) (f_X10_far (l 9 2) (l 17 8)) n a (nI (i + 1)) l else f_X7_nearer_L5 23 (l 17 8) (f_X10_far (l 9 2) (l 17 8)) n (a + 1) (nI (i + 1)) l := by
      rw [f_X7_nearer_L5, h23, if_neg (nI_ge (by omega) (by omega)), chk_t (okI (by omega) (by decide))]
      simp only [lts]
      rw [clI (by omega), nI_1]
    have d : f_X11_takenMany_L4 (n' + 1) a (nI i) m = if f_X10_far (l 9 2) (l 17 8) ≤ f_X10_far (l 25 i) (l 17 8) then f_X11_takenMany_L4 n' a (nI (i + 1)) m else f_X11_takenMany_L4 n' (a + 1) (nI (i + 1)) m := by
      rw [f_X11_takenMany_L4, h25, if_neg (nI_ge (by omega) (by omega))]
      unfold f_X11_numberOf f_X11_round f_X10_far
      simp only [lts]
      rw [nI_1, hnum i (by omega), hX, hS]
    rw [c, d]
    by_cases z : f_X10_far (l 9 2) (l 17 8) ≤ f_X10_far (l 25 i) (l 17 8)
    · simp only [if_pos z]
      exact ih (i + 1) n n' a (by omega) (by omega) (by omega)
    · simp only [if_neg z]
      exact ih (i + 1) n n' (a + 1) (by omega) (by omega) (by omega)
theorem c_truth : CL_truth Inv := by
  intro j M x1 hj h
  obtain ⟨-, ⟨-, g_rec, ⟨g_mach, g_line, g_sent, -⟩, g_led, -⟩, -, -⟩ := id h
  obtain ⟨-, p2, p3, -⟩ := g_mach
  obtain ⟨q, hq20, eq, cq⟩ := cn_i g_sent.2.1
  refine askq h ?_
  unfold f_X10_truth f_X11_truth f_X11_round f_X10_far
  simp only [lts]
  rw [r10]
  by_cases h0 : x1 = 0
  · rw [if_pos h0, if_pos h0]
    obtain ⟨r, e1, e2⟩ := near_L (l := M 0) (m := mj_wrs (M 4) 0 0 0) hq20 (by rw [g_sent.1, eq]) (by rw [r10, eq]) (by rw [r10]; exact p3.1) (by rw [r10]; exact g_rec.1.1) (fun i hi => by rw [r10]; exact (g_sent.2.2 i (by omega)).2.2.1) q 0 mj_fu mj_fu 0 (by omega) (by unfold mj_fu; omega) (by unfold mj_fu; omega)
    refine ⟨r, ?_, ?_⟩
    · unfold f_X7_nearer
      have e1' : f_X7_nearer_L5 23 (M 0 17 8) ((M 0 9 2 - M 0 17 8) &&& 255) mj_fu 0 0 (M 0) = some r := e1
      rw [e1', b1s, b1s]
    · unfold f_X11_takenMany
      have e2' : f_X11_takenMany_L4 mj_fu 0 0 (mj_wrs (M 4) 0 0 0) = some r := e2
      rw [e2', b1s, b1s]
  rw [if_neg h0, if_neg h0]
  by_cases h1 : x1 = 1
  · rw [if_pos h1, if_pos h1]
    exact ⟨_, rfl, by rw [g_rec.1.1, p3.1]⟩
  rw [if_neg h1, if_neg h1]
  by_cases h2 : x1 = 2
  · rw [if_pos h2, if_pos h2]
    exact ⟨_, rfl, by rw [g_rec.1.1, p2.1]⟩
  rw [if_neg h2, if_neg h2]
  by_cases h3 : x1 = 3
  · rw [if_pos h3, if_pos h3]
    exact ⟨_, rfl, by rw [g_led.1, g_line.1, g_sent.1]⟩
  rw [if_neg h3, if_neg h3]
  by_cases h4 : x1 = 4
  · rw [if_pos h4, if_pos h4]
    exact ⟨_, rfl, by rw [g_led.1]⟩
  rw [if_neg h4, if_neg h4]
  exact ⟨_, rfl, rfl⟩
