/-! operations on the link: rows -/
theorem one0 : ¬ (1 : Int32) = 0 := by decide
theorem isIn_t {a b c : Int32} (h : b ≤ a ∧ a ≤ c) : f_X11_isIn a b c = 1 := by
  unfold f_X11_isIn
  rw [if_neg (by grind), if_neg (by grind)]
theorem isIn_f {a b c : Int32} (h : ¬ (b ≤ a ∧ a ≤ c)) : f_X11_isIn a b c = 0 := by
  unfold f_X11_isIn
  by_cases h1 : a < b
  · rw [if_pos h1]
  · rw [if_neg h1, if_pos (by grind)]
theorem isW_t {a b c : Int32} (h : b ≤ a ∧ a ≤ c) : f_X10_isWithin a b c = 1 := isIn_t h
theorem isW_f {a b c : Int32} (h : ¬ (b ≤ a ∧ a ≤ c)) : f_X10_isWithin a b c = 0 := isIn_f h
theorem ic_t {x : Int32} (h : 0 ≤ x ∧ x ≤ 9999) : f_X10_isCommand x = 1 := isIn_t h
theorem ic_f {x : Int32} (h : ¬ (0 ≤ x ∧ x ≤ 9999)) : f_X10_isCommand x = 0 := isIn_f h
theorem cn_i {x : Int32} {b : Nat} (h : cn x b) : ∃ c : Nat, c ≤ b ∧ x = nI c ∧ mj_cl x = c := ⟨mj_cl x, h.2, h.1, rfl⟩
theorem cn_mk {c b : Nat} (h : c ≤ b) (hb : b < 2 ^ 31) : cn (nI c) b := by
  refine ⟨?_, ?_⟩ <;> rw [clI (by omega)]
  exact h
theorem add_eq {b c : Nat} {x y z : Int32} {m : mj_m} (hc : m b 4 = nI c) (h : c < 20) : f_X7_add b x y z m = some (mj_wrs (mj_wrs (mj_wrs (mj_wrs (mj_wrs m (b + 1) c x) (b + 2) c y) (b + 3) c z) (b + 4) c 0) b 4 (nI (c + 1))) := by
  have r : ∀ (m : mj_m) (d j : Nat) (x : Int32), mj_wrs m (b + (d + 1)) j x b 4 = m b 4 := fun m d j x => wr_e (Or.inl (by omega))
  have ok := okI h (by decide : 20 ≤ 100000)
  unfold f_X7_add
  rw [hc, if_pos (show nI c < 20 from nI_lt h (by decide))]
  simp only [mj_let]
  rw [chk_t ok, clI (by omega)]
  rw [r m 0 c x, hc, chk_t ok, clI (by omega), r _ 1 c y, r m 0 c x, hc, chk_t ok, clI (by omega), r _ 2 c z, r _ 1 c y, r m 0 c x, hc, chk_t ok, clI (by omega), r _ 3 c 0, r _ 2 c z, r _ 1 c y, r m 0 c x, hc, nI_1]
theorem more_eq {Q : Nat} {m : mj_m} (hQ : Q < 1897) : f_X11_more (nI Q) m = some (mj_wrs m 1 Q (m 1 Q + 1)) := by
  unfold f_X11_more
  simp only [mj_let]
  rw [chk_t (okI hQ (by decide)), chk_t (okI hQ (by decide)), clI (by omega)]
theorem puts_eq {R Q c : Nat} {v : Int32} {m : mj_m} (hQ : Q < 1897) (hc : m 1 Q = nI c) (h : R + c < 1897) (hne : R + c ≠ Q) : f_X11_puts (nI R) (nI Q) v m = some (mj_wrs (mj_wrs m 1 (R + c) v) 1 Q (nI (c + 1))) := by
  unfold f_X11_puts
  simp only [mj_let]
  rw [chk_t (okI hQ (by decide)), clI (by omega), hc, nI_add, chk_t (okI h (by decide)), clI (by omega), more_eq hQ, wr_e (Or.inr (by omega)), hc, nI_1]
  rfl
theorem L_past {l m : mj_m} {pl : Nat → Int32} {pm : PM} {e u v : Nat} {T : TT} (h : I_link l (m 1) pl pm e u v T) (x : Int32) : ∃ (r : Int32) (l' m' : mj_m), f_X8_queuePast x l = some (r, l') ∧ f_X11_past x m = some (r, m') ∧ I_link l' (m' 1) pl pm (e + 1) u v T ∧ Fl l l' ∧ Fm m m' ∧ m' 1 11 = m 1 11 := by
  have no : (∃ (l' : mj_m), f_X8_queuePast x l = some (-1, l) ∧ f_X11_past x m = some (-1, mj_wrs m 0 0 0)) → ∃ (r : Int32) (l' m' : mj_m), f_X8_queuePast x l = some (r, l') ∧ f_X11_past x m = some (r, m') ∧ I_link l' (m' 1) pl pm (e + 1) u v T ∧ Fl l l' ∧ Fm m m' ∧ m' 1 11 = m 1 11 := by
    rintro ⟨-, e1, e2⟩
    refine ⟨-1, l, mj_wrs m 0 0 0, e1, e2, ?_, Fl.rf _, Fm.wr0 (by decide), wr_e (Or.inl (by decide))⟩
    rw [wr_row _ _ _ _ _ (by decide)]
    exact I_link_mono h
  obtain ⟨⟨g_set, g_rng, g_tick⟩, g_rec, ⟨g_mach, g_line, g_sent, g_pass, g_dir, g_rep, g_st⟩, g_led, g_dia, g_up, g_dn, g_plan⟩ := h
  obtain ⟨p1, p2, p3⟩ := id g_pass
  obtain ⟨c, hc4, hc, hcl⟩ := cn_i p2
  by_cases hx : 0 ≤ x ∧ x ≤ 9999
  · by_cases h4 : c = 4
    · refine no ⟨l, ?_, ?_⟩
      · unfold f_X8_queuePast
        rw [ic_t hx]
        simp only [mj_let]
        rw [if_neg one0, p1, hc, h4, if_neg (show ¬ nI 4 < 4 by decide)]
      · unfold f_X11_past
        simp only [mj_let]
        rw [isIn_t hx, if_neg one0, wr_row _ _ _ _ _ (by decide), hc, h4, if_pos (show nI 4 = 4 by decide)]
    · have e1 : f_X8_queuePast x l = some (nI (c + 1), mj_wrs (mj_wrs (mj_wrs (mj_wrs (mj_wrs l 29 c x) 30 c 0) 31 c (-1)) 32 c 0) 28 4 (nI (c + 1))) := by
        unfold f_X8_queuePast
        rw [ic_t hx]
        simp only [mj_let]
        rw [if_neg one0, p1, hc, if_pos (show nI c < 4 from nI_lt (b := 4) (by omega) (by decide)), add_eq (c := c) (by rw [p1, hc]) (by omega)]
        simp only [mj_b1]
        rw [wr_at, if_pos ⟨rfl, rfl⟩]
      have e2 : f_X11_past x m = some (nI (c + 1), mj_wrs (mj_wrs (mj_wrs m 0 0 0) 1 (106 + c) x) 1 29 (nI (c + 1))) := by
        unfold f_X11_past
        simp only [mj_let]
        rw [isIn_t hx, if_neg one0, wr_row _ _ _ _ _ (by decide), hc, if_neg (show ¬ nI c = 4 from fun q => h4 ((nI_eq (by omega) (by decide)).mp q)), show (106 : Int32) = nI 106 from rfl, show (29 : Int32) = nI 29 from rfl, puts_eq (c := c) (by decide) (by rw [wr_row _ _ _ _ _ (by decide), hc]) (by omega) (by omega)]
        simp only [mj_b1]
        rw [wr_at, if_pos ⟨rfl, rfl⟩]
      refine ⟨_, _, _, e1, e2, ?_, ?_, ?_, ?_⟩
      · have hl : ∀ k, k < 28 ∨ 32 < k → mj_wrs (mj_wrs (mj_wrs (mj_wrs (mj_wrs l 29 c x) 30 c 0) 31 c (-1)) 32 c 0) 28 4 (nI (c + 1)) k = l k := fun k hk => by
          rw [wr_row _ _ _ _ _ (by omega), wr_row _ _ _ _ _ (by omega), wr_row _ _ _ _ _ (by omega), wr_row _ _ _ _ _ (by omega), wr_row _ _ _ _ _ (by omega)]
        have hn : ∀ s, s ≠ 29 ∧ s ≠ 106 + c → mj_wrs (mj_wrs (mj_wrs m 0 0 0) 1 (106 + c) x) 1 29 (nI (c + 1)) 1 s = m 1 s := fun s hs => by
          rw [wr_e (Or.inr hs.1), wr_e (Or.inr hs.2), wr_e (Or.inl (by decide))]
        refine ⟨⟨I_set_cg g_set (by rw [hl 1 (by omega)]) (hl 2 (by omega)) (hn 12 (by omega)) (fun s _ => hn s (by omega)), I_rng_cg g_rng (hl 2 (by omega)), I_tick_cg g_tick (by rw [hl 1 (by omega)]) (hn 11 (by omega))⟩, I_rec_cg (I_rec_mono g_rec) (fun k _ _ => hl k (by omega)) (hn 38 (by omega)) (fun s _ _ => hn s (by omega)) (fun s _ _ => hn s (by omega)) (fun s _ _ => hn s (by omega)), ⟨I_mach_cg g_mach (fun _ _ => by rw [hl 17 (by omega)]) (fun s _ => hn s (by omega)), I_line_cg g_line (by rw [hl 18 (by omega)]) (hl 19 (by omega)) (hl 21 (by omega)) (hn 24 (by omega)) (hn 40 (by omega)) (fun s _ _ => hn s (by omega)), I_sent_cg g_sent (fun k _ _ => hl k (by omega)) (hn 22 (by omega)) (hn 24 (by omega)) (hn 25 (by omega)) (hn 40 (by omega)) (fun s _ _ => hn s (by omega)), ?_, I_dir_cg g_dir (fun _ _ => by rw [hl 17 (by omega)]) (fun s _ => hn s (by omega)), I_rep_cg g_rep (by rw [hl 17 (by omega)]) (hn 45 (by omega)) (hn 46 (by omega)) (hn 47 (by omega)), I_st_cg g_st (by rw [hl 17 (by omega)]) (by rw [hl 17 (by omega)]) (hn 31 (by omega)) (fun s _ _ => hn s (by omega))⟩, I_led_cg (I_led_mono g_led) (fun _ _ => by rw [hl 3 (by omega)]) (hl 4 (by omega)) (hl 46 (by omega)) (hn 11 (by omega)) (hn 19 (by omega)) (hn 24 (by omega)) (hn 25 (by omega)) (hn 40 (by omega)) (fun s _ _ => hn s (by omega)), I_dia_cg (I_dia_mono g_dia) (fun k _ _ => hl k (by omega)) (hn 33 (by omega)) (hn 34 (by omega)) (hn 48 (by omega)) (fun s _ _ => hn s (by omega)), I_up_cg g_up (fun k _ _ => hl k (by omega)) (hn 11 (by omega)) (hn 35 (by omega)) (hn 37 (by omega)) (hn 40 (by omega)) (hn 41 (by omega)) (hn 43 (by omega)) (fun s _ _ => hn s (by omega)) (fun s _ _ => hn s (by omega)), I_dn_cg g_dn (fun k _ _ => hl k (by omega)) (hn 11 (by omega)) (hn 36 (by omega)) (hn 42 (by omega)) (hn 44 (by omega)) (fun s _ _ => hn s (by omega)) (fun s _ _ => hn s (by omega)), I_plan_cg g_plan (fun k _ _ => hl k (by omega)) (hn 49 (by omega))⟩
        have en : mj_wrs (mj_wrs (mj_wrs m 0 0 0) 1 (106 + c) x) 1 29 (nI (c + 1)) 1 29 = nI (c + 1) := by rw [wr_at, if_pos ⟨rfl, rfl⟩]
        refine ⟨?_, ?_, fun i hi => ?_⟩
        · rw [en, wr_at, if_pos ⟨rfl, rfl⟩]
        · rw [en]
          exact cn_mk (by omega) (by decide)
        · rw [en, clI (by omega)] at hi
          have ea : mj_wrs (mj_wrs (mj_wrs (mj_wrs (mj_wrs l 29 c x) 30 c 0) 31 c (-1)) 32 c 0) 28 4 (nI (c + 1)) 29 i = if i = c then x else l 29 i := by simp [wr_at]
          have eb : mj_wrs (mj_wrs (mj_wrs m 0 0 0) 1 (106 + c) x) 1 29 (nI (c + 1)) 1 (106 + i) = if i = c then x else m 1 (106 + i) := by
            simp [wr_at]
            intro hq
            omega
          rw [ea, eb]
          by_cases hic : i = c
          · rw [if_pos hic, if_pos hic]
            exact ⟨rfl, hx⟩
          · rw [if_neg hic, if_neg hic]
            exact p3 i (by omega)
      · exact ((((Fl.wr (Or.inl (by decide)) (Or.inl (by decide))).tr (Fl.wr (Or.inl (by decide)) (Or.inl (by decide)))).tr (Fl.wr (Or.inl (by decide)) (Or.inl (by decide)))).tr (Fl.wr (Or.inl (by decide)) (Or.inl (by decide)))).tr (Fl.wr (Or.inl (by decide)) (Or.inl (by decide)))
      · exact ((Fm.wr0 (by decide)).tr Fm.wr).tr Fm.wr
      · rw [wr_e (Or.inr (by decide)), wr_e (Or.inr (by omega)), wr_e (Or.inl (by decide))]
  · refine no ⟨l, ?_, ?_⟩
    · unfold f_X8_queuePast
      rw [ic_f hx]
      rfl
    · unfold f_X11_past
      simp only [mj_let]
      rw [isIn_f hx, if_pos rfl]
theorem c_past : CL_past Inv := by
  intro j M x1 hj h
  obtain ⟨r, l', m', e1, e2, e3, e4, e5, e6⟩ := L_past h.2.1 x1
  refine ⟨r, va_up M 0 l', m', ?_, e2, Inv_link0 h (I_link_mono e3) e4 e5 e6⟩
  unfold f_X10_past
  rw [e1]
  rfl
