/-! calls that only ask -/
theorem nI_mul (a b : Nat) : nI a * nI b = nI (a * b) := (Int32.ofNat_mul a b).symm
theorem nI_sub {a b : Nat} (h : b ≤ a) : nI a - nI b = nI (a - b) := by
  have e := nI_add (a - b) b
  rw [Nat.sub_add_cancel h] at e
  rw [← e, Int32.add_sub_cancel]
theorem in_lt {a : Int32} {b : Nat} (hb : b < 2 ^ 31) (h0 : ¬ a < 0) (h1 : ¬ nI b ≤ a) : ∃ v : Nat, v < b ∧ a = nI v := by
  obtain ⟨v, hv, rfl⟩ := nI_of h0
  exact ⟨v, Nat.not_le.mp (fun h => h1 ((nI_leI hb hv).mpr h)), rfl⟩
theorem okI {v n : Nat} (h : v < n) (hn : n ≤ 100000) : mj_ok (nI v) n = true := mj_ok_nI h (by omega)
theorem clI {v : Nat} (h : v < 2 ^ 31) : mj_cl (nI v) = v := mj_cl_nI h
theorem chk_t {α : Type} {b : Bool} {k : Option α} (h : b = true) : mj_chk b k = k := by
  unfold mj_chk
  rw [if_pos h]
theorem c_verdicts : CL_verdicts Inv := by
  intro j M x1 hj h
  obtain ⟨-, ⟨-, -, -, -, ⟨-, -, -, hv⟩, -⟩, -, -⟩ := id h
  suffices hs : ∃ r, f_X10_verdicts x1 M = some r ∧ f_X11_verdicts x1 (M 4) = some (r, mj_wrs (M 4) 0 0 0) by
    obtain ⟨r, e1, e2⟩ := hs
    exact ⟨r, _, e1, e2, Inv_q0 h⟩
  unfold f_X10_verdicts f_X11_verdicts f_X11_isIn
  simp only [mj_let]
  by_cases h0 : x1 < 0
  · exact ⟨-1, by simp [h0], by simp [h0]⟩
  by_cases h1 : (9 : Int32) ≤ x1
  · have h2 : (8 : Int32) < x1 := by grind
    exact ⟨-1, by simp [h0, h1], by simp [h0, h2]⟩
  obtain ⟨v, hv9, rfl⟩ := in_lt (b := 9) (by decide) h0 h1
  have h2 : ¬ (8 : Int32) < nI v := by grind
  refine ⟨M 0 8 v, ?_, ?_⟩
  · rw [if_neg h0, if_neg h1, chk_t (okI hv9 (by decide)), clI (by omega)]
  · simp only [if_neg h0, if_neg h2]
    rw [if_neg (by decide), show (110 : Int32) + nI v = nI (110 + v) from nI_add 110 v, chk_t (okI (by omega) (by decide)), clI (by omega), wr_at, if_neg (by simp), hv v hv9]
theorem wr_n (m : mj_m) (j s : Nat) (x : Int32) : mj_wrs m 1 j x 1 s = if s = j then x else m 1 s := by
  rw [wr_at]
  simp
theorem wr_e {m : mj_m} {k j : Nat} {x : Int32} {k' j' : Nat} (h : k' ≠ k ∨ j' ≠ j) : mj_wrs m k j x k' j' = m k' j' := by
  rw [wr_at, if_neg (by omega)]
theorem c_state : CL_state Inv := by
  intro j M x1 hj h
  obtain ⟨-, ⟨⟨g_set, g_rng, g_tick⟩, g_rec, ⟨g_mach, g_line, g_sent, g_pass, g_dir, g_rep, g_st⟩, g_led, g_dia, g_up, g_dn, g_plan⟩, -⟩ := id h
  refine ⟨M 0 1 1, va_up M 0 (mj_wrs (M 0) 1 1 x1), mj_wrs (mj_wrs (M 4) 0 0 0) 1 12 x1, rfl, ?_, ?_⟩
  · unfold f_X11_state
    simp only [mj_let]
    show (mj_wrs (M 4) 0 0 0 1 12, _) = _
    rw [wr_e (by decide), ← g_set.1]
    rfl
  · have hl : ∀ k, k ≠ 1 → mj_wrs (M 0) 1 1 x1 k = M 0 k := fun k hk => wr_row _ _ _ _ _ (by omega)
    have hn : ∀ s, s ≠ 12 → mj_wrs (mj_wrs (M 4) 0 0 0) 1 12 x1 1 s = M 4 1 s := fun s hs => by
      rw [wr_e (Or.inr hs), wr_e (Or.inl (by decide))]
    refine Inv_link0 h ⟨⟨?_, I_rng_cg g_rng (hl 2 (by omega)), I_tick_cg g_tick (wr_e (by decide)) (hn 11 (by omega))⟩, I_rec_cg (I_rec_mono g_rec) (fun k _ _ => hl k (by omega)) (hn 38 (by omega)) (fun s _ _ => hn s (by omega)) (fun s _ _ => hn s (by omega)) (fun s _ _ => hn s (by omega)), ⟨I_mach_cg g_mach (fun _ _ => by rw [hl 17 (by omega)]) (fun s _ => hn s (by omega)), I_line_cg g_line (by rw [hl 18 (by omega)]) (hl 19 (by omega)) (hl 21 (by omega)) (hn 24 (by omega)) (hn 40 (by omega)) (fun s _ _ => hn s (by omega)), I_sent_cg g_sent (fun k _ _ => hl k (by omega)) (hn 22 (by omega)) (hn 24 (by omega)) (hn 25 (by omega)) (hn 40 (by omega)) (fun s _ _ => hn s (by omega)), I_pass_cg g_pass (by rw [hl 28 (by omega)]) (hl 29 (by omega)) (hn 29 (by omega)) (fun s _ _ => hn s (by omega)), I_dir_cg g_dir (fun _ _ => by rw [hl 17 (by omega)]) (fun s _ => hn s (by omega)), I_rep_cg g_rep (by rw [hl 17 (by omega)]) (hn 45 (by omega)) (hn 46 (by omega)) (hn 47 (by omega)), I_st_cg g_st (by rw [hl 17 (by omega)]) (by rw [hl 17 (by omega)]) (hn 31 (by omega)) (fun s _ _ => hn s (by omega))⟩, I_led_cg (I_led_mono g_led) (fun _ _ => by rw [hl 3 (by omega)]) (hl 4 (by omega)) (hl 46 (by omega)) (hn 11 (by omega)) (hn 19 (by omega)) (hn 24 (by omega)) (hn 25 (by omega)) (hn 40 (by omega)) (fun s _ _ => hn s (by omega)), I_dia_cg (I_dia_mono g_dia) (fun k _ _ => hl k (by omega)) (hn 33 (by omega)) (hn 34 (by omega)) (hn 48 (by omega)) (fun s _ _ => hn s (by omega)), I_up_cg g_up (fun k _ _ => hl k (by omega)) (hn 11 (by omega)) (hn 35 (by omega)) (hn 37 (by omega)) (hn 40 (by omega)) (hn 41 (by omega)) (hn 43 (by omega)) (fun s _ _ => hn s (by omega)) (fun s _ _ => hn s (by omega)), I_dn_cg g_dn (fun k _ _ => hl k (by omega)) (hn 11 (by omega)) (hn 36 (by omega)) (hn 42 (by omega)) (hn 44 (by omega)) (fun s _ _ => hn s (by omega)) (fun s _ _ => hn s (by omega)), I_plan_cg g_plan (fun k _ _ => hl k (by omega)) (hn 49 (by omega))⟩ (Fl.wr (by decide) (by decide)) ((Fm.wr0 (by decide)).tr Fm.wr) (hn 11 (by omega))
    obtain ⟨s1, s2⟩ := g_set
    refine ⟨?_, ?_⟩
    · rw [wr_at, wr_at, if_pos ⟨rfl, rfl⟩, if_pos ⟨rfl, rfl⟩]
    · rw [hl 2 (by decide), hn 0 (by decide), hn 1 (by decide), hn 2 (by decide), hn 3 (by decide), hn 4 (by decide), hn 5 (by decide), hn 6 (by decide), hn 7 (by decide), hn 8 (by decide), hn 9 (by decide), hn 10 (by decide)]
      exact s2
