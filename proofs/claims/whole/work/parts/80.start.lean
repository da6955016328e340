/-! STOP, START (the rows fa_ are from the kit: NUMBERS.to-paste) -/
theorem fa_and (a b : Nat) : nI a &&& nI b = nI (a &&& b) := by
  apply Int32.toBitVec_inj.1
  show BitVec.ofNat 32 a &&& BitVec.ofNat 32 b = BitVec.ofNat 32 (a &&& b)
  apply BitVec.eq_of_getLsbD_eq
  intro i hi
  simp [hi]
theorem fa_or (a b : Nat) : nI a ||| nI b = nI (a ||| b) := by
  apply Int32.toBitVec_inj.1
  show BitVec.ofNat 32 a ||| BitVec.ofNat 32 b = BitVec.ofNat 32 (a ||| b)
  apply BitVec.eq_of_getLsbD_eq
  intro i hi
  simp [hi]
/-- a remainder by a power of two, as a mask -/
theorem fa_mask (n k : Nat) : nI n &&& nI (2 ^ k - 1) = nI (n % 2 ^ k) := by rw [fa_and, Nat.and_two_pow_sub_one_eq_mod]
/-- 'or' of a high part and a low one that don't meet is their sum -/
theorem fa_or_sum {a k : Nat} (b : Nat) (h : a < 2 ^ k) : nI (2 ^ k * b) ||| nI a = nI (2 ^ k * b + a) := by rw [fa_or, Nat.two_pow_add_eq_or_of_lt h]
theorem fa_rem {a k : Nat} (ha : a < 2 ^ 31) (hk : k < 31) : nI a - nI a / nI (2 ^ k) * nI (2 ^ k) = nI (a % 2 ^ k) := pk_rem ha (Nat.two_pow_pos k) (Nat.pow_lt_pow_right (by decide) hk)
theorem fa_and255 {n : Nat} (h : n < 256) : nI n &&& nI 255 = nI n := by
  rw [show 255 = 2 ^ 8 - 1 from rfl, fa_mask, Nat.mod_eq_of_lt h]
theorem and255 {x : Int32} (h : rg 0 x 255) : x &&& 255 = x := by
  obtain ⟨e1, e2⟩ := tx_n0 h.1 h.2
  rw [e1]
  show nI (mj_cl x) &&& nI 255 = nI (mj_cl x)
  rw [fa_and255 e2]
theorem c_dirx (j : Nat) (M : mj_M) (h : Inv j M) : Inv (j + 1) (va_up (va_up M 0 (M 0)) 4 (mj_wrs (M 4) 0 0 0)) := by
  rw [mj_self]
  exact Inv_q0 h
theorem L_halt {l m : mj_m} {pl : Nat → Int32} {pm : PM} {e u v : Nat} {T : TT} (h : I_link l (m 1) pl pm e u v T) (he : e ≤ 20000) (hu : u < 2 ^ 29) : ∃ (r : Int32) (l' m' : mj_m), f_X8_halt l = some (r, l') ∧ f_X11_direct 0 m = some (r, m') ∧ I_link l' (m' 1) pl pm e (u + 1) v T ∧ Fl l l' ∧ Fm m m' ∧ m' 1 11 = m 1 11 := by
  have hm : l 17 6 = m 1 21 + 6 := h.2.2.1.1.1.1
  have hh : l 17 11 = m 1 32 := h.2.2.1.1.2.2.2.2.2.1.1
  have r1 : mj_wrs m 0 0 0 1 = m 1 := wr_row _ _ _ _ _ (by decide)
  obtain ⟨l', m', e1, e2, e3, e4, e5, e6, -⟩ := L_alarm (m := mj_wrs m 0 0 0) (by rw [r1]; exact h.w) he hu 6 ⟨by decide, by decide⟩
  have e6' : m' 1 11 = m 1 11 := by rw [e6 11 (by decide), r1]
  have yes : f_X8_halt l = some (1, l') → f_X11_direct 0 m = some (1, m') → ∃ (r : Int32) (l' m' : mj_m), f_X8_halt l = some (r, l') ∧ f_X11_direct 0 m = some (r, m') ∧ I_link l' (m' 1) pl pm e (u + 1) v T ∧ Fl l l' ∧ Fm m m' ∧ m' 1 11 = m 1 11 := fun a b => ⟨1, l', m', a, b, e3, e4, (Fm.wr0 (by decide)).tr e5, e6'⟩
  by_cases h6 : l 17 6 = 6
  · by_cases h0 : l 17 11 = 0
    · refine ⟨0, l, mj_wrs m 0 0 0, ?_, ?_, ?_, Fl.rf _, Fm.wr0 (by decide), by rw [r1]⟩
      · unfold f_X8_halt
        rw [if_pos h6, if_pos h0]
      · unfold f_X11_direct f_X11_machine
        simp only [mj_let]
        rw [if_pos trivial, r1, ← hm, if_pos h6, ← hh, if_pos h0]
      · rw [r1]
        exact I_link_mono h
    · refine yes ?_ ?_
      · unfold f_X8_halt
        rw [if_pos h6, if_neg h0, e1]
        rfl
      · unfold f_X11_direct f_X11_machine
        simp only [mj_let]
        rw [if_pos trivial, r1, ← hm, if_pos h6, ← hh, if_neg h0, e2]
        rfl
  · refine yes ?_ ?_
    · unfold f_X8_halt
      rw [if_neg h6, e1]
      rfl
    · unfold f_X11_direct f_X11_machine
      simp only [mj_let]
      rw [if_pos trivial, r1, ← hm, if_neg h6, e2]
      rfl
/-- a link that has just begun -/
theorem beg_fin {l l' : mj_m} {n n' pl : Nat → Int32} {pm : PM} {e u v : Nat} {T : TT} {A X tm : Int32} (h : I_lw l n pl pm e u v T) (hl : ∀ k, k < 4 ∨ (6 < k ∧ k ≠ 17 ∧ k ≠ 18 ∧ k ≠ 23) → l' k = l k) (h5 : ∀ j, j ≠ 2 → l' 5 j = l 5 j) (hD : D_ok l' n') (hL : I_led l' n' e v) (k18 : l' 18 4 = 0) (k23 : l' 23 4 = 0) (n24 : n' 24 = 0) (n25 : n' 25 = 0) (k6 : l' 17 6 = A) (k7 : l' 17 7 = X) (k8 : l' 17 8 = X) (k9 : l' 17 9 = 1) (k10 : l' 17 10 = tm) (k11 : l' 17 11 = 0) (k14 : l' 17 14 = l 17 14) (k15 : l' 17 15 = l 17 15) (n21 : n' 21 = A - 6) (n22 : n' 22 = X) (n23 : n' 23 = X) (n30 : n' 30 = 1) (n31 : n' 31 = tm) (n32 : n' 32 = 0) (hn : ∀ s, s < 21 ∨ s = 29 ∨ s = 33 ∨ (34 < s ∧ s < 179) ∨ (418 < s ∧ s < 1097) → n' s = n s) (hdir : I_dir l' n') (hA : A = 1 ∨ A = 4 ∨ A = 5) (hX : rg 0 X 255) (htm : rg 0 tm 99) : I_link l' n' pl pm e u v T := by
  obtain ⟨⟨g_set, g_rng, g_tick⟩, g_rec, ⟨g_mach, g_line, g_sent, g_pass, g_dir, g_rep⟩, g_led, g_dia, g_up, g_dn, g_plan⟩ := h
  obtain ⟨-, -, -, -, -, -, p7⟩ := id g_mach
  obtain ⟨-, ⟨d2, d3, d4⟩, d5, d6⟩ := id g_dia
  have c0 : mj_cl (0 : Int32) = 0 := by decide
  refine ⟨⟨I_set_cg g_set (by rw [hl 1 (by omega)]) (hl 2 (by omega)) (hn 12 (by omega)) (fun s _ => hn s (by omega)), I_rng_cg g_rng (hl 2 (by omega)), I_tick_cg g_tick (by rw [hl 1 (by omega)]) (hn 11 (by omega))⟩, I_rec_cg (I_rec_mono g_rec) (fun k _ _ => hl k (by omega)) (hn 38 (by omega)) (fun s _ _ => hn s (by omega)) (fun s _ _ => hn s (by omega)) (fun s _ _ => hn s (by omega)), ⟨?_, ?_, ?_, I_pass_cg g_pass (by rw [hl 28 (by omega)]) (hl 29 (by omega)) (hn 29 (by omega)) (fun s _ _ => hn s (by omega)), ?_, I_rep_cg g_rep k14 (hn 45 (by omega)) (hn 46 (by omega)) (hn 47 (by omega)), ?_⟩, ?_, ?_, I_up_cg g_up (fun k _ _ => hl k (by omega)) (hn 11 (by omega)) (hn 35 (by omega)) (hn 37 (by omega)) (hn 40 (by omega)) (hn 41 (by omega)) (hn 43 (by omega)) (fun s _ _ => hn s (by omega)) (fun s _ _ => hn s (by omega)), I_dn_cg g_dn (fun k _ _ => hl k (by omega)) (hn 11 (by omega)) (hn 36 (by omega)) (hn 42 (by omega)) (hn 44 (by omega)) (fun s _ _ => hn s (by omega)) (fun s _ _ => hn s (by omega)), I_plan_cg g_plan (fun k _ _ => hl k (by omega)) (hn 49 (by omega))⟩
  · unfold I_mach
    rw [k6, k7, k8, k9, k10, k11, k15, n21, n22, n23, n30, n31, n32, hn 39 (by omega)]
    refine ⟨⟨by grind, ?_⟩, ⟨rfl, hX⟩, ⟨rfl, hX⟩, rfl, ⟨rfl, htm⟩, ⟨rfl, by decide, by decide⟩, p7⟩
    rcases hA with rfl | rfl | rfl <;> exact ⟨by decide, by decide⟩
  · refine ⟨by rw [k18, n24], by rw [n24]; exact cn_mk (c := 0) (by decide) (by decide), fun i hi => ?_⟩
    rw [n24, c0] at hi
    omega
  · refine ⟨by rw [k23, n25], by rw [n25]; exact cn_mk (c := 0) (by decide) (by decide), fun i hi => ?_⟩
    rw [n25, c0] at hi
    omega
  · exact hdir
  · unfold I_st
    rw [k6, k11, n22, n23, n24, n25]
    refine ⟨fun q => absurd rfl q, fun _ => ?_, fun _ _ => ⟨rfl, rfl⟩, fun q => ?_⟩
    · rw [Int32.sub_zero, and255 hX]
    · rcases hA with rfl | rfl | rfl <;> exact absurd q (by decide)
  · exact hL
  · obtain ⟨f1, f2, f3⟩ := hD
    refine ⟨⟨f1, f2, f3⟩, ⟨?_, ?_, fun i hi h6 => ?_⟩, ?_, fun q hq => ?_⟩
    · rw [h5 4 (by decide), hn 33 (by omega)]
      exact d2
    · rw [hn 33 (by omega)]
      exact d3
    · rw [hn 33 (by omega)] at hi
      rw [hl 7 (by omega), hn _ (by omega)]
      exact d4 i hi h6
    · rw [h5 5 (by decide), hn 48 (by omega)]
      exact d5
    · rw [hl 8 (by omega), hn _ (by omega)]
      exact d6 q hq
