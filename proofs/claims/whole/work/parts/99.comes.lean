/-! what comes, and the way up -/
def Wd (l : mj_m) : Prop := l 33 1 = 5 ∧ l 33 2 = 6 ∧ l 38 1 = 3 ∧ l 38 2 = 7
theorem Wd.fl {l l' : mj_m} (h : Wd l) (f : Fl l l') : Wd l' := ⟨f.1.trans h.1, f.2.1.trans h.2.1, f.2.2.1.trans h.2.2.1, f.2.2.2.trans h.2.2.2⟩
theorem byteOf_eq {w wd c k : Nat} {l : mj_m} (hc : l w 7 = nI (c + 1)) (hc40 : c ≤ 40) (hwd : l w 1 = nI wd) (hk : k < wd) (h5 : wd ≤ 5) : f_X9_byteOf w 0 (nI k) l = some (l (w + 1) k) := by
  unfold f_X9_byteOf f_X9_hasByte
  rw [if_neg (by decide), hc, if_neg (show ¬ nI (c + 1) ≤ 0 from nI_nle (by omega) (by omega)), if_neg (by decide), if_neg (nI_pos (by omega)), hwd, if_neg (nI_ge hk (by omega)), lts, if_neg one0, show (0 : Int32) * 5 + nI k = nI k from by rw [Int32.zero_mul, Int32.zero_add], chk_t (okI (by omega) (by decide)), clI (by omega)]
theorem lineOf_eq {w c : Nat} {l : mj_m} (hc : l w 7 = nI (c + 1)) (hc40 : c ≤ 40) : f_X9_lineOf w 0 l = some (l (w + 3) 0) := by
  unfold f_X9_lineOf f_X9_has
  rw [if_neg (by decide), hc, if_neg (show ¬ nI (c + 1) ≤ 0 from nI_nle (by omega) (by omega)), if_neg (by decide), lts, if_neg one0, chk_t (by decide), show mj_cl (0 : Int32) = 0 by decide]
theorem cm_L {a : Int32} {w wd on R G fa fr we : Nat} (hW : WA a w wd on R G fa fr we) : ∀ (k i n : Nat) (m : mj_m), i + k = wd → k < n → ∃ m' : mj_m, f_X11_comes_L33 a n (nI i) m = some m' ∧ (∀ p, p ≠ 3 → m' p = m p) ∧ ∀ s, m' 3 s = if i ≤ s ∧ s < wd then m 1 (R + 1 + s) else m 3 s := by
  have nb := hW.nb
  have h0 : f_X11_wayAt a 0 = nI R := by
    have := hW.at 0
    rw [Nat.mul_zero, Nat.add_zero] at this
    exact this
  have hR : R + 1 + wd < 1897 := by rcases hW with ⟨rfl, rfl, rfl, rfl, rfl, rfl, rfl, rfl, rfl⟩ | ⟨rfl, rfl, rfl, rfl, rfl, rfl, rfl, rfl, rfl⟩ <;> omega
  intro k
  induction k with
  | zero =>
    intro i n m hi hn
    obtain ⟨n, rfl⟩ : ∃ n', n = n' + 1 := ⟨n - 1, by omega⟩
    refine ⟨m, ?_, fun _ _ => rfl, fun s => ?_⟩
    · rw [f_X11_comes_L33, hW.by]
      simp only [lts]
      rw [if_pos (nI_le (by omega) (by omega))]
    · rw [if_neg (by omega)]
  | succ k ih =>
    intro i n m hi hn
    obtain ⟨n, rfl⟩ : ∃ n', n = n' + 1 := ⟨n - 1, by omega⟩
    obtain ⟨m', e1, e2, e3⟩ := ih (i + 1) n (mj_wrs m 3 i (m 1 (R + 1 + i))) (by omega) (by omega)
    refine ⟨m', ?_, fun p hp => by rw [e2 p hp, wr_row _ _ _ _ _ hp], fun s => ?_⟩
    · rw [f_X11_comes_L33, hW.by]
      simp only [lts]
      rw [if_neg (nI_ge (by omega) (by omega)), h0, nI_1, nI_add, chk_t (okI (by omega) (by decide)), chk_t (okI (by omega) (by decide)), clI (by omega), clI (by omega), nI_1]
      exact e1
    · rw [e3 s, wr_row _ _ _ _ 1 (by decide)]
      by_cases h : s = i
      · rw [if_neg (by omega), if_pos (by omega), h, rs]
      · by_cases h2 : i + 1 ≤ s ∧ s < wd
        · rw [if_pos h2, if_pos (by omega)]
        · rw [if_neg h2, if_neg (by omega), wr_e (Or.inr h)]
theorem comes_yes {a : Int32} {w wd on R G fa fr we c : Nat} {m : mj_m} (hW : WA a w wd on R G fa fr we) (hm : m 1 on = nI (c + 1)) (hc : c ≤ 40) (hdue : m 1 R ≤ m 1 11) : ∃ m1 : mj_m, f_X11_comes a m = some (1, m1) ∧ (∀ k, k < wd → m1 3 k = m 1 (R + 1 + k)) ∧ (a = 1 → m1 0 4 = m 1 641) ∧ (∀ p, p ≠ 0 → p ≠ 1 → p ≠ 3 → m1 p = m p) ∧ (∀ j, j ≠ 4 → m1 0 j = m 0 j) ∧ m1 1 on = nI c ∧ (∀ s, s ≠ on → s < R ∨ R + G * c ≤ s → m1 1 s = m 1 s) ∧ ∀ s, R ≤ s → s < R + G * c → m1 1 s = m 1 (s + G) := by
  have nb := hW.nb
  have h0 : f_X11_wayAt a 0 = nI R := by
    have := hW.at 0
    rw [Nat.mul_zero, Nat.add_zero] at this
    exact this
  obtain ⟨m0, e1, e2, e3⟩ := cm_L hW wd 0 mj_fu m (by omega) (by unfold mj_fu; omega)
  have e1' : f_X11_comes_L33 a mj_fu 0 m = some m0 := e1
  unfold f_X11_comes
  rw [hW.mn, hm, lts, if_neg (nI_ne0 (by omega) (by omega)), lts, h0, chk_t (okI (by omega) (by decide)), clI (by omega), if_pos hdue, e1', b1s]
  rcases hW with ⟨rfl, rfl, rfl, rfl, rfl, rfl, rfl, rfl, rfl⟩ | ⟨rfl, rfl, rfl, rfl, rfl, rfl, rfl, rfl, rfl⟩
  · rw [if_neg one0, lts, nI_1, show nI (635 + 1) + 5 = nI 641 from nI_add _ 5, chk_t (okI (by decide) (by decide)), clI (by decide), lts, e2 1 (by decide)]
    obtain ⟨m', d1, d2, d3, d4, d5⟩ := drops_eq (c := c) (i := 0) (m := mj_wrs m0 0 4 (m 1 641)) WA1 hc (by omega) (by rw [wr_e (Or.inl (by decide)), e2 1 (by decide), hm])
    have d1' : f_X11_drops 1 0 (mj_wrs m0 0 4 (m 1 641)) = some m' := d1
    rw [d1', b1s]
    refine ⟨m', rfl, fun k hk => ?_, fun _ => ?_, fun p p0 p1 p3 => ?_, fun j hj => ?_, d3, fun s s1 s2 => ?_, fun s s1 s2 => ?_⟩
    · rw [d2 3 (by decide), wr_e (Or.inl (by decide)), e3, if_pos (by omega)]
    · rw [d2 0 (by decide), rs]
    · rw [d2 p p1, wr_row _ _ _ _ _ p0, e2 p p3]
    · rw [d2 0 (by decide), wr_e (Or.inr hj), e2 0 (by decide)]
    · rw [d4 s s1 (by omega), wr_e (Or.inl (by decide)), e2 1 (by decide)]
    · rw [d5 s (by omega) s2, wr_e (Or.inl (by decide)), e2 1 (by decide)]
  · rw [if_pos rfl]
    obtain ⟨m', d1, d2, d3, d4, d5⟩ := drops_eq (c := c) (i := 0) (m := m0) WA0 hc (by omega) (by rw [e2 1 (by decide), hm])
    have d1' : f_X11_drops 0 0 m0 = some m' := d1
    rw [d1', b1s]
    refine ⟨m', rfl, fun k hk => ?_, fun z => absurd z (by decide), fun p p0 p1 p3 => ?_, fun j hj => ?_, d3, fun s s1 s2 => ?_, fun s s1 s2 => ?_⟩
    · rw [d2 3 (by decide), e3, if_pos (by omega)]
    · rw [d2 p p1, e2 p p3]
    · rw [d2 0 (by decide), e2 0 (by decide)]
    · rw [d4 s s1 (by omega), e2 1 (by decide)]
    · rw [d5 s (by omega) s2, e2 1 (by decide)]
theorem comes_no {a : Int32} {w wd on R G fa fr we c : Nat} {m : mj_m} (hW : WA a w wd on R G fa fr we) (hm : m 1 on = nI c) (hc : c ≤ 41) (hno : c = 0 ∨ ¬ m 1 R ≤ m 1 11) : f_X11_comes a m = some (0, m) := by
  have nb := hW.nb
  have h0 : f_X11_wayAt a 0 = nI R := by
    have := hW.at 0
    rw [Nat.mul_zero, Nat.add_zero] at this
    exact this
  unfold f_X11_comes
  rw [hW.mn, hm, lts]
  by_cases z : c = 0
  · rw [z, if_pos (by decide)]
  · rw [if_neg (nI_ne0 (by omega) (by omega)), lts, h0, chk_t (okI (by omega) (by decide)), clI (by omega), if_neg (hno.resolve_left z)]
theorem due_t {w c : Nat} {l : mj_m} (hc : l w 7 = nI (c + 1)) (hc40 : c ≤ 40) (hd : l (w + 2) 0 ≤ l 1 0) : f_X9_isDue w l = 1 := by
  unfold f_X9_isDue
  rw [hc, if_neg (show ¬ nI (c + 1) ≤ 0 from nI_nle (by omega) (by omega)), if_neg (Int32.not_lt.mpr hd)]
theorem due_f {w c : Nat} {l : mj_m} (hc : l w 7 = nI c) (hno : c = 0 ∨ ¬ l (w + 2) 0 ≤ l 1 0) : f_X9_isDue w l = 0 := by
  unfold f_X9_isDue
  rw [hc]
  by_cases z : c = 0
  · rw [z, if_pos (by decide)]
  · by_cases y : nI c ≤ 0
    · rw [if_pos y]
    · rw [if_neg y, if_pos (Int32.not_le.mp (hno.resolve_left z))]
/-- what the way down sees -/
def Nd (n n' : Nat → Int32) : Prop := n' 11 = n 11 ∧ n' 36 = n 36 ∧ n' 42 = n 42 ∧ n' 44 = n 44 ∧ (∀ s, 627 ≤ s → s < 635 → n' s = n s) ∧ ∀ s, 929 ≤ s → s < 1097 → n' s = n s
theorem I_dn_nd {l l' : mj_m} {n n' : Nat → Int32} {W : Nat × Nat} (h : I_dn l n W) (hl : ∀ k, 38 ≤ k → k ≤ 42 → l' k = l k) (hn : Nd n n') : I_dn l' n' W := I_dn_cg h hl hn.1 hn.2.1 hn.2.2.1 hn.2.2.2.1 hn.2.2.2.2.1 hn.2.2.2.2.2
theorem Nd.tr {n n' n'' : Nat → Int32} (h : Nd n n') (h' : Nd n' n'') : Nd n n'' := ⟨h'.1.trans h.1, h'.2.1.trans h.2.1, h'.2.2.1.trans h.2.2.1, h'.2.2.2.1.trans h.2.2.2.1, fun s a b => (h'.2.2.2.2.1 s a b).trans (h.2.2.2.2.1 s a b), fun s a b => (h'.2.2.2.2.2 s a b).trans (h.2.2.2.2.2 s a b)⟩
theorem I_set_s {l l' : mj_m} {n n' : Nat → Int32} (h : I_set l n) (h1 : l' 1 = l 1) (h2 : l' 2 = l 2) (hn : ∀ s, s < 13 → n' s = n s) : I_set l' n' := I_set_cg h (by rw [h1]) h2 (hn 12 (by decide)) (fun s hs => hn s (by omega))
/-- the core sees nothing of the ways -/
theorem I_lk0_w {l l' : mj_m} {n n' pl : Nat → Int32} {pm : PM} {e u v T : Nat} (h : I_lk0 l n pl pm e u v T) (hl : ∀ k, k < 33 ∨ 42 < k → l' k = l k) (hn : ∀ s, (s < 35 ∨ s = 38 ∨ s = 39 ∨ s = 40 ∨ (45 ≤ s ∧ s < 619) ∨ 1097 ≤ s) → n' s = n s) : I_lk0 l' n' pl pm e u v T := by
  obtain ⟨⟨g_set, g_rng, g_tick⟩, g_rec, ⟨g_mach, g_line, g_sent, g_pass, g_dir, g_rep, g_st⟩, g_led, g_dia, g_plan⟩ := h
  exact ⟨⟨I_set_cg g_set (by rw [hl 1 (by omega)]) (hl 2 (by omega)) (hn 12 (by omega)) (fun s _ => hn s (by omega)), I_rng_cg g_rng (hl 2 (by omega)), I_tick_cg g_tick (by rw [hl 1 (by omega)]) (hn 11 (by omega))⟩, I_rec_cg (I_rec_mono g_rec) (fun k _ _ => hl k (by omega)) (hn 38 (by omega)) (fun s _ _ => hn s (by omega)) (fun s _ _ => hn s (by omega)) (fun s _ _ => hn s (by omega)), ⟨I_mach_cg g_mach (fun _ _ => by rw [hl 17 (by omega)]) (fun s _ => hn s (by omega)), I_line_cg g_line (by rw [hl 18 (by omega)]) (hl 19 (by omega)) (hl 21 (by omega)) (hn 24 (by omega)) (hn 40 (by omega)) (fun s _ _ => hn s (by omega)), I_sent_cg g_sent (fun k _ _ => hl k (by omega)) (hn 22 (by omega)) (hn 24 (by omega)) (hn 25 (by omega)) (hn 40 (by omega)) (fun s _ _ => hn s (by omega)), I_pass_cg g_pass (by rw [hl 28 (by omega)]) (hl 29 (by omega)) (hn 29 (by omega)) (fun s _ _ => hn s (by omega)), I_dir_cg g_dir (fun _ _ => by rw [hl 17 (by omega)]) (fun s _ => hn s (by omega)), I_rep_cg g_rep (by rw [hl 17 (by omega)]) (hn 45 (by omega)) (hn 46 (by omega)) (hn 47 (by omega)), I_st_cg g_st (by rw [hl 17 (by omega)]) (by rw [hl 17 (by omega)]) (hn 31 (by omega)) (fun s _ _ => hn s (by omega))⟩, I_led_cg (I_led_mono g_led) (fun _ _ => by rw [hl 3 (by omega)]) (hl 4 (by omega)) (hl 46 (by omega)) (hn 11 (by omega)) (hn 19 (by omega)) (hn 24 (by omega)) (hn 25 (by omega)) (hn 40 (by omega)) (fun s _ _ => hn s (by omega)), I_dia_cg (I_dia_mono g_dia) (fun k _ _ => hl k (by omega)) (hn 33 (by omega)) (hn 34 (by omega)) (hn 48 (by omega)) (fun s _ _ => hn s (by omega)), I_plan_cg g_plan (fun k _ _ => hl k (by omega)) (hn 49 (by omega))⟩
/-- one frame comes on both sides -/
theorem arrU {l m : mj_m} {pl : Nat → Int32} {pm : PM} {e u v T : Nat} (h : I_lk0 l (m 1) pl pm e u v T) {W : Nat × Nat} (hu : I_up l (m 1) W) (he : e ≤ 20000) (hv : v < 2 ^ 28) (hT : T ≤ 20000) (hwd : Wd l) {c : Nat} (hc : m 1 41 = nI (c + 1)) (hc40 : c ≤ 40) (hdue : m 1 635 ≤ m 1 11) : ∃ l1 l2 m1 m2 : mj_m, f_X6_meet l = some l1 ∧ f_X9_takeOff 33 0 l1 = some (1, l2) ∧ f_X11_comes 1 m = some (1, m1) ∧ f_X11_comesFrame m1 = some m2 ∧ I_lk0 l2 (m2 1) pl pm e u (v + 1) T ∧ I_up l2 (m2 1) W ∧ Fl l l2 ∧ Fm m m2 ∧ (∀ k, 38 ≤ k → k ≤ 42 → l2 k = l k) ∧ Nd (m 1) (m2 1) ∧ m2 1 41 = nI c ∧ l2 17 = l 17 := by
  obtain ⟨m1, c1, c2, c3, c4, c5, c6, c7, c8⟩ := comes_yes WA1 hc hc40 hdue
  obtain ⟨u1, u2, u3⟩ := id hu
  obtain ⟨⟨q1, q2, q3⟩, -⟩ := u1
  have lc : l 33 7 = nI (c + 1) := q1.trans hc
  have cc : mj_cl (m 1 41) = c + 1 := by rw [hc, clI (by omega)]
  obtain ⟨v1, v2, v3, v4⟩ := q3 0 (by omega)
  obtain ⟨w1, w2⟩ := u3 0 (by omega)
  obtain ⟨L, hL, eL, cL⟩ := cn_i w1
  have eL' : m 1 641 = nI L := eL
  have h0 : I_lk0 l (m1 1) pl pm e u v T := I_lk0_w h (fun _ _ => rfl) (fun s hs => c7 s (by omega) (by omega))
  have b635 : ∀ k, k < 5 → m 1 (635 + 1 + k) = l 34 k := fun k hk => by
    have := (v4 k hk).1
    rw [Nat.mul_zero, Nat.zero_add] at this
    exact this.symm
  obtain ⟨l1, m2, e1, e2, e3, f1, f2, f3⟩ := meet_core (m := m1) h0 he hv hT (b := fun k => l 34 k) (line := l 36 0) (L := L) (fun k hk => by rw [c2 k hk, b635 k hk]) (fun k hk => by
      have := (v4 k hk).2
      rw [Nat.mul_zero, Nat.add_zero] at this
      show rg 0 (l 34 k) 255
      rw [← b635 k hk]
      exact this) (fun k hk => byteOf_eq lc hc40 hwd.1 hk (by decide)) (lineOf_eq lc hc40) (by rw [c3 rfl, eL']) (by rw [c7 40 (by decide) (by omega)]; exact hL) (by
      show l 36 0 = _
      rw [w2]
      show (if m 1 641 = 0 then _ else lnum (mj_cl (m 1 641) - 1)) = _
      rw [eL', clI (by
        have := cL ▸ w1.2
        have hb : mj_cl (m 1 40) < 2 ^ 31 := by
          unfold mj_cl
          have := Int32.toInt_lt (m 1 40)
          show (m 1 40).toInt.toNat < 2 ^ 31
          omega
        omega)]
      by_cases z : L = 0
      · rw [if_pos z, z, if_pos (by decide)]
      · rw [if_neg z, if_neg (nI_ne0 (by omega) (by
          have hb : mj_cl (m 1 40) < 2 ^ 31 := by
            unfold mj_cl
            have := Int32.toInt_lt (m 1 40)
            show (m 1 40).toInt.toNat < 2 ^ 31
            omega
          omega))])
  have l1c : l1 33 7 = nI (c + 1) := by rw [f1 33 (by decide) (by decide) (by decide) (by omega), lc]
  obtain ⟨l2, a1, a2, a3, a4, a5, a6⟩ := takeOff_eq (i := 0) l1c (by omega) (by omega)
  have l1k : ∀ k, 33 ≤ k → k ≤ 42 → l1 k = l k := fun k _ _ => f1 k (by omega) (by omega) (by omega) (by omega)
  have m2n : ∀ s, (21 ≤ s ∧ s ≤ 44 ∧ s ≠ 38) ∨ s = 11 ∨ (619 ≤ s ∧ s < 1097) → m2 1 s = m1 1 s := fun s hs => f3 s (by omega) (by omega) (by omega) (by omega) (by omega)
  refine ⟨l1, l2, m1, m2, e1, a1, c1, e2, I_lk0_w e3 (fun k hk => a2 k (by omega)) (fun _ _ => rfl), ?_, ?_, ?_, fun k _ _ => by rw [a2 k (by omega), l1k k (by omega) (by omega)], ?_, by rw [m2n 41 (by omega), c6], by rw [a2 17 (by omega), f1 17 (by decide) (by decide) (by decide) (by omega)]⟩
  · refine up_drop (i := 0) hu hc hc40 (by omega) a4 (fun j hj => by rw [a3 j hj, l1k 33 (by omega) (by omega)]) (fun q hq j hj => by rw [a5 q hq j (by omega), l1k (33 + q) (by omega) (by omega)]) (fun j hj => by rw [a6 j (by omega), l1k (33 + 1) (by omega) (by omega)]) (by rw [a2 (33 + 4) (by omega), l1k (33 + 4) (by omega) (by omega)]) (by rw [m2n 41 (by omega), c6]) ?_ ?_
    · intro s s1 s0 s2
      rw [m2n s (by omega), c7 s s1 (by omega)]
    · intro s s1 s2
      rw [m2n s (by omega), c8 s (by omega) (by omega)]
  · unfold Fl
    rw [a3 1 (by decide), a3 2 (by decide), a2 38 (by omega), l1k 33 (by omega) (by omega), l1k 38 (by omega) (by omega)]
    exact ⟨rfl, rfl, rfl, rfl⟩
  · unfold Fm
    rw [f2 0 (by decide), c5 9 (by decide), c5 17 (by decide), c5 18 (by decide), c5 19 (by decide), c5 21 (by decide)]
    exact ⟨fun k k0 k1 k3 => by rw [f2 k k1, c4 k k0 k1 k3], rfl, rfl, rfl, rfl, rfl⟩
  · refine ⟨?_, ?_, ?_, ?_, fun s s1 s2 => ?_, fun s s1 s2 => ?_⟩ <;> rw [m2n _ (by omega), c7 _ (by omega) (by omega)]
