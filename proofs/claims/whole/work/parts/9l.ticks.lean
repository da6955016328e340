/-! one tick as a whole; ticks -/
theorem b1a {α β γ : Type} (x : Option α) (f : α → Option β) (g : β → Option γ) : mj_b1 (mj_b1 x f) g = mj_b1 x (fun y => mj_b1 (f y) g) := by cases x <;> rfl
def tkC (x1 x2 x3 : Int32) (l : mj_m) : Option mj_m := mj_b1 (f_X3_passTicks_L23 x1 x2 x3 mj_fu 0 (mj_wrs l 1 0 (l 1 0 + 1))) (fun m30 => mj_b1 (f_X0_isReportTime m30) (fun r32 => mj_b1 (if r32 = 0 then some m30 else f_X9_goes 38 (f_X6_reportWord m30) (-1) m30) (fun m46 => mj_b1 (f_X3_passTicks_L94 x1 x2 x3 mj_fu 0 m46) (fun m48 => mj_b1 (f_X8_runTimer m48) (fun m50 => f_X8_haveTurn m50)))))
theorem L2_e {x1 x2 x3 : Int32} {n : Nat} {l : mj_m} : f_X3_passTicks_L2 x1 x2 (n + 1) x3 l = if x1 ≤ x3 then some l else mj_b1 (tkC x1 x2 x3 l) (fun m39 => mj_b1 (f_X3_passTicks_L158 x1 x2 x3 mj_fu 0 m39) (fun m41 => f_X3_passTicks_L2 x1 x2 n (x3 + 1) m41)) := by
  rw [f_X3_passTicks_L2]
  by_cases h : x1 ≤ x3
  · rw [if_pos h, if_pos h]
  · rw [if_neg h, if_neg h]
    unfold tkC
    simp only [lts, b1a]
    congr 1
    funext m30
    congr 1
    funext r32
    by_cases z : r32 = 0
    · rw [if_pos z, if_pos z, b1s]
    · rw [if_neg z, if_neg z]
theorem ticks_e {m : mj_m} : f_X11_ticks m = mj_b1 (f_X11_more 11 m) (fun m13 => mj_b1 (f_X11_ticks_L6 mj_fu m13) (fun m15 => mj_b1 (f_X11_settingOf 10 m15) (fun r17 => mj_chk (!(r17 == 0)) (mj_b1 (if mj_rem (m15 1 11) r17 = 0 then f_X11_reports m15 else some m15) (fun m34 => mj_b1 (f_X11_ticks_L42 mj_fu m34) (fun m36 => mj_b1 (tmR m36) (fun m => f_X11_turns m))))))) := by
  have T : ∀ m36 : mj_m, (if m36 1 31 ≤ 0 then (mj_b1 (f_X11_turns m36) (fun m39 => some m39)) else (mj_let (mj_wrs m36 1 31 ((m36 1 31) - 1)) (fun m41 => if m41 1 31 = 0 then (mj_b1 (f_X11_runsOut m41) (fun m45 => mj_b1 (f_X11_turns m45) (fun m47 => some m47))) else (mj_b1 (f_X11_turns m41) (fun m43 => some m43))))) = mj_b1 (tmR m36) (fun m => f_X11_turns m) := fun m36 => by
    unfold tmR
    simp only [id1, lts]
    rw [rs]
    by_cases z : m36 1 31 ≤ 0
    · rw [if_pos z, if_pos z, b1s]
    · rw [if_neg z, if_neg z]
      by_cases y : m36 1 31 - 1 = 0
      · rw [if_pos y, if_pos y]
      · rw [if_neg y, if_neg y, b1s]
  unfold f_X11_ticks
  simp only [T]
  congr 1
  funext m13
  congr 1
  funext m15
  congr 1
  funext r17
  congr 1
  by_cases z : mj_rem (m15 1 11) r17 = 0
  · rw [if_pos z, if_pos z]
  · rw [if_neg z, if_neg z, b1s]
theorem up_cap {l : mj_m} {n : Nat → Int32} {c : Nat} (h : I_up l n (40, 1)) (hc : n 41 = nI c) (ht : cn (n 11) 30000) (hno : c = 0 ∨ ¬ n 635 ≤ n 11) : I_up l n (39, 1) := by
  obtain ⟨⟨⟨q1, q2, q3⟩, q4⟩, q5⟩ := h
  refine ⟨⟨⟨q1, ⟨q2.1, ?_⟩, q3⟩, q4⟩, q5⟩
  have c40 : mj_cl (n 41) ≤ 40 := q2.2
  show mj_cl (n 41) ≤ 39
  rcases Nat.lt_or_ge (mj_cl (n 41)) 40 with z | z
  · omega
  · exfalso
    obtain ⟨-, z2, z3, -⟩ := q3 0 (by omega)
    obtain ⟨t, ht3, et, ct⟩ := cn_i ht
    have z3' : mj_cl (n 635) + (mj_cl (n 41) - 1 - 0) + 1 ≤ mj_cl (n 11) + 40 := z3
    have z2' : n 635 = nI (mj_cl (n 635)) := z2.1
    rcases hno with y | y
    · rw [hc, y, show mj_cl (nI 0) = 0 from by decide] at z
      omega
    · refine y ?_
      rw [z2', et]
      exact nI_le (by omega) (by omega)
theorem dn_cap {l : mj_m} {n : Nat → Int32} {c : Nat} (h : I_dn l n (41, 0)) (hc : n 42 = nI c) (ht : cn (n 11) 30000) (hno : c = 0 ∨ ¬ n 929 ≤ n 11) : I_dn l n (40, 0) := by
  obtain ⟨⟨q1, q2, q3⟩, q4⟩ := h
  refine ⟨⟨q1, ⟨q2.1, ?_⟩, q3⟩, q4⟩
  have c41 : mj_cl (n 42) ≤ 41 := q2.2
  show mj_cl (n 42) ≤ 40
  rcases Nat.lt_or_ge (mj_cl (n 42)) 41 with z | z
  · omega
  · exfalso
    obtain ⟨-, z2, z3, -⟩ := q3 0 (by omega)
    obtain ⟨t, ht3, et, ct⟩ := cn_i ht
    have z3' : mj_cl (n 929) + (mj_cl (n 42) - 1 - 0) + 0 ≤ mj_cl (n 11) + 40 := z3
    have z2' : n 929 = nI (mj_cl (n 929)) := z2.1
    rcases hno with y | y
    · rw [hc, y, show mj_cl (nI 0) = 0 from by decide] at z
      omega
    · refine y ?_
      rw [z2', et]
      exact nI_le (by omega) (by omega)
def K_ok (pl : Nat → Int32) (pm : PM) (e u v T : Nat) (l m : mj_m) : Prop := I_lk0 l (m 1) pl pm e u v T ∧ I_up l (m 1) (40, 0) ∧ I_dn l (m 1) (40, 0)
set_option maxHeartbeats 1000000 in
theorem tick1 {pl : Nat → Int32} {pm : PM} {e u v T : Nat} {l m : mj_m} {x1 x2 x3 : Int32} (h : K_ok pl pm e u v T l m) (hwd : Wd l) (he : e ≤ 20000) (hu : u + 50 < 2 ^ 28) (hv : v + 50 < 2 ^ 28) (hT : T + 1 ≤ 20000) : ∃ l' m' : mj_m, tkC x1 x2 x3 l = some l' ∧ f_X11_ticks m = some m' ∧ K_ok pl pm e (u + 50) (v + 50) (T + 1) l' m' ∧ Fl l l' ∧ Fm m m' ∧ m' 1 11 = m 1 11 + 1 ∧ (l 17 6 = 6 → l' 17 6 = 6) := by
  obtain ⟨h1, h2, h3⟩ := h
  -- the clock
  obtain ⟨a1, a2, a3⟩ := clock h1 (by omega) h2 h3
  have f0 : Fl l (mj_wrs l 1 0 (l 1 0 + 1)) := Fl.wr (Or.inl (by decide)) (Or.inl (by decide))
  have f0' : Fm m (mj_wrs m 1 11 (m 1 11 + 1)) := Fm.wr
  have g0 : mj_wrs l 1 0 (l 1 0 + 1) 17 = l 17 := wr_row _ _ _ _ _ (by decide)
  have g1 : mj_wrs m 1 11 (m 1 11 + 1) 1 11 = m 1 11 + 1 := rs _ _ _ _
  rw [ticks_e, show (11 : Int32) = nI 11 from rfl, more_eq (by decide), b1s]
  unfold tkC
  generalize mj_wrs l 1 0 (l 1 0 + 1) = l0 at *
  generalize mj_wrs m 1 11 (m 1 11 + 1) = m0 at *
  -- frames
  obtain ⟨c, hc, ec, cc⟩ := cn_i a2.cn.2.1
  obtain ⟨l1, m1, c1, b1, b2, b3, b4, b5, b6, b7, b8, b9, b10, b11, b12⟩ := upLoop (x1 := x1) (x2 := x2) (x3 := x3) he (by omega) c 0 mj_fu mj_fu v l0 m0 ec hc (by omega) (by unfold mj_fu; omega) (by unfold mj_fu; omega) (by omega) (hwd.fl f0) a1 a2
  have b1' : f_X3_passTicks_L23 x1 x2 x3 mj_fu 0 l0 = some l1 := b1
  have t1 : cn (m1 1 11) 30000 := cn_mono b3.1.2.2.2 (by omega)
  have up1 := up_cap b4 b9 t1 b11
  have dn1 : I_dn l1 (m1 1) (40, 1) := I_dn_nd a3 b7 b8
  have wd1 := (hwd.fl f0).fl b5
  rw [b1', b1s, b2, b1s, set10, b1s, ← b3.1.1.2.2.2.2.2.2.2.2.2.2.2]
  have per := b3.1.2.1.2.2.2.2.2.2.2.2.2.2
  have perz : ¬ l1 2 10 ≤ 0 := fun z => by
    have := Int32.le_trans per.1 z
    exact absurd this (by decide)
  have pern : (!(l1 2 10 == 0)) = true := by
    have : ¬ l1 2 10 = 0 := fun z => perz (by rw [z]; decide)
    simp [this]
  have ert : f_X0_isReportTime l1 = some (if mj_rem (m1 1 11) (l1 2 10) = 0 then 1 else 0) := by
    unfold f_X0_isReportTime
    rw [lts, if_neg perz, chk_t pern, b3.1.2.2.1]
    split <;> rfl
  rw [ert, b1s, chk_t pern]
  -- the report
  obtain ⟨l2, m2, r1, r2, r3, r4, r5, r6, r7, r8, r9⟩ : ∃ l2 m2 : mj_m, (if (if mj_rem (m1 1 11) (l1 2 10) = 0 then (1 : Int32) else 0) = 0 then some l1 else f_X9_goes 38 (f_X6_reportWord l1) (-1) l1) = some l2 ∧ (if mj_rem (m1 1 11) (l1 2 10) = 0 then f_X11_reports m1 else some m1) = some m2 ∧ I_lk0 l2 (m2 1) pl pm e u (v + c) (T + 1) ∧ I_dn l2 (m2 1) (41, 0) ∧ Fl l1 l2 ∧ Fm m1 m2 ∧ (∀ k, 33 ≤ k → k ≤ 37 → l2 k = l1 k) ∧ Nu (m1 1) (m2 1) ∧ l2 17 = l1 17 := by
    by_cases z : mj_rem (m1 1 11) (l1 2 10) = 0
    · rw [if_pos z, if_pos z, if_neg one0]
      obtain ⟨l2, m2, q1, q2, q3, q4, q5, q6, q7, q8, q9⟩ := report b3 (by omega) wd1 dn1
      exact ⟨l2, m2, q1, q2, q3, q4, q5, q6, q7, q8, q9⟩
    · rw [if_neg z, if_neg z, if_pos rfl]
      exact ⟨l1, m1, rfl, rfl, b3, I_way_mn dn1, Fl.rf _, Fm.rf _, fun _ _ _ => rfl, Nu.rf _, rfl⟩
  rw [r1, r2, b1s, b1s]
  have up2 : I_up l2 (m2 1) (39, 1) := I_up_nu up1 r7 r8
  have wd2 := wd1.fl r5
  -- reports
  obtain ⟨d, hd, ed, cd⟩ := cn_i r4.cn.2.1
  obtain ⟨l3, m3, d1, s1, s2, s3, s4, s5, s6, s7, s8, s9, s10, s11, s12⟩ := dnLoop (x1 := x1) (x2 := x2) (x3 := x3) he d 0 mj_fu mj_fu u l2 m2 ed hd (by omega) (by unfold mj_fu; omega) (by unfold mj_fu; omega) (by omega) wd2 r3 r4
  have s1' : f_X3_passTicks_L94 x1 x2 x3 mj_fu 0 l2 = some l3 := s1
  rw [s1', s2, b1s, b1s]
  have up3 : I_up l3 (m3 1) (39, 1) := I_up_nu up2 s7 s8
  have t3 : cn (m3 1 11) 30000 := cn_mono s3.1.2.2.2 (by omega)
  have dn3 := dn_cap s4 s9 t3 s11
  have wd3 := wd2.fl s5
  -- the timer
  obtain ⟨l4, m4, k1, k2, k3, ⟨k4, k5, k6⟩, k7⟩ := timer s3 he (by omega)
  rw [k1, k2, b1s, b1s]
  have up4 : I_up l4 (m4 1) (39, 1) := I_up_nu up3 (fun k a b => k4 k a (by omega)) ⟨k6 11 (by omega), k6 35 (by omega), k6 37 (by omega), k6 40 (by omega), k6 41 (by omega), k6 43 (by omega), fun s _ _ => k6 s (by omega), fun s _ _ => k6 s (by omega)⟩
  have dn4 : I_dn l4 (m4 1) (40, 0) := I_dn_nd dn3 (fun k a b => k4 k (by omega) b) ⟨k6 11 (by omega), k6 36 (by omega), k6 42 (by omega), k6 44 (by omega), fun s _ _ => k6 s (by omega), fun s _ _ => k6 s (by omega)⟩
  have f4 : Fl l3 l4 := Fl.k (k4 33 (by decide) (by decide)) (k4 38 (by decide) (by decide))
  have wd4 := wd3.fl f4
  -- the turn
  obtain ⟨l5, m5, v1, v2, w1, w2, w3, w4, w5, w6, w7⟩ := turn k3 he (by omega) (by omega) wd4 up4
  have hu' : u + d + 1 ≤ u + 50 := by omega
  have hv' : v + c + 1 ≤ v + 50 := by omega
  refine ⟨l5, m5, v1, v2, ⟨I_lk0_mono w1 (Nat.le_refl _) hu' hv', w2, I_dn_nd dn4 w5 w6⟩, (((f0.tr b5).tr r5).tr s5).tr (f4.tr w3), (((f0'.tr b6).tr r6).tr s6).tr ((Fm.k k5).tr w4), ?_, fun z => ?_⟩
  · rw [w6.1, k6 11 (by omega), s8.1, r8.1, b8.1, g1]
  · exact w7 (k7 (s12 (by rw [r9, b12, g0]; exact z)))
theorem ticksL {pl : Nat → Int32} {pm : PM} {e N : Nat} (hN : N ≤ 100) (he : e ≤ 20000) : ∀ (k i n n' u v T : Nat) (l m : mj_m), i + k = N → k < n → k < n' → u + 50 * k < 2 ^ 28 → v + 50 * k < 2 ^ 28 → T + k ≤ 20000 → Wd l → K_ok pl pm e u v T l m → ∃ l' m' : mj_m, f_X3_passTicks_L2 (nI N) 0 n (nI i) l = some l' ∧ f_X11_ticksOn_L30 (nI N) n' (nI i) m = some m' ∧ K_ok pl pm e (u + 50 * k) (v + 50 * k) (T + k) l' m' ∧ Fl l l' ∧ Fm m m' ∧ m' 1 11 = m 1 11 + nI k := by
  intro k
  induction k with
  | zero =>
    intro i n n' u v T l m hi hn hn' hu hv hT hw h
    obtain ⟨n, rfl⟩ : ∃ k, n = k + 1 := ⟨n - 1, by omega⟩
    obtain ⟨n', rfl⟩ : ∃ k, n' = k + 1 := ⟨n' - 1, by omega⟩
    refine ⟨l, m, ?_, ?_, h, Fl.rf _, Fm.rf _, ?_⟩
    · rw [L2_e, if_pos (nI_le (by omega) (by omega))]
    · rw [f_X11_ticksOn_L30, if_pos (nI_le (by omega) (by omega))]
    · rw [show nI 0 = 0 from rfl, Int32.add_zero]
  | succ k ih =>
    intro i n n' u v T l m hi hn hn' hu hv hT hw h
    obtain ⟨n, rfl⟩ : ∃ k, n = k + 1 := ⟨n - 1, by omega⟩
    obtain ⟨n', rfl⟩ : ∃ k, n' = k + 1 := ⟨n' - 1, by omega⟩
    obtain ⟨l1, m1, a1, a2, a3, a4, a5, a6, -⟩ := tick1 (x1 := nI N) (x2 := 0) (x3 := nI i) h hw he (by omega) (by omega) (by omega)
    obtain ⟨l', m', b1, b2, b3, b4, b5, b6⟩ := ih (i + 1) n n' (u + 50) (v + 50) (T + 1) l1 m1 (by omega) (by omega) (by omega) (by omega) (by omega) (by omega) (hw.fl a4) a3
    refine ⟨l', m', ?_, ?_, ?_, a4.tr b4, a5.tr b5, ?_⟩
    · rw [L2_e, if_neg (nI_ge (by omega) (by omega)), a1, b1s]
      have e158 : f_X3_passTicks_L158 (nI N) 0 (nI i) mj_fu 0 l1 = some l1 := by
        rw [show mj_fu = 19999 + 1 from rfl, f_X3_passTicks_L158, if_pos rfl]
      rw [e158, b1s, nI_1]
      exact b1
    · rw [f_X11_ticksOn_L30, if_neg (nI_ge (by omega) (by omega)), a2, b1s, lts, nI_1]
      exact b2
    · rw [show u + 50 * (k + 1) = u + 50 + 50 * k by omega, show v + 50 * (k + 1) = v + 50 + 50 * k by omega, show T + (k + 1) = T + 1 + k by omega]
      exact b3
    · rw [b6, a6, ← nI_1, Int32.add_assoc, Int32.add_comm 1 (nI k)]
theorem lk0_T {l : mj_m} {n pl : Nat → Int32} {pm : PM} {e u v T T' : Nat} (h : I_lk0 l n pl pm e u v T) (ht : mj_cl (n 11) ≤ T') : I_lk0 l n pl pm e u v T' := by
  obtain ⟨⟨h1, h2, h3, h4⟩, h5⟩ := h
  exact ⟨⟨h1, h2, h3, ⟨h4.1, ht⟩⟩, h5⟩
/-- tick(n) on a link -/
theorem L_tick {pl : Nat → Int32} {pm : PM} {e u v T : Nat} {l m : mj_m} (h : K_ok pl pm e u v T l m) (hwd : Wd l) (he : e ≤ 20000) (hu : u + 3000 < 2 ^ 28) (hv : v + 3000 < 2 ^ 28) (hT : T ≤ 9999) (x : Int32) : (f_X3_hasTimeFor x l = 0 ∧ f_X11_ticksOn x m = some (-1, m)) ∨ (∃ (l' m' : mj_m) (k : Nat), f_X3_hasTimeFor x l = 1 ∧ f_X3_passTicks x 0 l = some l' ∧ f_X11_ticksOn x m = some (l' 1 0, m') ∧ ¬ l' 1 0 = -1 ∧ K_ok pl pm e (u + 50 * k) (v + 50 * k) 9999 l' m' ∧ Fl l l' ∧ Fm m m' ∧ mj_cl (m' 1 11) = mj_cl (m 1 11) + k ∧ k ≤ 60) := by
  have g_tick := h.1.1.2.2
  obtain ⟨t, ht, et, ct⟩ := cn_i g_tick.2
  unfold f_X3_hasTimeFor f_X11_ticksOn
  rw [lts, lts]
  by_cases hx : 1 ≤ x ∧ x ≤ 60
  · rw [show f_X10_isWithin x 1 60 = 1 from isIn_t hx, isIn_t hx, if_neg one0, if_neg one0, g_tick.1, et]
    obtain ⟨k, hk, rfl⟩ := in_lt (a := x) (b := 61) (by decide) (fun z => by have := hx.1; grind) (fun z => by
      have : (61 : Int32) ≤ 60 := Int32.le_trans z hx.2
      exact absurd this (by decide))
    rw [nI_add]
    by_cases h9 : t + k ≤ 9999
    · right
      rw [if_neg (show ¬ (9999 : Int32) < nI (t + k) from nI_nlt (a := 9999) h9 (by decide)), if_pos (show nI (t + k) ≤ 9999 from nI_le (b := 9999) h9 (by decide))]
      obtain ⟨l', m', b1, b2, b3, b4, b5, b6⟩ := ticksL (N := k) (by omega) he k 0 mj_fu mj_fu u v T l m (by omega) (by unfold mj_fu; omega) (by unfold mj_fu; omega) (by omega) (by omega) (by omega) hwd h
      have b1' : f_X3_passTicks_L2 (nI k) 0 mj_fu 0 l = some l' := b1
      have b2' : f_X11_ticksOn_L30 (nI k) mj_fu 0 m = some m' := b2
      have e11 : m' 1 11 = nI (t + k) := by rw [b6, et, nI_add]
      have c11 : mj_cl (m' 1 11) = t + k := by rw [e11, clI (by omega)]
      refine ⟨l', m', k, rfl, ?_, ?_, ?_, ⟨lk0_T b3.1 (by omega), b3.2⟩, b4, b5, by rw [c11, clI (by omega)], by omega⟩
      · unfold f_X3_passTicks
        rw [b1', b1s]
      · rw [b2', b1s, b3.1.1.2.2.1]
      · rw [b3.1.1.2.2.1, e11]
        intro z
        have : (0 : Int32) ≤ nI (t + k) := nI_pos' (by omega)
        rw [z] at this
        exact absurd this (by decide)
    · left
      rw [if_pos (show (9999 : Int32) < nI (t + k) from nI_lt (a := 9999) (by omega) (by omega)), if_neg (show ¬ nI (t + k) ≤ 9999 from nI_ge (a := 9999) (by omega) (by omega))]
      exact ⟨rfl, rfl⟩
  · left
    rw [show f_X10_isWithin x 1 60 = 0 from isIn_f hx, isIn_f hx, if_pos rfl, if_pos rfl]
    exact ⟨rfl, rfl⟩
theorem K_of {l m : mj_m} {pl : Nat → Int32} {pm : PM} {e u v : Nat} (h : I_link l (m 1) pl pm e u v (9999, (40, 0), (40, 0))) : K_ok pl pm e u v 9999 l m := h.c
theorem of_K {l m : mj_m} {pl : Nat → Int32} {pm : PM} {e u v : Nat} (h : K_ok pl pm e u v 9999 l m) : I_link l (m 1) pl pm e u v (9999, (40, 0), (40, 0)) := I_lk0.l (T := (9999, (40, 0), (40, 0))) h.1 h.2.1 h.2.2
theorem Inv.wdl {j : Nat} {M : mj_M} (h : Inv j M) {β : Nat} (hβ : β < 3) : Wd (M β) := h.1.2.2 β hβ
theorem c_tick : CL_tick Inv := by
  intro j M x1 hj h
  have hk : K_ok (M 4 8) (M 4 0 19, 0) (24 * j) (24 * j + 50 * mj_cl (M 4 1 11)) (50 * mj_cl (M 4 1 11)) 9999 (M 0) (mj_wrs (M 4) 0 0 0) := by
    refine K_of ?_
    rw [r10]
    exact h.2.1
  have ht := h.2.1.1.2.2.2.2
  have ht' : mj_cl (M 4 1 11) ≤ 9999 := ht
  unfold f_X10_tick f_X11_tick
  simp only [lts]
  rcases L_tick hk (h.wdl (by decide)) (by omega) (by omega) (by omega) (by omega) x1 with ⟨a1, a2⟩ | ⟨l', m', k, a1, a2, a3, a4, a5, a6, a7, a8, a9⟩
  · refine ⟨-1, M, mj_wrs (M 4) 0 0 0, ?_, ?_, Inv_q0 h⟩
    · rw [a1, if_pos rfl]
    · rw [a2, b2s]
  · refine ⟨l' 1 0, va_up M 0 l', m', ?_, ?_, ?_⟩
    · rw [a1, if_neg one0, a2, b1s]
      rfl
    · show mj_b2 (f_X11_ticksOn x1 (mj_wrs (M 4) 0 0 0)) _ = _
      rw [a3, b2s]
    · rw [r10] at a8
      refine Inv_link h ?_ a6 ((Fm.wr0 (by decide)).tr a7)
      rw [a8]
      exact I_link_mono (of_K a5)
