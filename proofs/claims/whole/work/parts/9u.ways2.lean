/-! ways out -/
theorem ticks100 {pl : Nat → Int32} {pm : PM} {e : Nat} (he : e ≤ 20000) : ∀ (k i n n' u v T : Nat) (l m : mj_m), i + k = 100 → k < n → k < n' → u + 50 * k < 2 ^ 28 → v + 50 * k < 2 ^ 28 → T + k ≤ 20000 → Wd l → K_ok pl pm e u v T l m → ∃ (u' v' T' : Nat) (l' m' : mj_m), f_X3_passTicks_L2 100 1 n (nI i) l = some l' ∧ f_X11_leads_L57 n' (nI i) m = some m' ∧ K_ok pl pm e u' v' T' l' m' ∧ Fl l l' ∧ Fm m m' := by
  intro k
  induction k with
  | zero =>
    intro i n n' u v T l m hi hn hn' hu hv hT hw h
    obtain ⟨n, rfl⟩ : ∃ k, n = k + 1 := ⟨n - 1, by omega⟩
    obtain ⟨n', rfl⟩ : ∃ k, n' = k + 1 := ⟨n' - 1, by omega⟩
    have i1 : (100 : Int32) ≤ nI i := nI_le (a := 100) (by omega) (by omega)
    refine ⟨u, v, T, l, m, ?_, ?_, h, Fl.rf _, Fm.rf _⟩
    · rw [L2_e, if_pos i1]
    · rw [f_X11_leads_L57, if_pos i1]
  | succ k ih =>
    intro i n n' u v T l m hi hn hn' hu hv hT hw h
    obtain ⟨n, rfl⟩ : ∃ k, n = k + 1 := ⟨n - 1, by omega⟩
    obtain ⟨n', rfl⟩ : ∃ k, n' = k + 1 := ⟨n' - 1, by omega⟩
    have i2 : ¬ (100 : Int32) ≤ nI i := nI_ge (b := 100) (by omega) (by decide)
    obtain ⟨l1, m1, a1, a2, a3, a4, a5, a6⟩ := tickT (x1 := 100) (x3 := nI i) h hw he (by omega) (by omega) (by omega)
    obtain ⟨u', v', T', l', m', b1, b2, b3, b4, b5⟩ := ih (i + 1) n n' (u + 50) (v + 50) (T + 1) l1 m1 (by omega) (by omega) (by omega) (by omega) (by omega) (by omega) (hw.fl a4) a3
    refine ⟨u', v', T', l', m', ?_, ?_, b3, a4.tr b4, a5.tr b5⟩
    · rw [L2_e, if_neg i2, ← b1a]
      have a1' : mj_b1 (tkC 100 1 (nI i) l) (f_X3_passTicks_L158 100 1 (nI i) mj_fu 0) = some l1 := a1
      rw [a1', b1s, nI_1]
      exact b1
    · rw [f_X11_leads_L57, if_neg i2, a2, b1s, lts, nI_1]
      exact b2
theorem b2_1 {x : Option (Int32 × mj_m)} {F : Int32 → mj_m → mj_m} {r : Int32} {m' : mj_m} (h : mj_b2 x (fun a b => mj_let (F a b) (fun m16 => some ((1 : Int32), m16))) = some (r, m')) : r = 1 := by
  cases x with
  | none => cases h
  | some p =>
    obtain ⟨a, b⟩ := p
    rw [b2s, lts] at h
    cases h
    rfl
theorem bg144 {a s r : Int32} {m m' : mj_m} (h : f_X8_begin_J144 a s m = some (r, m')) : r = 1 := by
  unfold f_X8_begin_J144 at h
  by_cases hc : mj_isb s = true
  · rw [chk_t hc, lts] at h
    by_cases a0 : a = 0
    · rw [if_pos a0] at h
      exact b2_1 h
    · rw [if_neg a0] at h
      by_cases a1 : a = 1
      · rw [if_pos a1] at h
        exact b2_1 h
      · rw [if_neg a1] at h
        exact b2_1 h
  · unfold mj_chk at h
    rw [if_neg hc] at h
    cases h
theorem bg127 {a s r : Int32} {m m' : mj_m} (h : f_X8_begin_J127 a s m = some (r, m')) : r = 1 := by
  unfold f_X8_begin_J127 at h
  rw [lts] at h
  by_cases z : mj_wrs m 17 12 s 17 12 = -1
  · rw [if_pos z] at h
    exact bg144 h
  · rw [if_neg z] at h
    exact bg144 h
theorem bg100 {a b s r : Int32} {m m' : mj_m} (h : f_X8_begin_J100 a b s m = some (r, m')) : r = 1 := by
  unfold f_X8_begin_J100 at h
  rw [lts] at h
  by_cases z : a = 2
  · rw [if_pos z] at h
    exact bg127 h
  · rw [if_neg z] at h
    by_cases y : a = 3
    · rw [if_pos y] at h
      exact bg127 h
    · rw [if_neg y] at h
      exact bg127 h
theorem bg69 {a b r : Int32} {m m' : mj_m} (h : f_X8_begin_J69 a b m = some (r, m')) : r = 1 := by
  unfold f_X8_begin_J69 at h
  rw [lts, lts] at h
  by_cases z : a = 0
  · rw [if_pos z] at h
    exact bg100 h
  · rw [if_neg z] at h
    exact bg100 h
theorem bg32 {a b r : Int32} {m m' : mj_m} (h : f_X8_begin_J32 a b m = some (r, m')) : r = 1 := by
  unfold f_X8_begin_J32 at h
  cases h1 : f_X2_lose 18 m with
  | none => rw [h1] at h; cases h
  | some m25 =>
    rw [h1, b1s] at h
    cases h2 : f_X2_lose 23 m25 with
    | none => rw [h2] at h; cases h
    | some m27 =>
      rw [h2, b1s, lts] at h
      by_cases z : a = 3
      · rw [if_pos z, lts] at h
        exact bg69 h
      · rw [if_neg z] at h
        exact bg69 h
theorem bg_1 {w : Nat} {x r : Int32} {l l' : mj_m} (hw : w < 4) (hx : rg 0 x 255) (ho : l 17 6 = 6) (h : f_X8_begin (nI w) x l = some (r, l')) : r = 1 := by
  unfold f_X8_begin at h
  rw [if_pos ho, lts, lts] at h
  have e1 : f_X10_isWithin (nI w) 0 3 = 1 := by
    rcases (by omega : w = 0 ∨ w = 1 ∨ w = 2 ∨ w = 3) with rfl | rfl | rfl | rfl <;> decide
  rw [e1, if_neg one0] at h
  by_cases z : nI w = 3
  · rw [if_pos z] at h
    have e2 : ¬ f_X10_isNumber x = 0 := by
      have : f_X10_isNumber x = 1 := by
        unfold f_X10_isNumber f_X10_isWithin
        simp only [lts]
        rw [if_neg (show ¬ x < 0 from Int32.not_lt.mpr hx.1), if_neg (show ¬ (255 : Int32) < x from Int32.not_lt.mpr hx.2)]
      rw [this]
      exact one0
    rw [if_neg e2] at h
    exact bg32 h
  · rw [if_neg z] at h
    exact bg32 h
theorem step_eq {pl : Nat → Int32} {pm : PM} {e u v T : Nat} {l m : mj_m} (h : K_ok pl pm e u v T l m) : (if f_X11_machine m = 1 then (if m 1 14 = 0 then (if m 1 25 = 0 then (if m 1 22 = m 1 13 then some ((1 : Int32), m) else some (0, m)) else some (0, m)) else some (0, m)) else some (0, m)) = some (f_X3_isInStep l, m) := by
  have g1 := h.1.2.2.1.1.1.1
  have g3 := h.1.2.2.1.2.2.1.1
  have g4 := h.1.2.2.1.1.2.1.1
  have g5 := h.1.2.1.1.1
  have g6 := h.1.2.1.2.1.1
  unfold f_X3_isInStep f_X11_machine
  rw [g1, g3, g4, g5, g6]
  by_cases a : m 1 21 + 6 = 1
  · rw [if_pos a, if_pos a]
    by_cases b : m 1 14 = 0
    · rw [if_pos b, if_pos b]
      by_cases c : m 1 25 = 0
      · rw [if_pos c, if_pos c]
        by_cases d : m 1 22 = m 1 13
        · rw [if_pos d, if_pos d]
        · rw [if_neg d, if_neg d]
      · rw [if_neg c, if_neg c]
    · rw [if_neg b, if_neg b]
  · rw [if_neg a, if_neg a]
theorem j55 {pl : Nat → Int32} {pm : PM} {e u v : Nat} {l m : mj_m} (h : I_link l (m 1) pl pm e u v (9999, (40, 0), (40, 0))) (hwd : Wd l) (he : e ≤ 20000) (hu : u + 5000 < 2 ^ 28) (hv : v + 5000 < 2 ^ 28) : ∃ l' m' : mj_m, f_X3_passTicks 100 1 l = some l' ∧ f_X11_leads_J55 m = some (f_X3_isInStep l', m') ∧ Fl l l' ∧ Fm m m' := by
  obtain ⟨u', v', T', l', m', a1, a2, a3, a4, a5⟩ := ticks100 he 100 0 mj_fu mj_fu u v 9999 l m (by omega) (by unfold mj_fu; omega) (by unfold mj_fu; omega) (by omega) (by omega) (by omega) hwd (K_of h)
  refine ⟨l', m', ?_, ?_, a4, a5⟩
  · unfold f_X3_passTicks
    have a1' : f_X3_passTicks_L2 100 1 mj_fu 0 l = some l' := a1
    rw [a1', b1s]
  · unfold f_X11_leads_J55
    have a2' : f_X11_leads_L57 mj_fu 0 m = some m' := a2
    rw [a2', b1s, lts]
    exact step_eq a3
def LD (l m : mj_m) (w : Nat) : Prop := (∃ l' m' : mj_m, f_X3_directed (nI w) l = some (0, l') ∧ f_X11_leads (nI w) m = some (0, m') ∧ Fl l l' ∧ Fm m m') ∨ (∃ l1 l' m' : mj_m, f_X3_directed (nI w) l = some (1, l1) ∧ f_X3_passTicks 100 1 l1 = some l' ∧ f_X11_leads (nI w) m = some (f_X3_isInStep l', m') ∧ Fl l l' ∧ Fm m m')
theorem ld_J {pl : Nat → Int32} {pm : PM} {e u v w : Nat} {l m : mj_m} (hw4 : w < 4) (h : I_link l (m 1) pl pm e u v (9999, (40, 0), (40, 0))) (hwd : Wd l) (he : e ≤ 20000) (hu : u + 5000 < 2 ^ 28) (hv : v + 5000 < 2 ^ 28) (ho : l 17 6 = 6) : ∃ l1 l' m' : mj_m, f_X3_directed_J33 (nI w) l = some (1, l1) ∧ f_X3_passTicks 100 1 l1 = some l' ∧ f_X11_leads_J20 (nI w) m = some (f_X3_isInStep l', m') ∧ Fl l l' ∧ Fm m m' := by
  obtain ⟨r, l1, m1, a1, a2, a3, a4, a5, a6⟩ := L_begin h he (nI w) (m 1 13)
  have r1 : r = 1 := bg_1 hw4 h.2.1.1.2 ho a1
  obtain ⟨l', m', b1, b2, b3, b4⟩ := j55 a3 (hwd.fl a4) he hu hv
  refine ⟨l1, l', m', ?_, b1, ?_, a4.tr b3, a5.tr b4⟩
  · unfold f_X3_directed_J33
    rw [h.2.1.1.1, a1, b2s, r1]
  · unfold f_X11_leads_J20
    rw [a2, b2s]
    exact b2
theorem leadP {pl : Nat → Int32} {pm : PM} {e u v w : Nat} {l m : mj_m} (hw : w < 5) (h : I_link l (m 1) pl pm e u v (9999, (40, 0), (40, 0))) (hwd : Wd l) (he : e ≤ 20000) (hu : u + 5001 < 2 ^ 28) (hv : v + 5000 < 2 ^ 28) : LD l m w := by
  by_cases h4 : w = 4
  · subst h4
    obtain ⟨r, l1, m1, a1, a2, a3, a4, a5, a6⟩ := L_goOn h
    by_cases z : m 1 32 = 0
    · rw [if_pos z] at a2
      cases a2
      refine Or.inl ⟨l1, m, ?_, ?_, a4, Fm.rf _⟩
      · unfold f_X3_directed
        rw [if_pos (by decide), a1, b2s]
      · unfold f_X11_leads
        rw [if_pos (by decide), z, if_pos (by decide)]
    · rw [if_neg z] at a2
      cases hg : f_X11_goesOn m with
      | none => rw [hg] at a2; cases a2
      | some m5 =>
        rw [hg, b1s] at a2
        cases a2
        obtain ⟨l', m', b1, b2, b3, b4⟩ := j55 a3 (hwd.fl a4) he (by omega) hv
        refine Or.inr ⟨l1, l', m', ?_, b1, ?_, a4.tr b3, a5.tr b4⟩
        · unfold f_X3_directed
          rw [if_pos (by decide), a1, b2s]
        · have g32 := h.2.2.1.1.2.2.2.2.2.1.2
          have nz : ¬ m 1 32 ≤ 0 := fun q => z (Int32.le_antisymm q g32.1)
          unfold f_X11_leads
          rw [if_pos (by decide), if_neg nz, hg, b1s]
          exact b2
  · have w4 : w < 4 := by omega
    have n4 : ¬ nI w = 4 := fun z => h4 ((nI_eq (a := w) (b := 4) (by omega) (by decide)).mp z)
    have g4 : ¬ (4 : Int32) ≤ nI w := nI_ge (b := 4) w4 (by decide)
    have hm : l 17 6 = m 1 21 + 6 := h.2.2.1.1.1.1
    by_cases ho : l 17 6 = 6
    · obtain ⟨l1, l', m', a1, a2, a3, a4, a5⟩ := ld_J w4 h hwd he (by omega) hv ho
      refine Or.inr ⟨l1, l', m', ?_, a2, ?_, a4, a5⟩
      · unfold f_X3_directed
        rw [if_neg n4, if_pos ho]
        exact a1
      · unfold f_X11_leads f_X11_machine
        rw [if_neg g4, lts, ← hm, if_pos ho]
        exact a3
    · obtain ⟨l0, m0, e1, e2, e3, e4, e5, e6, e7, -⟩ := L_alarm h.w he (by omega) 6 ⟨by decide, by decide⟩
      obtain ⟨l1, l', m', a1, a2, a3, a4, a5⟩ := ld_J w4 e3 (hwd.fl e4) he (by omega) hv e7
      refine Or.inr ⟨l1, l', m', ?_, a2, ?_, e4.tr a4, e5.tr a5⟩
      · unfold f_X3_directed f_X8_halt
        rw [if_neg n4, if_neg ho, if_neg ho, e1, b1s, b2s]
        exact a1
      · unfold f_X11_leads f_X11_machine
        rw [if_neg g4, lts, ← hm, if_neg ho, e2, b1s]
        exact a3
theorem Cp.rf (l : mj_m) : Cp l l := ⟨⟨fun _ _ => rfl, fun _ _ => rfl⟩, ⟨fun _ _ => rfl, fun _ _ => rfl, fun _ _ => rfl⟩, ⟨fun _ _ => rfl, fun _ _ => rfl, fun _ _ => rfl, fun _ _ => rfl⟩, ⟨fun _ _ => rfl, ⟨rfl, fun _ _ _ _ _ => rfl⟩, fun _ _ => rfl, fun _ _ => rfl⟩, ⟨fun _ _ _ => rfl, ⟨rfl, fun _ _ _ _ _ => rfl⟩, ⟨rfl, fun _ _ _ _ _ => rfl⟩, ⟨rfl, fun _ _ _ _ _ => rfl⟩⟩, ⟨fun _ _ _ => rfl, fun _ _ => rfl, fun _ _ => rfl, fun _ _ => rfl, fun _ _ => rfl⟩, ⟨fun _ _ _ => rfl, fun _ _ => rfl, fun _ _ => rfl, fun _ _ => rfl, fun _ _ => rfl⟩, ⟨fun _ _ => rfl, fun _ _ => rfl, fun _ _ => rfl⟩⟩
def TH (M : mj_M) (m : mj_m) : Prop := (∀ k, k ≠ 0 → k ≠ 1 → k ≠ 2 → k ≠ 3 → m k = M 4 k) ∧ (∀ s, s < 1897 → m 1 s = M 4 1 s) ∧ m 0 9 = M 4 0 9 ∧ m 0 17 = M 4 0 17 ∧ m 0 18 = M 4 0 18 ∧ m 0 19 = M 4 0 19 ∧ m 0 21 = M 4 0 21
theorem waysL {j : Nat} {M : mj_M} (hj : j < 512) (h : Inv j M) : ∀ (k i n n' : Nat) (a : Int32) (t m : mj_m), i + k = 5 → k < n → k < n' → Wd t → TH M m → ∃ (r : Int32) (t' m' : mj_m), f_X10_ways_L4 n a (nI i) (va_up M 2 t) = some (r, va_up M 2 t') ∧ f_X11_ways_L9 n' a (nI i) m = some (r, m') ∧ Wd t' ∧ TH M m' := by
  have ht' : mj_cl (M 4 1 11) ≤ 9999 := h.2.1.1.2.2.2.2
  intro k
  induction k with
  | zero =>
    intro i n n' a t m hi hn hn' hw hT
    obtain ⟨n, rfl⟩ : ∃ k, n = k + 1 := ⟨n - 1, by omega⟩
    obtain ⟨n', rfl⟩ : ∃ k, n' = k + 1 := ⟨n' - 1, by omega⟩
    have i5 : (5 : Int32) ≤ nI i := nI_le (a := 5) (by omega) (by omega)
    refine ⟨a, t, m, ?_, ?_, hw, hT⟩
    · rw [f_X10_ways_L4, if_pos i5]
    · rw [f_X11_ways_L9, if_pos i5]
  | succ k ih =>
    intro i n n' a t m hi hn hn' hw hT
    obtain ⟨n, rfl⟩ : ∃ k, n = k + 1 := ⟨n - 1, by omega⟩
    obtain ⟨n', rfl⟩ : ∃ k, n' = k + 1 := ⟨n' - 1, by omega⟩
    have i5 : ¬ (5 : Int32) ≤ nI i := nI_ge (b := 5) (by omega) (by decide)
    have hm : I_link (M 0) (m 1) (M 4 8) (M 4 0 19, 0) (24 * j) (24 * j + 50 * mj_cl (M 4 1 11)) (50 * mj_cl (M 4 1 11)) (9999, (40, 0), (40, 0)) := I_link_ext h.2.1 (Cp.rf _) hT.2.1 (fun _ _ => rfl)
    obtain ⟨t1, m1, a1, a2, a3, a4, a5, a6⟩ := think0 hm hw
    obtain ⟨r, t', m2, c1, c2, c3, c4⟩ : ∃ (r : Int32) (t' m2 : mj_m), f_X10_leadsOut (nI i) (va_up M 2 t) = some (r, va_up M 2 t') ∧ f_X11_leads (nI i) m1 = some (r, m2) ∧ Wd t' ∧ Fm m1 m2 := by
      unfold f_X10_leadsOut
      rw [show va_up M 2 t 0 = M 0 from rfl, show va_up M 2 t 2 = t from rfl, a1, b1s, lts, lts, lts, up_s, up_up, up_up, up_s]
      rcases leadP (w := i) (by omega) (of_K a3) a4 (by omega) (by omega) (by omega) with ⟨l', m', d1, d2, d3, d4⟩ | ⟨l1, l', m', d1, d2, d3, d4, d5⟩
      · refine ⟨0, l', m', ?_, d2, a4.fl d3, d4⟩
        rw [d1, b2s, lts, if_pos rfl, up_up]
      · refine ⟨f_X3_isInStep l', l', m', ?_, d3, a4.fl d4, d5⟩
        rw [d1, b2s, lts, if_neg one0, up_up, up_s, d2, b1s, lts, lts, up_up, up_s]
    obtain ⟨m3, f1, f2, f3, f4⟩ := forgets_eq m2
    have hT3 : TH M m3 := by
      obtain ⟨q1, q2, q3, q4, q5, q6⟩ := c4
      obtain ⟨p1, p2, p3, p4, p5, p6, p7⟩ := hT
      have e0 : m1 0 = m 0 := a5 0 (by decide) (by decide)
      have e3 : m3 0 = m2 0 := f2 0 (by decide)
      refine ⟨fun k k0 k1 k2 k3 => ?_, fun s hs => ?_, ?_, ?_, ?_, ?_, ?_⟩
      · rw [f2 k k1, q1 k k0 k1 k3, a5 k k1 k2, p1 k k0 k1 k2 k3]
      · rw [f3 s hs, q1 2 (by decide) (by decide) (by decide), a6 s hs, p2 s hs]
      · rw [e3, q2, e0, p3]
      · rw [e3, q3, e0, p4]
      · rw [e3, q4, e0, p5]
      · rw [e3, q5, e0, p6]
      · rw [e3, q6, e0, p7]
    by_cases z : r = 0
    · obtain ⟨r', t2, m4, g1, g2, g3, g4⟩ := ih (i + 1) n n' a t' m3 (by omega) (by omega) (by omega) c3 hT3
      refine ⟨r', t2, m4, ?_, ?_, g3, g4⟩
      · rw [f_X10_ways_L4, if_neg i5, c1, b2s, if_pos z, lts, nI_1]
        exact g1
      · rw [f_X11_ways_L9, if_neg i5, a2, b1s, c2, b2s, if_pos z, f1, b1s, lts, nI_1]
        exact g2
    · obtain ⟨r', t2, m4, g1, g2, g3, g4⟩ := ih (i + 1) n n' (a ||| (mj_shl 1 (nI i))) t' m3 (by omega) (by omega) (by omega) c3 hT3
      refine ⟨r', t2, m4, ?_, ?_, g3, g4⟩
      · rw [f_X10_ways_L4, if_neg i5, c1, b2s, if_neg z, lts, lts, nI_1]
        exact g1
      · rw [f_X11_ways_L9, if_neg i5, a2, b1s, c2, b2s, if_neg z, lts, f1, b1s, lts, nI_1]
        exact g2
theorem c_ways : CL_ways Inv := by
  intro j M hj h
  have w : ∀ s, s ≠ 0 → mj_wrs (M 4) 0 0 0 0 s = M 4 0 s := fun s hs => wr_e (Or.inr hs)
  have eM : M = va_up M 2 (M 2) := by
    funext k
    rw [up_at]
    by_cases z : k = 2
    · rw [if_pos z, z]
    · rw [if_neg z]
  obtain ⟨r, t', m', a1, a2, a3, a4⟩ := waysL hj h 5 0 mj_fu mj_fu 0 (M 2) (mj_wrs (M 4) 0 0 0) (by omega) (by unfold mj_fu; omega) (by unfold mj_fu; omega) (h.wdl (by decide)) ⟨fun k k0 _ _ _ => wr_row _ _ _ _ _ k0, fun s _ => by rw [r10], w 9 (by decide), w 17 (by decide), w 18 (by decide), w 19 (by decide), w 21 (by decide)⟩
  have a1' : f_X10_ways_L4 mj_fu 0 0 M = some (r, va_up M 2 t') := by
    rw [← eM] at a1
    exact a1
  have a2' : f_X11_ways_L9 mj_fu 0 0 (mj_wrs (M 4) 0 0 0) = some (r, m') := a2
  obtain ⟨q1, q2, q3, q4, q5, q6, q7⟩ := a4
  refine ⟨r, va_up M 2 t', m', ?_, ?_, Inv_th h a3 q1 q2 q3 q4 q5 q6 q7⟩
  · unfold f_X10_ways
    rw [a1', b2s]
  · unfold f_X11_ways
    rw [show va_up M 2 t' 4 = M 4 from rfl, lts, a2', b2s]
