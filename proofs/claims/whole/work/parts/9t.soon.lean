/-! soon -/
theorem up_up (M : mj_M) (b : Nat) (x y : mj_m) : va_up (va_up M b x) b y = va_up M b y := by
  funext k
  rw [up_at, up_at, up_at]
  by_cases h : k = b
  · rw [if_pos h, if_pos h]
  · rw [if_neg h, if_neg h, if_neg h]
theorem up_s (M : mj_M) (b : Nat) (x : mj_m) : va_up M b x b = x := by rw [up_at, if_pos rfl]
theorem onceT {pl : Nat → Int32} {pm : PM} {e u v T : Nat} {l m : mj_m} (h : K_ok pl pm e u v T l m) (hwd : Wd l) (he : e ≤ 20000) (hu : u + 50 < 2 ^ 28) (hv : v + 50 < 2 ^ 28) (hT : T + 1 ≤ 20000) : ∃ l' m' : mj_m, f_X3_passTicks 1 1 l = some l' ∧ f_X11_ticksTaking m = some m' ∧ K_ok pl pm e (u + 50) (v + 50) (T + 1) l' m' ∧ Fl l l' ∧ Fm m m' ∧ (l 17 6 = 6 → l' 17 6 = 6) := by
  obtain ⟨l', m', a1, a2, a3, a4, a5, a6⟩ := tickT (x1 := 1) (x3 := 0) h hwd he hu hv hT
  refine ⟨l', m', ?_, a2, a3, a4, a5, a6⟩
  unfold f_X3_passTicks
  rw [show mj_fu = 19999 + 1 from rfl, L2_e, if_neg (by decide), ← b1a]
  have a1' : mj_b1 (tkC 1 1 0 l) (f_X3_passTicks_L158 1 1 0 mj_fu 0) = some l' := a1
  rw [a1', b1s, show 19999 = 19998 + 1 from rfl, L2_e, if_pos (by decide), b1s]
theorem idle_eq {pl : Nat → Int32} {pm : PM} {e u v T : Nat} {l m : mj_m} (h : K_ok pl pm e u v T l m) : f_X8_isIdle l = f_X11_isThrough m := by
  have g1 := h.1.2.2.1.1.1.1
  have g2 := h.1.2.2.1.2.1.1
  have g3 := h.1.2.2.1.2.2.1.1
  unfold f_X8_isIdle f_X11_isThrough f_X11_machine
  rw [lts, g1, g2, g3]
  by_cases a : m 1 21 + 6 = 1
  · rw [if_pos a, if_pos a]
  · rw [if_neg a, if_neg a]
    by_cases b : m 1 24 = 0
    · rw [if_pos b]
      by_cases c : m 1 25 = 0
      · rw [if_pos c]
      · rw [if_neg c]
    · rw [if_neg b]
theorem thr0 {pl : Nat → Int32} {pm : PM} {e u v T : Nat} {l m : mj_m} (h : K_ok pl pm e u v T l m) (ho : l 17 6 = 6) : f_X11_isThrough m = 0 := by
  rw [← idle_eq h]
  unfold f_X8_isIdle
  rw [ho, if_neg (by decide)]
theorem idle01 (l : mj_m) : f_X8_isIdle l = 0 ∨ f_X8_isIdle l = 1 := by
  unfold f_X8_isIdle
  by_cases a : l 17 6 = 1
  · rw [if_pos a]
    by_cases b : l 18 4 = 0
    · rw [if_pos b]
      by_cases c : l 23 4 = 0
      · rw [if_pos c]
        exact Or.inr rfl
      · rw [if_neg c]
        exact Or.inl rfl
    · rw [if_neg b]
      exact Or.inl rfl
  · rw [if_neg a]
    exact Or.inl rfl
theorem offL {pl : Nat → Int32} {pm : PM} {e : Nat} (he : e ≤ 20000) : ∀ (k i n u v T : Nat) (l m : mj_m), i + k = 400 → k < n → u + 50 * k < 2 ^ 28 → v + 50 * k < 2 ^ 28 → T + k ≤ 20000 → Wd l → K_ok pl pm e u v T l m → l 17 6 = 6 → ∃ m' : mj_m, f_X11_soon_L11 n (nI i) m = some (nI 400, m') ∧ f_X11_isThrough m' = 0 ∧ Fm m m' := by
  intro k
  induction k with
  | zero =>
    intro i n u v T l m hi hn hu hv hT hw h ho
    obtain ⟨n, rfl⟩ : ∃ k, n = k + 1 := ⟨n - 1, by omega⟩
    refine ⟨m, ?_, thr0 h ho, Fm.rf _⟩
    rw [f_X11_soon_L11, if_pos (show (400 : Int32) ≤ nI i from nI_le (a := 400) (by omega) (by omega)), show i = 400 by omega]
  | succ k ih =>
    intro i n u v T l m hi hn hu hv hT hw h ho
    obtain ⟨n, rfl⟩ : ∃ k, n = k + 1 := ⟨n - 1, by omega⟩
    obtain ⟨l1, m1, a1, a2, a3, a4, a5, a6⟩ := onceT h hw he (by omega) (by omega) (by omega)
    obtain ⟨m', b1, b2, b3⟩ := ih (i + 1) n (u + 50) (v + 50) (T + 1) l1 m1 (by omega) (by omega) (by omega) (by omega) (by omega) (hw.fl a4) a3 (a6 ho)
    refine ⟨m', ?_, b2, a5.tr b3⟩
    rw [f_X11_soon_L11, if_neg (show ¬ (400 : Int32) ≤ nI i from nI_ge (b := 400) (by omega) (by decide)), lts, thr0 h ho, if_pos rfl, a2, b1s, lts, nI_1]
    exact b1
theorem soonL {M : mj_M} {pl : Nat → Int32} {pm : PM} {e : Nat} (he : e ≤ 20000) : ∀ (k i n n' u v T : Nat) (l m : mj_m), i + k = 400 → k + 1 < n → k < n' → u + 50 * k + 50 < 2 ^ 28 → v + 50 * k + 50 < 2 ^ 28 → T + k + 1 ≤ 20000 → Wd l → K_ok pl pm e u v T l m → ∃ (t : Nat) (r x : Int32) (l' m' : mj_m), f_X10_soon_L23 n (nI i) (va_up M 2 l) = some (t, r, va_up M 2 l') ∧ f_X11_soon_L11 n' (nI i) m = some (x, m') ∧ Fl l l' ∧ Fm m m' ∧ ((t = 43 ∧ r = x ∧ f_X11_isThrough m' = 1) ∨ (t ≠ 43 ∧ f_X11_isThrough m' = 0)) := by
  intro k
  induction k with
  | zero =>
    intro i n n' u v T l m hi hn hn' hu hv hT hw h
    obtain ⟨n, rfl⟩ : ∃ k, n = k + 2 := ⟨n - 2, by omega⟩
    obtain ⟨n', rfl⟩ : ∃ k, n' = k + 1 := ⟨n' - 1, by omega⟩
    have i4 : i = 400 := by omega
    subst i4
    have hr : f_X11_soon_L11 (n' + 1) (nI 400) m = some (nI 400, m) := by rw [f_X11_soon_L11, if_pos (by decide)]
    rcases idle01 l with hid | hid
    · have hth : f_X11_isThrough m = 0 := by rw [← idle_eq h, hid]
      by_cases ho : l 17 6 = 6
      · refine ⟨60, 0, nI 400, l, m, ?_, hr, Fl.rf _, Fm.rf _, Or.inr ⟨by decide, hth⟩⟩
        rw [f_X10_soon_L23, if_neg (by decide), lts, up_s, hid, if_pos rfl, if_pos ho]
      · obtain ⟨l1, m1, a1, a2, a3, a4, a5, a6⟩ := onceT h hw he (by omega) (by omega) (by omega)
        refine ⟨77, 0, nI 400, l1, m, ?_, hr, a4, Fm.rf _, Or.inr ⟨by decide, hth⟩⟩
        rw [f_X10_soon_L23, if_neg (by decide), lts, up_s, hid, if_pos rfl, if_neg ho, a1, b1s, lts, lts, up_up, nI_1, f_X10_soon_L23, if_pos (by decide)]
    · have hth : f_X11_isThrough m = 1 := by rw [← idle_eq h, hid]
      refine ⟨43, nI 400, nI 400, l, m, ?_, hr, Fl.rf _, Fm.rf _, Or.inl ⟨rfl, rfl, hth⟩⟩
      rw [f_X10_soon_L23, if_neg (by decide), lts, up_s, hid, if_neg one0]
  | succ k ih =>
    intro i n n' u v T l m hi hn hn' hu hv hT hw h
    obtain ⟨n, rfl⟩ : ∃ k, n = k + 1 := ⟨n - 1, by omega⟩
    obtain ⟨n', rfl⟩ : ∃ k, n' = k + 1 := ⟨n' - 1, by omega⟩
    have i1 : ¬ (400 : Int32) < nI i := nI_nlt (a := 400) (by omega) (by decide)
    have i2 : ¬ (400 : Int32) ≤ nI i := nI_ge (b := 400) (by omega) (by decide)
    rcases idle01 l with hid | hid
    · have hth : f_X11_isThrough m = 0 := by rw [← idle_eq h, hid]
      by_cases ho : l 17 6 = 6
      · obtain ⟨m', b1, b2, b3⟩ := offL he (k + 1) i (n' + 1) u v T l m (by omega) (by omega) (by omega) (by omega) (by omega) hw h ho
        refine ⟨60, 0, nI 400, l, m', ?_, b1, Fl.rf _, b3, Or.inr ⟨by decide, b2⟩⟩
        rw [f_X10_soon_L23, if_neg i1, lts, up_s, hid, if_pos rfl, if_pos ho]
      · obtain ⟨l1, m1, a1, a2, a3, a4, a5, a6⟩ := onceT h hw he (by omega) (by omega) (by omega)
        obtain ⟨t, r, x, l', m', b1, b2, b3, b4, b5⟩ := ih (i + 1) n n' (u + 50) (v + 50) (T + 1) l1 m1 (by omega) (by omega) (by omega) (by omega) (by omega) (by omega) (hw.fl a4) a3
        refine ⟨t, r, x, l', m', ?_, ?_, a4.tr b3, a5.tr b4, b5⟩
        · rw [f_X10_soon_L23, if_neg i1, lts, up_s, hid, if_pos rfl, if_neg ho, a1, b1s, lts, lts, up_up, nI_1]
          exact b1
        · rw [f_X11_soon_L11, if_neg i2, lts, hth, if_pos rfl, a2, b1s, lts, nI_1]
          exact b2
    · have hth : f_X11_isThrough m = 1 := by rw [← idle_eq h, hid]
      refine ⟨43, nI i, nI i, l, m, ?_, ?_, Fl.rf _, Fm.rf _, Or.inl ⟨rfl, rfl, hth⟩⟩
      · rw [f_X10_soon_L23, if_neg i1, lts, up_s, hid, if_neg one0]
      · rw [f_X11_soon_L11, if_neg i2, lts, hth, if_neg one0]
/-- the thought begins -/
theorem think0 {pl : Nat → Int32} {pm : PM} {e u v : Nat} {l t m : mj_m} (h : I_link l (m 1) pl pm e u v (9999, (40, 0), (40, 0))) (hw : Wd t) : ∃ t1 m1 : mj_m, f_X3_copyFrom l t = some t1 ∧ f_X11_thinks m = some m1 ∧ K_ok pl pm e u v 9999 (f_X0_freeOfHurt t1) m1 ∧ Wd (f_X0_freeOfHurt t1) ∧ (∀ p, p ≠ 1 → p ≠ 2 → m1 p = m p) ∧ ∀ s, s < 1897 → m1 2 s = m 1 s := by
  obtain ⟨t1, a1, a2, a3⟩ := link_copy h t
  obtain ⟨m1, b1, b2, b3, b4, b5, b6⟩ := thinks_eq m
  refine ⟨t1, m1, a1, b1, ?_, ?_, b2, b3⟩
  · unfold f_X0_freeOfHurt
    simp only [lts]
    exact K_of (freeH h a2 b4 b5 b6)
  · unfold f_X0_freeOfHurt
    simp only [lts]
    exact (hw.fl a3).fl ((Fl.wr (Or.inl (by decide)) (Or.inl (by decide))).tr (Fl.wr (Or.inl (by decide)) (Or.inl (by decide))))
theorem c_soon : CL_soon Inv := by
  intro j M hj h
  have ht' : mj_cl (M 4 1 11) ≤ 9999 := h.2.1.1.2.2.2.2
  have hm : I_link (M 0) (mj_wrs (M 4) 0 0 0 1) (M 4 8) (M 4 0 19, 0) (24 * j) (24 * j + 50 * mj_cl (M 4 1 11)) (50 * mj_cl (M 4 1 11)) (9999, (40, 0), (40, 0)) := by
    rw [r10]
    exact h.2.1
  obtain ⟨t1, m1, a1, a2, a3, a4, a5, a6⟩ := think0 hm (h.wdl (β := 2) (by decide))
  obtain ⟨t, r, x, l', m2, b1, b2, b3, b4, b5⟩ := soonL (M := M) (by omega) 400 0 mj_fu mj_fu _ _ 9999 (f_X0_freeOfHurt t1) m1 (by omega) (by unfold mj_fu; omega) (by unfold mj_fu; omega) (by omega) (by omega) (by omega) a4 a3
  have b1' : f_X10_soon_L23 mj_fu 0 (va_up M 2 (f_X0_freeOfHurt t1)) = some (t, r, va_up M 2 l') := b1
  have b2' : f_X11_soon_L11 mj_fu 0 m1 = some (x, m2) := b2
  obtain ⟨m3, c1, c2, c3, c4⟩ := forgets_eq m2
  have w : ∀ k s, k ≠ 0 ∨ s ≠ 0 → mj_wrs (M 4) 0 0 0 k s = M 4 k s := fun k s hk => wr_e hk
  have hI : Inv (j + 1) (va_up (va_up M 2 l') 4 m3) := by
    obtain ⟨q1, q2, q3, q4, q5, q6⟩ := b4
    refine Inv_th h (a4.fl b3) (fun k k0 k1 k2 k3 => ?_) (fun s hs => ?_) ?_ ?_ ?_ ?_ ?_
    · rw [c2 k k1, q1 k k0 k1 k3, a5 k k1 k2, wr_row _ _ _ _ _ k0]
    · rw [c3 s hs, q1 2 (by decide) (by decide) (by decide), a6 s hs, r10]
    · rw [c2 0 (by decide), q2, a5 0 (by decide) (by decide), w _ _ (Or.inr (by decide))]
    · rw [c2 0 (by decide), q3, a5 0 (by decide) (by decide), w _ _ (Or.inr (by decide))]
    · rw [c2 0 (by decide), q4, a5 0 (by decide) (by decide), w _ _ (Or.inr (by decide))]
    · rw [c2 0 (by decide), q5, a5 0 (by decide) (by decide), w _ _ (Or.inr (by decide))]
    · rw [c2 0 (by decide), q6, a5 0 (by decide) (by decide), w _ _ (Or.inr (by decide))]
  have hc : f_X10_soon M = if t = 43 then some (r, va_up M 2 l') else some (-1, va_up M 2 l') := by
    unfold f_X10_soon
    rw [a1, b1s, lts, lts, lts, up_s, up_up, b1', b3s]
    by_cases z : t = 43
    · rw [if_pos z, if_pos z]
    · rw [if_neg z, if_neg z]
      by_cases y : t = 60
      · rw [if_pos y]
      · rw [if_neg y]
  have hr : f_X11_soon (va_up M 2 l' 4) = if f_X11_isThrough m2 = 0 then some (-1, m3) else some (x, m3) := by
    unfold f_X11_soon f_X11_soon_J36
    rw [show va_up M 2 l' 4 = M 4 from rfl, lts, a2, b1s, b2', b2s, lts, c1, b1s, b1s]
  rcases b5 with ⟨z1, z2, z3⟩ | ⟨z1, z2⟩
  · refine ⟨x, va_up M 2 l', m3, ?_, ?_, hI⟩
    · rw [hc, if_pos z1, z2]
    · rw [hr, z3, if_neg one0]
  · refine ⟨-1, va_up M 2 l', m3, ?_, ?_, hI⟩
    · rw [hc, if_neg z1]
    · rw [hr, z2, if_pos rfl]
