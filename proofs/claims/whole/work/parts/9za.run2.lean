/-! run: the loop -/
theorem nextE {l : mj_m} {p C : Nat} (h3 : l 43 3 = nI p) (h2 : l 43 2 = nI C) (hp : p < C) (hC : C ≤ 24) : f_X3_runNextLine l = clsLine (l 44 p) (l 45 p) (mj_wrs l 43 3 (nI (p + 1))) := by
  have e44 : mj_wrs l 43 3 (nI (p + 1)) 44 p = l 44 p := wr_e (Or.inl (by decide))
  have e45 : mj_wrs l 43 3 (nI (p + 1)) 45 p = l 45 p := wr_e (Or.inl (by decide))
  unfold f_X3_runNextLine
  rw [lts, h3, if_neg (nI_pos (by omega)), h2, if_pos (nI_lt hp (by omega)), lts, nI_1, chk_t (okI (by omega) (by decide)), lts, chk_t (okI (by omega) (by decide)), clI (by omega), e44, e45]
  rfl
theorem runStep {pl : Nat → Int32} {e u v p C : Nat} {l m : mj_m} (h : I_link l (m 1) pl (nI C, 0) e u v (9999, (40, 0), (40, 0))) (hwd : Wd l) (he : e ≤ 20000) (hu : u + 3000 < 2 ^ 28) (hv : v + 3000 < 2 ^ 28) (hp : m 1 49 = nI p) (hpC : p < C) (hC : C ≤ 24) : ∃ (r : Int32) (l' m' : mj_m) (q : Nat), f_X3_runNextLine l = some (r, l') ∧ mj_b2 (f_X11_runsLine (pl (2 * p)) (pl (2 * p + 1)) m) (fun r6 m7 => mj_b1 (f_X11_more 49 m7) (fun m10 => some (r6, m10))) = some (r, m') ∧ I_link l' (m' 1) pl (nI C, 0) (e + 1) (u + 1 + 50 * q) (v + 50 * q) (9999, (40, 0), (40, 0)) ∧ Fl l l' ∧ Fm m m' ∧ mj_cl (m' 1 11) = mj_cl (m 1 11) + q ∧ q ≤ 60 := by
  obtain ⟨p1, p2, p3, p4, p5⟩ := h.2.2.2.2.2.2.2
  have cC : mj_cl (nI C) = C := clI (by omega)
  have p1' : l 43 3 = nI p := by
    rw [p1, hp]
    exact Int32.add_zero _
  have p2' : l 43 2 = nI C := p2
  obtain ⟨w1, w2, w3⟩ := p5 p (by show p < mj_cl (nI C); omega)
  obtain ⟨k, hk, ek, ck⟩ := cn_i w1
  have hxy : wm (nI k) ≤ 5 → l 45 p = pl (2 * p + 1) := fun z => w3 (by rw [w2, ek]; exact z)
  have row : ∀ q i x, q ≠ 43 → mj_wrs l 43 i x q = l q := fun q i x hq => wr_row _ _ _ _ _ hq
  have h1 : I_link (mj_wrs l 43 3 (nI (p + 1))) (m 1) pl (nI C, 1) e u v (9999, (40, 0), (40, 0)) := by
    refine planX h (fun q hq => row q _ _ hq) (fun _ _ => rfl) ⟨?_, ?_, ?_, ?_, fun i hi => ?_⟩
    · rw [rs, hp]
      exact (nI_1 p).symm
    · rw [wr_e (Or.inr (by decide))]
      exact p2'
    · exact cn_mk hC (by decide)
    · exact p4
    · rw [row 44 _ _ (by decide), row 45 _ _ (by decide)]
      exact p5 i hi
  have h2 : I_link (mj_wrs (mj_wrs l 43 3 (nI (p + 1))) 43 2 (nI p)) (m 1) pl (nI p, 1) e u v (9999, (40, 0), (40, 0)) := by
    refine planX h (fun q hq => by rw [wr_row _ _ _ _ _ hq, row q _ _ hq]) (fun _ _ => rfl) ⟨?_, ?_, ?_, ?_, fun i hi => ?_⟩
    · rw [wr_e (Or.inr (by decide)), rs, hp]
      exact (nI_1 p).symm
    · exact rs _ _ _ _
    · exact cn_mk (by omega) (by decide)
    · show cn (m 1 49) (mj_cl (nI p))
      rw [hp, clI (by omega)]
      exact cn_mk (Nat.le_refl _) (by omega)
    · have hi' : i < mj_cl (nI p) := hi
      rw [clI (by omega)] at hi'
      rw [wr_row _ _ _ _ 44 (by decide), wr_row _ _ _ _ 45 (by decide), row 44 _ _ (by decide), row 45 _ _ (by decide)]
      exact p5 i (by show i < mj_cl (nI C); omega)
  have f1 : Fl l (mj_wrs l 43 3 (nI (p + 1))) := Fl.wr (Or.inl (by decide)) (Or.inl (by decide))
  have f2 : Fl l (mj_wrs (mj_wrs l 43 3 (nI (p + 1))) 43 2 (nI p)) := f1.tr (Fl.wr (Or.inl (by decide)) (Or.inl (by decide)))
  obtain ⟨r, l', m', q, a1, a2, a3, a4, a5, a6, a7⟩ := lineP h1 (hwd.fl f1) he hu hv hk hxy
  obtain ⟨r2, l2, m2, q2, b1, b2, b3, -⟩ := lineP h2 (hwd.fl f2) he hu hv hk hxy
  rw [a2] at b2
  cases b2
  have c4 : cn (m' 1 49) (mj_cl (nI p)) := b3.2.2.2.2.2.2.2.2.2.2.1
  rw [clI (by omega)] at c4
  obtain ⟨o, ho, eo, co⟩ := cn_i c4
  have d1 : l' 43 3 = m' 1 49 + 1 := a3.2.2.2.2.2.2.2.1
  have d2 : l' 43 2 = nI C := a3.2.2.2.2.2.2.2.2.1
  have d5 := a3.2.2.2.2.2.2.2.2.2.2.2
  refine ⟨r, l', mj_wrs m' 1 49 (nI (o + 1)), q, ?_, ?_, ?_, f1.tr a4, a5.tr Fm.wr, ?_, a7⟩
  · rw [nextE p1' p2' hpC hC, ek]
    exact a1
  · rw [w2, ek, a2, b2s, show f_X11_more 49 m' = _ from more_eq (Q := 49) (by decide), b1s, eo, nI_1]
  · refine planX a3 (fun _ _ => rfl) (fun s hs => wr_e (Or.inr hs)) ⟨?_, d2, cn_mk hC (by decide), ?_, d5⟩
    · rw [rs, d1, eo, nI_1]
      exact (Int32.add_zero _).symm
    · rw [rs]
      exact cn_mk (by show o + 1 ≤ mj_cl (nI C); omega) (by rw [cC]; omega)
  · rw [wr_e (Or.inr (by decide))]
    exact a6
theorem runL {M : mj_M} {pl : Nat → Int32} {A C : Nat} (hA : A ≤ 24) (hC : C ≤ 24) : ∀ (k i n n' e u v : Nat) (x : Int32) (l m : mj_m), i + k = A → k < n → k < n' → e + k ≤ 20000 → u + 3100 * k < 2 ^ 28 → v + 3100 * k < 2 ^ 28 → Wd l → m 0 19 = nI C → m 8 = pl → I_link l (m 1) pl (nI C, 0) e u v (9999, (40, 0), (40, 0)) → ∃ (r : Int32) (l' m' : mj_m) (q : Nat), f_X10_run_L17 (nI A) n x (nI i) (va_up M 0 l) = some (r, va_up M 0 l') ∧ f_X11_run_L22 (nI A) n' x (nI i) m = some (r, m') ∧ I_link l' (m' 1) pl (nI C, 0) (e + k) (u + k + 50 * q) (v + 50 * q) (9999, (40, 0), (40, 0)) ∧ Fl l l' ∧ Fm m m' ∧ mj_cl (m' 1 11) = mj_cl (m 1 11) + q := by
  intro k
  induction k with
  | zero =>
    intro i n n' e u v x l m hi hn hn' he hu hv hw h19 h8 h
    obtain ⟨n, rfl⟩ : ∃ k, n = k + 1 := ⟨n - 1, by omega⟩
    obtain ⟨n', rfl⟩ : ∃ k, n' = k + 1 := ⟨n' - 1, by omega⟩
    refine ⟨x, l, m, 0, ?_, ?_, I_link_mono h, Fl.rf _, Fm.rf _, rfl⟩
    · rw [f_X10_run_L17, if_pos (nI_le (by omega) (by omega))]
    · rw [f_X11_run_L22, if_pos (nI_le (by omega) (by omega))]
  | succ k ih =>
    intro i n n' e u v x l m hi hn hn' he hu hv hw h19 h8 h
    obtain ⟨n, rfl⟩ : ∃ k, n = k + 1 := ⟨n - 1, by omega⟩
    obtain ⟨n', rfl⟩ : ∃ k, n' = k + 1 := ⟨n' - 1, by omega⟩
    rw [Nat.mul_succ] at hu hv
    have hu1 : u + 3000 < 2 ^ 28 := Nat.lt_of_le_of_lt (Nat.add_le_add_left (Nat.le_trans (by decide) (Nat.le_add_left 3100 (3100 * k))) u) hu
    have hv1 : v + 3000 < 2 ^ 28 := Nat.lt_of_le_of_lt (Nat.add_le_add_left (Nat.le_trans (by decide) (Nat.le_add_left 3100 (3100 * k))) v) hv
    have hu2 : ∀ q, q ≤ 60 → u + 1 + 50 * q + 3100 * k < 2 ^ 28 := fun q hq => by omega
    have hv2 : ∀ q, q ≤ 60 → v + 50 * q + 3100 * k < 2 ^ 28 := fun q hq => by omega
    obtain ⟨p1, p2, p3, p4, p5⟩ := id h.2.2.2.2.2.2.2
    have p4' : cn (m 1 49) (mj_cl (nI C)) := p4
    rw [clI (by omega)] at p4'
    obtain ⟨p, hp, ep, cp⟩ := cn_i p4'
    have p1' : l 43 3 = nI p := by
      rw [p1, ep]
      exact Int32.add_zero _
    have p2' : l 43 2 = nI C := p2
    have s0 : va_up M 0 l 0 = l := rfl
    rw [f_X10_run_L17, f_X11_run_L22, if_neg (nI_ge (by omega) (by omega)), if_neg (nI_ge (by omega) (by omega)), s0, p1', p2', h19, ep]
    by_cases z : C ≤ p
    · refine ⟨x, l, m, 0, ?_, ?_, I_link_mono h, Fl.rf _, Fm.rf _, rfl⟩
      · rw [if_pos (nI_le z (by omega))]
      · rw [if_pos (nI_le z (by omega))]
    · rw [if_neg (nI_ge (by omega) (by omega)), if_neg (nI_ge (by omega) (by omega)), lts, show (2 : Int32) * nI p = nI (2 * p) from nI_mul 2 p, nI_1 (2 * p), chk_t (okI (by omega) (by decide)), chk_t (okI (by omega) (by decide)), clI (by omega), clI (by omega), h8]
      obtain ⟨r, l1, m1, q, a1, a2, a3, a4, a5, a6, a7⟩ := runStep h hw (by omega) hu1 hv1 ep (by omega) hC
      have a2' : ∃ m7, f_X11_runsLine (pl (2 * p)) (pl (2 * p + 1)) m = some (r, m7) ∧ f_X11_more 49 m7 = some m1 := by
        cases e7 : f_X11_runsLine (pl (2 * p)) (pl (2 * p + 1)) m with
        | none => rw [e7] at a2; cases a2
        | some w =>
          obtain ⟨r6, m7⟩ := w
          rw [e7, b2s] at a2
          cases e8 : f_X11_more 49 m7 with
          | none => rw [e8] at a2; cases a2
          | some m10 =>
            rw [e8, b1s] at a2
            cases a2
            exact ⟨m7, rfl, e8⟩
      obtain ⟨m7, g1, g2⟩ := a2'
      rw [a1, b2s, lts, up_up, g1, b2s]
      by_cases y : r = 0
      · obtain ⟨r', l', m', q', b1, b2, b3, b4, b5, b6⟩ := ih (i + 1) n n' (e + 1) (u + 1 + 50 * q) (v + 50 * q) x l1 m1 (by omega) (by omega) (by omega) (by omega) (hu2 q a7) (hv2 q a7) (hw.fl a4) (by rw [a5.2.2.2.2.1, h19]) (by rw [a5.1 8 (by decide) (by decide) (by decide), h8]) a3
        refine ⟨r', l', m', q + q', ?_, ?_, I_link_mono b3, a4.tr b4, a5.tr b5, by omega⟩
        · rw [if_pos y, lts, nI_1]
          exact b1
        · rw [if_pos y, g2, b1s, lts, nI_1]
          exact b2
      · obtain ⟨r', l', m', q', b1, b2, b3, b4, b5, b6⟩ := ih (i + 1) n n' (e + 1) (u + 1 + 50 * q) (v + 50 * q) (x + 1) l1 m1 (by omega) (by omega) (by omega) (by omega) (hu2 q a7) (hv2 q a7) (hw.fl a4) (by rw [a5.2.2.2.2.1, h19]) (by rw [a5.1 8 (by decide) (by decide) (by decide), h8]) a3
        refine ⟨r', l', m', q + q', ?_, ?_, I_link_mono b3, a4.tr b4, a5.tr b5, by omega⟩
        · rw [if_neg y, lts, lts, nI_1]
          exact b1
        · rw [if_neg y, lts, g2, b1s, lts, nI_1]
          exact b2
theorem c_run : CL_run Inv := by
  intro j M x1 hj h
  have ht' : mj_cl (M 4 1 11) ≤ 9999 := h.2.1.1.2.2.2.2
  by_cases hx : 1 ≤ x1 ∧ x1 ≤ 24
  · obtain ⟨A, hA, rfl⟩ := in_lt (a := x1) (b := 25) (by decide) (fun z => by
      have := Int32.lt_of_le_of_lt hx.1 z
      exact absurd this (by decide)) (fun z => absurd (Int32.le_trans z hx.2) (by decide))
    have c3 : cn (M 4 0 19) 24 := h.2.1.2.2.2.2.2.2.2.2.2.1
    obtain ⟨C, hC, eC, cC⟩ := cn_i c3
    have hm : I_link (M 0) (mj_wrs (M 4) 0 0 0 1) (M 4 8) (nI C, 0) (24 * j) (24 * j + 50 * mj_cl (M 4 1 11)) (50 * mj_cl (M 4 1 11)) (9999, (40, 0), (40, 0)) := by
      rw [r10, ← eC]
      exact h.2.1
    have eM : M = va_up M 0 (M 0) := by
      funext k
      rw [up_at]
      by_cases z : k = 0
      · rw [if_pos z, z]
      · rw [if_neg z]
    obtain ⟨r, l', m', q, a1, a2, a3, a4, a5, a6⟩ := runL (M := M) (A := A) (C := C) (by omega) hC A 0 mj_fu mj_fu _ _ _ 0 (M 0) (mj_wrs (M 4) 0 0 0) (by omega) (by unfold mj_fu; omega) (by unfold mj_fu; omega) (by omega) (by omega) (by omega) (h.wdl (by decide)) (by rw [wr_e (Or.inr (by decide)), eC]) (wr_row _ _ _ _ _ (by decide)) hm
    have a1' : f_X10_run_L17 (nI A) mj_fu 0 0 M = some (r, va_up M 0 l') := by
      rw [← eM] at a1
      exact a1
    have a2' : f_X11_run_L22 (nI A) mj_fu 0 0 (mj_wrs (M 4) 0 0 0) = some (r, m') := a2
    have a6' : mj_cl (m' 1 11) = mj_cl (M 4 1 11) + q := by
      rw [a6, r10]
    refine ⟨r, va_up M 0 l', m', ?_, ?_, Inv_link h ?_ a4 ((Fm.wr0 (by decide)).tr a5)⟩
    · unfold f_X10_run
      rw [if_neg (Int32.not_lt.mpr hx.1), if_pos hx.2, a1', b2s]
    · unfold f_X11_run
      rw [show va_up M 0 l' 4 = M 4 from rfl, lts, lts, isIn_t hx, if_neg one0, a2', b2s]
    · rw [eC]
      exact I_link_mono a3
  · refine ⟨-1, M, mj_wrs (M 4) 0 0 0, ?_, ?_, Inv_q0 h⟩
    · unfold f_X10_run
      by_cases z : x1 < 1
      · rw [if_pos z]
      · rw [if_neg z, if_neg (fun y => hx ⟨Int32.not_lt.mp z, y⟩)]
    · unfold f_X11_run
      rw [lts, lts, isIn_f hx, if_pos rfl]
