/-! plan: one line -/
def DR (r m : mj_m) (q : Nat) : Prop := r 3 2 = nI q ∧ q ≤ 24 ∧ ∀ i, i < q → cn (r 4 i) 12 ∧ m 8 (48 + 2 * i) = wm (r 4 i) ∧ (m 8 (48 + 2 * i) ≤ 5 → r 5 i = m 8 (48 + 2 * i + 1))
def S0 (c : Nat) (r m : mj_m) (q : Nat) : Prop := RDc r m c ∧ m 7 = tW7 ∧ (∃ a, a ≤ c ∧ r 1 7 = nI a ∧ m 0 10 = nI a) ∧ DR r m q ∧ r 1 3 = 0 ∧ r 1 4 = -1
def SR (c : Nat) (r m : mj_m) (q : Nat) : Prop := S0 c r m q ∧ r 1 6 = m 0 11 ∧ TKN r m
def FP (r r' m m' : mj_m) : Prop := r' 0 = r 0 ∧ r' 3 3 = r 3 3 ∧ (∀ k, k ≠ 0 → k ≠ 8 → m' k = m k) ∧ (∀ s, s < 10 ∨ 16 < s → m' 0 s = m 0 s) ∧ ∀ s, s < 48 → m' 8 s = m 8 s
theorem FP.tr {r r' r'' m m' m'' : mj_m} (h : FP r r' m m') (h' : FP r' r'' m' m'') : FP r r'' m m'' := ⟨h'.1.trans h.1, h'.2.1.trans h.2.1, fun k a b => (h'.2.2.1 k a b).trans (h.2.2.1 k a b), fun s a => (h'.2.2.2.1 s a).trans (h.2.2.2.1 s a), fun s a => (h'.2.2.2.2 s a).trans (h.2.2.2.2 s a)⟩
theorem FP.ft {r r' m m' : mj_m} (h : FT r r' m m') : FP r r' m m' := ⟨h.1 0 (by decide), by rw [h.1 3 (by decide)], fun k a _ => h.2.2.1 k a, fun s a => h.2.2.2 s (by omega), fun s _ => by rw [h.2.2.1 8 (by decide)]⟩
theorem FP.m8 {r m : mj_m} {s : Nat} (hs : 48 ≤ s) (x : Int32) : FP r r m (mj_wrs m 8 s x) := ⟨rfl, rfl, fun k _ k8 => wr_row _ _ _ _ _ k8, fun t _ => wr_e (Or.inl (by decide)), fun t ht => wr_e (Or.inr (by omega))⟩
theorem tokS {c q : Nat} {r m : mj_m} (hc : c ≤ 400) (h : S0 c r m q) : ∃ r' m' : mj_m, f_X5_nextToken r = some r' ∧ f_X11_reads m = some m' ∧ SR c r' m' q ∧ FT r r' m m' := by
  obtain ⟨s1, s2, ⟨a, a1, a2, a3⟩, ⟨d1, d2, d3⟩, s5, s6⟩ := h
  obtain ⟨r', m', b, a', t1, t2, t3, t4, t5, t6, t7, t8, t9, t10⟩ := tokE hc s1 s2 a1 a2 a3
  refine ⟨r', m', t1, t2, ⟨⟨t10.rd s1, by rw [t10.2.2.1 7 (by decide), s2], ⟨a', t4, t7, t8⟩, ⟨by rw [t10.1 3 (by decide), d1], d2, fun i hi => ?_⟩, by rw [t10.2.1 3 (by decide), s5], by rw [t10.2.1 4 (by decide), s6]⟩, by rw [t5, t6], t9⟩, t10⟩
  rw [t10.1 4 (by decide), t10.1 5 (by decide), t10.2.2.1 8 (by decide)]
  exact d3 i hi
theorem S0.m8 {c q s : Nat} {r m : mj_m} (h : S0 c r m q) (hs : 48 + 2 * q ≤ s) (x : Int32) : S0 c r (mj_wrs m 8 s x) q := by
  obtain ⟨s1, s2, ⟨a, a1, a2, a3⟩, ⟨d1, d2, d3⟩, s5, s6⟩ := h
  refine ⟨⟨s1.1, by rw [wr_e (Or.inl (by decide)), s1.2.1], fun i hi => ?_⟩, by rw [wr_row _ _ _ _ _ (by decide), s2], ⟨a, a1, a2, by rw [wr_e (Or.inl (by decide)), a3]⟩, ⟨d1, d2, fun i hi => ?_⟩, s5, s6⟩
  · rw [wr_row _ _ _ _ _ (by decide)]
    exact s1.2.2 i hi
  · rw [wr_e (Or.inr (by omega)), wr_e (Or.inr (by omega))]
    exact d3 i hi
def EF (r r' m m' : mj_m) : Prop := r' 1 3 ≠ 0 ∧ r' 1 3 = m' 0 15 ∧ r' 1 4 = m' 0 16 ∧ FP r r' m m'
theorem EF.tr {r r' r'' m m' m'' : mj_m} (h : FP r r' m m') (h' : EF r' r'' m' m'') : EF r r'' m m'' := ⟨h'.1, h'.2.1, h'.2.2.1, h.tr h'.2.2.2⟩
theorem errE {r m : mj_m} (h : r 1 6 = m 0 11) {F : Int32} (hF : F ≠ 0) : ∃ r' m' : mj_m, f_X5_noteFault F r = r' ∧ f_X11_errs F m = (-1, m') ∧ EF r r' m m' := by
  refine ⟨_, _, rfl, rfl, ?_⟩
  have e1 : f_X5_noteFault F r = mj_wrs (mj_wrs r 1 3 F) 1 4 (r 1 6) := by
    unfold f_X5_noteFault
    rw [lts, lts, wr_e (Or.inr (by decide))]
  show EF r (f_X5_noteFault F r) m (mj_wrs (mj_wrs m 0 15 F) 0 16 (mj_wrs m 0 15 F 0 11))
  rw [e1]
  refine ⟨?_, ?_, ?_, ?_, ?_, fun k k0 _ => ?_, fun s hs => ?_, fun s _ => ?_⟩
  · rw [wr_e (Or.inr (by decide)), rs]
    exact hF
  · rw [wr_e (Or.inr (by decide)), rs, wr_e (Or.inr (by decide)), rs]
  · rw [rs, rs, wr_e (Or.inr (by decide)), h]
  · rw [wr_row _ _ _ _ _ (by decide), wr_row _ _ _ _ _ (by decide)]
  · rw [wr_e (Or.inl (by decide)), wr_e (Or.inl (by decide))]
  · rw [wr_row _ _ _ _ _ k0, wr_row _ _ _ _ _ k0]
  · rw [wr_e (Or.inr (by omega)), wr_e (Or.inr (by omega))]
  · rw [wr_e (Or.inl (by decide)), wr_e (Or.inl (by decide))]
theorem p2e (x : Int32) (m : mj_m) : mj_p2 (x, m) (fun a b => some (a, b)) = some (x, m) := rfl
def LOK (c q : Nat) (A : Option mj_m) (B : Option (Int32 × mj_m)) (r m : mj_m) : Prop := (∃ r' m' : mj_m, A = some r' ∧ B = some (-1, m') ∧ EF r r' m m') ∨ ∃ r' r'' m' : mj_m, A = some r' ∧ r' 1 3 = 0 ∧ f_X5_nextToken r' = some r'' ∧ B = some (0, m') ∧ SR c r'' m' (q + 1) ∧ FP r r'' m m'
theorem LOK.tr {c q : Nat} {A : Option mj_m} {B : Option (Int32 × mj_m)} {r r' m m' : mj_m} (h : FP r r' m m') (h' : LOK c q A B r' m') : LOK c q A B r m := by
  rcases h' with ⟨x, y, a, b, e⟩ | ⟨x, y, z, a, b, e, f, g, k⟩
  · exact Or.inl ⟨x, y, a, b, EF.tr h e⟩
  · exact Or.inr ⟨x, y, z, a, b, e, f, g, h.tr k⟩
theorem lendP {c q : Nat} {r m : mj_m} (hc : c ≤ 400) (h : SR c r m q) (hq : q < 24) {x y : Int32} (hx : cn x 12) (h8 : m 8 (48 + 2 * q) = wm x) (h9 : wm x ≤ 5 → y = m 8 (48 + 2 * q + 1)) : LOK c q (f_X5_readLine_J98 x y r) (f_X11_readLine_J114 m) r m := by
  obtain ⟨h0, h6, ht⟩ := h
  have hk : (r 1 5 = 3 ∧ m 0 12 = 4) ∨ (¬ r 1 5 = 3 ∧ ¬ m 0 12 = 4) := by
    rcases ht with ⟨a, b⟩ | ⟨a, b, -⟩ | ⟨a, b, -⟩ | ⟨a, b⟩ | ⟨a, b⟩ <;> rw [a, b] <;> decide
  unfold f_X5_readLine_J98 f_X11_readLine_J114
  rcases hk with ⟨k1, k2⟩ | ⟨k1, k2⟩
  · rw [if_pos k1, if_pos k2]
    obtain ⟨s1, s2, ⟨a, a1, a2, a3⟩, ⟨d1, d2, d3⟩, s5, s6⟩ := h0
    obtain ⟨r1, er1⟩ : ∃ r1, r1 = mj_wrs (mj_wrs (mj_wrs r 4 q x) 5 q y) 3 2 (nI (q + 1)) := ⟨_, rfl⟩
    have ea : f_X4_add 3 x y r = some r1 := by
      unfold f_X4_add
      rw [d1, if_neg (show ¬ (24 : Int32) ≤ nI q from nI_ge (b := 24) hq (by decide)), chk_t (okI hq (by decide)), lts, clI (by omega)]
      have w1 : mj_wrs r (3 + 1) q x 3 2 = nI q := by rw [wr_e (Or.inl (by decide)), d1]
      rw [w1, chk_t (okI hq (by decide)), lts, clI (by omega), lts]
      have w2 : mj_wrs (mj_wrs r (3 + 1) q x) (3 + 2) q y 3 2 = nI q := by rw [wr_e (Or.inl (by decide)), w1]
      rw [w2, nI_1, er1]
    have r1e : r1 1 = r 1 := by rw [er1, wr_row _ _ _ _ _ (by decide), wr_row _ _ _ _ _ (by decide), wr_row _ _ _ _ _ (by decide)]
    have r2e : r1 2 = r 2 := by rw [er1, wr_row _ _ _ _ _ (by decide), wr_row _ _ _ _ _ (by decide), wr_row _ _ _ _ _ (by decide)]
    have r4e : ∀ i, r1 4 i = if i = q then x else r 4 i := fun i => by
      rw [er1, wr_e (Or.inl (by decide)), wr_e (Or.inl (by decide))]
      by_cases z : i = q
      · rw [if_pos z, z, rs]
      · rw [if_neg z, wr_e (Or.inr z)]
    have r5e : ∀ i, r1 5 i = if i = q then y else r 5 i := fun i => by
      rw [er1, wr_e (Or.inl (by decide))]
      by_cases z : i = q
      · rw [if_pos z, z, rs]
      · rw [if_neg z, wr_e (Or.inr z), wr_e (Or.inl (by decide))]
    have S1 : S0 c r1 m (q + 1) := by
      refine ⟨⟨by rw [r1e, s1.1], s1.2.1, fun i hi => by rw [r2e]; exact s1.2.2 i hi⟩, s2, ⟨a, a1, by rw [r1e, a2], a3⟩, ⟨by rw [er1, rs], by omega, fun i hi => ?_⟩, by rw [r1e, s5], by rw [r1e, s6]⟩
      rw [r4e, r5e]
      by_cases z : i = q
      · rw [if_pos z, if_pos z, z]
        exact ⟨hx, h8, fun w => h9 (by rw [← h8]; exact w)⟩
      · rw [if_neg z, if_neg z]
        exact d3 i (by omega)
    obtain ⟨r'', m', t1, t2, t3, t4⟩ := tokS hc S1
    refine Or.inr ⟨r1, r'', m', by rw [ea, b1s], by rw [r1e, s5], t1, by rw [t2, b1s], t3, ?_⟩
    refine FP.tr (m' := m) ⟨?_, ?_, fun _ _ _ => rfl, fun _ _ => rfl, fun _ _ => rfl⟩ (FP.ft t4)
    · rw [er1, wr_row _ _ _ _ _ (by decide), wr_row _ _ _ _ _ (by decide), wr_row _ _ _ _ _ (by decide)]
    · rw [er1, wr_e (Or.inr (by decide)), wr_e (Or.inl (by decide)), wr_e (Or.inl (by decide))]
  · rw [if_neg k1, if_neg k2]
    obtain ⟨r', m', e1, e2, e3⟩ := errE h6 (F := 1) one0
    exact Or.inl ⟨r', m', by rw [e1, lts], by rw [e2, p2e], e3⟩
theorem mo' : ∀ k : Fin 13, (f_X5_mostOf (nI k.1) = -1 ↔ 5 < wm (nI k.1)) ∧ (¬ f_X5_mostOf (nI k.1) = -1 → f_X11_lowOf (wm (nI k.1)) = f_X5_leastOf (nI k.1) ∧ f_X11_highOf (wm (nI k.1)) = f_X5_mostOf (nI k.1)) := by decide +kernel
theorem within_eq (x y z : Int32) : f_X11_isIn x y z = f_X10_isWithin x y z := rfl
theorem lineE {c q : Nat} {r m : mj_m} (hc : c ≤ 400) (h : SR c r m q) : LOK c q (f_X5_readLine r) (f_X11_readLine (nI q) m) r m := by
  obtain ⟨h0, h6, ht⟩ := id h
  have hq : q ≤ 24 := h0.2.2.2.1.2.1
  have h32 : r 3 2 = nI q := h0.2.2.2.1.1
  have hk : (r 1 5 = 1 ∧ m 0 12 = 2 ∧ ∃ k : Nat, k ≤ 12 ∧ r 1 8 = nI k ∧ m 0 13 = wm (nI k)) ∨ (¬ r 1 5 = 1 ∧ ¬ m 0 12 = 2) := by
    rcases ht with ⟨a, b⟩ | z | ⟨a, b, -⟩ | ⟨a, b⟩ | ⟨a, b⟩
    · exact Or.inr (by rw [a, b]; decide)
    · exact Or.inl z
    · exact Or.inr (by rw [a, b]; decide)
    · exact Or.inr (by rw [a, b]; decide)
    · exact Or.inr (by rw [a, b]; decide)
  unfold f_X5_readLine f_X11_readLine
  rcases hk with ⟨k1, k2, k, k3, k4, k5⟩ | ⟨k1, k2⟩
  · rw [if_pos k1, if_pos k2, h32]
    by_cases z : q = 24
    · rw [z, if_neg (show ¬ nI 24 < 24 by decide), if_pos (show nI 24 = 24 from rfl)]
      obtain ⟨r', m', e1, e2, e3⟩ := errE h6 (F := 3) (by decide)
      exact Or.inl ⟨r', m', by rw [e1, lts], by rw [e2, p2e], e3⟩
    · have hq' : q < 24 := by omega
      have ix : (48 : Int32) + 2 * nI q = nI (48 + 2 * q) := by
        rw [show (2 : Int32) * nI q = nI (2 * q) from nI_mul 2 q]
        exact nI_add 48 _
      obtain ⟨mo1, mo2⟩ := mo' ⟨k, by omega⟩
      have mo1 : f_X5_mostOf (nI k) = -1 ↔ 5 < wm (nI k) := mo1
      have mo2 : ¬ f_X5_mostOf (nI k) = -1 → f_X11_lowOf (wm (nI k)) = f_X5_leastOf (nI k) ∧ f_X11_highOf (wm (nI k)) = f_X5_mostOf (nI k) := mo2
      obtain ⟨r1, m1, t1, t2, t3, t4⟩ := tokS hc (h0.m8 (s := 48 + 2 * q) (Nat.le_refl _) (wm (nI k)))
      have fp1 : FP r r1 m m1 := (FP.m8 (by omega) _).tr (FP.ft t4)
      have m1q : m1 8 (48 + 2 * q) = wm (nI k) := by rw [t4.2.2.1 8 (by decide), rs]
      rw [if_pos (show nI q < 24 from nI_lt (b := 24) hq' (by decide)), if_neg (show ¬ nI q = 24 from fun w => by
        have := (nI_eq (b := 24) (by omega) (by decide)).mp w
        omega), k4, k5, ix, lts, lts, chk_t (okI (by omega) (by decide)), clI (by omega), lts, t1, t2, b1s, b1s, lts]
      by_cases y : f_X5_mostOf (nI k) = -1
      · rw [if_pos y, if_pos (mo1.mp y)]
        refine LOK.tr fp1 (lendP hc t3 hq' (cn_mk k3 (by decide)) m1q (fun w => ?_))
        exact absurd (mo1.mp y) (Int32.not_lt.mpr w)
      · obtain ⟨lo, hi⟩ := mo2 y
        rw [if_neg y, if_neg (fun w => y (mo1.mpr w))]
        obtain ⟨p0, p6, pt⟩ := id t3
        have hk2 : (r1 1 5 = 2 ∧ m1 0 12 = 3 ∧ ∃ V : Nat, V < 10000 ∧ r1 1 8 = nI V ∧ m1 0 13 = nI V) ∨ (¬ r1 1 5 = 2 ∧ ¬ m1 0 12 = 3) := by
          rcases pt with ⟨a, b⟩ | ⟨a, b, -⟩ | z | ⟨a, b⟩ | ⟨a, b⟩
          · exact Or.inr (by rw [a, b]; decide)
          · exact Or.inr (by rw [a, b]; decide)
          · exact Or.inl z
          · exact Or.inr (by rw [a, b]; decide)
          · exact Or.inr (by rw [a, b]; decide)
        rcases hk2 with ⟨v1, v2, V, v3, v4, v5⟩ | ⟨v1, v2⟩
        · rw [if_pos v1, if_pos v2]
          simp only [lts]
          rw [lo, hi, within_eq, v4, v5]
          by_cases w : f_X10_isWithin (nI V) (f_X5_leastOf (nI k)) (f_X5_mostOf (nI k)) = 0
          · rw [if_pos w, if_pos w]
            obtain ⟨r', m', e1, e2, e3⟩ := errE p6 (F := 2) (by decide)
            exact Or.inl ⟨r', m', by rw [e1], by rw [e2, p2e], EF.tr fp1 e3⟩
          · rw [if_neg w, if_neg w, nI_1, chk_t (okI (by omega) (by decide)), clI (by omega)]
            obtain ⟨r2, m2, u1, u2, u3, u4⟩ := tokS hc (p0.m8 (s := 48 + 2 * q + 1) (by omega) (nI V))
            have fp2 : FP r r2 m m2 := fp1.tr ((FP.m8 (by omega) _).tr (FP.ft u4))
            rw [u1, u2, b1s, b1s]
            refine LOK.tr fp2 (lendP hc u3 hq' (cn_mk k3 (by decide)) ?_ (fun _ => ?_))
            · rw [u4.2.2.1 8 (by decide), wr_e (Or.inr (by omega)), m1q]
            · rw [u4.2.2.1 8 (by decide), rs]
        · rw [if_neg v1, if_neg v2]
          obtain ⟨r', m', e1, e2, e3⟩ := errE p6 (F := 1) one0
          exact Or.inl ⟨r', m', by rw [e1, lts], by rw [e2, p2e], EF.tr fp1 e3⟩
  · rw [if_neg k1, if_neg k2]
    obtain ⟨r', m', e1, e2, e3⟩ := errE h6 (F := 1) one0
    exact Or.inl ⟨r', m', by rw [e1, lts], by rw [e2, p2e], e3⟩
