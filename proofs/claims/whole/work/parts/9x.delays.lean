/-! delays -/
theorem LG_of {l m : mj_m} {e v : Nat} (h : I_led l (m 1) e v) : ∃ K : Nat, K ≤ 100 ∧ l 3 2 = nI K ∧ f_X11_ledgerMany m = nI K ∧ K ≤ mj_cl (m 1 40) := by
  have hm := lmany h
  obtain ⟨-, d2, -, d4, -⟩ := h
  obtain ⟨E, hE, eE, cE⟩ := cn_i d2
  by_cases q : E < 100
  · refine ⟨E, by omega, ?_, ?_, by omega⟩
    · rw [d4, cE, if_pos q, eE]
    · rw [hm, d4, cE, if_pos q, eE]
  · refine ⟨100, by omega, ?_, ?_, by omega⟩
    · rw [d4, cE, if_neg q]
      rfl
    · rw [hm, d4, cE, if_neg q]
      rfl
theorem cellE {l : mj_m} {K i w : Nat} (hK : K ≤ 100) (h2 : l 3 2 = nI K) (hi : i < K) (hw : w < 7) : f_X2_cell (nI i) (nI w) l = some (l 4 (7 * i + w)) := by
  unfold f_X2_cell f_X2_has
  rw [lts, h2, if_neg (nI_pos (by omega)), if_neg (nI_ge hi (by omega)), if_neg (show ¬ (100 : Int32) ≤ nI i from nI_ge (b := 100) (by omega) (by decide)), if_neg one0, if_neg (nI_pos (by omega)), if_pos (show nI w < 7 from nI_lt (b := 7) hw (by decide)), show nI i * 7 = nI (i * 7) from nI_mul i 7, nI_add, chk_t (okI (by omega) (by decide)), clI (by omega), show i * 7 + w = 7 * i + w by omega]
theorem ofE {m : mj_m} {i w : Nat} (hi : i < 100) (hw : w < 8) : f_X11_ledgerOf (nI i) (nI w) m = some (m 1 (1097 + 8 * i + w)) := by
  unfold f_X11_ledgerOf f_X11_ledgerAt
  rw [lts, show (8 : Int32) * nI i = nI (8 * i) from nI_mul 8 i, show (1097 : Int32) + nI (8 * i) = nI (1097 + 8 * i) from nI_add 1097 _, nI_add, chk_t (okI (by omega) (by decide)), clI (by omega)]
def dW (m : mj_m) (i : Nat) : Int32 := m 1 (1097 + 8 * i + 5) - 1 - m 1 (1097 + 8 * i + 1)
theorem delG {m : mj_m} {a : Int32} {K : Nat} {g : Nat → Int32 → Int32 → Option Int32} {F : Nat → Int32 → Int32} {D : Nat → Prop} {R : Int32 → Int32 → Int32 → Int32 → Prop} (hK : K ≤ 100) (hm : f_X11_ledgerMany m = nI K) (hg0 : ∀ n x, g (n + 1) x (nI K) = some x) (hg1 : ∀ n x i, i < K → g (n + 1) x (nI i) = g n (F i x) (nI (i + 1))) (hd1 : ∀ i, i < K → D i → f_X11_isDelayed (nI i) a m = some 1) (hd0 : ∀ i, i < K → ¬ D i → f_X11_isDelayed (nI i) a m = some 0) (hR1 : ∀ i x c s w, i < K → D i → R x c s w → R (F i x) (c + 1) (s + dW m i) (if dW m i ≤ w then w else dW m i)) (hR0 : ∀ i x c s w, i < K → ¬ D i → R x c s w → R (F i x) c s w) : ∀ (k i n n' : Nat) (x c s w : Int32), i + k = K → k < n → k < n' → R x c s w → ∃ x' c' s' w', g n x (nI i) = some x' ∧ f_X11_delays_L28 a n' c s w (nI i) m = some (c', s', w') ∧ R x' c' s' w' := by
  intro k
  induction k with
  | zero =>
    intro i n n' x c s w hi hn hn' h
    obtain ⟨n, rfl⟩ : ∃ k, n = k + 1 := ⟨n - 1, by omega⟩
    obtain ⟨n', rfl⟩ : ∃ k, n' = k + 1 := ⟨n' - 1, by omega⟩
    have iK : i = K := by omega
    subst iK
    refine ⟨x, c, s, w, hg0 n x, ?_, h⟩
    rw [f_X11_delays_L28, lts, hm, if_pos (nI_le (Nat.le_refl _) (by omega))]
  | succ k ih =>
    intro i n n' x c s w hi hn hn' h
    obtain ⟨n, rfl⟩ : ∃ k, n = k + 1 := ⟨n - 1, by omega⟩
    obtain ⟨n', rfl⟩ : ∃ k, n' = k + 1 := ⟨n' - 1, by omega⟩
    have iK : i < K := by omega
    rw [hg1 n x i iK, f_X11_delays_L28, lts, hm, if_neg (nI_ge iK (by omega))]
    by_cases z : D i
    · rw [hd1 i iK z, b1s, if_neg one0, show f_X11_ledgerOf (nI i) 5 m = _ from ofE (i := i) (w := 5) (by omega) (by decide), b1s, show f_X11_ledgerOf (nI i) 1 m = _ from ofE (i := i) (w := 1) (by omega) (by decide), b1s, lts, lts, lts, nI_1, lts, lts]
      have h' := hR1 i x c s w iK z h
      unfold dW at h'
      by_cases y : m 1 (1097 + 8 * i + 5) - 1 - m 1 (1097 + 8 * i + 1) ≤ w
      · rw [if_pos y] at h' ⊢
        exact ih (i + 1) n n' _ _ _ _ (by omega) (by omega) (by omega) h'
      · rw [if_neg y] at h' ⊢
        exact ih (i + 1) n n' _ _ _ _ (by omega) (by omega) (by omega) h'
    · rw [hd0 i iK z, b1s, if_pos rfl, lts, nI_1]
      exact ih (i + 1) n n' _ _ _ _ (by omega) (by omega) (by omega) (hR0 i x c s w iK z h)
theorem reachP {l m : mj_m} {a : Int32} {K w B v : Nat} (hK : K ≤ 100) (h2 : l 3 2 = nI K) (hm : f_X11_ledgerMany m = nI K) (hw : w < 7) (hB : B ≤ 2) (hv : v < 2 ^ 30) (hc : ∀ i, i < K → l 4 (7 * i + w) = m 1 (1097 + 8 * i + w) ∧ cn (m 1 (1097 + 8 * i + w)) v) (hd1 : ∀ i, i < K → B ≤ mj_cl (m 1 (1097 + 8 * i + w)) → f_X11_isDelayed (nI i) a m = some 1) (hd0 : ∀ i, i < K → ¬ B ≤ mj_cl (m 1 (1097 + 8 * i + w)) → f_X11_isDelayed (nI i) a m = some 0) : ∃ x s y : Int32, f_X2_howManyReach (nI w) (nI B) l = some x ∧ f_X11_delays_L28 a mj_fu 0 0 (-1) 0 m = some (x, s, y) := by
  obtain ⟨x, c, s, y, e1, e2, e3⟩ := delG (g := fun n x i => f_X2_howManyReach_L5 (nI w) (nI B) n x i l) (F := fun i x => if B ≤ mj_cl (m 1 (1097 + 8 * i + w)) then x + 1 else x) (D := fun i => B ≤ mj_cl (m 1 (1097 + 8 * i + w))) (R := fun x c _ _ => x = c) hK hm (fun n x => by
    show f_X2_howManyReach_L5 (nI w) (nI B) (n + 1) x (nI K) l = some x
    rw [f_X2_howManyReach_L5, h2, if_pos (nI_le (Nat.le_refl _) (by omega))]) (fun n x i hi => by
    show f_X2_howManyReach_L5 (nI w) (nI B) (n + 1) x (nI i) l = f_X2_howManyReach_L5 (nI w) (nI B) n _ (nI (i + 1)) l
    obtain ⟨q1, q2⟩ := hc i hi
    obtain ⟨c, hcv, ec, cc⟩ := cn_i q2
    rw [f_X2_howManyReach_L5, h2, if_neg (nI_ge hi (by omega)), cellE hK h2 hi hw, b1s, q1, cc, ec]
    by_cases z : B ≤ c
    · rw [if_neg (nI_nlt z (by omega)), if_pos z, lts, lts, nI_1]
    · rw [if_pos (nI_lt (by omega) (by omega)), if_neg z, lts, nI_1]) hd1 hd0 (fun i x c s w hi hD e => by
    show (if _ then x + 1 else x) = c + 1
    rw [if_pos hD]
    exact congrArg (· + 1) e) (fun i x c s w hi hD e => by
    show (if _ then x + 1 else x) = c
    rw [if_neg hD]
    exact e) K 0 mj_fu mj_fu 0 0 0 (-1) (by omega) (by unfold mj_fu; omega) (by unfold mj_fu; omega) rfl
  refine ⟨x, s, y, ?_, ?_⟩
  · unfold f_X2_howManyReach
    have e1' : f_X2_howManyReach_L5 (nI w) (nI B) mj_fu 0 0 l = some x := e1
    rw [e1', b1s]
  · rw [e3]
    exact e2
theorem vanP {l m : mj_m} {K : Nat} (hK : K ≤ 100) (h2 : l 3 2 = nI K) (hm : f_X11_ledgerMany m = nI K) (hc : ∀ i, i < K → l 4 (7 * i + 4) = m 1 (1097 + 8 * i + 4) ∧ l 4 (7 * i + 6) = m 1 (1097 + 8 * i + 6)) : ∃ x s y : Int32, f_X2_howManyVanished l = some x ∧ f_X11_delays_L28 4 mj_fu 0 0 (-1) 0 m = some (x, s, y) := by
  obtain ⟨x, c, s, y, e1, e2, e3⟩ := delG (a := 4) (g := fun n x i => f_X2_howManyVanished_L4 n x i l) (F := fun i x => if m 1 (1097 + 8 * i + 4) = 0 ∧ m 1 (1097 + 8 * i + 6) = 2 then x + 1 else x) (D := fun i => m 1 (1097 + 8 * i + 4) = 0 ∧ m 1 (1097 + 8 * i + 6) = 2) (R := fun x c _ _ => x = c) hK hm (fun n x => by
    show f_X2_howManyVanished_L4 (n + 1) x (nI K) l = some x
    rw [f_X2_howManyVanished_L4, h2, if_pos (nI_le (Nat.le_refl _) (by omega))]) (fun n x i hi => by
    show f_X2_howManyVanished_L4 (n + 1) x (nI i) l = f_X2_howManyVanished_L4 n _ (nI (i + 1)) l
    obtain ⟨q1, q2⟩ := hc i hi
    rw [f_X2_howManyVanished_L4, h2, if_neg (nI_ge hi (by omega)), show f_X2_cell (nI i) 6 l = _ from cellE (w := 6) hK h2 hi (by decide), b1s, q2, show f_X2_cell (nI i) 4 l = _ from cellE (w := 4) hK h2 hi (by decide), b1s, q1]
    by_cases z : m 1 (1097 + 8 * i + 6) = 2
    · rw [if_pos z]
      by_cases y : m 1 (1097 + 8 * i + 4) = 0
      · rw [if_pos y, if_pos ⟨y, z⟩, lts, lts, nI_1]
      · rw [if_neg y, if_neg (fun q => y q.1), lts, nI_1]
    · rw [if_neg z, if_neg (fun q => z q.2), lts, nI_1]) (fun i hi hD => by
    unfold f_X11_isDelayed
    rw [show f_X11_ledgerOf (nI i) 4 m = _ from ofE (i := i) (w := 4) (by omega) (by decide), b1s, if_neg (by decide), if_pos rfl, if_pos hD.1, show f_X11_ledgerOf (nI i) 6 m = _ from ofE (i := i) (w := 6) (by omega) (by decide), b1s, if_pos hD.2]) (fun i hi hD => by
    unfold f_X11_isDelayed
    rw [show f_X11_ledgerOf (nI i) 4 m = _ from ofE (i := i) (w := 4) (by omega) (by decide), b1s, if_neg (by decide), if_pos rfl]
    by_cases z : m 1 (1097 + 8 * i + 4) = 0
    · rw [if_pos z, show f_X11_ledgerOf (nI i) 6 m = _ from ofE (i := i) (w := 6) (by omega) (by decide), b1s, if_neg (fun q => hD ⟨z, q⟩)]
    · rw [if_neg z]) (fun i x c s w hi hD e => by
    show (if _ then x + 1 else x) = c + 1
    rw [if_pos hD]
    exact congrArg (· + 1) e) (fun i x c s w hi hD e => by
    show (if _ then x + 1 else x) = c
    rw [if_neg hD]
    exact e) K 0 mj_fu mj_fu 0 0 0 (-1) (by omega) (by unfold mj_fu; omega) (by unfold mj_fu; omega) rfl
  refine ⟨x, s, y, ?_, ?_⟩
  · unfold f_X2_howManyVanished
    have e1' : f_X2_howManyVanished_L4 mj_fu 0 0 l = some x := e1
    rw [e1', b1s]
  · rw [e3]
    exact e2
def WT (l m : mj_m) (i : Nat) : Prop := (m 1 (1097 + 8 * i + 4) = 0 ∧ f_X2_waitOf (nI i) l = some (-1)) ∨ (m 1 (1097 + 8 * i + 4) ≠ 0 ∧ f_X2_waitOf (nI i) l = some (dW m i) ∧ (0 : Int32) ≤ dW m i)
theorem waitE {l m : mj_m} {K t v i : Nat} (hK : K ≤ 100) (h2 : l 3 2 = nI K) (ht : t < 2 ^ 30) (hi : i < K) (h : I_ll l (m 1) t v i) : WT l m i := by
  obtain ⟨q0, q1, q2, q3, q4, q5, q6, q7, q8, q9, q10, q11⟩ := h
  unfold WT f_X2_waitOf
  rw [show f_X2_cell (nI i) 5 l = _ from cellE (w := 5) hK h2 hi (by decide), b1s, show f_X2_cell (nI i) 1 l = _ from cellE (w := 1) hK h2 hi (by decide), b1s, q5, q1]
  by_cases z : m 1 (1097 + 8 * i + 4) = 0
  · left
    refine ⟨z, ?_⟩
    rw [q10 z, if_pos (by decide)]
  · right
    obtain ⟨r1, r2, -⟩ := q11 z
    obtain ⟨p, hp, ep, cp⟩ := cn_i r1
    obtain ⟨o, ho, eo, co⟩ := cn_i q7
    rw [cp, co] at r2
    unfold dW
    have e1 : nI p - 1 = nI (p - 1) := nI_sub (b := 1) (by omega)
    rw [ep, eo, e1]
    have n1 : ¬ nI (p - 1) = -1 := fun z => by
      have : (0 : Int32) ≤ nI (p - 1) := nI_pos' (by omega)
      rw [z] at this
      exact absurd this (by decide)
    refine ⟨z, by rw [if_neg n1], ?_⟩
    rw [nI_sub (by omega)]
    exact nI_pos' (by omega)
theorem dlv {m : mj_m} {i : Nat} {a : Int32} (hi : i < 100) (h3 : a ≠ 3) (h4 : a ≠ 4) (h5 : a ≠ 5) (h6 : a ≠ 6) : f_X11_isDelayed (nI i) a m = if m 1 (1097 + 8 * i + 4) ≤ 0 then some 0 else some 1 := by
  unfold f_X11_isDelayed
  rw [show f_X11_ledgerOf (nI i) 4 m = _ from ofE (i := i) (w := 4) (by omega) (by decide), b1s, if_neg h3, if_neg h4, if_neg h5, if_neg h6]
theorem longP {l m : mj_m} {K v : Nat} (hK : K ≤ 100) (h2 : l 3 2 = nI K) (hm : f_X11_ledgerMany m = nI K) (hv : v < 2 ^ 30) (hc : ∀ i, i < K → WT l m i ∧ cn (m 1 (1097 + 8 * i + 4)) v) : ∃ x s y : Int32, f_X2_longestWait l = some y ∧ f_X11_delays_L28 1 mj_fu 0 0 (-1) 0 m = some (x, s, y) := by
  obtain ⟨x, c, s, y, e1, e2, e3, -⟩ := delG (a := 1) (g := fun n x i => f_X2_longestWait_L4 n x i l) (F := fun i x => if m 1 (1097 + 8 * i + 4) ≠ 0 then (if x < dW m i then dW m i else x) else (if x < -1 then -1 else x)) (D := fun i => m 1 (1097 + 8 * i + 4) ≠ 0) (R := fun x _ _ w => x = w ∧ -1 ≤ x) hK hm (fun n x => by
    show f_X2_longestWait_L4 (n + 1) x (nI K) l = some x
    rw [f_X2_longestWait_L4, h2, if_pos (nI_le (Nat.le_refl _) (by omega))]) (fun n x i hi => by
    show f_X2_longestWait_L4 (n + 1) x (nI i) l = f_X2_longestWait_L4 n _ (nI (i + 1)) l
    rw [f_X2_longestWait_L4, h2, if_neg (nI_ge hi (by omega))]
    rcases (hc i hi).1 with ⟨z1, z2⟩ | ⟨z1, z2, z3⟩
    · rw [z2, b1s, lts, lts, nI_1, if_neg (show ¬ (m 1 (1097 + 8 * i + 4) ≠ 0) from fun q => q z1)]
    · rw [z2, b1s, lts, lts, nI_1, if_pos z1]) (fun i hi hD => by
    obtain ⟨c, hcv, ec, cc⟩ := cn_i (hc i hi).2
    have hD' : m 1 (1097 + 8 * i + 4) ≠ 0 := hD
    rw [ec] at hD'
    have c0 : c ≠ 0 := fun q => hD' (by rw [q]; rfl)
    rw [dlv (by omega) (by decide) (by decide) (by decide) (by decide), ec, if_neg (nI_nle (by omega) (by omega))]) (fun i hi hD => by
    have hD' : m 1 (1097 + 8 * i + 4) = 0 := Decidable.not_not.mp hD
    rw [dlv (by omega) (by decide) (by decide) (by decide) (by decide), hD', if_pos (by decide)]) (fun i x c s w hi hD e => by
    obtain ⟨ea, eb⟩ := e
    subst ea
    have z3 : (0 : Int32) ≤ dW m i := by
      rcases (hc i hi).1 with ⟨z1, -⟩ | ⟨-, -, z3⟩
      · exact absurd z1 hD
      · exact z3
    show (if _ then (if x < dW m i then dW m i else x) else _) = (if dW m i ≤ x then x else dW m i) ∧ -1 ≤ (if _ then (if x < dW m i then dW m i else x) else _)
    rw [if_pos hD]
    by_cases z : dW m i ≤ x
    · rw [if_pos z, if_neg (Int32.not_lt.mpr z)]
      exact ⟨rfl, eb⟩
    · rw [if_neg z, if_pos (Int32.not_le.mp z)]
      exact ⟨rfl, Int32.le_trans (by decide) z3⟩) (fun i x c s w hi hD e => by
    obtain ⟨ea, eb⟩ := e
    subst ea
    show (if _ then _ else (if x < -1 then -1 else x)) = x ∧ -1 ≤ (if _ then _ else (if x < -1 then -1 else x))
    rw [if_neg hD, if_neg (Int32.not_lt.mpr eb)]
    exact ⟨rfl, eb⟩) K 0 mj_fu mj_fu (-1) 0 0 (-1) (by omega) (by unfold mj_fu; omega) (by unfold mj_fu; omega) ⟨rfl, by decide⟩
  refine ⟨c, s, y, ?_, e2⟩
  unfold f_X2_longestWait
  have e1' : f_X2_longestWait_L4 mj_fu (-1) 0 l = some x := e1
  rw [e1', b1s, e3]
theorem allP {l m : mj_m} {K v : Nat} (hK : K ≤ 100) (h2 : l 3 2 = nI K) (hm : f_X11_ledgerMany m = nI K) (hv : v < 2 ^ 30) (hc : ∀ i, i < K → WT l m i ∧ cn (m 1 (1097 + 8 * i + 4)) v) : ∃ x s y : Int32, f_X2_allWaits l = some s ∧ f_X11_delays_L28 2 mj_fu 0 0 (-1) 0 m = some (x, s, y) := by
  obtain ⟨x, c, s, y, e1, e2, e3⟩ := delG (a := 2) (g := fun n x i => f_X2_allWaits_L4 n x i l) (F := fun i x => if m 1 (1097 + 8 * i + 4) ≠ 0 then x + dW m i else x) (D := fun i => m 1 (1097 + 8 * i + 4) ≠ 0) (R := fun x _ s _ => x = s) hK hm (fun n x => by
    show f_X2_allWaits_L4 (n + 1) x (nI K) l = some x
    rw [f_X2_allWaits_L4, h2, if_pos (nI_le (Nat.le_refl _) (by omega))]) (fun n x i hi => by
    show f_X2_allWaits_L4 (n + 1) x (nI i) l = f_X2_allWaits_L4 n _ (nI (i + 1)) l
    rw [f_X2_allWaits_L4, h2, if_neg (nI_ge hi (by omega))]
    rcases (hc i hi).1 with ⟨z1, z2⟩ | ⟨z1, z2, z3⟩
    · rw [z2, b1s, lts, lts, nI_1, if_neg (show ¬ (m 1 (1097 + 8 * i + 4) ≠ 0) from fun q => q z1), if_neg (by decide), Int32.add_zero]
    · rw [z2, b1s, lts, lts, nI_1, if_pos z1]
      by_cases z : 0 < dW m i
      · rw [if_pos z]
      · rw [if_neg z, show dW m i = 0 from Int32.le_antisymm (Int32.not_lt.mp z) z3]) (fun i hi hD => by
    obtain ⟨c, hcv, ec, cc⟩ := cn_i (hc i hi).2
    have hD' : m 1 (1097 + 8 * i + 4) ≠ 0 := hD
    rw [ec] at hD'
    have c0 : c ≠ 0 := fun q => hD' (by rw [q]; rfl)
    rw [dlv (by omega) (by decide) (by decide) (by decide) (by decide), ec, if_neg (nI_nle (by omega) (by omega))]) (fun i hi hD => by
    have hD' : m 1 (1097 + 8 * i + 4) = 0 := Decidable.not_not.mp hD
    rw [dlv (by omega) (by decide) (by decide) (by decide) (by decide), hD', if_pos (by decide)]) (fun i x c s w hi hD e => by
    show (if _ then x + dW m i else x) = s + dW m i
    rw [if_pos hD]
    exact congrArg (· + dW m i) e) (fun i x c s w hi hD e => by
    show (if _ then x + dW m i else x) = s
    rw [if_neg hD]
    exact e) K 0 mj_fu mj_fu 0 0 0 (-1) (by omega) (by unfold mj_fu; omega) (by unfold mj_fu; omega) rfl
  refine ⟨c, s, y, ?_, e2⟩
  unfold f_X2_allWaits
  have e1' : f_X2_allWaits_L4 mj_fu 0 0 l = some x := e1
  rw [e1', b1s, e3]
