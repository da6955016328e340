/-! delays(5) -/
def dl (m : mj_m) (i : Nat) : Prop := m 1 (1097 + 8 * i + 4) ≠ 0
def t7 (m : mj_m) (i : Nat) : Nat := mj_cl (m 1 (1097 + 8 * i + 7))
def D5 (m : mj_m) (K i : Nat) : Prop := dl m i ∧ ∃ b, i < b ∧ b < K ∧ dl m b ∧ t7 m b < t7 m i
def T7 (m : mj_m) (K v : Nat) : Prop := ∀ i, i < K → cn (m 1 (1097 + 8 * i + 4)) v ∧ (dl m i → m 1 (1097 + 8 * i + 7) = nI (t7 m i) ∧ t7 m i ≤ v)
theorem behL {m : mj_m} {K v i : Nat} (hK : K ≤ 100) (hm : f_X11_ledgerMany m = nI K) (hv : v < 2 ^ 30) (hT : T7 m K v) (hi : i < K) (hdi : dl m i) : ∀ (k j n : Nat), j + k = K → k < n → ∃ t : Nat, f_X11_isBehindLater_L4 (nI i) n (nI j) m = some t ∧ (t = 38 ↔ ∃ b, j ≤ b ∧ b < K ∧ dl m b ∧ t7 m b < t7 m i) := by
  intro k
  induction k with
  | zero =>
    intro j n hj hn
    obtain ⟨n, rfl⟩ : ∃ k, n = k + 1 := ⟨n - 1, by omega⟩
    refine ⟨46, ?_, ⟨fun z => by omega, fun ⟨b, b1, b2, _⟩ => by omega⟩⟩
    rw [f_X11_isBehindLater_L4, lts, hm, if_pos (nI_le (by omega) (by omega))]
  | succ k ih =>
    intro j n hj hn
    obtain ⟨n, rfl⟩ : ∃ k, n = k + 1 := ⟨n - 1, by omega⟩
    obtain ⟨t, a1, a2⟩ := ih (j + 1) n (by omega) (by omega)
    have jK : j < K := by omega
    obtain ⟨c, hc, ec, cc⟩ := cn_i (hT j jK).1
    rw [f_X11_isBehindLater_L4, lts, hm, if_neg (nI_ge jK (by omega)), show f_X11_ledgerOf (nI j) 4 m = _ from ofE (i := j) (w := 4) (by omega) (by decide), b1s]
    by_cases z : dl m j
    · have c0 : c ≠ 0 := fun q => z (by rw [ec, q]; rfl)
      obtain ⟨y1, y2⟩ := (hT j jK).2 z
      obtain ⟨x1, x2⟩ := (hT i hi).2 hdi
      rw [ec, if_neg (nI_nle (by omega) (by omega)), show f_X11_ledgerOf (nI j) 7 m = _ from ofE (i := j) (w := 7) (by omega) (by decide), b1s, show f_X11_ledgerOf (nI i) 7 m = _ from ofE (i := i) (w := 7) (by omega) (by decide), b1s, y1, x1]
      by_cases w : t7 m i ≤ t7 m j
      · refine ⟨t, ?_, a2.trans ⟨fun ⟨b, b1, b2, b3, b4⟩ => ⟨b, by omega, b2, b3, b4⟩, fun ⟨b, b1, b2, b3, b4⟩ => ?_⟩⟩
        · rw [if_pos (nI_le w (by omega)), lts, nI_1]
          exact a1
        · by_cases q : b = j
          · rw [q] at b4
            omega
          · exact ⟨b, by omega, b2, b3, b4⟩
      · refine ⟨38, ?_, ⟨fun _ => ⟨j, Nat.le_refl _, jK, z, by omega⟩, fun _ => rfl⟩⟩
        rw [if_neg (nI_ge (by omega) (by omega))]
    · have z0 : m 1 (1097 + 8 * j + 4) = 0 := Decidable.not_not.mp z
      refine ⟨t, ?_, a2.trans ⟨fun ⟨b, b1, b2, b3, b4⟩ => ⟨b, by omega, b2, b3, b4⟩, fun ⟨b, b1, b2, b3, b4⟩ => ?_⟩⟩
      · rw [z0, if_pos (by decide), lts, nI_1]
        exact a1
      · by_cases q : b = j
        · rw [q] at b3
          exact absurd b3 z
        · exact ⟨b, by omega, b2, b3, b4⟩
theorem dly5 {m : mj_m} {K v i : Nat} (hK : K ≤ 100) (hm : f_X11_ledgerMany m = nI K) (hv : v < 2 ^ 30) (hT : T7 m K v) (hi : i < K) : (D5 m K i ∧ f_X11_isDelayed (nI i) 5 m = some 1) ∨ (¬ D5 m K i ∧ f_X11_isDelayed (nI i) 5 m = some 0) := by
  obtain ⟨c, hc, ec, cc⟩ := cn_i (hT i hi).1
  unfold f_X11_isDelayed
  rw [show f_X11_ledgerOf (nI i) 4 m = _ from ofE (i := i) (w := 4) (by omega) (by decide), b1s, if_neg (by decide), if_neg (by decide), if_pos rfl]
  by_cases z : dl m i
  · have c0 : c ≠ 0 := fun q => z (by rw [ec, q]; rfl)
    obtain ⟨t, a1, a2⟩ := behL hK hm hv hT hi z (K - (i + 1)) (i + 1) mj_fu (by omega) (by unfold mj_fu; omega)
    rw [ec, if_neg (nI_nle (by omega) (by omega))]
    unfold f_X11_isBehindLater
    rw [lts, nI_1, a1, b1s]
    by_cases y : t = 38
    · left
      obtain ⟨b, b1, b2, b3, b4⟩ := a2.mp y
      refine ⟨⟨z, b, by omega, b2, b3, b4⟩, ?_⟩
      rw [if_pos y, b1s, if_neg one0]
    · right
      refine ⟨fun q => ?_, ?_⟩
      · obtain ⟨-, b, b1, b2, b3, b4⟩ := q
        exact y (a2.mpr ⟨b, by omega, b2, b3, b4⟩)
      · rw [if_neg y, b1s, if_pos rfl]
  · right
    refine ⟨fun q => z q.1, ?_⟩
    rw [show m 1 (1097 + 8 * i + 4) = 0 from Decidable.not_not.mp z, if_pos (by decide)]
noncomputable def b5 (m : mj_m) (K i : Nat) : Bool := @decide (D5 m K i) (Classical.propDecidable _)
theorem b5_iff {m : mj_m} {K i : Nat} : b5 m K i = true ↔ D5 m K i := @decide_eq_true_iff (D5 m K i) (Classical.propDecidable _)
def cq (D : Nat → Bool) (K : Nat) : Nat → Nat
  | 0 => 0
  | p + 1 => (if D (K - (p + 1)) = true then 1 else 0) + cq D K p
theorem cq_le (D : Nat → Bool) (K p : Nat) : cq D K p ≤ p := by
  induction p with
  | zero => exact Nat.le_refl _
  | succ p ih =>
    unfold cq
    split <;> omega
theorem ref5 {m : mj_m} {K v : Nat} (hK : K ≤ 100) (hm : f_X11_ledgerMany m = nI K) (hv : v < 2 ^ 30) (hT : T7 m K v) : ∃ s y : Int32, f_X11_delays_L28 5 mj_fu 0 0 (-1) 0 m = some (nI (cq (b5 m K) K K), s, y) := by
  obtain ⟨x, c, s, y, e1, e2, e3⟩ := delG (a := 5) (g := fun _ x i => some (x + nI (cq (b5 m K) K (K - mj_cl i)))) (F := fun i x => if b5 m K i = true then x + 1 else x) (D := fun i => b5 m K i = true) (R := fun x c _ _ => x = c) hK hm (fun n x => by
    show some (x + nI (cq (b5 m K) K (K - mj_cl (nI K)))) = some x
    rw [clI (by omega), Nat.sub_self]
    show some (x + nI 0) = some x
    rw [show nI 0 = 0 from rfl, Int32.add_zero]) (fun n x i hi => by
    show some (x + nI (cq (b5 m K) K (K - mj_cl (nI i)))) = some ((if b5 m K i = true then x + 1 else x) + nI (cq (b5 m K) K (K - mj_cl (nI (i + 1)))))
    rw [clI (by omega), clI (by omega), show K - i = (K - (i + 1)) + 1 by omega, cq, show K - (K - (i + 1) + 1) = i by omega]
    by_cases z : b5 m K i = true
    · rw [if_pos z, if_pos z, Nat.add_comm 1, ← nI_1, Int32.add_assoc, Int32.add_comm 1]
    · rw [if_neg z, if_neg z, Nat.zero_add]) (fun i hi hD => by
    rcases dly5 hK hm hv hT hi with ⟨_, z⟩ | ⟨z, _⟩
    · exact z
    · exact absurd (b5_iff.mp hD) z) (fun i hi hD => by
    rcases dly5 hK hm hv hT hi with ⟨z, _⟩ | ⟨_, z⟩
    · exact absurd (b5_iff.mpr z) hD
    · exact z) (fun i x c s w hi hD e => by
    show (if _ then x + 1 else x) = c + 1
    rw [if_pos hD]
    exact congrArg (· + 1) e) (fun i x c s w hi hD e => by
    show (if _ then x + 1 else x) = c
    rw [if_neg hD]
    exact e) K 0 mj_fu mj_fu 0 0 0 (-1) (by omega) (by unfold mj_fu; omega) (by unfold mj_fu; omega) rfl
  have e1' : x = nI (cq (b5 m K) K K) := by
    have q : some ((0 : Int32) + nI (cq (b5 m K) K (K - mj_cl (nI 0)))) = some x := e1
    have q' := Option.some.inj q
    rw [clI (by decide), Nat.sub_zero, Int32.zero_add] at q'
    exact q'.symm
  refine ⟨s, y, ?_⟩
  rw [← e1', e3]
  exact e2
theorem ovL {l m : mj_m} {K v TC : Nat} (hK : K ≤ 100) (h2 : l 3 2 = nI K) (hv : v < 2 ^ 30) (hTC : TC ≤ v) (hT : T7 m K v) (hc : ∀ i, i < K → l 4 (7 * i + 4) = m 1 (1097 + 8 * i + 4)) (h46 : ∀ i, i < K → dl m i → l 46 i = nI (mj_cl (l 46 i)) ∧ mj_cl (l 46 i) < TC) (hor : ∀ a b, a < K → b < K → dl m a → dl m b → (mj_cl (l 46 a) < mj_cl (l 46 b) ↔ t7 m a < t7 m b)) : ∀ (q p n μ : Nat), p + q = K → q < n → (∀ b, K - p ≤ b → b < K → dl m b → μ ≤ mj_cl (l 46 b)) → (μ = TC ∨ ∃ b, K - p ≤ b ∧ b < K ∧ dl m b ∧ μ = mj_cl (l 46 b)) → μ ≤ v → f_X2_howManyOvertaken_L19 n (nI (cq (b5 m K) K p)) (nI μ) (nI (K - p) - 1) l = some (nI (cq (b5 m K) K K)) := by
  intro q
  induction q with
  | zero =>
    intro p n μ hp hn h1 h2' hμ
    obtain ⟨n, rfl⟩ : ∃ k, n = k + 1 := ⟨n - 1, by omega⟩
    have pK : p = K := by omega
    subst pK
    rw [f_X2_howManyOvertaken_L19, Nat.sub_self, if_pos (by decide)]
  | succ q ih =>
    intro p n μ hp hn h1 h2' hμ
    obtain ⟨n, rfl⟩ : ∃ k, n = k + 1 := ⟨n - 1, by omega⟩
    obtain ⟨i, hi⟩ : ∃ i, K - p = i + 1 := ⟨K - p - 1, by omega⟩
    have iK : i < K := by omega
    have ei : K - (p + 1) = i := by omega
    have e1 : nI (K - p) - 1 = nI i := by
      rw [hi]
      exact nI_sub (b := 1) (by omega)
    have e2 : nI i + -1 = nI (K - (p + 1)) - 1 := by
      rw [ei, Int32.sub_eq_add_neg]
    rw [e1, f_X2_howManyOvertaken_L19, if_neg (nI_pos (by omega)), show f_X2_cell (nI i) 4 l = _ from cellE (w := 4) hK h2 iK (by decide), b1s, hc i iK]
    by_cases z : dl m i
    · obtain ⟨y1, y2⟩ := h46 i iK z
      rw [if_neg z, chk_t (okI (by omega) (by decide)), clI (by omega), chk_t (okI (by omega) (by decide)), y1]
      have hmin : (if nI (mj_cl (l 46 i)) < nI μ then nI (mj_cl (l 46 i)) else nI μ) = nI (min (mj_cl (l 46 i)) μ) := by
        by_cases w : mj_cl (l 46 i) < μ
        · rw [if_pos (nI_lt w (by omega)), Nat.min_eq_left (by omega)]
        · rw [if_neg (nI_nlt (by omega) (by omega)), Nat.min_eq_right (by omega)]
      have hD : b5 m K i = true ↔ μ < mj_cl (l 46 i) := by
        rw [b5_iff]
        constructor
        · intro ⟨_, b, b1, b2, b3, b4⟩
          have := (hor b i b2 iK b3 z).mpr b4
          have := h1 b (by omega) b2 b3
          omega
        · intro w
          rcases h2' with w' | ⟨b, b1, b2, b3, b4⟩
          · omega
          · exact ⟨z, b, by omega, b2, b3, (hor b i b2 iK b3 z).mp (by omega)⟩
      have step := ih (p + 1) n (min (mj_cl (l 46 i)) μ) (by omega) (by omega) (fun b b1 b2 b3 => by
        by_cases w : b = i
        · rw [w]
          exact Nat.min_le_left _ _
        · exact Nat.le_trans (Nat.min_le_right _ _) (h1 b (by omega) b2 b3)) (by
        by_cases w : mj_cl (l 46 i) < μ
        · exact Or.inr ⟨i, by omega, iK, z, Nat.min_eq_left (by omega)⟩
        · rw [Nat.min_eq_right (by omega)]
          rcases h2' with w' | ⟨b, b1, b2, b3, b4⟩
          · exact Or.inl w'
          · exact Or.inr ⟨b, by omega, b2, b3, b4⟩) (by omega)
      rw [cq, ei] at step
      by_cases w : mj_cl (l 46 i) ≤ μ
      · rw [if_neg (fun q => by have := hD.mp q; omega), Nat.zero_add] at step
        rw [if_pos (nI_le w (by omega)), hmin, lts, lts, e2, ei]
        exact step
      · rw [if_pos (hD.mpr (by omega)), Nat.add_comm 1] at step
        rw [if_neg (nI_ge (by omega) (by omega)), lts, chk_t (okI (by omega) (by decide)), hmin, lts, lts, e2, ei, nI_1]
        exact step
    · have step := ih (p + 1) n μ (by omega) (by omega) (fun b b1 b2 b3 => by
        by_cases w : b = i
        · rw [w] at b3
          exact absurd b3 z
        · exact h1 b (by omega) b2 b3) (by
        rcases h2' with w' | ⟨b, b1, b2, b3, b4⟩
        · exact Or.inl w'
        · exact Or.inr ⟨b, by omega, b2, b3, b4⟩) hμ
      rw [cq, ei, if_neg (fun q => z (b5_iff.mp q).1), Nat.zero_add] at step
      rw [if_pos (show m 1 (1097 + 8 * i + 4) = 0 from Decidable.not_not.mp z), lts, e2, ei]
      exact step
theorem c_delays : CL_delays Inv := by
  intro j M x1 hj h
  obtain ⟨-, ⟨⟨-, -, -, t2⟩, -, -, g_led, -⟩, -, -⟩ := id h
  have t3 := t2.2
  have t3' : mj_cl (M 4 1 11) ≤ 9999 := t3
  refine askq h ?_
  have g : I_led (M 0) (mj_wrs (M 4) 0 0 0 1) (24 * j) (50 * mj_cl (M 4 1 11)) := by
    rw [r10]
    exact g_led
  have ht : mj_cl (mj_wrs (M 4) 0 0 0 1 11) ≤ 9999 := by
    rw [r10]
    exact t3'
  have hv : 50 * mj_cl (M 4 1 11) < 2 ^ 30 := by omega
  unfold f_X11_delays
  rw [lts, lts]
  generalize mj_wrs (M 4) 0 0 0 = m at *
  generalize 50 * mj_cl (M 4 1 11) = v at *
  obtain ⟨K, hK, h2, hm, hKE⟩ := LG_of g
  obtain ⟨d1, d2, d3, d4, d5, d6, d7⟩ := g
  have ll : ∀ i, i < K → I_ll (M 0) (m 1) (mj_cl (m 1 11)) v i := fun i hi => d6 i (by omega) (by omega)
  have l4 : ∀ i, i < K → M 0 4 (7 * i + 4) = m 1 (1097 + 8 * i + 4) ∧ cn (m 1 (1097 + 8 * i + 4)) v := fun i hi => by
    obtain ⟨q0, q1, q2, q3, q4, q5, q6, q7, q8, q9, q10, q11⟩ := ll i hi
    exact ⟨q4, q9⟩
  have l2 : ∀ i, i < K → M 0 4 (7 * i + 2) = m 1 (1097 + 8 * i + 2) ∧ cn (m 1 (1097 + 8 * i + 2)) v := fun i hi => by
    obtain ⟨q0, q1, q2, q3, q4, q5, q6, q7, q8, q9, q10, q11⟩ := ll i hi
    exact ⟨q2, q8⟩
  have lw : ∀ i, i < K → WT (M 0) m i ∧ cn (m 1 (1097 + 8 * i + 4)) v := fun i hi => ⟨waitE hK h2 (by omega) hi (ll i hi), (l4 i hi).2⟩
  have eid : ∀ x : Option Int32, mj_b1 x (fun r => some r) = x := fun x => by cases x <;> rfl
  unfold f_X10_delays
  simp only [eid]
  by_cases h0 : x1 = 0
  · subst h0
    obtain ⟨x, s, y, e1, e2⟩ := reachP (a := 0) (w := 4) (B := 1) hK h2 hm (by decide) (by decide) hv l4 (fun i hi z => by
      obtain ⟨c, hc, ec, cc⟩ := cn_i (l4 i hi).2
      rw [dlv (by omega) (by decide) (by decide) (by decide) (by decide), ec, if_neg (nI_nle (by omega) (by omega))]) (fun i hi z => by
      obtain ⟨c, hc, ec, cc⟩ := cn_i (l4 i hi).2
      rw [dlv (by omega) (by decide) (by decide) (by decide) (by decide), ec, show c = 0 by omega, if_pos (by decide)])
    have e1' : f_X2_howManyReach 4 1 (M 0) = some x := e1
    refine ⟨x, by rw [if_pos rfl, e1'], ?_⟩
    rw [show f_X11_isIn 0 0 6 = 1 by decide, if_neg one0, e2, b3s, if_neg (by decide), if_neg (by decide)]
  rw [if_neg h0]
  by_cases h1 : x1 = 1
  · subst h1
    obtain ⟨x, s, y, e1, e2⟩ := longP hK h2 hm hv lw
    refine ⟨y, by rw [if_pos rfl, e1], ?_⟩
    rw [show f_X11_isIn 1 0 6 = 1 by decide, if_neg one0, e2, b3s, if_pos rfl]
  rw [if_neg h1]
  by_cases hx2 : x1 = 2
  · subst hx2
    obtain ⟨x, s, y, e1, e2⟩ := allP hK h2 hm hv lw
    refine ⟨s, by rw [if_pos rfl, e1], ?_⟩
    rw [show f_X11_isIn 2 0 6 = 1 by decide, if_neg one0, e2, b3s, if_neg (by decide), if_pos rfl]
  rw [if_neg hx2]
  by_cases h3 : x1 = 3
  · subst h3
    obtain ⟨x, s, y, e1, e2⟩ := reachP (a := 3) (w := 4) (B := 2) hK h2 hm (by decide) (by decide) hv l4 (fun i hi z => by
      obtain ⟨c, hc, ec, cc⟩ := cn_i (l4 i hi).2
      unfold f_X11_isDelayed
      rw [show f_X11_ledgerOf (nI i) 4 m = _ from ofE (i := i) (w := 4) (by omega) (by decide), b1s, if_pos rfl, ec, if_neg (show ¬ nI c ≤ 1 from nI_ge (b := c) (a := 1) (by omega) (by omega))]) (fun i hi z => by
      obtain ⟨c, hc, ec, cc⟩ := cn_i (l4 i hi).2
      unfold f_X11_isDelayed
      rw [show f_X11_ledgerOf (nI i) 4 m = _ from ofE (i := i) (w := 4) (by omega) (by decide), b1s, if_pos rfl, ec, if_pos (show nI c ≤ 1 from nI_le (b := 1) (by omega) (by decide))])
    have e1' : f_X2_howManyReach 4 2 (M 0) = some x := e1
    refine ⟨x, by rw [if_pos rfl, e1'], ?_⟩
    rw [show f_X11_isIn 3 0 6 = 1 by decide, if_neg one0, e2, b3s, if_neg (by decide), if_neg (by decide)]
  rw [if_neg h3]
  by_cases h4 : x1 = 4
  · subst h4
    obtain ⟨x, s, y, e1, e2⟩ := vanP hK h2 hm (fun i hi => by
      obtain ⟨q0, q1, q2, q3, q4, q5, q6, q7, q8, q9, q10, q11⟩ := ll i hi
      exact ⟨q4, q6⟩)
    refine ⟨x, by rw [if_pos rfl, e1], ?_⟩
    rw [show f_X11_isIn 4 0 6 = 1 by decide, if_neg one0, e2, b3s, if_neg (by decide), if_neg (by decide)]
  rw [if_neg h4]
  by_cases h5 : x1 = 5
  · subst h5
    have hT : T7 m K v := fun i hi => by
      obtain ⟨q0, q1, q2, q3, q4, q5, q6, q7, q8, q9, q10, q11⟩ := ll i hi
      refine ⟨q9, fun z => ?_⟩
      obtain ⟨w1, w2, w3, w4, w5, w6⟩ := q11 z
      exact ⟨w5.1, w5.2⟩
    obtain ⟨TC, hTC, eTC, cTC⟩ := cn_i d5
    obtain ⟨s, y, e2⟩ := ref5 hK hm hv hT
    have e1 := ovL (l := M 0) (m := m) (TC := TC) hK h2 hv hTC hT (fun i hi => (l4 i hi).1) (fun i hi z => by
      obtain ⟨q0, q1, q2, q3, q4, q5, q6, q7, q8, q9, q10, q11⟩ := ll i hi
      obtain ⟨w1, w2, w3, w4, w5, w6⟩ := q11 z
      exact ⟨w3.1, by omega⟩) (fun a b ha hb za zb => d7 a b (by omega) (by omega) (by omega) (by omega) za zb) K 0 mj_fu TC (by omega) (by unfold mj_fu; omega) (fun b b1 b2 _ => by omega) (Or.inl rfl) hTC
    refine ⟨nI (cq (b5 m K) K K), ?_, ?_⟩
    · unfold f_X2_howManyOvertaken
      rw [if_pos rfl, lts, lts, h2, eTC, if_neg (show ¬ (100 : Int32) < nI K from nI_nlt (a := 100) hK (by decide)), eid]
      exact e1
    · rw [show f_X11_isIn 5 0 6 = 1 by decide, if_neg one0, e2, b3s, if_neg (by decide), if_neg (by decide)]
  rw [if_neg h5]
  by_cases h6 : x1 = 6
  · subst h6
    obtain ⟨x, s, y, e1, e2⟩ := reachP (a := 6) (w := 2) (B := 2) hK h2 hm (by decide) (by decide) hv l2 (fun i hi z => by
      obtain ⟨c, hc, ec, cc⟩ := cn_i (l2 i hi).2
      unfold f_X11_isDelayed
      rw [show f_X11_ledgerOf (nI i) 4 m = _ from ofE (i := i) (w := 4) (by omega) (by decide), b1s, if_neg (by decide), if_neg (by decide), if_neg (by decide), if_pos rfl, show f_X11_ledgerOf (nI i) 2 m = _ from ofE (i := i) (w := 2) (by omega) (by decide), b1s, ec, if_neg (show ¬ nI c ≤ 1 from nI_ge (b := c) (a := 1) (by omega) (by omega))]) (fun i hi z => by
      obtain ⟨c, hc, ec, cc⟩ := cn_i (l2 i hi).2
      unfold f_X11_isDelayed
      rw [show f_X11_ledgerOf (nI i) 4 m = _ from ofE (i := i) (w := 4) (by omega) (by decide), b1s, if_neg (by decide), if_neg (by decide), if_neg (by decide), if_pos rfl, show f_X11_ledgerOf (nI i) 2 m = _ from ofE (i := i) (w := 2) (by omega) (by decide), b1s, ec, if_pos (show nI c ≤ 1 from nI_le (b := 1) (by omega) (by decide))])
    have e1' : f_X2_howManyReach 2 2 (M 0) = some x := e1
    refine ⟨x, by rw [if_pos rfl, e1'], ?_⟩
    rw [show f_X11_isIn 6 0 6 = 1 by decide, if_neg one0, e2, b3s, if_neg (by decide), if_neg (by decide)]
  refine ⟨-1, by rw [if_neg h6], ?_⟩
  rw [isIn_f (fun q => by
    obtain ⟨q1, q2⟩ := q
    obtain ⟨w, hw, rfl⟩ := in_lt (a := x1) (b := 7) (by decide) (Int32.not_lt.mpr q1) (fun z => absurd (Int32.le_trans z q2) (by decide))
    rcases (by omega : w = 0 ∨ w = 1 ∨ w = 2 ∨ w = 3 ∨ w = 4 ∨ w = 5 ∨ w = 6) with rfl | rfl | rfl | rfl | rfl | rfl | rfl
    · exact h0 rfl
    · exact h1 rfl
    · exact hx2 rfl
    · exact h3 rfl
    · exact h4 rfl
    · exact h5 rfl
    · exact h6 rfl), if_pos rfl]
