/-! copies; image -/
def C_row (l l' : mj_m) (b : Nat) : Prop := l' b 4 = l b 4 ∧ ∀ q, 1 ≤ q → q ≤ 4 → ∀ j, j < 20 → l' (b + q) j = l (b + q) j
def C_way (l l' : mj_m) (w : Nat) : Prop := (∀ j, 7 ≤ j → j ≤ 10 → l' w j = l w j) ∧ (∀ j, j < 240 → l' (w + 1) j = l (w + 1) j) ∧ (∀ j, j < 48 → l' (w + 2) j = l (w + 2) j) ∧ (∀ j, j < 48 → l' (w + 3) j = l (w + 3) j) ∧ ∀ j, j < 8 → l' (w + 4) j = l (w + 4) j
def C_0 (l l' : mj_m) : Prop := (∀ j, j < 2 → l' 1 j = l 1 j) ∧ ∀ j, j < 11 → l' 2 j = l 2 j
def C_2 (l l' : mj_m) : Prop := (∀ j, j = 2 ∨ j = 4 ∨ j = 5 → l' 3 j = l 3 j) ∧ (∀ j, j < 700 → l' 4 j = l 4 j) ∧ ∀ j, j < 100 → l' 46 j = l 46 j
def C_1 (l l' : mj_m) : Prop := (∀ j, j = 2 ∨ j = 4 ∨ j = 5 → l' 5 j = l 5 j) ∧ (∀ j, j < 240 → l' 6 j = l 6 j) ∧ (∀ j, j < 60 → l' 7 j = l 7 j) ∧ ∀ j, j < 9 → l' 8 j = l 8 j
def C_6 (l l' : mj_m) : Prop := (∀ j, (2 ≤ j ∧ j ≤ 6) ∨ j = 9 ∨ j = 11 ∨ j = 12 → l' 9 j = l 9 j) ∧ C_row l l' 10 ∧ (∀ j, j < 100 → l' 15 j = l 15 j) ∧ ∀ j, j < 100 → l' 16 j = l 16 j
def C_8 (l l' : mj_m) : Prop := (∀ j, 6 ≤ j → j ≤ 15 → l' 17 j = l 17 j) ∧ C_row l l' 18 ∧ C_row l l' 23 ∧ C_row l l' 28
def C_4 (l l' : mj_m) : Prop := (∀ j, j = 2 ∨ j = 3 → l' 43 j = l 43 j) ∧ (∀ j, j < 24 → l' 44 j = l 44 j) ∧ ∀ j, j < 24 → l' 45 j = l 45 j
def Cp (l l' : mj_m) : Prop := C_0 l l' ∧ C_2 l l' ∧ C_1 l l' ∧ C_6 l l' ∧ C_8 l l' ∧ C_way l l' 33 ∧ C_way l l' 38 ∧ C_4 l l'
theorem way_ext {l l' : mj_m} {n n' : Nat → Int32} {w wd on R G fa fr we : Nat} {W : Nat × Nat} (h5 : wd ≤ 5) (hon : on < 1897) (hfa : fa < 1897) (hwe : we < 1897) (hfr : fr + 8 < 1897) (hR : R + G * 41 + 8 < 1897) (hG : wd < G) (h : I_way l n w wd on R G fa fr we W) (hC : C_way l l' w) (hn : ∀ s, s < 1897 → n' s = n s) : I_way l' n' w wd on R G fa fr we W := by
  obtain ⟨⟨q1, q2, q3⟩, ⟨q4, q5, q6⟩, q7⟩ := h
  obtain ⟨w0, w1, w2, w3, w4⟩ := hC
  refine ⟨⟨?_, ?_, fun i hi => ?_⟩, ⟨?_, ?_, ?_⟩, ?_⟩
  · rw [w0 7 (by decide) (by decide), hn on hon]
    exact q1
  · rw [hn on hon]
    exact q2
  · rw [hn on hon] at hi ⊢
    have i41 : i < 41 := Nat.lt_of_lt_of_le hi q2.1.2
    have hb : G * i + G ≤ G * 41 := by
      rw [← Nat.mul_succ]
      exact Nat.mul_le_mul_left G i41
    obtain ⟨z1, z2, z3, z4⟩ := q3 i hi
    rw [w2 i (by omega), hn 11 (by decide), hn _ (by omega)]
    refine ⟨z1, z2, z3, fun k hk => ?_⟩
    rw [w1 _ (by omega), hn _ (by omega)]
    exact z4 k hk
  · rw [w0 8 (by decide) (by decide), hn fa hfa]
    exact q4
  · rw [hn fa hfa]
    exact q5
  · rw [hn fa hfa]
    have q5' := q5.2
    obtain ⟨f1, f2, f3, f4⟩ := q6
    have ef : ∀ i, i < mj_cl (n fa) → l' (w + 4) i = l (w + 4) i := fun i hi => w4 i (by omega)
    have eg : ∀ i, i < mj_cl (n fa) → n' (fr + i) = n (fr + i) := fun i hi => hn _ (by omega)
    refine ⟨fun i hi => ?_, fun i hi => ?_, fun i k hi hk e => ?_, fun i k hi hk e => ?_⟩
    · obtain ⟨k, hk, e⟩ := f1 i hi
      exact ⟨k, hk, by rw [ef i hi, e]; exact (eg k hk).symm⟩
    · obtain ⟨k, hk, e⟩ := f2 i hi
      exact ⟨k, hk, by rw [ef k hk, ← e]; exact eg i hi⟩
    · rw [ef i hi, ef k hk] at e
      exact f3 i k hi hk e
    · have e' : n' (fr + i) = n' (fr + k) := e
      rw [eg i hi, eg k hk] at e'
      exact f4 i k hi hk e'
  · rw [w0 9 (by decide) (by decide), hn we hwe]
    exact q7
theorem I_link_ext {l l' : mj_m} {n n' pl pl' : Nat → Int32} {pm : PM} {e u v : Nat} {T : TT} (h : I_link l n pl pm e u v T) (hC : Cp l l') (hn : ∀ s, s < 1897 → n' s = n s) (hp : ∀ s, s < 48 → pl' s = pl s) : I_link l' n' pl' pm e u v T := by
  obtain ⟨⟨g_set, g_rng, g_tick⟩, g_rec, ⟨g_mach, g_line, g_sent, g_pass, g_dir, g_rep, g_st⟩, g_led, g_dia, g_up, g_dn, g_plan⟩ := h
  obtain ⟨⟨z1, z2⟩, ⟨z3, z4, z46⟩, ⟨z5, z6, z7, z8⟩, ⟨z9, ⟨z10, z10r⟩, z15, z16⟩, ⟨z17, ⟨z18, z18r⟩, ⟨z23, z23r⟩, ⟨z28, z28r⟩⟩, zu, zd, ⟨z43, z44, z45⟩⟩ := hC
  have z11 := z10r 1 (by decide) (by decide)
  have z19 := z18r 1 (by decide) (by decide)
  have z21 := z18r 3 (by decide) (by decide)
  have z24 := z23r 1 (by decide) (by decide)
  have z25 := z23r 2 (by decide) (by decide)
  have z26 := z23r 3 (by decide) (by decide)
  have z27 := z23r 4 (by decide) (by decide)
  have z29 := z28r 1 (by decide) (by decide)
  refine ⟨⟨?_, ?_, ?_⟩, ?_, ⟨?_, ?_, ?_, ?_, ?_, ?_, ?_⟩, ?_, ?_, ⟨?_, ?_, fun i hi => ?_⟩, ?_, ?_⟩
  · refine set_iff.mpr ⟨?_, fun i hi => ?_⟩
    · rw [z1 1 (by omega), hn 12 (by decide)]
      exact g_set.1
    · rw [z2 i (by omega), hn i (by omega)]
      exact (set_iff.mp g_set).2 i hi
  · refine rng_iff.mpr (fun i hi => ?_)
    rw [z2 i (by omega)]
    exact rng_iff.mp g_rng i hi
  · unfold I_tick at g_tick ⊢
    rw [z1 0 (by omega), hn 11 (by decide)]
    exact g_tick
  · obtain ⟨p1, p2, p3, p4, p5, ⟨p6, p7, p8⟩, ⟨p9, p10, p11⟩, ⟨p12, p13, p14⟩, p15⟩ := g_rec
    have p7' := p7.2
    refine ⟨?_, ?_, ?_, ?_, ?_, ⟨?_, ?_, fun i hi => ?_⟩, ⟨?_, ?_, fun i hi h1 => ?_⟩, ⟨?_, ?_, fun i hi h1 => ?_⟩, ?_⟩
    · rw [z9 2 (by omega), hn 13 (by decide)]
      exact p1
    · rw [z9 3 (by omega), hn 14 (by decide)]
      exact p2
    · rw [z9 4 (by omega), hn 15 (by decide)]
      exact p3
    · rw [z9 5 (by omega), hn 16 (by decide)]
      exact p4
    · rw [z9 6 (by omega), hn 17 (by decide)]
      exact p5
    · rw [z10, hn 18 (by decide)]
      exact p6
    · rw [hn 18 (by decide)]
      exact p7
    · rw [hn 18 (by decide)] at hi
      rw [z11 i (by omega), hn _ (by omega)]
      exact p8 i hi
    · rw [z9 9 (by omega), hn 19 (by decide)]
      exact p9
    · rw [hn 19 (by decide)]
      exact p10
    · rw [hn 19 (by decide)] at hi
      rw [z15 i (by omega), hn _ (by omega)]
      exact p11 i hi h1
    · rw [z9 11 (by omega), hn 20 (by decide)]
      exact p12
    · rw [hn 20 (by decide)]
      exact p13
    · rw [hn 20 (by decide)] at hi
      rw [z16 i (by omega), hn _ (by omega)]
      exact p14 i hi h1
    · rw [z9 12 (by omega), hn 38 (by decide)]
      exact p15
  · exact I_mach_cg g_mach (fun j hj => z17 j (by omega) (by omega)) (fun s hs => hn s (by omega))
  · obtain ⟨p1, p2, p3⟩ := g_line
    have p2' := p2.2
    refine ⟨?_, ?_, fun i hi => ?_⟩
    · rw [z18, hn 24 (by decide)]
      exact p1
    · rw [hn 24 (by decide)]
      exact p2
    · rw [hn 24 (by decide)] at hi
      rw [z19 i (by omega), z21 i (by omega), hn 24 (by decide), hn 40 (by decide), hn _ (by omega)]
      exact p3 i hi
  · obtain ⟨p1, p2, p3⟩ := g_sent
    have p2' := p2.2
    refine ⟨?_, ?_, fun i hi => ?_⟩
    · rw [z23, hn 25 (by decide)]
      exact p1
    · rw [hn 25 (by decide)]
      exact p2
    · rw [hn 25 (by decide)] at hi
      rw [z24 i (by omega), z25 i (by omega), z26 i (by omega), z27 i (by omega), hn 22 (by decide), hn 24 (by decide), hn 25 (by decide), hn 40 (by decide), hn _ (by omega), hn _ (by omega)]
      exact p3 i hi
  · obtain ⟨p1, p2, p3⟩ := g_pass
    have p2' := p2.2
    refine ⟨?_, ?_, fun i hi => ?_⟩
    · rw [z28, hn 29 (by decide)]
      exact p1
    · rw [hn 29 (by decide)]
      exact p2
    · rw [hn 29 (by decide)] at hi
      rw [z29 i (by omega), hn _ (by omega)]
      exact p3 i hi
  · exact I_dir_cg g_dir (fun j hj => z17 j (by omega) (by omega)) (fun s hs => hn s (by omega))
  · exact I_rep_cg g_rep (z17 14 (by omega) (by omega)) (hn 45 (by decide)) (hn 46 (by decide)) (hn 47 (by decide))
  · exact I_st_cg g_st (z17 6 (by omega) (by omega)) (z17 11 (by omega) (by omega)) (hn 31 (by decide)) (fun s _ _ => hn s (by omega))
  · obtain ⟨p1, p2, p3, p4, p5, p6, p7⟩ := g_led
    unfold I_led
    rw [z3 2 (by omega), z3 4 (by omega), z3 5 (by omega), hn 40 (by decide), hn 24 (by decide), hn 25 (by decide), hn 11 (by decide)]
    refine ⟨p1, p2, p3, p4, p5, fun i hi h1 => ?_, fun a b a1 a2 b1 b2 h1 h2 => ?_⟩
    · have z := p6 i hi h1
      unfold I_ll at z ⊢
      have e4 : ∀ d, d < 7 → l' 4 (7 * i + d) = l 4 (7 * i + d) := fun d hd => z4 _ (by omega)
      have e40 := e4 0 (by decide)
      rw [Nat.add_zero] at e40
      rw [e40, e4 1 (by decide), e4 2 (by decide), e4 3 (by decide), e4 4 (by decide), e4 5 (by decide), e4 6 (by decide), z46 i (by omega), z3 4 (by omega), hn 19 (by decide)]
      simp (disch := omega) only [hn]
      exact z
    · rw [hn _ (by omega)] at h1 h2
      rw [z46 a (by omega), z46 b (by omega), hn _ (by omega), hn _ (by omega)]
      exact p7 a b a1 a2 b1 b2 h1 h2
  · obtain ⟨⟨d0, d0', d0''⟩, ⟨d2, d3, d4⟩, d5, d6⟩ := g_dia
    have d80 := d0'.2
    refine ⟨⟨?_, ?_, fun i hi => ?_⟩, ⟨?_, ?_, fun i hi h6 => ?_⟩, ?_, fun q hq => ?_⟩
    · rw [z5 2 (by omega), hn 34 (by decide)]
      exact d0
    · rw [hn 34 (by decide)]
      exact d0'
    · rw [hn 34 (by decide)] at hi
      rw [z6 i (by omega), hn _ (by omega)]
      exact d0'' i hi
    · rw [z5 4 (by omega), hn 33 (by decide)]
      exact d2
    · rw [hn 33 (by decide)]
      exact d3
    · rw [hn 33 (by decide)] at hi
      rw [z7 i (by omega), hn _ (by omega)]
      exact d4 i hi h6
    · rw [z5 5 (by omega), hn 48 (by decide)]
      exact d5
    · rw [z8 q (by omega), hn _ (by omega)]
      exact d6 q hq
  · exact way_ext (by decide) (by decide) (by decide) (by decide) (by decide) (by decide) (by decide) g_up.1 zu hn
  · rw [zu.1 10 (by decide) (by decide), hn 37 (by decide)]
    exact g_up.2.1
  · rw [hn 41 (by decide)] at hi
    have i41 : i < 41 := Nat.lt_of_lt_of_le hi g_up.1.1.2.1.1.2
    rw [zu.2.2.2.1 i (by omega), hn 40 (by decide), hn _ (by omega)]
    exact g_up.2.2 i hi
  · exact way_ext (by decide) (by decide) (by decide) (by decide) (by decide) (by decide) (by decide) g_dn zd hn
  · obtain ⟨p1, p2, p3, p4, p5⟩ := g_plan
    have p3' := p3.2
    refine ⟨?_, ?_, p3, ?_, fun i hi => ?_⟩
    · rw [z43 3 (by omega), hn 49 (by decide)]
      exact p1
    · rw [z43 2 (by omega)]
      exact p2
    · rw [hn 49 (by decide)]
      exact p4
    · rw [z44 i (by omega), z45 i (by omega), hp _ (by omega), hp _ (by omega)]
      exact p5 i hi
theorem cpo_at (o m : mj_m) (a b c : Nat) (hc : c < 2 ^ 31) (k j : Nat) : mj_cpo o m a b 0 0 (nI c) k j = if k = b ∧ j < c then o a j else m k j := by
  unfold mj_cpo va_up va_cpy
  rw [show mj_cl (0 : Int32) = 0 from by decide, clI hc]
  by_cases h : k = b
  · subst h
    by_cases hj : j < c
    · simp [hj]
    · simp [hj]
  · simp [h]
theorem cok0 {c N : Nat} (h : c ≤ N) (hN : N ≤ 1000) : mj_cok 0 0 (nI c) N N = true := cokg (d := 0) (e := 0) (by omega) (by omega) hN
theorem cpo_e {o m : mj_m} {a b c : Nat} {k j : Nat} (h : k ≠ b) (hc : c < 2 ^ 31) : mj_cpo o m a b 0 0 (nI c) k j = m k j := by rw [cpo_at _ _ _ _ _ hc, if_neg (fun z => h z.1)]
theorem cpo_s {o m : mj_m} {a b c : Nat} {j : Nat} (h : j < c) (hc : c < 2 ^ 31) : mj_cpo o m a b 0 0 (nI c) b j = o a j := by rw [cpo_at _ _ _ _ _ hc, if_pos ⟨rfl, h⟩]
theorem cp0 (o m : mj_m) : ∃ m' : mj_m, f_X0_copyFrom o m = some m' ∧ (∀ k, k ≠ 1 → k ≠ 2 → m' k = m k) ∧ C_0 o m' := by
  unfold f_X0_copyFrom
  simp only [lts]
  rw [show (11 : Int32) = nI 11 from rfl, chk_t (cok0 (by decide) (by decide))]
  refine ⟨_, rfl, fun k a b => ?_, fun j hj => ?_, fun j hj => ?_⟩
  · funext j
    rw [cpo_e b (by decide), wr_e (Or.inl a), wr_e (Or.inl a)]
  · rw [cpo_e (by decide) (by decide)]
    rcases (by omega : j = 0 ∨ j = 1) with rfl | rfl <;> simp (disch := omega) only [wr_e, rs]
  · rw [cpo_s hj (by decide)]
theorem cp2 (o m : mj_m) : ∃ m' : mj_m, f_X2_copyFrom o m = some m' ∧ (∀ k, k ≠ 3 → k ≠ 4 → k ≠ 46 → m' k = m k) ∧ C_2 o m' := by
  unfold f_X2_copyFrom
  simp only [lts]
  rw [show (100 : Int32) = nI 100 from rfl, chk_t (cok0 (by decide) (by decide)), show (700 : Int32) = nI 700 from rfl, chk_t (cok0 (by decide) (by decide))]
  refine ⟨_, rfl, fun k a b c => ?_, fun j hj => ?_, fun j hj => ?_, fun j hj => ?_⟩
  · funext j
    rw [cpo_e b (by decide), cpo_e c (by decide), wr_e (Or.inl a), wr_e (Or.inl a), wr_e (Or.inl a)]
  · rw [cpo_e (by decide) (by decide), cpo_e (by decide) (by decide)]
    rcases hj with rfl | rfl | rfl <;> simp (disch := omega) only [wr_e, rs]
  · rw [cpo_s hj (by decide)]
  · rw [cpo_e (by decide) (by decide), cpo_s hj (by decide)]
theorem cp1 (o m : mj_m) : ∃ m' : mj_m, f_X1_copyFrom o m = some m' ∧ (∀ k, k < 5 ∨ 8 < k → m' k = m k) ∧ C_1 o m' := by
  unfold f_X1_copyFrom
  simp only [lts]
  rw [show (240 : Int32) = nI 240 from rfl, chk_t (cok0 (by decide) (by decide)), show (60 : Int32) = nI 60 from rfl, chk_t (cok0 (by decide) (by decide)), show (9 : Int32) = nI 9 from rfl, chk_t (cok0 (by decide) (by decide))]
  refine ⟨_, rfl, fun k a => ?_, fun j hj => ?_, fun j hj => ?_, fun j hj => ?_, fun j hj => ?_⟩
  · funext j
    rw [cpo_e (by omega) (by decide), wr_e (Or.inl (by omega)), wr_e (Or.inl (by omega)), cpo_e (by omega) (by decide), cpo_e (by omega) (by decide), wr_e (Or.inl (by omega))]
  · rw [cpo_e (by decide) (by decide)]
    rcases hj with rfl | rfl | rfl
    · rw [wr_e (Or.inr (by decide)), wr_e (Or.inr (by decide)), cpo_e (by decide) (by decide), cpo_e (by decide) (by decide), rs]
    · rw [wr_e (Or.inr (by decide)), rs]
    · rw [rs]
  · rw [cpo_e (by decide) (by decide), wr_e (Or.inl (by decide)), wr_e (Or.inl (by decide)), cpo_e (by decide) (by decide), cpo_s hj (by decide)]
  · rw [cpo_e (by decide) (by decide), wr_e (Or.inl (by decide)), wr_e (Or.inl (by decide)), cpo_s hj (by decide)]
  · rw [cpo_s hj (by decide)]
theorem cp7 (b : Nat) (o m : mj_m) : ∃ m' : mj_m, f_X7_copyFrom b b o m = some m' ∧ (∀ k, k < b ∨ b + 4 < k → m' k = m k) ∧ (∀ j, j ≠ 4 → m' b j = m b j) ∧ m' b 4 = o b 4 ∧ ∀ q, 1 ≤ q → q ≤ 4 → ∀ j, j < 20 → m' (b + q) j = o (b + q) j := by
  unfold f_X7_copyFrom
  simp only [lts]
  rw [show (20 : Int32) = nI 20 from rfl]
  simp only [chk_t (cok0 (show 20 ≤ 20 by decide) (show 20 ≤ 1000 by decide))]
  refine ⟨_, rfl, fun k a => ?_, fun j hj => ?_, ?_, fun q q1 q4 j hj => ?_⟩
  · funext j
    rw [cpo_e (by omega) (by decide), cpo_e (by omega) (by decide), cpo_e (by omega) (by decide), cpo_e (by omega) (by decide), wr_e (Or.inl (by omega))]
  · rw [cpo_e (by omega) (by decide), cpo_e (by omega) (by decide), cpo_e (by omega) (by decide), cpo_e (by omega) (by decide), wr_e (Or.inr hj)]
  · rw [cpo_e (by omega) (by decide), cpo_e (by omega) (by decide), cpo_e (by omega) (by decide), cpo_e (by omega) (by decide), rs]
  · rcases (by omega : q = 1 ∨ q = 2 ∨ q = 3 ∨ q = 4) with rfl | rfl | rfl | rfl
    · rw [cpo_e (by omega) (by decide), cpo_e (by omega) (by decide), cpo_e (by omega) (by decide), cpo_s hj (by decide)]
    · rw [cpo_e (by omega) (by decide), cpo_e (by omega) (by decide), cpo_s hj (by decide)]
    · rw [cpo_e (by omega) (by decide), cpo_s hj (by decide)]
    · rw [cpo_s hj (by decide)]
theorem isb_t {x : Int32} (h : rg 0 x 1) : mj_isb x = true := by
  rcases bit01 h with z | z <;> rw [z] <;> decide
theorem cp6 (o m : mj_m) (h3 : rg 0 (o 9 3) 1) (h4 : rg 0 (o 9 4) 1) (h5 : rg 0 (o 9 5) 1) : ∃ m' : mj_m, f_X6_copyFrom o m = some m' ∧ (∀ k, k < 9 ∨ 16 < k → m' k = m k) ∧ C_6 o m' := by
  unfold f_X6_copyFrom
  simp only [lts]
  rw [chk_t (isb_t h3), chk_t (isb_t h4), chk_t (isb_t h5)]
  obtain ⟨m9, a1, a2, a3, a4, a5⟩ := cp7 10 o (mj_wrs (mj_wrs (mj_wrs (mj_wrs (mj_wrs m 9 2 (o 9 2)) 9 3 (o 9 3)) 9 4 (o 9 4)) 9 5 (o 9 5)) 9 6 (o 9 6))
  rw [a1, b1s, show (100 : Int32) = nI 100 from rfl]
  simp only [chk_t (cok0 (show 100 ≤ 100 by decide) (show 100 ≤ 1000 by decide))]
  refine ⟨_, rfl, fun k a => ?_, fun j hj => ?_, ⟨?_, fun q q1 q4 j hj => ?_⟩, fun j hj => ?_, fun j hj => ?_⟩
  · funext j
    rw [wr_e (Or.inl (by omega)), wr_e (Or.inl (by omega)), cpo_e (by omega) (by decide), wr_e (Or.inl (by omega)), cpo_e (by omega) (by decide), a2 k (by omega)]
    simp (disch := omega) only [wr_e]
  · rcases (by omega : j = 12 ∨ j = 11 ∨ j = 9 ∨ j < 7) with rfl | rfl | rfl | hj'
    · rw [rs]
    · rw [wr_e (Or.inr (by decide)), rs]
    · rw [wr_e (Or.inr (by decide)), wr_e (Or.inr (by decide)), cpo_e (by decide) (by decide), rs]
    · rw [wr_e (Or.inr (by omega)), wr_e (Or.inr (by omega)), cpo_e (by decide) (by decide), wr_e (Or.inr (by omega)), cpo_e (by decide) (by decide), a2 9 (by omega)]
      rcases (by omega : j = 2 ∨ j = 3 ∨ j = 4 ∨ j = 5 ∨ j = 6) with rfl | rfl | rfl | rfl | rfl <;> simp (disch := omega) only [wr_e, rs]
  · rw [wr_e (Or.inl (by decide)), wr_e (Or.inl (by decide)), cpo_e (by decide) (by decide), wr_e (Or.inl (by decide)), cpo_e (by decide) (by decide), a4]
  · rw [wr_e (Or.inl (by omega)), wr_e (Or.inl (by omega)), cpo_e (by omega) (by decide), wr_e (Or.inl (by omega)), cpo_e (by omega) (by decide), a5 q q1 q4 j hj]
  · rw [wr_e (Or.inl (by decide)), wr_e (Or.inl (by decide)), cpo_e (by decide) (by decide), wr_e (Or.inl (by decide)), cpo_s hj (by decide)]
  · rw [wr_e (Or.inl (by decide)), wr_e (Or.inl (by decide)), cpo_s hj (by decide)]
theorem cp8 (o m : mj_m) (h13 : rg 0 (o 17 13) 1) : ∃ m' : mj_m, f_X8_copyFrom o m = some m' ∧ (∀ k, k < 17 ∨ 32 < k → m' k = m k) ∧ C_8 o m' := by
  unfold f_X8_copyFrom
  simp only [lts]
  obtain ⟨m1, a1, a2, a3, a4, a5⟩ := cp7 18 o m
  obtain ⟨m3, b1, b2, b3, b4, b5⟩ := cp7 23 o m1
  obtain ⟨m5, c1, c2, c3, c4, c5⟩ := cp7 28 o m3
  rw [a1, b1s, b1, b1s, c1, b1s, chk_t (isb_t h13)]
  refine ⟨_, rfl, fun k a => ?_, fun j j1 j2 => ?_, ⟨?_, fun q q1 q4 j hj => ?_⟩, ⟨?_, fun q q1 q4 j hj => ?_⟩, ⟨?_, fun q q1 q4 j hj => ?_⟩⟩
  · funext j
    simp (disch := omega) only [wr_e]
    rw [c2 k (by omega), b2 k (by omega), a2 k (by omega)]
  · rcases (by omega : j = 6 ∨ j = 7 ∨ j = 8 ∨ j = 9 ∨ j = 10 ∨ j = 11 ∨ j = 12 ∨ j = 13 ∨ j = 14 ∨ j = 15) with rfl | rfl | rfl | rfl | rfl | rfl | rfl | rfl | rfl | rfl <;> simp (disch := omega) only [wr_e, rs]
  · simp (disch := omega) only [wr_e]
    rw [c2 18 (by omega), b2 18 (by omega), a4]
  · simp (disch := omega) only [wr_e]
    rw [c2 _ (by omega), b2 _ (by omega), a5 q q1 q4 j hj]
  · simp (disch := omega) only [wr_e]
    rw [c2 23 (by omega), b4]
  · simp (disch := omega) only [wr_e]
    rw [c2 _ (by omega), b5 q q1 q4 j hj]
  · simp (disch := omega) only [wr_e]
    rw [c4]
  · simp (disch := omega) only [wr_e]
    rw [c5 q q1 q4 j hj]
theorem cp9 (w : Nat) (o m : mj_m) : ∃ m' : mj_m, f_X9_copyFrom w w o m = some m' ∧ (∀ k, k < w ∨ w + 4 < k → m' k = m k) ∧ (∀ j, j < 7 → m' w j = m w j) ∧ C_way o m' w := by
  unfold f_X9_copyFrom
  simp only [lts]
  rw [show (240 : Int32) = nI 240 from rfl, chk_t (cok0 (by decide) (by decide)), show (48 : Int32) = nI 48 from rfl]
  simp only [chk_t (cok0 (show 48 ≤ 48 by decide) (show 48 ≤ 1000 by decide))]
  rw [show (8 : Int32) = nI 8 from rfl, chk_t (cok0 (by decide) (by decide))]
  refine ⟨_, rfl, fun k a => ?_, fun j hj => ?_, fun j j1 j2 => ?_, fun j hj => ?_, fun j hj => ?_, fun j hj => ?_, fun j hj => ?_⟩
  · funext j
    rw [cpo_e (by omega) (by decide), cpo_e (by omega) (by decide), cpo_e (by omega) (by decide), cpo_e (by omega) (by decide)]
    simp (disch := omega) only [wr_e]
  · rw [cpo_e (by omega) (by decide), cpo_e (by omega) (by decide), cpo_e (by omega) (by decide), cpo_e (by omega) (by decide)]
    simp (disch := omega) only [wr_e]
  · rw [cpo_e (by omega) (by decide), cpo_e (by omega) (by decide), cpo_e (by omega) (by decide), cpo_e (by omega) (by decide)]
    rcases (by omega : j = 7 ∨ j = 8 ∨ j = 9 ∨ j = 10) with rfl | rfl | rfl | rfl <;> simp (disch := omega) only [wr_e, rs]
  · rw [cpo_e (by omega) (by decide), cpo_e (by omega) (by decide), cpo_e (by omega) (by decide), cpo_s hj (by decide)]
  · rw [cpo_e (by omega) (by decide), cpo_e (by omega) (by decide), cpo_s hj (by decide)]
  · rw [cpo_e (by omega) (by decide), cpo_s hj (by decide)]
  · rw [cpo_s hj (by decide)]
theorem cp4 (o m : mj_m) : ∃ m' : mj_m, f_X4_copyFrom 43 43 o m = some m' ∧ (∀ k, k < 43 ∨ 45 < k → m' k = m k) ∧ C_4 o m' := by
  unfold f_X4_copyFrom
  simp only [lts]
  rw [show (24 : Int32) = nI 24 from rfl]
  simp only [chk_t (cok0 (show 24 ≤ 24 by decide) (show 24 ≤ 1000 by decide))]
  refine ⟨_, rfl, fun k a => ?_, fun j hj => ?_, fun j hj => ?_, fun j hj => ?_⟩
  · funext j
    rw [wr_e (Or.inl (by omega)), wr_e (Or.inl (by omega)), cpo_e (by omega) (by decide), cpo_e (by omega) (by decide)]
  · rcases hj with rfl | rfl <;> simp (disch := omega) only [wr_e, rs]
  · rw [wr_e (Or.inl (by decide)), wr_e (Or.inl (by decide)), cpo_e (by decide) (by decide), cpo_s hj (by decide)]
  · rw [wr_e (Or.inl (by decide)), wr_e (Or.inl (by decide)), cpo_s hj (by decide)]
theorem C_way_tr {o m m' : mj_m} {w : Nat} (h : C_way o m w) (hk : ∀ k, w ≤ k → k ≤ w + 4 → m' k = m k) : C_way o m' w := by
  obtain ⟨h0, h1, h2, h3, h4⟩ := h
  refine ⟨fun j a b => ?_, fun j a => ?_, fun j a => ?_, fun j a => ?_, fun j a => ?_⟩
  · rw [hk w (by omega) (by omega), h0 j a b]
  · rw [hk (w + 1) (by omega) (by omega), h1 j a]
  · rw [hk (w + 2) (by omega) (by omega), h2 j a]
  · rw [hk (w + 3) (by omega) (by omega), h3 j a]
  · rw [hk (w + 4) (by omega) (by omega), h4 j a]
theorem C_row_tr {o m m' : mj_m} {b : Nat} (h : C_row o m b) (hk : ∀ k, b ≤ k → k ≤ b + 4 → m' k = m k) : C_row o m' b := by
  obtain ⟨h0, h1⟩ := h
  refine ⟨by rw [hk b (by omega) (by omega), h0], fun q a c j d => ?_⟩
  rw [hk (b + q) (by omega) (by omega), h1 q a c j d]
theorem copy_eq (o m : mj_m) (h3 : rg 0 (o 9 3) 1) (h4 : rg 0 (o 9 4) 1) (h5 : rg 0 (o 9 5) 1) (h13 : rg 0 (o 17 13) 1) : ∃ m' : mj_m, f_X3_copyFrom o m = some m' ∧ Cp o m' ∧ Fl m m' := by
  obtain ⟨m1, a1, a2, a3, a4⟩ := cp0 o m
  obtain ⟨m2, b1, b2, b3, b4, b5⟩ := cp2 o m1
  obtain ⟨m3, c1, c2, c3, c4, c5, c6⟩ := cp1 o m2
  obtain ⟨m4, d1, d2, d3, d4, d5, d6⟩ := cp6 o m3 h3 h4 h5
  obtain ⟨m5, e1, e2, e3, e4, e5, e6⟩ := cp8 o m4 h13
  obtain ⟨m6, f1, f2, f3, f4⟩ := cp9 33 o m5
  obtain ⟨m7, g1, g2, g3, g4⟩ := cp9 38 o m6
  obtain ⟨m8, i1, i2, i3⟩ := cp4 o m7
  have k8 : ∀ k, k < 33 ∨ 45 < k → m8 k = m5 k := fun k hk => by rw [i2 k (by omega), g2 k (by omega), f2 k (by omega)]
  have k5 : ∀ k, k < 17 ∨ 45 < k → m8 k = m4 k := fun k hk => by rw [k8 k (by omega), e2 k (by omega)]
  have k4 : ∀ k, k < 9 ∨ 45 < k → m8 k = m3 k := fun k hk => by rw [k5 k (by omega), d2 k (by omega)]
  have k3 : ∀ k, k < 5 ∨ 45 < k → m8 k = m2 k := fun k hk => by rw [k4 k (by omega), c2 k (by omega)]
  refine ⟨m8, ?_, ⟨⟨fun j hj => ?_, fun j hj => ?_⟩, ⟨fun j hj => ?_, fun j hj => ?_, fun j hj => ?_⟩, ⟨fun j hj => ?_, fun j hj => ?_, fun j hj => ?_, fun j hj => ?_⟩, ⟨fun j hj => ?_, C_row_tr d4 (fun k _ _ => k5 k (by omega)), fun j hj => ?_, fun j hj => ?_⟩, ⟨fun j j1 j2 => ?_, C_row_tr e4 (fun k _ _ => k8 k (by omega)), C_row_tr e5 (fun k _ _ => k8 k (by omega)), C_row_tr e6 (fun k _ _ => k8 k (by omega))⟩, C_way_tr f4 (fun k _ _ => by rw [i2 k (by omega), g2 k (by omega)]), C_way_tr g4 (fun k _ _ => i2 k (by omega)), i3⟩, ?_⟩
  · unfold f_X3_copyFrom
    rw [a1, b1s, b1, b1s, c1, b1s, d1, b1s, e1, b1s, f1, b1s, g1, b1s, i1, b1s]
  · rw [k3 1 (by omega), b2 1 (by omega) (by omega) (by omega), a3 j hj]
  · rw [k3 2 (by omega), b2 2 (by omega) (by omega) (by omega), a4 j hj]
  · rw [k3 3 (by omega), b3 j hj]
  · rw [k3 4 (by omega), b4 j hj]
  · rw [k3 46 (by omega), b5 j hj]
  · rw [k4 5 (by omega), c3 j hj]
  · rw [k4 6 (by omega), c4 j hj]
  · rw [k4 7 (by omega), c5 j hj]
  · rw [k4 8 (by omega), c6 j hj]
  · rw [k5 9 (by omega), d3 j hj]
  · rw [k5 15 (by omega), d5 j hj]
  · rw [k5 16 (by omega), d6 j hj]
  · rw [k8 17 (by omega), e3 j j1 j2]
  · unfold Fl
    rw [i2 33 (by omega), i2 38 (by omega), g2 33 (by omega), g3 1 (by decide), g3 2 (by decide), f2 38 (by omega), f3 1 (by decide), f3 2 (by decide), e2 33 (by omega), e2 38 (by omega), d2 33 (by omega), d2 38 (by omega), c2 33 (by omega), c2 38 (by omega), b2 33 (by omega) (by omega) (by omega), b2 38 (by omega) (by omega) (by omega), a2 33 (by omega) (by omega), a2 38 (by omega) (by omega)]
    exact ⟨rfl, rfl, rfl, rfl⟩
theorem link_copy {l : mj_m} {n pl : Nat → Int32} {pm : PM} {e u v : Nat} {T : TT} (h : I_link l n pl pm e u v T) (m : mj_m) : ∃ m' : mj_m, f_X3_copyFrom l m = some m' ∧ Cp l m' ∧ Fl m m' := by
  obtain ⟨⟨g_set, g_rng, g_tick⟩, g_rec, ⟨g_mach, g_line, g_sent, g_pass, g_dir, g_rep, g_st⟩, g_led, g_dia, g_up, g_dn, g_plan⟩ := h
  obtain ⟨-, p2, p3, p4, -⟩ := g_rec
  exact copy_eq l m (by rw [p2.1]; exact p2.2) (by rw [p3.1]; exact p3.2) (by rw [p4.1]; exact p4.2) g_dir.2.2.1
