/-! copies; image -/
def cs (k j : Nat) : Prop := (k = 1 ∧ j < 2) ∨ (k = 2 ∧ j < 11) ∨ (k = 3 ∧ (j = 2 ∨ j = 4 ∨ j = 5)) ∨ (k = 4 ∧ j < 700) ∨ (k = 5 ∧ (j = 2 ∨ j = 4 ∨ j = 5)) ∨ (k = 6 ∧ j < 240) ∨ (k = 7 ∧ j < 60) ∨ (k = 8 ∧ j < 9) ∨ (k = 9 ∧ 2 ≤ j ∧ j ≤ 12 ∧ j ≠ 7 ∧ j ≠ 8 ∧ j ≠ 10) ∨ ((k = 10 ∨ k = 18 ∨ k = 23 ∨ k = 28) ∧ j = 4) ∨ (((11 ≤ k ∧ k ≤ 14) ∨ (19 ≤ k ∧ k ≤ 22) ∨ (24 ≤ k ∧ k ≤ 27) ∨ (29 ≤ k ∧ k ≤ 32)) ∧ j < 20) ∨ ((k = 15 ∨ k = 16) ∧ j < 100) ∨ (k = 17 ∧ 6 ≤ j ∧ j ≤ 15) ∨ ((k = 33 ∨ k = 38) ∧ 7 ≤ j ∧ j ≤ 10) ∨ ((k = 34 ∨ k = 39) ∧ j < 240) ∨ ((k = 35 ∨ k = 36 ∨ k = 40 ∨ k = 41) ∧ j < 48) ∨ ((k = 37 ∨ k = 42) ∧ j < 8) ∨ (k = 43 ∧ (j = 2 ∨ j = 3)) ∨ ((k = 44 ∨ k = 45) ∧ j < 24) ∨ (k = 46 ∧ j < 100)
def Cp (l l' : mj_m) : Prop := ∀ k j, cs k j → l' k j = l k j
theorem way_ext {l l' : mj_m} {n n' : Nat → Int32} {w wd on R G fa fr we : Nat} {W : Nat × Nat} (hw : w = 33 ∨ w = 38) (h5 : wd ≤ 5) (hon : on < 1897) (hfa : fa < 1897) (hwe : we < 1897) (hfr : fr + 8 < 1897) (hR : R + G * 41 + 8 < 1897) (hG : wd < G) (h : I_way l n w wd on R G fa fr we W) (hC : Cp l l') (hn : ∀ s, s < 1897 → n' s = n s) : I_way l' n' w wd on R G fa fr we W := by
  obtain ⟨⟨q1, q2, q3⟩, ⟨q4, q5, q6⟩, q7⟩ := h
  refine ⟨⟨?_, ?_, fun i hi => ?_⟩, ⟨?_, ?_, ?_⟩, ?_⟩
  · rw [hC w 7 (by unfold cs; omega), hn on hon]
    exact q1
  · rw [hn on hon]
    exact q2
  · rw [hn on hon] at hi ⊢
    have i41 : i < 41 := Nat.lt_of_lt_of_le hi q2.1.2
    have hb : G * i + G ≤ G * 41 := by
      rw [← Nat.mul_succ]
      exact Nat.mul_le_mul_left G i41
    obtain ⟨z1, z2, z3, z4⟩ := q3 i hi
    rw [hC (w + 2) i (by unfold cs; omega), hn 11 (by decide), hn _ (by omega)]
    refine ⟨z1, z2, z3, fun k hk => ?_⟩
    rw [hC (w + 1) _ (by unfold cs; omega), hn _ (by omega)]
    exact z4 k hk
  · rw [hC w 8 (by unfold cs; omega), hn fa hfa]
    exact q4
  · rw [hn fa hfa]
    exact q5
  · rw [hn fa hfa]
    have q5' := q5.2
    obtain ⟨f1, f2, f3, f4⟩ := q6
    have ef : ∀ i, i < mj_cl (n fa) → l' (w + 4) i = l (w + 4) i := fun i hi => hC (w + 4) i (by unfold cs; omega)
    have eg : ∀ i, i < mj_cl (n fa) → n' (fr + i) = n (fr + i) := fun i hi => hn _ (by omega)
    refine ⟨fun i hi => ?_, fun i hi => ?_, fun i k hi hk e => ?_, fun i k hi hk e => ?_⟩
    · obtain ⟨k, hk, e⟩ := f1 i hi
      exact ⟨k, hk, by rw [ef i hi, e]; exact (eg k hk).symm⟩
    · obtain ⟨k, hk, e⟩ := f2 i hi
      exact ⟨k, hk, by rw [ef k hk, ← e]; exact eg i hi⟩
    · rw [ef i hi, ef k hk] at e
      exact f3 i k hi hk e
    · have e' : n' (fr + i) = n' (fr + k) := e
      rw [eg i hi, eg k hk] at e'
      exact f4 i k hi hk e'
  · rw [hC w 9 (by unfold cs; omega), hn we hwe]
    exact q7
theorem I_link_ext {l l' : mj_m} {n n' pl pl' : Nat → Int32} {pm : PM} {e u v : Nat} {T : TT} (h : I_link l n pl pm e u v T) (hC : Cp l l') (hn : ∀ s, s < 1897 → n' s = n s) (hp : ∀ s, s < 48 → pl' s = pl s) : I_link l' n' pl' pm e u v T := by
  obtain ⟨⟨g_set, g_rng, g_tick⟩, g_rec, ⟨g_mach, g_line, g_sent, g_pass, g_dir, g_rep, g_st⟩, g_led, g_dia, g_up, g_dn, g_plan⟩ := h
  refine ⟨⟨?_, ?_, ?_⟩, ?_, ⟨?_, ?_, ?_, ?_, ?_, ?_, ?_⟩, ?_, ?_, ⟨?_, ?_, fun i hi => ?_⟩, ?_, ?_⟩
  · refine set_iff.mpr ⟨?_, fun i hi => ?_⟩
    · rw [hC 1 1 (by unfold cs; omega), hn 12 (by decide)]
      exact g_set.1
    · rw [hC 2 i (by unfold cs; omega), hn i (by omega)]
      exact (set_iff.mp g_set).2 i hi
  · refine rng_iff.mpr (fun i hi => ?_)
    rw [hC 2 i (by unfold cs; omega)]
    exact rng_iff.mp g_rng i hi
  · unfold I_tick at g_tick ⊢
    rw [hC 1 0 (by unfold cs; omega), hn 11 (by decide)]
    exact g_tick
  · obtain ⟨p1, p2, p3, p4, p5, ⟨p6, p7, p8⟩, ⟨p9, p10, p11⟩, ⟨p12, p13, p14⟩, p15⟩ := g_rec
    have p7' := p7.2
    refine ⟨?_, ?_, ?_, ?_, ?_, ⟨?_, ?_, fun i hi => ?_⟩, ⟨?_, ?_, fun i hi h1 => ?_⟩, ⟨?_, ?_, fun i hi h1 => ?_⟩, ?_⟩
    · rw [hC 9 2 (by unfold cs; omega), hn 13 (by decide)]
      exact p1
    · rw [hC 9 3 (by unfold cs; omega), hn 14 (by decide)]
      exact p2
    · rw [hC 9 4 (by unfold cs; omega), hn 15 (by decide)]
      exact p3
    · rw [hC 9 5 (by unfold cs; omega), hn 16 (by decide)]
      exact p4
    · rw [hC 9 6 (by unfold cs; omega), hn 17 (by decide)]
      exact p5
    · rw [hC 10 4 (by unfold cs; omega), hn 18 (by decide)]
      exact p6
    · rw [hn 18 (by decide)]
      exact p7
    · rw [hn 18 (by decide)] at hi
      rw [hC 11 i (by unfold cs; omega), hn _ (by omega)]
      exact p8 i hi
    · rw [hC 9 9 (by unfold cs; omega), hn 19 (by decide)]
      exact p9
    · rw [hn 19 (by decide)]
      exact p10
    · rw [hn 19 (by decide)] at hi
      rw [hC 15 i (by unfold cs; omega), hn _ (by omega)]
      exact p11 i hi h1
    · rw [hC 9 11 (by unfold cs; omega), hn 20 (by decide)]
      exact p12
    · rw [hn 20 (by decide)]
      exact p13
    · rw [hn 20 (by decide)] at hi
      rw [hC 16 i (by unfold cs; omega), hn _ (by omega)]
      exact p14 i hi h1
    · rw [hC 9 12 (by unfold cs; omega), hn 38 (by decide)]
      exact p15
  · exact I_mach_cg g_mach (fun j hj => hC 17 j (by unfold cs; omega)) (fun s hs => hn s (by omega))
  · obtain ⟨p1, p2, p3⟩ := g_line
    have p2' := p2.2
    refine ⟨?_, ?_, fun i hi => ?_⟩
    · rw [hC 18 4 (by unfold cs; omega), hn 24 (by decide)]
      exact p1
    · rw [hn 24 (by decide)]
      exact p2
    · rw [hn 24 (by decide)] at hi
      rw [hC 19 i (by unfold cs; omega), hC 21 i (by unfold cs; omega), hn 24 (by decide), hn 40 (by decide), hn _ (by omega)]
      exact p3 i hi
  · obtain ⟨p1, p2, p3⟩ := g_sent
    have p2' := p2.2
    refine ⟨?_, ?_, fun i hi => ?_⟩
    · rw [hC 23 4 (by unfold cs; omega), hn 25 (by decide)]
      exact p1
    · rw [hn 25 (by decide)]
      exact p2
    · rw [hn 25 (by decide)] at hi
      rw [hC 24 i (by unfold cs; omega), hC 25 i (by unfold cs; omega), hC 26 i (by unfold cs; omega), hC 27 i (by unfold cs; omega), hn 22 (by decide), hn 24 (by decide), hn 25 (by decide), hn 40 (by decide), hn _ (by omega), hn _ (by omega)]
      exact p3 i hi
  · obtain ⟨p1, p2, p3⟩ := g_pass
    have p2' := p2.2
    refine ⟨?_, ?_, fun i hi => ?_⟩
    · rw [hC 28 4 (by unfold cs; omega), hn 29 (by decide)]
      exact p1
    · rw [hn 29 (by decide)]
      exact p2
    · rw [hn 29 (by decide)] at hi
      rw [hC 29 i (by unfold cs; omega), hn _ (by omega)]
      exact p3 i hi
  · exact I_dir_cg g_dir (fun j hj => hC 17 j (by unfold cs; omega)) (fun s hs => hn s (by omega))
  · exact I_rep_cg g_rep (hC 17 14 (by unfold cs; omega)) (hn 45 (by decide)) (hn 46 (by decide)) (hn 47 (by decide))
  · exact I_st_cg g_st (hC 17 6 (by unfold cs; omega)) (hC 17 11 (by unfold cs; omega)) (hn 31 (by decide)) (fun s _ _ => hn s (by omega))
  · obtain ⟨p1, p2, p3, p4, p5, p6, p7⟩ := g_led
    unfold I_led
    rw [hC 3 2 (by unfold cs; omega), hC 3 4 (by unfold cs; omega), hC 3 5 (by unfold cs; omega), hn 40 (by decide), hn 24 (by decide), hn 25 (by decide), hn 11 (by decide)]
    refine ⟨p1, p2, p3, p4, p5, fun i hi h1 => ?_, fun a b a1 a2 b1 b2 h1 h2 => ?_⟩
    · have z := p6 i hi h1
      unfold I_ll at z ⊢
      have e4 : ∀ d, d < 7 → l' 4 (7 * i + d) = l 4 (7 * i + d) := fun d hd => hC 4 _ (by unfold cs; omega)
      have e40 := e4 0 (by decide)
      rw [Nat.add_zero] at e40
      rw [e40, e4 1 (by decide), e4 2 (by decide), e4 3 (by decide), e4 4 (by decide), e4 5 (by decide), e4 6 (by decide), hC 46 i (by unfold cs; omega), hC 3 4 (by unfold cs; omega), hn 19 (by decide)]
      simp (disch := omega) only [hn]
      exact z
    · rw [hn _ (by omega)] at h1 h2
      rw [hC 46 a (by unfold cs; omega), hC 46 b (by unfold cs; omega), hn _ (by omega), hn _ (by omega)]
      exact p7 a b a1 a2 b1 b2 h1 h2
  · obtain ⟨⟨d0, d0', d0''⟩, ⟨d2, d3, d4⟩, d5, d6⟩ := g_dia
    have d80 := d0'.2
    refine ⟨⟨?_, ?_, fun i hi => ?_⟩, ⟨?_, ?_, fun i hi h6 => ?_⟩, ?_, fun q hq => ?_⟩
    · rw [hC 5 2 (by unfold cs; omega), hn 34 (by decide)]
      exact d0
    · rw [hn 34 (by decide)]
      exact d0'
    · rw [hn 34 (by decide)] at hi
      rw [hC 6 i (by unfold cs; omega), hn _ (by omega)]
      exact d0'' i hi
    · rw [hC 5 4 (by unfold cs; omega), hn 33 (by decide)]
      exact d2
    · rw [hn 33 (by decide)]
      exact d3
    · rw [hn 33 (by decide)] at hi
      rw [hC 7 i (by unfold cs; omega), hn _ (by omega)]
      exact d4 i hi h6
    · rw [hC 5 5 (by unfold cs; omega), hn 48 (by decide)]
      exact d5
    · rw [hC 8 q (by unfold cs; omega), hn _ (by omega)]
      exact d6 q hq
  · exact way_ext (Or.inl rfl) (by decide) (by decide) (by decide) (by decide) (by decide) (by decide) (by decide) g_up.1 hC hn
  · rw [hC 33 10 (by unfold cs; omega), hn 37 (by decide)]
    exact g_up.2.1
  · rw [hn 41 (by decide)] at hi
    have i41 : i < 41 := Nat.lt_of_lt_of_le hi g_up.1.1.2.1.1.2
    rw [hC 36 i (by unfold cs; omega), hn 40 (by decide), hn _ (by omega)]
    exact g_up.2.2 i hi
  · exact way_ext (Or.inr rfl) (by decide) (by decide) (by decide) (by decide) (by decide) (by decide) (by decide) g_dn hC hn
  · obtain ⟨p1, p2, p3, p4, p5⟩ := g_plan
    have p3' := p3.2
    refine ⟨?_, ?_, p3, ?_, fun i hi => ?_⟩
    · rw [hC 43 3 (by unfold cs; omega), hn 49 (by decide)]
      exact p1
    · rw [hC 43 2 (by unfold cs; omega)]
      exact p2
    · rw [hn 49 (by decide)]
      exact p4
    · rw [hC 44 i (by unfold cs; omega), hC 45 i (by unfold cs; omega), hp _ (by omega), hp _ (by omega)]
      exact p5 i hi
theorem cpo_at (o m : mj_m) (a b c : Nat) (hc : c < 2 ^ 31) (k j : Nat) : mj_cpo o m a b 0 0 (nI c) k j = if k = b ∧ j < c then o a j else m k j := by
  unfold mj_cpo va_up va_cpy
  rw [show mj_cl (0 : Int32) = 0 from by decide, clI hc]
  by_cases h : k = b
  · subst h
    by_cases hj : j < c
    · simp [hj]
    · simp [hj]
  · simp [h]
theorem cok0 {c N : Nat} (h : c ≤ N) (hN : N ≤ 1000) : mj_cok 0 0 (nI c) N N = true := cokg (d := 0) (e := 0) (by omega) (by omega) hN
theorem cpo_e {o m : mj_m} {a b c : Nat} {k j : Nat} (h : k ≠ b) (hc : c < 2 ^ 31) : mj_cpo o m a b 0 0 (nI c) k j = m k j := by rw [cpo_at _ _ _ _ _ hc, if_neg (fun z => h z.1)]
theorem cpo_s {o m : mj_m} {a b c : Nat} {j : Nat} (h : j < c) (hc : c < 2 ^ 31) : mj_cpo o m a b 0 0 (nI c) b j = o a j := by rw [cpo_at _ _ _ _ _ hc, if_pos ⟨rfl, h⟩]
/-- what a copy leaves: cells of some places are the other's, all else is as it was -/
theorem cp0 (o m : mj_m) : ∃ m' : mj_m, f_X0_copyFrom o m = some m' ∧ (∀ k, k ≠ 1 → k ≠ 2 → m' k = m k) ∧ ∀ k j, k ≤ 2 → cs k j → m' k j = o k j := by
  unfold f_X0_copyFrom
  simp only [lts]
  rw [show (11 : Int32) = nI 11 from rfl, chk_t (cok0 (by decide) (by decide))]
  refine ⟨_, rfl, fun k a b => ?_, fun k j hk hc => ?_⟩
  · funext j
    rw [cpo_e b (by decide), wr_e (Or.inl a), wr_e (Or.inl a)]
  · unfold cs at hc
    by_cases z : k = 2
    · subst z
      rw [cpo_s (by omega) (by decide)]
    · rw [cpo_e z (by decide)]
      rcases (by omega : k = 1 ∧ (j = 0 ∨ j = 1)) with ⟨rfl, rfl | rfl⟩ <;> simp (disch := omega) only [wr_e, rs]
theorem cp2 (o m : mj_m) : ∃ m' : mj_m, f_X2_copyFrom o m = some m' ∧ (∀ k, k ≠ 3 → k ≠ 4 → k ≠ 46 → m' k = m k) ∧ ∀ k j, k = 3 ∨ k = 4 ∨ k = 46 → cs k j → m' k j = o k j := by
  unfold f_X2_copyFrom
  simp only [lts]
  rw [show (100 : Int32) = nI 100 from rfl, chk_t (cok0 (by decide) (by decide)), show (700 : Int32) = nI 700 from rfl, chk_t (cok0 (by decide) (by decide))]
  refine ⟨_, rfl, fun k a b c => ?_, fun k j hk hc => ?_⟩
  · funext j
    rw [cpo_e b (by decide), cpo_e c (by decide), wr_e (Or.inl a), wr_e (Or.inl a), wr_e (Or.inl a)]
  · unfold cs at hc
    rcases hk with rfl | rfl | rfl
    · rw [cpo_e (by decide) (by decide), cpo_e (by decide) (by decide)]
      rcases (by omega : j = 2 ∨ j = 4 ∨ j = 5) with rfl | rfl | rfl <;> simp (disch := omega) only [wr_e, rs]
    · rw [cpo_s (by omega) (by decide)]
    · rw [cpo_e (by decide) (by decide), cpo_s (by omega) (by decide)]
theorem cp1 (o m : mj_m) : ∃ m' : mj_m, f_X1_copyFrom o m = some m' ∧ (∀ k, k < 5 ∨ 8 < k → m' k = m k) ∧ ∀ k j, 5 ≤ k → k ≤ 8 → cs k j → m' k j = o k j := by
  unfold f_X1_copyFrom
  simp only [lts]
  rw [show (240 : Int32) = nI 240 from rfl, chk_t (cok0 (by decide) (by decide)), show (60 : Int32) = nI 60 from rfl, chk_t (cok0 (by decide) (by decide)), show (9 : Int32) = nI 9 from rfl, chk_t (cok0 (by decide) (by decide))]
  refine ⟨_, rfl, fun k a => ?_, fun k j h1 h2 hc => ?_⟩
  · funext j
    rw [cpo_e (by omega) (by decide), wr_e (Or.inl (by omega)), wr_e (Or.inl (by omega)), cpo_e (by omega) (by decide), cpo_e (by omega) (by decide), wr_e (Or.inl (by omega))]
  · unfold cs at hc
    rcases (by omega : k = 5 ∨ k = 6 ∨ k = 7 ∨ k = 8) with rfl | rfl | rfl | rfl
    · rw [cpo_e (by decide) (by decide)]
      rcases (by omega : j = 2 ∨ j = 4 ∨ j = 5) with rfl | rfl | rfl
      · rw [wr_e (Or.inr (by decide)), wr_e (Or.inr (by decide)), cpo_e (by decide) (by decide), cpo_e (by decide) (by decide), rs]
      · rw [wr_e (Or.inr (by decide)), rs]
      · rw [rs]
    · rw [cpo_e (by decide) (by decide), wr_e (Or.inl (by decide)), wr_e (Or.inl (by decide)), cpo_e (by decide) (by decide), cpo_s (by omega) (by decide)]
    · rw [cpo_e (by decide) (by decide), wr_e (Or.inl (by decide)), wr_e (Or.inl (by decide)), cpo_s (by omega) (by decide)]
    · rw [cpo_s (by omega) (by decide)]
theorem cp7 (b : Nat) (o m : mj_m) : ∃ m' : mj_m, f_X7_copyFrom b b o m = some m' ∧ (∀ k, k < b ∨ b + 4 < k → m' k = m k) ∧ (∀ j, j ≠ 4 → m' b j = m b j) ∧ m' b 4 = o b 4 ∧ ∀ q, 1 ≤ q → q ≤ 4 → ∀ j, j < 20 → m' (b + q) j = o (b + q) j := by
  unfold f_X7_copyFrom
  simp only [lts]
  rw [show (20 : Int32) = nI 20 from rfl]
  simp only [chk_t (cok0 (show 20 ≤ 20 by decide) (show 20 ≤ 1000 by decide))]
  refine ⟨_, rfl, fun k a => ?_, fun j hj => ?_, ?_, fun q q1 q4 j hj => ?_⟩
  · funext j
    rw [cpo_e (by omega) (by decide), cpo_e (by omega) (by decide), cpo_e (by omega) (by decide), cpo_e (by omega) (by decide), wr_e (Or.inl (by omega))]
  · rw [cpo_e (by omega) (by decide), cpo_e (by omega) (by decide), cpo_e (by omega) (by decide), cpo_e (by omega) (by decide), wr_e (Or.inr hj)]
  · rw [cpo_e (by omega) (by decide), cpo_e (by omega) (by decide), cpo_e (by omega) (by decide), cpo_e (by omega) (by decide), rs]
  · rcases (by omega : q = 1 ∨ q = 2 ∨ q = 3 ∨ q = 4) with rfl | rfl | rfl | rfl
    · rw [cpo_e (by omega) (by decide), cpo_e (by omega) (by decide), cpo_e (by omega) (by decide), cpo_s hj (by decide)]
    · rw [cpo_e (by omega) (by decide), cpo_e (by omega) (by decide), cpo_s hj (by decide)]
    · rw [cpo_e (by omega) (by decide), cpo_s hj (by decide)]
    · rw [cpo_s hj (by decide)]
theorem isb_t {x : Int32} (h : rg 0 x 1) : mj_isb x = true := by
  rcases bit01 h with z | z <;> rw [z] <;> decide
theorem cp6 (o m : mj_m) (h3 : rg 0 (o 9 3) 1) (h4 : rg 0 (o 9 4) 1) (h5 : rg 0 (o 9 5) 1) : ∃ m' : mj_m, f_X6_copyFrom o m = some m' ∧ (∀ k, k < 9 ∨ 16 < k → m' k = m k) ∧ ∀ k j, 9 ≤ k → k ≤ 16 → cs k j → m' k j = o k j := by
  unfold f_X6_copyFrom
  simp only [lts]
  rw [chk_t (isb_t h3), chk_t (isb_t h4), chk_t (isb_t h5)]
  obtain ⟨m9, a1, a2, a3, a4, a5⟩ := cp7 10 o (mj_wrs (mj_wrs (mj_wrs (mj_wrs (mj_wrs m 9 2 (o 9 2)) 9 3 (o 9 3)) 9 4 (o 9 4)) 9 5 (o 9 5)) 9 6 (o 9 6))
  rw [a1, b1s, show (100 : Int32) = nI 100 from rfl]
  simp only [chk_t (cok0 (show 100 ≤ 100 by decide) (show 100 ≤ 1000 by decide))]
  refine ⟨_, rfl, fun k a => ?_, fun k j h1 h2 hc => ?_⟩
  · funext j
    rw [wr_e (Or.inl (by omega)), wr_e (Or.inl (by omega)), cpo_e (by omega) (by decide), wr_e (Or.inl (by omega)), cpo_e (by omega) (by decide), a2 k (by omega)]
    simp (disch := omega) only [wr_e]
  · unfold cs at hc
    by_cases k9 : k = 9
    · subst k9
      rcases (by omega : j = 12 ∨ j = 11 ∨ j = 9 ∨ j < 7) with rfl | rfl | rfl | hj
      · rw [rs]
      · rw [wr_e (Or.inr (by decide)), rs]
      · rw [wr_e (Or.inr (by decide)), wr_e (Or.inr (by decide)), cpo_e (by decide) (by decide), rs]
      · rw [wr_e (Or.inr (by omega)), wr_e (Or.inr (by omega)), cpo_e (by decide) (by decide), wr_e (Or.inr (by omega)), cpo_e (by decide) (by decide), a2 9 (by omega)]
        rcases (by omega : j = 2 ∨ j = 3 ∨ j = 4 ∨ j = 5 ∨ j = 6) with rfl | rfl | rfl | rfl | rfl <;> simp (disch := omega) only [wr_e, rs]
    · rw [wr_e (Or.inl k9), wr_e (Or.inl k9)]
      by_cases k16 : k = 16
      · subst k16
        rw [cpo_s (by omega) (by decide)]
      · rw [cpo_e k16 (by decide), wr_e (Or.inl k9)]
        by_cases k15 : k = 15
        · subst k15
          rw [cpo_s (by omega) (by decide)]
        · rw [cpo_e k15 (by decide)]
          by_cases k10 : k = 10
          · subst k10
            rw [show j = 4 by omega, a4]
          · have := a5 (k - 10) (by omega) (by omega) j (by omega)
            rw [show 10 + (k - 10) = k by omega] at this
            exact this
theorem cp8 (o m : mj_m) (h13 : rg 0 (o 17 13) 1) : ∃ m' : mj_m, f_X8_copyFrom o m = some m' ∧ (∀ k, k < 17 ∨ 32 < k → m' k = m k) ∧ ∀ k j, 17 ≤ k → k ≤ 32 → cs k j → m' k j = o k j := by
  unfold f_X8_copyFrom
  simp only [lts]
  obtain ⟨m1, a1, a2, a3, a4, a5⟩ := cp7 18 o m
  obtain ⟨m3, b1, b2, b3, b4, b5⟩ := cp7 23 o m1
  obtain ⟨m5, c1, c2, c3, c4, c5⟩ := cp7 28 o m3
  rw [a1, b1s, b1, b1s, c1, b1s, chk_t (isb_t h13)]
  refine ⟨_, rfl, fun k a => ?_, fun k j h1 h2 hc => ?_⟩
  · funext j
    simp (disch := omega) only [wr_e]
    rw [c2 k (by omega), b2 k (by omega), a2 k (by omega)]
  · unfold cs at hc
    by_cases k17 : k = 17
    · subst k17
      rcases (by omega : j = 6 ∨ j = 7 ∨ j = 8 ∨ j = 9 ∨ j = 10 ∨ j = 11 ∨ j = 12 ∨ j = 13 ∨ j = 14 ∨ j = 15) with rfl | rfl | rfl | rfl | rfl | rfl | rfl | rfl | rfl | rfl <;> simp (disch := omega) only [wr_e, rs]
    · simp (disch := omega) only [wr_e]
      rcases (by omega : k ≤ 22 ∨ (23 ≤ k ∧ k ≤ 27) ∨ 28 ≤ k) with z | z | z
      · rw [c2 k (by omega), b2 k (by omega)]
        by_cases y : k = 18
        · subst y
          rw [show j = 4 by omega, a4]
        · have := a5 (k - 18) (by omega) (by omega) j (by omega)
          rw [show 18 + (k - 18) = k by omega] at this
          exact this
      · rw [c2 k (by omega)]
        by_cases y : k = 23
        · subst y
          rw [show j = 4 by omega, b4]
        · have := b5 (k - 23) (by omega) (by omega) j (by omega)
          rw [show 23 + (k - 23) = k by omega] at this
          exact this
      · by_cases y : k = 28
        · subst y
          rw [show j = 4 by omega, c4]
        · have := c5 (k - 28) (by omega) (by omega) j (by omega)
          rw [show 28 + (k - 28) = k by omega] at this
          exact this
theorem cp9 {w : Nat} (hw : w = 33 ∨ w = 38) (o m : mj_m) : ∃ m' : mj_m, f_X9_copyFrom w w o m = some m' ∧ (∀ k, k < w ∨ w + 4 < k → m' k = m k) ∧ (∀ j, j < 7 → m' w j = m w j) ∧ ∀ k j, w ≤ k → k ≤ w + 4 → cs k j → m' k j = o k j := by
  unfold f_X9_copyFrom
  simp only [lts]
  rw [show (240 : Int32) = nI 240 from rfl, chk_t (cok0 (by decide) (by decide)), show (48 : Int32) = nI 48 from rfl]
  simp only [chk_t (cok0 (show 48 ≤ 48 by decide) (show 48 ≤ 1000 by decide))]
  rw [show (8 : Int32) = nI 8 from rfl, chk_t (cok0 (by decide) (by decide))]
  refine ⟨_, rfl, fun k a => ?_, fun j hj => ?_, fun k j h1 h2 hc => ?_⟩
  · funext j
    rw [cpo_e (by omega) (by decide), cpo_e (by omega) (by decide), cpo_e (by omega) (by decide), cpo_e (by omega) (by decide)]
    simp (disch := omega) only [wr_e]
  · rw [cpo_e (by omega) (by decide), cpo_e (by omega) (by decide), cpo_e (by omega) (by decide), cpo_e (by omega) (by decide)]
    simp (disch := omega) only [wr_e]
  · unfold cs at hc
    rcases (by omega : k = w ∨ k = w + 1 ∨ k = w + 2 ∨ k = w + 3 ∨ k = w + 4) with rfl | rfl | rfl | rfl | rfl
    · rw [cpo_e (by omega) (by decide), cpo_e (by omega) (by decide), cpo_e (by omega) (by decide), cpo_e (by omega) (by decide)]
      rcases (by omega : j = 7 ∨ j = 8 ∨ j = 9 ∨ j = 10) with rfl | rfl | rfl | rfl <;> simp (disch := omega) only [wr_e, rs]
    · rw [cpo_e (by omega) (by decide), cpo_e (by omega) (by decide), cpo_e (by omega) (by decide), cpo_s (by omega) (by decide)]
    · rw [cpo_e (by omega) (by decide), cpo_e (by omega) (by decide), cpo_s (by omega) (by decide)]
    · rw [cpo_e (by omega) (by decide), cpo_s (by omega) (by decide)]
    · rw [cpo_s (by omega) (by decide)]
theorem cp4 (o m : mj_m) : ∃ m' : mj_m, f_X4_copyFrom 43 43 o m = some m' ∧ (∀ k, k < 43 ∨ 45 < k → m' k = m k) ∧ ∀ k j, 43 ≤ k → k ≤ 45 → cs k j → m' k j = o k j := by
  unfold f_X4_copyFrom
  simp only [lts]
  rw [show (24 : Int32) = nI 24 from rfl]
  simp only [chk_t (cok0 (show 24 ≤ 24 by decide) (show 24 ≤ 1000 by decide))]
  refine ⟨_, rfl, fun k a => ?_, fun k j h1 h2 hc => ?_⟩
  · funext j
    rw [wr_e (Or.inl (by omega)), wr_e (Or.inl (by omega)), cpo_e (by omega) (by decide), cpo_e (by omega) (by decide)]
  · unfold cs at hc
    rcases (by omega : k = 43 ∨ k = 44 ∨ k = 45) with rfl | rfl | rfl
    · rcases (by omega : j = 2 ∨ j = 3) with rfl | rfl <;> simp (disch := omega) only [wr_e, rs]
    · rw [wr_e (Or.inl (by decide)), wr_e (Or.inl (by decide)), cpo_e (by decide) (by decide), cpo_s (by omega) (by decide)]
    · rw [wr_e (Or.inl (by decide)), wr_e (Or.inl (by decide)), cpo_s (by omega) (by decide)]
theorem copy_eq (o m : mj_m) (h3 : rg 0 (o 9 3) 1) (h4 : rg 0 (o 9 4) 1) (h5 : rg 0 (o 9 5) 1) (h13 : rg 0 (o 17 13) 1) : ∃ m' : mj_m, f_X3_copyFrom o m = some m' ∧ Cp o m' ∧ Fl m m' := by
  obtain ⟨m1, a1, a2, a3⟩ := cp0 o m
  obtain ⟨m2, b1, b2, b3⟩ := cp2 o m1
  obtain ⟨m3, c1, c2, c3⟩ := cp1 o m2
  obtain ⟨m4, d1, d2, d3⟩ := cp6 o m3 h3 h4 h5
  obtain ⟨m5, e1, e2, e3⟩ := cp8 o m4 h13
  obtain ⟨m6, f1, f2, f3, f4⟩ := cp9 (Or.inl rfl) o m5
  obtain ⟨m7, g1, g2, g3, g4⟩ := cp9 (Or.inr rfl) o m6
  obtain ⟨m8, i1, i2, i3⟩ := cp4 o m7
  refine ⟨m8, ?_, fun k j hc => ?_, ?_⟩
  · unfold f_X3_copyFrom
    rw [a1, b1s, b1, b1s, c1, b1s, d1, b1s, e1, b1s, f1, b1s, g1, b1s, i1, b1s]
  · have hc0 := hc
    unfold cs at hc
    rcases (by omega : k ≤ 2 ∨ (k = 3 ∨ k = 4 ∨ k = 46) ∨ (5 ≤ k ∧ k ≤ 8) ∨ (9 ≤ k ∧ k ≤ 16) ∨ (17 ≤ k ∧ k ≤ 32) ∨ (33 ≤ k ∧ k ≤ 37) ∨ (38 ≤ k ∧ k ≤ 42) ∨ (43 ≤ k ∧ k ≤ 45)) with z | z | z | z | z | z | z | z
    · rw [i2 k (by omega), g2 k (by omega), f2 k (by omega), e2 k (by omega), d2 k (by omega), c2 k (by omega), b2 k (by omega) (by omega) (by omega)]
      exact a3 k j z hc0
    · rw [i2 k (by omega), g2 k (by omega), f2 k (by omega), e2 k (by omega), d2 k (by omega), c2 k (by omega)]
      exact b3 k j z hc0
    · rw [i2 k (by omega), g2 k (by omega), f2 k (by omega), e2 k (by omega), d2 k (by omega)]
      exact c3 k j z.1 z.2 hc0
    · rw [i2 k (by omega), g2 k (by omega), f2 k (by omega), e2 k (by omega)]
      exact d3 k j z.1 z.2 hc0
    · rw [i2 k (by omega), g2 k (by omega), f2 k (by omega)]
      exact e3 k j z.1 z.2 hc0
    · rw [i2 k (by omega), g2 k (by omega)]
      exact f4 k j z.1 z.2 hc0
    · rw [i2 k (by omega)]
      exact g4 k j z.1 z.2 hc0
    · exact i3 k j z.1 z.2 hc0
  · unfold Fl
    rw [i2 33 (by omega), i2 38 (by omega), g2 33 (by omega), g3 1 (by decide), g3 2 (by decide), f2 38 (by omega), f3 1 (by decide), f3 2 (by decide), e2 33 (by omega), e2 38 (by omega), d2 33 (by omega), d2 38 (by omega), c2 33 (by omega), c2 38 (by omega), b2 33 (by omega) (by omega) (by omega), b2 38 (by omega) (by omega) (by omega), a2 33 (by omega) (by omega), a2 38 (by omega) (by omega)]
    exact ⟨rfl, rfl, rfl, rfl⟩
theorem link_copy {l : mj_m} {n pl : Nat → Int32} {pm : PM} {e u v : Nat} {T : TT} (h : I_link l n pl pm e u v T) (m : mj_m) : ∃ m' : mj_m, f_X3_copyFrom l m = some m' ∧ Cp l m' ∧ Fl m m' := by
  obtain ⟨⟨g_set, g_rng, g_tick⟩, g_rec, ⟨g_mach, g_line, g_sent, g_pass, g_dir, g_rep, g_st⟩, g_led, g_dia, g_up, g_dn, g_plan⟩ := h
  obtain ⟨-, p2, p3, p4, -⟩ := g_rec
  exact copy_eq l m (by rw [p2.1]; exact p2.2) (by rw [p3.1]; exact p3.2) (by rw [p4.1]; exact p4.2) g_dir.2.2.1
