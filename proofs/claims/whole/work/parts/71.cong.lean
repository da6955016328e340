/-! what each part of the invariant looks at -/
theorem I_rec_cg {l l' : mj_m} {n n' : Nat → Int32} {v : Nat} (h : I_rec l n v) (hl : ∀ k, 9 ≤ k → k ≤ 16 → l' k = l k) (h38 : n' 38 = n 38) (h13 : ∀ s, 13 ≤ s → s ≤ 20 → n' s = n s) (h50 : ∀ s, 50 ≤ s → s ≤ 57 → n' s = n s) (h419 : ∀ s, 419 ≤ s → s ≤ 618 → n' s = n s) : I_rec l' n' v := by
  obtain ⟨p1, p2, p3, p4, p5, ⟨p6, p7, p8⟩, ⟨p9, p10, p11⟩, ⟨p12, p13, p14⟩, p15⟩ := h
  have e (s : Nat) (h1 : 13 ≤ s) (h2 : s ≤ 20) := h13 s h1 h2
  refine ⟨?_, ?_, ?_, ?_, ?_, ⟨?_, ?_, ?_⟩, ⟨?_, ?_, ?_⟩, ⟨?_, ?_, ?_⟩, ?_⟩
  all_goals simp only [hl 9 (by decide) (by decide), hl 10 (by decide) (by decide), hl 11 (by decide) (by decide), hl 15 (by decide) (by decide), hl 16 (by decide) (by decide), h38, h13 13 (by decide) (by decide), h13 14 (by decide) (by decide), h13 15 (by decide) (by decide), h13 16 (by decide) (by decide), h13 17 (by decide) (by decide), h13 18 (by decide) (by decide), h13 19 (by decide) (by decide), h13 20 (by decide) (by decide)]
  all_goals first | assumption | skip
  · intro i hi
    rw [h50 _ (by omega) (by have := p7.2; omega)]
    exact p8 i hi
  · intro i hi h1
    rw [h419 _ (by omega) (by omega)]
    exact p11 i hi h1
  · intro i hi h1
    rw [h419 _ (by omega) (by omega)]
    exact p14 i hi h1
theorem I_mach_cg {l l' : mj_m} {n n' : Nat → Int32} (h : I_mach l n) (hl : ∀ j, j = 6 ∨ j = 7 ∨ j = 8 ∨ j = 9 ∨ j = 10 ∨ j = 11 ∨ j = 15 → l' 17 j = l 17 j) (hn : ∀ s, s = 21 ∨ s = 22 ∨ s = 23 ∨ s = 30 ∨ s = 31 ∨ s = 32 ∨ s = 39 → n' s = n s) : I_mach l' n' := by
  unfold I_mach at h ⊢
  rw [hl 6 (by simp), hl 7 (by simp), hl 8 (by simp), hl 9 (by simp), hl 10 (by simp), hl 11 (by simp), hl 15 (by simp), hn 21 (by simp), hn 22 (by simp), hn 23 (by simp), hn 30 (by simp), hn 31 (by simp), hn 32 (by simp), hn 39 (by simp)]
  exact h
theorem I_dir_cg {l l' : mj_m} {n n' : Nat → Int32} (h : I_dir l n) (hl : ∀ j, j = 6 ∨ j = 11 ∨ j = 12 ∨ j = 13 → l' 17 j = l 17 j) (hn : ∀ s, s = 26 ∨ s = 27 ∨ s = 28 → n' s = n s) : I_dir l' n' := by
  unfold I_dir at h ⊢
  rw [hl 6 (by simp), hl 11 (by simp), hl 12 (by simp), hl 13 (by simp), hn 26 (by simp), hn 27 (by simp), hn 28 (by simp)]
  exact h
theorem I_rep_cg {l l' : mj_m} {n n' : Nat → Int32} (h : I_rep l n) (hl : l' 17 14 = l 17 14) (h45 : n' 45 = n 45) (h46 : n' 46 = n 46) (h47 : n' 47 = n 47) : I_rep l' n' := by
  unfold I_rep at h ⊢
  rw [hl, h45, h46, h47]
  exact h
theorem I_st_cg {l l' : mj_m} {n n' : Nat → Int32} (h : I_st l n) (h6 : l' 17 6 = l 17 6) (h11 : l' 17 11 = l 17 11) (h31 : n' 31 = n 31) (hn : ∀ s, 22 ≤ s → s ≤ 25 → n' s = n s) : I_st l' n' := by
  unfold I_st at h ⊢
  rw [h6, h11, h31, hn 22 (by decide) (by decide), hn 23 (by decide) (by decide), hn 24 (by decide) (by decide), hn 25 (by decide) (by decide)]
  exact h
theorem I_line_cg {l l' : mj_m} {n n' : Nat → Int32} (h : I_line l n) (h18 : l' 18 4 = l 18 4) (h19 : l' 19 = l 19) (h21 : l' 21 = l 21) (h24 : n' 24 = n 24) (h40 : n' 40 = n 40) (hn : ∀ s, 58 ≤ s → s ≤ 65 → n' s = n s) : I_line l' n' := by
  obtain ⟨p1, p2, p3⟩ := h
  unfold I_line
  rw [h18, h19, h21, h24, h40]
  refine ⟨p1, p2, fun i hi => ?_⟩
  rw [hn _ (by omega) (by have := p2.2; omega)]
  exact p3 i hi
theorem I_sent_cg {l l' : mj_m} {n n' : Nat → Int32} (h : I_sent l n) (hl : ∀ k, 23 ≤ k → k ≤ 27 → l' k = l k) (h22 : n' 22 = n 22) (h24 : n' 24 = n 24) (h25 : n' 25 = n 25) (h40 : n' 40 = n 40) (hn : ∀ s, 66 ≤ s → s ≤ 105 → n' s = n s) : I_sent l' n' := by
  obtain ⟨p1, p2, p3⟩ := h
  unfold I_sent
  rw [hl 23 (by decide) (by decide), hl 24 (by decide) (by decide), hl 25 (by decide) (by decide), hl 26 (by decide) (by decide), hl 27 (by decide) (by decide), h22, h24, h25, h40]
  refine ⟨p1, p2, fun i hi => ?_⟩
  rw [hn _ (by omega) (by have := p2.2; omega), hn _ (by omega) (by have := p2.2; omega)]
  exact p3 i hi
theorem I_pass_cg {l l' : mj_m} {n n' : Nat → Int32} (h : I_pass l n) (h28 : l' 28 4 = l 28 4) (h29' : l' 29 = l 29) (h29 : n' 29 = n 29) (hn : ∀ s, 106 ≤ s → s ≤ 109 → n' s = n s) : I_pass l' n' := by
  obtain ⟨p1, p2, p3⟩ := h
  unfold I_pass
  rw [h28, h29', h29]
  refine ⟨p1, p2, fun i hi => ?_⟩
  rw [hn _ (by omega) (by have := p2.2; omega)]
  exact p3 i hi
theorem I_led_cg {l l' : mj_m} {n n' : Nat → Int32} {e v : Nat} (h : I_led l n e v) (h3 : ∀ s, s = 2 ∨ s = 4 ∨ s = 5 → l' 3 s = l 3 s) (h4 : l' 4 = l 4) (h46 : l' 46 = l 46) (h11 : n' 11 = n 11) (h19 : n' 19 = n 19) (h24 : n' 24 = n 24) (h25 : n' 25 = n 25) (h40 : n' 40 = n 40) (hn : ∀ s, 1097 ≤ s → s ≤ 1896 → n' s = n s) : I_led l' n' e v := by
  obtain ⟨p1, p2, p3, p4, p5, p6, p7⟩ := h
  unfold I_led
  rw [h3 2 (by simp), h3 4 (by simp), h3 5 (by simp), h46, h11, h24, h25, h40]
  refine ⟨p1, p2, p3, p4, p5, fun i hi h1 => ?_, fun a b ha1 ha2 hb1 hb2 h1 h2 => ?_⟩
  · have q := p6 i hi h1
    unfold I_ll at q ⊢
    have e (d : Nat) (hd : d ≤ 7) : n' (1097 + 8 * i + d) = n (1097 + 8 * i + d) := hn _ (by omega) (by omega)
    rw [h4, h46, h3 4 (by simp), h19, hn (1097 + 8 * i) (by omega) (by omega), e 1 (by decide), e 2 (by decide), e 3 (by decide), e 4 (by decide), e 5 (by decide), e 6 (by decide), e 7 (by decide)]
    exact q
  · rw [hn _ (by omega) (by omega)] at h1 h2
    rw [hn _ (by omega) (by omega), hn _ (by omega) (by omega)]
    exact p7 a b ha1 ha2 hb1 hb2 h1 h2
theorem I_dia_cg {l l' : mj_m} {n n' : Nat → Int32} {e : Nat} (h : I_dia l n e) (hl : ∀ k, 5 ≤ k → k ≤ 8 → l' k = l k) (h33 : n' 33 = n 33) (h34 : n' 34 = n 34) (h48 : n' 48 = n 48) (hn : ∀ s, 110 ≤ s → s ≤ 418 → n' s = n s) : I_dia l' n' e := by
  obtain ⟨⟨p1, p2, p3⟩, ⟨p4, p5, p6⟩, p7, p8⟩ := h
  unfold I_dia
  rw [hl 5 (by decide) (by decide), hl 6 (by decide) (by decide), hl 7 (by decide) (by decide), hl 8 (by decide) (by decide), h33, h34, h48]
  refine ⟨⟨p1, p2, fun i hi => ?_⟩, ⟨p4, p5, fun i hi h1 => ?_⟩, p7, fun v hv => ?_⟩
  · rw [hn _ (by omega) (by have := p2.2; omega)]
    exact p3 i hi
  · rw [hn _ (by omega) (by omega)]
    exact p6 i hi h1
  · rw [hn _ (by omega) (by omega)]
    exact p8 v hv
theorem I_way_cg {l l' : mj_m} {n n' : Nat → Int32} {w wd on R G fa fr we : Nat} {W : Nat × Nat} (h : I_way l n w wd on R G fa fr we W) (hl : ∀ k, w ≤ k → k ≤ w + 4 → l' k = l k) (h11 : n' 11 = n 11) (hon : n' on = n on) (hfa : n' fa = n fa) (hwe : n' we = n we) (hf : ∀ s, fr ≤ s → s < fr + 8 → n' s = n s) (hr : ∀ s, R ≤ s → s < R + G * 41 → n' s = n s) (hG : wd < G) : I_way l' n' w wd on R G fa fr we W := by
  obtain ⟨⟨p1, p2, p3⟩, ⟨p4, p5, p6⟩, p7⟩ := h
  unfold I_way
  rw [hl w (by omega) (by omega), hl (w + 1) (by omega) (by omega), hl (w + 2) (by omega) (by omega), hl (w + 4) (by omega) (by omega), h11, hon, hfa, hwe]
  refine ⟨⟨p1, p2, fun i hi => ?_⟩, ⟨p4, p5, ?_⟩, p7⟩
  · have hi40 : i < 41 := Nat.lt_of_lt_of_le hi p2.1.2
    have hb : G * i + G ≤ G * 41 := by
      rw [← Nat.mul_succ]
      exact Nat.mul_le_mul_left G hi40
    obtain ⟨q1, q2, q3, q4⟩ := p3 i hi
    rw [hr (R + G * i) (by omega) (by omega)]
    refine ⟨q1, q2, q3, fun k hk => ?_⟩
    rw [hr (R + G * i + 1 + k) (by omega) (by omega)]
    exact q4 k hk
  · have e : ∀ i, i < mj_cl (n fa) → n' (fr + i) = n (fr + i) := fun i hi => hf _ (by omega) (by have := p5.2; omega)
    obtain ⟨f1, f2, f3, f4⟩ := p6
    refine ⟨fun i hi => ?_, fun i hi => ?_, f3, fun i k hi hk => ?_⟩
    · obtain ⟨k, hk, hh⟩ := f1 i hi
      exact ⟨k, hk, hh.trans (e k hk).symm⟩
    · obtain ⟨k, hk, hh⟩ := f2 i hi
      exact ⟨k, hk, (e i hi).trans hh⟩
    · show n' (fr + i) = n' (fr + k) → i = k
      rw [e i hi, e k hk]
      exact f4 i k hi hk
theorem I_up_cg {l l' : mj_m} {n n' : Nat → Int32} {W : Nat × Nat} (h : I_up l n W) (hl : ∀ k, 33 ≤ k → k ≤ 37 → l' k = l k) (h11 : n' 11 = n 11) (h35 : n' 35 = n 35) (h37 : n' 37 = n 37) (h40 : n' 40 = n 40) (h41 : n' 41 = n 41) (h43 : n' 43 = n 43) (hf : ∀ s, 619 ≤ s → s < 627 → n' s = n s) (hr : ∀ s, 635 ≤ s → s < 929 → n' s = n s) : I_up l' n' W := by
  obtain ⟨p1, p2, p3⟩ := h
  refine ⟨I_way_cg p1 hl h11 h41 h43 h35 hf (fun s h1 h2 => hr s h1 (by omega)) (by decide), ?_, fun i hi => ?_⟩
  · rw [hl 33 (by decide) (by decide), h37]
    exact p2
  · rw [h41] at hi
    have hi40 : i < 41 := Nat.lt_of_lt_of_le hi p1.1.2.1.1.2
    rw [hl 36 (by decide) (by decide), h40, hr _ (by omega) (by omega)]
    exact p3 i hi
theorem I_dn_cg {l l' : mj_m} {n n' : Nat → Int32} {W : Nat × Nat} (h : I_dn l n W) (hl : ∀ k, 38 ≤ k → k ≤ 42 → l' k = l k) (h11 : n' 11 = n 11) (h36 : n' 36 = n 36) (h42 : n' 42 = n 42) (h44 : n' 44 = n 44) (hf : ∀ s, 627 ≤ s → s < 635 → n' s = n s) (hr : ∀ s, 929 ≤ s → s < 1097 → n' s = n s) : I_dn l' n' W := I_way_cg h hl h11 h42 h44 h36 hf (fun s h1 h2 => hr s h1 (by omega)) (by decide)
theorem I_plan_cg {l l' : mj_m} {n n' pl : Nat → Int32} {pm : PM} (h : I_plan l n pl pm) (hl : ∀ k, 43 ≤ k → k ≤ 45 → l' k = l k) (h49 : n' 49 = n 49) : I_plan l' n' pl pm := by
  unfold I_plan at h ⊢
  rw [hl 43 (by decide) (by decide), hl 44 (by decide) (by decide), hl 45 (by decide) (by decide), h49]
  exact h
theorem I_set_cg {l l' : mj_m} {n n' : Nat → Int32} (h : I_set l n) (h11 : l' 1 1 = l 1 1) (h2 : l' 2 = l 2) (h12 : n' 12 = n 12) (hn : ∀ s, s ≤ 10 → n' s = n s) : I_set l' n' := by
  unfold I_set at h ⊢
  rw [h11, h2, h12, hn 0 (by decide), hn 1 (by decide), hn 2 (by decide), hn 3 (by decide), hn 4 (by decide), hn 5 (by decide), hn 6 (by decide), hn 7 (by decide), hn 8 (by decide), hn 9 (by decide), hn 10 (by decide)]
  exact h
theorem I_rng_cg {l l' : mj_m} (h : I_rng l) (h2 : l' 2 = l 2) : I_rng l' := by
  unfold I_rng at h ⊢
  rw [h2]
  exact h
theorem I_tick_cg {l l' : mj_m} {n n' : Nat → Int32} {T : Nat} (h : I_tick l n T) (h10 : l' 1 0 = l 1 0) (h11 : n' 11 = n 11) : I_tick l' n' T := by
  unfold I_tick at h ⊢
  rw [h10, h11]
  exact h
