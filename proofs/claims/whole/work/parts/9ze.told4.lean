/-! told: report, the whole -/
theorem rep_n1 : ∀ f : Fin 32, mj_ush (-1) 8 ≠ nI f.1 ∧ mj_ush (-2) 8 ≠ nI f.1 := by decide +kernel
theorem repT {m0 m l : mj_m} (ht : TXT m0 m []) (g : I_rep l (m0 1)) : ∃ m' : mj_m, f_X11_saysReport m = some m' ∧ TXT m0 m' (tt_rep l) := by
  have e1 : ∀ {m : mj_m} {L : List Nat}, TXT m0 m L → m 1 = m0 1 := fun h => h.2.2.2.1 1 (by decide) (by decide)
  unfold f_X11_saysReport tt_rep
  rw [e1 ht]
  rcases g with ⟨z1, z2⟩ | ⟨z1, z2⟩ | ⟨z1, z2, z3, z4⟩
  · refine ⟨m, ?_, ?_⟩
    · unfold f_X11_saysReport_J17
      rw [z1, if_neg (by decide), e1 ht, z1, if_neg (by decide)]
    · rw [z2, if_pos rfl]
      exact ht
  · obtain ⟨m1, a1, a2⟩ := says' ht (by decide) 63 (x := 63) rfl
    refine ⟨m1, ?_, ?_⟩
    · unfold f_X11_saysReport_J17
      rw [z1, if_pos rfl, a1, b1s, e1 a2, z1, if_neg (by decide)]
    · rw [z2, if_neg (by decide), if_pos rfl]
      exact a2
  · obtain ⟨f, hf, ef⟩ := byN (x := m0 1 46) ⟨z3.1, Int32.le_trans z3.2 (by decide)⟩
    have f32 : f < 32 := by
      have q := z3.2
      rw [ef] at q
      exact Decidable.byContradiction (fun z => absurd q (show ¬ nI f ≤ nI 31 from nI_ge (by omega) (by omega)))
    obtain ⟨b, hb, eb⟩ := byN z4
    obtain ⟨x1, x2⟩ := rep_bits ⟨f, f32⟩ ⟨b, hb⟩
    have x1' : mj_ush (mj_shl (nI f) 8 ||| nI b) 8 = nI f := x1
    have x2' : (mj_shl (nI f) 8 ||| nI b) &&& 255 = nI b := x2
    obtain ⟨y1, y2, y3, y4, y5⟩ := rep_f ⟨f, f32⟩
    have y1' : mj_ush (nI f) 3 = nI (f / 8) := y1
    have y2' : nI f / 8 = nI (f / 8) := y2
    have y3' : (nI f &&& 1 ≤ 0) ↔ nI f &&& 1 = 0 := y3
    have y4' : (nI f &&& 2 ≤ 0) ↔ nI f &&& 2 = 0 := y4
    have y5' : (nI f &&& 4 ≤ 0) ↔ nI f &&& 4 = 0 := y5
    have n1 : ¬ (mj_shl (nI f) 8 ||| nI b) = -1 := fun q => by
      rw [q] at x1'
      exact (rep_n1 ⟨f, f32⟩).1 x1'
    have n2 : ¬ (mj_shl (nI f) 8 ||| nI b) = -2 := fun q => by
      rw [q] at x1'
      exact (rep_n1 ⟨f, f32⟩).2 x1'
    have tc : ∀ (x : Int32) (k : Nat) (G : Int32 → Option mj_m), ((x ≤ 0) ↔ x = 0) → (if x ≤ 0 then G 45 else G (nI k)) = G (nI (tt_c x k)) := fun x k G hx => by
      unfold tt_c
      by_cases z : x = 0
      · rw [if_pos (hx.mpr z), if_pos z]
        rfl
      · rw [if_neg (fun q => z (hx.mp q)), if_neg z]
    obtain ⟨m1, a1, a2⟩ := says_eq ht (by decide) (tt_c (nI f &&& 1) 76)
    have b1 : ([] ++ [tt_c (nI f &&& 1) 76]).length ≤ 1 := len1 (L := []) (n := 0) _ (Nat.le_refl _)
    obtain ⟨m2, c1, c2⟩ := says_eq a2 (by omega) (tt_c (nI f &&& 2) 87)
    have b2 := len1 (tt_c (nI f &&& 2) 87) b1
    obtain ⟨m3, d1, d2⟩ := says_eq c2 (by omega) (tt_c (nI f &&& 4) 82)
    have b3 := len1 (tt_c (nI f &&& 4) 82) b2
    obtain ⟨m4, f1, f2⟩ := num' d2 (by omega) (x := nI (f / 8)) ⟨nI_pos' (by omega), nI_le (b := 255) (by omega) (by decide)⟩
    have b4 := lenN (nI (f / 8)) b3
    obtain ⟨m5, i1, i2⟩ := says' f2 (by omega) 32 (x := 32) rfl
    have b5 := len1 32 b4
    obtain ⟨m6, j1, j2⟩ := num' i2 (by omega) (x := nI b) ⟨nI_pos' (by omega), nI_le (b := 255) (by omega) (by decide)⟩
    refine ⟨m6, ?_, ?_⟩
    · rw [z1, if_neg (by decide)]
      unfold f_X11_saysReport_J17
      rw [e1 ht, z1, if_pos rfl, lts, ef]
      have t1 := tc (nI f &&& 1) 76 (fun c => f_X11_saysReport_J51 (nI f) c m) y3'
      have t2 := tc (nI f &&& 2) 87 (fun c => f_X11_saysReport_J68 (nI f) c m1) y4'
      have t3 := tc (nI f &&& 4) 82 (fun c => f_X11_saysReport_J85 (nI f) c m2) y5'
      refine t1.trans ?_
      show f_X11_saysReport_J51 (nI f) (nI (tt_c (nI f &&& 1) 76)) m = some m6
      unfold f_X11_saysReport_J51
      rw [a1, b1s]
      refine t2.trans ?_
      show f_X11_saysReport_J68 (nI f) (nI (tt_c (nI f &&& 2) 87)) m1 = some m6
      unfold f_X11_saysReport_J68
      rw [c1, b1s]
      refine t3.trans ?_
      show f_X11_saysReport_J85 (nI f) (nI (tt_c (nI f &&& 4) 82)) m2 = some m6
      unfold f_X11_saysReport_J85
      rw [d1, b1s, y2', f1, b1s, i1, b1s, e1 i2, eb, j1, b1s]
    · rw [z2, ef, eb, if_neg n1, if_neg n2, x1', x2', y1']
      exact j2
