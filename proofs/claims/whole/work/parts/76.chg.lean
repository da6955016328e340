/-! MACHINE changes, and the diary -/
def D_ok (l : mj_m) (n : Nat → Int32) : Prop := l 5 2 = n 34 ∧ cn (n 34) 80 ∧ ∀ i, i < 3 * mj_cl (n 34) → l 6 i = n (179 + i)
theorem chg {l m : mj_m} {a b : Int32} (hd : D_ok l (m 1)) (ht : l 1 0 = m 1 11) (ha : a = m 1 21 + 6) : ∃ l1 m1 : mj_m, f_X1_change a b l = some (b, l1) ∧ f_X11_becomes b m = some m1 ∧ (∀ k, k ≠ 5 → k ≠ 6 → l1 k = l k) ∧ (∀ j, j ≠ 2 → l1 5 j = l 5 j) ∧ (∀ p, p ≠ 1 → m1 p = m p) ∧ (∀ s, s ≠ 21 → s ≠ 34 → (s < 179 ∨ 418 < s) → m1 1 s = m 1 s) ∧ m1 1 21 = b - 6 ∧ D_ok l1 (m1 1) := by
  obtain ⟨d1, d2, d3⟩ := id hd
  obtain ⟨c, hc80, hc, hcl⟩ := cn_i d2
  by_cases hab : a = b
  · refine ⟨l, m, ?_, ?_, fun _ _ _ => rfl, fun _ _ => rfl, fun _ _ => rfl, fun _ _ _ _ => rfl, ?_, hd⟩
    · unfold f_X1_change
      rw [if_pos hab]
    · unfold f_X11_becomes f_X11_machine
      simp only [mj_let]
      rw [← ha, if_pos hab.symm]
    · rw [← hab, ha]
      grind
  · have hba : ¬ b = m 1 21 + 6 := by
      rw [← ha]
      exact fun q => hab q.symm
    by_cases h80 : c = 80
    · refine ⟨l, mj_wrs m 1 21 (b - 6), ?_, ?_, fun _ _ _ => rfl, fun _ _ => rfl, fun p hp => wr_row _ _ _ _ _ hp, fun s h1 _ _ => wr_e (Or.inr h1), by rw [wr_at, if_pos ⟨rfl, rfl⟩], ?_⟩
      · unfold f_X1_change
        rw [if_neg hab, d1, hc, h80, if_pos (show (80 : Int32) ≤ nI 80 by decide)]
      · unfold f_X11_becomes f_X11_machine f_X11_becomes_J75
        simp only [mj_let]
        rw [if_neg hba, hc, h80, if_pos (show (80 : Int32) ≤ nI 80 by decide)]
      · unfold D_ok
        rw [wr_e (Or.inr (by decide))]
        refine ⟨d1, d2, fun i hi => ?_⟩
        rw [wr_e (Or.inr (by omega))]
        exact d3 i hi
    · have hlt : c < 80 := by omega
      have h80' : ¬ (80 : Int32) ≤ nI c := nI_ge (b := 80) (by omega) (by decide)
      have x3 : nI c * 3 = nI (c * 3) := nI_mul c 3
      have x6 : (179 : Int32) + 3 * nI c = nI (179 + 3 * c) := by
        rw [show (3 : Int32) * nI c = nI (3 * c) from nI_mul 3 c]
        exact nI_add 179 (3 * c)
      refine ⟨mj_wrs (mj_wrs (mj_wrs (mj_wrs l 6 (c * 3) (m 1 11)) 6 (c * 3 + 1) a) 6 (c * 3 + 2) b) 5 2 (nI (c + 1)), mj_wrs (mj_wrs (mj_wrs (mj_wrs (mj_wrs m 1 (179 + 3 * c) (m 1 11)) 1 (179 + 3 * c + 1) a) 1 (179 + 3 * c + 2) b) 1 34 (nI (c + 1))) 1 21 (b - 6), ?_, ?_, fun k h5 h6 => ?_, fun j hj => ?_, fun p hp => ?_, fun s h1 h2 h3 => ?_, ?_, ?_⟩
      · unfold f_X1_change
        rw [if_neg hab, d1, hc, if_neg h80', ht]
        simp only [mj_let]
        rw [x3, chk_t (okI (by omega) (by decide)), clI (by omega), show nI (c * 3) + 1 = nI (c * 3 + 1) from nI_add _ 1, chk_t (okI (by omega) (by decide)), clI (by omega), show nI (c * 3) + 2 = nI (c * 3 + 2) from nI_add _ 2, chk_t (okI (by omega) (by decide)), clI (by omega), wr_e (Or.inl (by decide)), wr_e (Or.inl (by decide)), wr_e (Or.inl (by decide)), d1, hc, nI_1]
      · unfold f_X11_becomes f_X11_machine f_X11_becomes_J75
        simp only [mj_let]
        rw [if_neg hba, hc, if_neg h80', x6, chk_t (okI (by omega) (by decide)), clI (by omega), wr_e (Or.inr (by omega)), ← ha, show nI (179 + 3 * c) + 1 = nI (179 + 3 * c + 1) from nI_add _ 1, chk_t (okI (by omega) (by decide)), clI (by omega), show nI (179 + 3 * c) + 2 = nI (179 + 3 * c + 2) from nI_add _ 2, chk_t (okI (by omega) (by decide)), clI (by omega), show (34 : Int32) = nI 34 from rfl, more_eq (by decide), wr_e (Or.inr (by omega)), wr_e (Or.inr (by omega)), wr_e (Or.inr (by omega)), hc, nI_1]
        rfl
      · rw [wr_row _ _ _ _ _ h5, wr_row _ _ _ _ _ h6, wr_row _ _ _ _ _ h6, wr_row _ _ _ _ _ h6]
      · rw [wr_e (Or.inr hj), wr_e (Or.inl (by decide)), wr_e (Or.inl (by decide)), wr_e (Or.inl (by decide))]
      · rw [wr_row _ _ _ _ _ hp, wr_row _ _ _ _ _ hp, wr_row _ _ _ _ _ hp, wr_row _ _ _ _ _ hp, wr_row _ _ _ _ _ hp]
      · rw [wr_e (Or.inr h1), wr_e (Or.inr h2), wr_e (Or.inr (by omega)), wr_e (Or.inr (by omega)), wr_e (Or.inr (by omega))]
      · rw [wr_at, if_pos ⟨rfl, rfl⟩]
      · unfold D_ok
        have e34 : mj_wrs (mj_wrs (mj_wrs (mj_wrs (mj_wrs m 1 (179 + 3 * c) (m 1 11)) 1 (179 + 3 * c + 1) a) 1 (179 + 3 * c + 2) b) 1 34 (nI (c + 1))) 1 21 (b - 6) 1 34 = nI (c + 1) := by simp [wr_at]
        rw [e34, clI (by omega)]
        refine ⟨by simp [wr_at], cn_mk (by omega) (by decide), fun i hi => ?_⟩
        rw [wr_e (Or.inl (by decide)), wr_n, if_neg (by omega), wr_n, if_neg (by omega), wr_n, wr_n, wr_n, wr_at, wr_at, wr_at]
        have := d3 i
        rw [hcl] at this
        grind
