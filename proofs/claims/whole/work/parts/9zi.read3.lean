/-! plan: digits -/
theorem dig_n {x : Int32} (h : ¬ f_X5_isDigit x = 0) : ∃ g : Nat, g ≤ 9 ∧ x = nI (48 + g) := by
  unfold f_X5_isDigit f_X10_isWithin at h
  rw [lts] at h
  by_cases a : x < 48
  · rw [if_pos a] at h
    exact absurd rfl h
  · rw [if_neg a] at h
    by_cases b : 57 < x
    · rw [if_pos b] at h
      exact absurd rfl h
    · obtain ⟨v, hv, rfl⟩ := in_lt (a := x) (b := 58) (by decide) (fun z => a (Int32.lt_trans z (by decide))) (fun z => b (by
        refine Int32.lt_of_lt_of_le (b := 58) (by decide) z))
      have : 48 ≤ v := Decidable.byContradiction (fun z => a (nI_lt (b := 48) (by omega) (by decide)))
      exact ⟨v - 48, by omega, by rw [show 48 + (v - 48) = v by omega]⟩
theorem dig_v {V g : Nat} (hV : V < 1000) (hg : g ≤ 9) : ((nI V * 10 + nI (48 + g)) - 48) &&& 65535 = nI (10 * V + g) ∧ (10 * nI V + nI (48 + g)) - 48 = nI (10 * V + g) := by
  have e1 : nI V * 10 = nI (V * 10) := nI_mul V 10
  have e2 : 10 * nI V = nI (10 * V) := nI_mul 10 V
  have e3 : nI (V * 10 + (48 + g)) - 48 = nI (10 * V + g) := by
    rw [show (48 : Int32) = nI 48 from rfl, nI_sub (by omega), show V * 10 + (48 + g) - 48 = 10 * V + g by omega]
  rw [e1, e2, nI_add, nI_add, e3, show 10 * V + (48 + g) = V * 10 + (48 + g) by omega, e3]
  refine ⟨?_, rfl⟩
  rw [show (65535 : Int32) = nI (2 ^ 16 - 1) from rfl, fa_mask, Nat.mod_eq_of_lt (by omega)]
