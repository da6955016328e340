/-! plan: digits -/
theorem dig_n {x : Int32} (h : ¬ f_X5_isDigit x = 0) : ∃ g : Nat, g ≤ 9 ∧ x = nI (48 + g) := by
  unfold f_X5_isDigit f_X10_isWithin at h
  rw [lts] at h
  by_cases a : x < 48
  · rw [if_pos a] at h
    exact absurd rfl h
  · rw [if_neg a] at h
    by_cases b : 57 < x
    · rw [if_pos b] at h
      exact absurd rfl h
    · obtain ⟨v, hv, rfl⟩ := in_lt (a := x) (b := 58) (by decide) (fun z => a (Int32.lt_trans z (by decide))) (fun z => b (by
        refine Int32.lt_of_lt_of_le (b := 58) (by decide) z))
      have : 48 ≤ v := Decidable.byContradiction (fun z => a (nI_lt (b := 48) (by omega) (by decide)))
      exact ⟨v - 48, by omega, by rw [show 48 + (v - 48) = v by omega]⟩
theorem dig_v {V g : Nat} (hV : V < 1000) (hg : g ≤ 9) : ((nI V * 10 + nI (48 + g)) - 48) &&& 65535 = nI (10 * V + g) ∧ (10 * nI V + nI (48 + g)) - 48 = nI (10 * V + g) := by
  have e1 : nI V * 10 = nI (V * 10) := nI_mul V 10
  have e2 : 10 * nI V = nI (10 * V) := nI_mul 10 V
  have e3 : nI (V * 10 + (48 + g)) - 48 = nI (10 * V + g) := by
    rw [show (48 : Int32) = nI 48 from rfl, nI_sub (by omega), show V * 10 + (48 + g) - 48 = 10 * V + g by omega]
  rw [e1, e2, nI_add, nI_add, e3, show 10 * V + (48 + g) = V * 10 + (48 + g) by omega, e3]
  refine ⟨?_, rfl⟩
  rw [show (65535 : Int32) = nI (2 ^ 16 - 1) from rfl, fa_mask, Nat.mod_eq_of_lt (by omega)]
def VAL (r m : mj_m) (d : Nat) : Prop := d ≤ 4 → ∃ V : Nat, V < 10 ^ d ∧ r 1 8 = nI V ∧ m 0 13 = nI V
theorem digL {c f : Nat} (hc : c ≤ 400) : ∀ (k a n n' : Nat) (r m : mj_m), a + k = c → k < n → k < n' → f ≤ a → RDc r m c → r 1 7 = nI a → m 0 10 = nI a → VAL r m (a - f) → ∃ (r' m' : mj_m) (a' : Nat), f_X5_readNumber_L5 n r = some r' ∧ f_X11_reads_L166 n' m = some m' ∧ RDc r' m' c ∧ a ≤ a' ∧ a' ≤ c ∧ r' 1 7 = nI a' ∧ m' 0 10 = nI a' ∧ VAL r' m' (a' - f) ∧ (∀ k, k ≠ 1 → r' k = r k) ∧ (∀ s, s ≠ 7 → s ≠ 8 → r' 1 s = r 1 s) ∧ (∀ k, k ≠ 0 → m' k = m k) ∧ (∀ s, s ≠ 10 → s ≠ 13 → m' 0 s = m 0 s) := by
  intro k
  induction k with
  | zero =>
    intro a n n' r m ha hn hn' hf h h6 h10 hv
    obtain ⟨n, rfl⟩ : ∃ k, n = k + 1 := ⟨n - 1, by omega⟩
    obtain ⟨n', rfl⟩ : ∃ k, n' = k + 1 := ⟨n' - 1, by omega⟩
    refine ⟨r, m, a, ?_, ?_, h, Nat.le_refl _, by omega, h6, h10, hv, fun _ _ => rfl, fun _ _ _ => rfl, fun _ _ => rfl, fun _ _ _ => rfl⟩
    · rw [f_X5_readNumber_L5, h.1, h6, if_pos (nI_le (by omega) (by omega))]
    · rw [f_X11_reads_L166, h10, raw_eq h hc (by omega), b1s, if_pos (show a = c by omega), lts, show f_X11_isDigit (-1) = 0 by decide, if_pos rfl]
  | succ k ih =>
    intro a n n' r m ha hn hn' hf h h6 h10 hv
    obtain ⟨n, rfl⟩ : ∃ k, n = k + 1 := ⟨n - 1, by omega⟩
    obtain ⟨n', rfl⟩ : ∃ k, n' = k + 1 := ⟨n' - 1, by omega⟩
    have hch := (h.2.2 a (by omega)).1
    obtain ⟨X, eX⟩ : ∃ X, X = ((r 1 8 * 10 + m 6 a) - 48) &&& 65535 := ⟨_, rfl⟩
    obtain ⟨Y, eY⟩ : ∃ Y, Y = if 10000 ≤ m 0 13 then m 0 13 else 10 * m 0 13 + m 6 a - 48 := ⟨_, rfl⟩
    have eC : f_X5_readNumber_L5 (n + 1) r = if f_X5_isDigit (m 6 a) = 0 then some r else f_X5_readNumber_L5 n (mj_wrs (mj_wrs r 1 8 X) 1 7 (nI (a + 1))) := by
      have w7 : mj_wrs r 1 8 X 1 7 = nI a := by rw [wr_e (Or.inr (by decide)), h6]
      rw [f_X5_readNumber_L5, h.1, h6, if_neg (nI_ge (by omega) (by omega)), chk_t (okI (by omega) (by decide)), clI (by omega), hch, lts, chk_t (okI (by omega) (by decide)), lts, ← eX, lts, w7, nI_1]
    have eR : f_X11_reads_L166 (n' + 1) m = if f_X5_isDigit (m 6 a) = 0 then some m else f_X11_reads_L166 n' (mj_wrs (mj_wrs m 0 13 Y) 0 10 (nI (a + 1))) := by
      have w7 : ∀ Z, mj_wrs m 0 13 Z 0 10 = nI a := fun Z => by rw [wr_e (Or.inr (by decide)), h10]
      rw [f_X11_reads_L166, h10, raw_eq h hc (by omega), b1s, b1s, if_neg (show ¬ a = c by omega), lts, digit_eq, lts, lts, lts, lts, w7, w7, nI_1, eY]
      by_cases z : 10000 ≤ m 0 13
      · rw [if_pos z, if_pos z]
      · rw [if_neg z, if_neg z]
    rw [eC, eR]
    by_cases z : f_X5_isDigit (m 6 a) = 0
    · exact ⟨r, m, a, by rw [if_pos z], by rw [if_pos z], h, Nat.le_refl _, by omega, h6, h10, hv, fun _ _ => rfl, fun _ _ _ => rfl, fun _ _ => rfl, fun _ _ _ => rfl⟩
    · rw [if_neg z, if_neg z]
      have hv' : VAL (mj_wrs (mj_wrs r 1 8 X) 1 7 (nI (a + 1))) (mj_wrs (mj_wrs m 0 13 Y) 0 10 (nI (a + 1))) (a + 1 - f) := fun hd => by
        obtain ⟨V, v1, v2, v3⟩ := hv (by omega)
        obtain ⟨g, hg, eg⟩ := dig_n z
        have hp : 10 ^ (a - f) ≤ 10 ^ 3 := Nat.pow_le_pow_right (by decide) (by omega)
        have V3 : V < 1000 := Nat.lt_of_lt_of_le v1 hp
        obtain ⟨d1, d2⟩ := dig_v V3 hg
        refine ⟨10 * V + g, ?_, ?_, ?_⟩
        · rw [show a + 1 - f = (a - f) + 1 by omega, Nat.pow_succ]
          omega
        · rw [wr_e (Or.inr (by decide)), rs, eX, v2, eg, d1]
        · rw [wr_e (Or.inr (by decide)), rs, eY, v3, eg, if_neg (show ¬ (10000 : Int32) ≤ nI V from nI_ge (b := 10000) (by omega) (by decide)), d2]
      obtain ⟨r', m', a', b1, b2, b3, b4, b5, b6, b7, b8, b9, b10, b11, b12⟩ := ih (a + 1) n n' (mj_wrs (mj_wrs r 1 8 X) 1 7 (nI (a + 1))) (mj_wrs (mj_wrs m 0 13 Y) 0 10 (nI (a + 1))) (by omega) (by omega) (by omega) (by omega) (h.keep (fun k hk => by rw [wr_row _ _ _ _ _ hk, wr_row _ _ _ _ _ hk]) (by rw [wr_e (Or.inr (by decide)), wr_e (Or.inr (by decide))]) (fun k hk => by rw [wr_row _ _ _ _ _ hk, wr_row _ _ _ _ _ hk]) (by rw [wr_e (Or.inr (by decide)), wr_e (Or.inr (by decide))])) (rs _ _ _ _) (rs _ _ _ _) hv'
      exact ⟨r', m', a', b1, b2, b3, by omega, b5, b6, b7, b8, fun k hk => by rw [b9 k hk, wr_row _ _ _ _ _ hk, wr_row _ _ _ _ _ hk], fun s s7 s8 => by rw [b10 s s7 s8, wr_e (Or.inr s7), wr_e (Or.inr s8)], fun k hk => by rw [b11 k hk, wr_row _ _ _ _ _ hk, wr_row _ _ _ _ _ hk], fun s s7 s8 => by rw [b12 s s7 s8, wr_e (Or.inr s7), wr_e (Or.inr s8)]⟩
