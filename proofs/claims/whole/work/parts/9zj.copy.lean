/-! plan: the draft becomes the plan -/
theorem l50 {N : Nat} {x : Int32} (hN : N ≤ 48) (hx : 2 * x = nI N) : ∀ (k i n : Nat) (m : mj_m), i + k = N → k < n → ∃ m' : mj_m, f_X11_plan_L50 x n (nI i) m = some m' ∧ (∀ p, p ≠ 8 → m' p = m p) ∧ (∀ s, s < i ∨ N ≤ s → m' 8 s = m 8 s) ∧ ∀ s, i ≤ s → s < N → m' 8 s = m 8 (48 + s) := by
  intro k
  induction k with
  | zero =>
    intro i n m hi hn
    obtain ⟨n, rfl⟩ : ∃ k, n = k + 1 := ⟨n - 1, by omega⟩
    refine ⟨m, ?_, fun _ _ => rfl, fun _ _ => rfl, fun s h1 h2 => by omega⟩
    rw [f_X11_plan_L50, hx, if_pos (nI_le (by omega) (by omega))]
  | succ k ih =>
    intro i n m hi hn
    obtain ⟨n, rfl⟩ : ∃ k, n = k + 1 := ⟨n - 1, by omega⟩
    obtain ⟨m', e1, e2, e3, e4⟩ := ih (i + 1) n (mj_wrs m 8 i (m 8 (48 + i))) (by omega) (by omega)
    refine ⟨m', ?_, fun p hp => by rw [e2 p hp, wr_row _ _ _ _ _ hp], fun s hs => ?_, fun s h1 h2 => ?_⟩
    · rw [f_X11_plan_L50, hx, if_neg (nI_ge (by omega) (by omega)), show (48 : Int32) + nI i = nI (48 + i) from nI_add 48 i, chk_t (okI (by omega) (by decide)), chk_t (okI (by omega) (by decide)), lts, lts, clI (by omega), clI (by omega), nI_1]
      exact e1
    · rw [e3 s (by omega), wr_e (Or.inr (by omega))]
    · by_cases z : s = i
      · rw [z, e3 i (by omega), rs]
      · rw [e4 s (by omega) h2, wr_e (Or.inr (by omega))]
