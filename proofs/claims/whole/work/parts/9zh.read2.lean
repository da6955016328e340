/-! plan: letters -/
theorem letter_eq (x : Int32) : f_X11_isLetter x = f_X5_isLetter x := rfl
theorem digit_eq (x : Int32) : f_X11_isDigit x = f_X5_isDigit x := rfl
theorem letL {c : Nat} (hc : c ≤ 400) : ∀ (k a n n' : Nat) (r m : mj_m), a + k = c → k < n → k < n' → RDc r m c → r 1 7 = nI a → m 0 10 = nI a → ∃ (r' m' : mj_m) (a' : Nat), f_X5_readWord_L0 n r = some r' ∧ f_X11_reads_L90 n' m = some m' ∧ RDc r' m' c ∧ a ≤ a' ∧ a' ≤ c ∧ r' 1 7 = nI a' ∧ m' 0 10 = nI a' ∧ (∀ k, k ≠ 1 → r' k = r k) ∧ (∀ s, s ≠ 7 → r' 1 s = r 1 s) ∧ (∀ k, k ≠ 0 → m' k = m k) ∧ (∀ s, s ≠ 10 → m' 0 s = m 0 s) ∧ ∀ i, a ≤ i → i < a' → ¬ f_X5_isLetter (m 6 i) = 0 := by
  intro k
  induction k with
  | zero =>
    intro a n n' r m ha hn hn' h h6 h10
    obtain ⟨n, rfl⟩ : ∃ k, n = k + 1 := ⟨n - 1, by omega⟩
    obtain ⟨n', rfl⟩ : ∃ k, n' = k + 1 := ⟨n' - 1, by omega⟩
    refine ⟨r, m, a, ?_, ?_, h, Nat.le_refl _, by omega, h6, h10, fun _ _ => rfl, fun _ _ => rfl, fun _ _ => rfl, fun _ _ => rfl, fun i h1 h2 => by omega⟩
    · rw [f_X5_readWord_L0, h.1, h6, if_pos (nI_le (by omega) (by omega))]
    · rw [f_X11_reads_L90, h10, raw_eq h hc (by omega), b1s, if_pos (show a = c by omega), lts, show f_X11_isLetter (-1) = 0 by decide, if_pos rfl]
  | succ k ih =>
    intro a n n' r m ha hn hn' h h6 h10
    obtain ⟨n, rfl⟩ : ∃ k, n = k + 1 := ⟨n - 1, by omega⟩
    obtain ⟨n', rfl⟩ : ∃ k, n' = k + 1 := ⟨n' - 1, by omega⟩
    have hch := (h.2.2 a (by omega)).1
    have eC : f_X5_readWord_L0 (n + 1) r = if f_X5_isLetter (m 6 a) = 0 then some r else f_X5_readWord_L0 n (mj_wrs r 1 7 (nI (a + 1))) := by
      rw [f_X5_readWord_L0, h.1, h6, if_neg (nI_ge (by omega) (by omega)), chk_t (okI (by omega) (by decide)), clI (by omega), hch, lts, lts, nI_1]
    have eR : f_X11_reads_L90 (n' + 1) m = if f_X5_isLetter (m 6 a) = 0 then some m else f_X11_reads_L90 n' (mj_wrs m 0 10 (nI (a + 1))) := by
      rw [f_X11_reads_L90, h10, raw_eq h hc (by omega), b1s, if_neg (show ¬ a = c by omega), lts, lts, nI_1, letter_eq]
    rw [eC, eR]
    by_cases z : f_X5_isLetter (m 6 a) = 0
    · exact ⟨r, m, a, by rw [if_pos z], by rw [if_pos z], h, Nat.le_refl _, by omega, h6, h10, fun _ _ => rfl, fun _ _ => rfl, fun _ _ => rfl, fun _ _ => rfl, fun i h1 h2 => by omega⟩
    · rw [if_neg z, if_neg z]
      obtain ⟨r', m', a', b1, b2, b3, b4, b5, b6, b7, b8, b9, b10, b11, b12⟩ := ih (a + 1) n n' (mj_wrs r 1 7 (nI (a + 1))) (mj_wrs m 0 10 (nI (a + 1))) (by omega) (by omega) (by omega) (h.keep (fun k hk => wr_row _ _ _ _ _ hk) (wr_e (Or.inr (by decide))) (fun k hk => wr_row _ _ _ _ _ hk) (wr_e (Or.inr (by decide)))) (rs _ _ _ _) (rs _ _ _ _)
      refine ⟨r', m', a', b1, b2, b3, by omega, b5, b6, b7, fun k hk => by rw [b8 k hk, wr_row _ _ _ _ _ hk], fun s hs => by rw [b9 s hs, wr_e (Or.inr hs)], fun k hk => by rw [b10 k hk, wr_row _ _ _ _ _ hk], fun s hs => by rw [b11 s hs, wr_e (Or.inr hs)], fun i h1 h2 => ?_⟩
      by_cases y : i = a
      · rw [y]
        exact z
      · have q := b12 i (by omega) h2
        rw [wr_row _ _ _ _ _ (by decide)] at q
        exact q
