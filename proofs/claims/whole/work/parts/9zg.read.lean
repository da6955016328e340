/-! plan: the reader -/
theorem raw_eq {r m : mj_m} {c a : Nat} (h : RDc r m c) (hc : c ≤ 400) (ha : a ≤ c) : f_X11_raw (nI a) m = some (if a = c then -1 else m 6 a) := by
  obtain ⟨h1, h2, h3⟩ := h
  unfold f_X11_raw
  rw [h2]
  by_cases z : a = c
  · rw [if_pos (nI_le (by omega) (by omega)), if_pos z]
  · rw [if_neg (nI_ge (by omega) (by omega)), if_neg z, chk_t (okI (by omega) (by decide)), clI (by omega)]
theorem RDc.keep {r r' m m' : mj_m} {c : Nat} (h : RDc r m c) (hr : ∀ k, k ≠ 1 → r' k = r k) (hr1 : r' 1 1 = r 1 1) (hm : ∀ k, k ≠ 0 → m' k = m k) (hm9 : m' 0 9 = m 0 9) : RDc r' m' c := by
  obtain ⟨h1, h2, h3⟩ := h
  exact ⟨hr1.trans h1, hm9.trans h2, fun i hi => by rw [hr 2 (by decide), hm 6 (by decide)]; exact h3 i hi⟩
theorem skipL {c : Nat} (hc : c ≤ 400) : ∀ (k a n n' : Nat) (r m : mj_m), a + k = c → k < n → k < n' → RDc r m c → r 1 6 = nI a → m 0 10 = nI a → ∃ (r' m' : mj_m) (a' : Nat), f_X5_nextToken_L8 n r = some r' ∧ f_X11_reads_L0 n' m = some m' ∧ RDc r' m' c ∧ a ≤ a' ∧ a' ≤ c ∧ r' 1 6 = nI a' ∧ m' 0 10 = nI a' ∧ (∀ k, k ≠ 1 → r' k = r k) ∧ (∀ s, s ≠ 6 → r' 1 s = r 1 s) ∧ (∀ k, k ≠ 0 → m' k = m k) ∧ (∀ s, s ≠ 10 → m' 0 s = m 0 s) := by
  intro k
  induction k with
  | zero =>
    intro a n n' r m ha hn hn' h h6 h10
    obtain ⟨n, rfl⟩ : ∃ k, n = k + 1 := ⟨n - 1, by omega⟩
    obtain ⟨n', rfl⟩ : ∃ k, n' = k + 1 := ⟨n' - 1, by omega⟩
    refine ⟨r, m, a, ?_, ?_, h, Nat.le_refl _, by omega, h6, h10, fun _ _ => rfl, fun _ _ => rfl, fun _ _ => rfl, fun _ _ => rfl⟩
    · rw [f_X5_nextToken_L8, h.1, h6, if_pos (nI_le (by omega) (by omega))]
    · rw [f_X11_reads_L0, h10, raw_eq h hc (by omega), b1s, if_pos (show a = c by omega), if_neg (by decide), b1s, if_neg (by decide)]
  | succ k ih =>
    intro a n n' r m ha hn hn' h h6 h10
    obtain ⟨n, rfl⟩ : ∃ k, n = k + 1 := ⟨n - 1, by omega⟩
    obtain ⟨n', rfl⟩ : ∃ k, n' = k + 1 := ⟨n' - 1, by omega⟩
    have hch := (h.2.2 a (by omega)).1
    have eC : f_X5_nextToken_L8 (n + 1) r = if f_X5_isBlank (m 6 a) = 0 then some r else f_X5_nextToken_L8 n (mj_wrs r 1 6 (nI (a + 1))) := by
      rw [f_X5_nextToken_L8, h.1, h6, if_neg (nI_ge (by omega) (by omega)), chk_t (okI (by omega) (by decide)), clI (by omega), hch, lts, lts, nI_1]
    have eR : f_X11_reads_L0 (n' + 1) m = if f_X5_isBlank (m 6 a) = 0 then some m else f_X11_reads_L0 n' (mj_wrs m 0 10 (nI (a + 1))) := by
      rw [f_X11_reads_L0, h10, raw_eq h hc (by omega), b1s, b1s, if_neg (show ¬ a = c by omega), lts, nI_1]
      unfold f_X5_isBlank
      by_cases z : m 6 a = 32
      · rw [if_pos z, if_pos z, if_neg one0]
      · rw [if_neg z, if_neg z]
        by_cases y : m 6 a = 10
        · rw [if_pos y, if_pos y, if_neg one0]
        · rw [if_neg y, if_neg y, if_pos rfl]
    rw [eC, eR]
    by_cases z : f_X5_isBlank (m 6 a) = 0
    · exact ⟨r, m, a, by rw [if_pos z], by rw [if_pos z], h, Nat.le_refl _, by omega, h6, h10, fun _ _ => rfl, fun _ _ => rfl, fun _ _ => rfl, fun _ _ => rfl⟩
    · rw [if_neg z, if_neg z]
      obtain ⟨r', m', a', b1, b2, b3, b4, b5, b6, b7, b8, b9, b10, b11⟩ := ih (a + 1) n n' (mj_wrs r 1 6 (nI (a + 1))) (mj_wrs m 0 10 (nI (a + 1))) (by omega) (by omega) (by omega) (h.keep (fun k hk => wr_row _ _ _ _ _ hk) (wr_e (Or.inr (by decide))) (fun k hk => wr_row _ _ _ _ _ hk) (wr_e (Or.inr (by decide)))) (rs _ _ _ _) (rs _ _ _ _)
      exact ⟨r', m', a', b1, b2, b3, by omega, b5, b6, b7, fun k hk => by rw [b8 k hk, wr_row _ _ _ _ _ hk], fun s hs => by rw [b9 s hs, wr_e (Or.inr hs)], fun k hk => by rw [b10 k hk, wr_row _ _ _ _ _ hk], fun s hs => by rw [b11 s hs, wr_e (Or.inr hs)]⟩
