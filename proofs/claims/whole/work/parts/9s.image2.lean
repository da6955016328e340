/-! image -/
theorem cpyO {f : Nat → Int32 → mj_m → Option mj_m} {a b N oa ob : Nat} (hab : a ≠ b) (hN : N ≤ 2000) (h0 : ∀ n i m, N ≤ i → i < 2 ^ 30 → f (n + 1) (nI i) m = some m) (h1 : ∀ n i m, i < N → f (n + 1) (nI i) m = f n (nI (i + 1)) (mj_wrs m b (ob + i) (m a (oa + i)))) : ∀ (k i n : Nat) (m : mj_m), i + k = N → k < n → ∃ m' : mj_m, f n (nI i) m = some m' ∧ (∀ p, p ≠ b → m' p = m p) ∧ (∀ s, s < ob + i ∨ ob + N ≤ s → m' b s = m b s) ∧ ∀ s, i ≤ s → s < N → m' b (ob + s) = m a (oa + s) := by
  intro k
  induction k with
  | zero =>
    intro i n m hi hn
    obtain ⟨n, rfl⟩ : ∃ k, n = k + 1 := ⟨n - 1, by omega⟩
    exact ⟨m, h0 n i m (by omega) (by omega), fun _ _ => rfl, fun s _ => rfl, fun s h1 h2 => by omega⟩
  | succ k ih =>
    intro i n m hi hn
    obtain ⟨n, rfl⟩ : ∃ k, n = k + 1 := ⟨n - 1, by omega⟩
    obtain ⟨m', e1, e2, e3, e4⟩ := ih (i + 1) n (mj_wrs m b (ob + i) (m a (oa + i))) (by omega) (by omega)
    refine ⟨m', (h1 n i m (by omega)).trans e1, fun p hp => by rw [e2 p hp, wr_row _ _ _ _ _ hp], fun s hs => ?_, fun s h1 h2 => ?_⟩
    · rw [e3 s (by omega), wr_e (Or.inr (by omega))]
    · by_cases z : s = i
      · rw [z, e3 _ (by omega), rs]
      · rw [e4 s (by omega) h2, wr_row _ _ _ _ a hab]
theorem imgG (m : mj_m) : ∃ m' : mj_m, f_X11_image_J18 0 m = some (1, m') ∧ (∀ p, p ≠ 0 → p ≠ 1 → p ≠ 8 → m' p = m p) ∧ (∀ s, s ≠ 19 → s ≠ 21 → m' 0 s = m 0 s) ∧ m' 0 21 = 1 ∧ m' 0 19 = m 9 1945 ∧ (∀ s, s < 1897 → m' 1 s = m 9 s) ∧ ∀ s, s < 48 → m' 8 s = m 9 (1897 + s) := by
  obtain ⟨m1, a1, a2, a3⟩ := cpyL (f := f_X11_image_L25 0) (a := 9) (b := 1) (N := 1897) (by decide) (by decide) (fun n i m hi hi2 => by rw [f_X11_image_L25, if_pos (show (1897 : Int32) ≤ nI i from nI_le (a := 1897) hi (by omega))]) (fun n i m hi => by rw [f_X11_image_L25, if_neg (show ¬ (1897 : Int32) ≤ nI i from nI_ge (b := 1897) hi (by decide)), if_pos rfl, chk_t (okI (by omega) (by decide)), chk_t (okI hi (by decide)), lts, lts, clI (by omega), nI_1]) 1897 0 mj_fu (mj_wrs m 0 21 1) (by omega) (by unfold mj_fu; omega)
  obtain ⟨m2, b1, b2, b3, b4⟩ := cpyO (f := f_X11_image_L71 0) (a := 9) (b := 8) (N := 48) (oa := 1897) (ob := 0) (by decide) (by decide) (fun n i m hi hi2 => by rw [f_X11_image_L71, if_pos (show (48 : Int32) ≤ nI i from nI_le (a := 48) hi (by omega))]) (fun n i m hi => by rw [f_X11_image_L71, if_neg (show ¬ (48 : Int32) ≤ nI i from nI_ge (b := 48) hi (by decide)), if_pos rfl, show (1897 : Int32) + nI i = nI (1897 + i) from nI_add 1897 i, chk_t (okI (by omega) (by decide)), chk_t (okI (by omega) (by decide)), lts, lts, clI (by omega), clI (by omega), nI_1, Nat.zero_add]) 48 0 mj_fu m1 (by omega) (by unfold mj_fu; omega)
  have a1' : f_X11_image_L25 0 mj_fu 0 (mj_wrs m 0 21 1) = some m1 := a1
  have b1' : f_X11_image_L71 0 mj_fu 0 m1 = some m2 := b1
  refine ⟨mj_wrs m2 0 19 (m2 9 1945), ?_, fun p p0 p1 p8 => by rw [wr_row _ _ _ _ _ p0, b2 p p8, a2 p p1, wr_row _ _ _ _ _ p0], fun s s9 s1 => by rw [wr_e (Or.inr s9), b2 0 (by decide), a2 0 (by decide), wr_e (Or.inr s1)], by rw [wr_e (Or.inr (by decide)), b2 0 (by decide), a2 0 (by decide), rs], by rw [rs, b2 9 (by decide), a2 9 (by decide), wr_e (Or.inl (by decide))], fun s hs => ?_, fun s hs => ?_⟩
  · unfold f_X11_image_J18
    rw [lts, a1', b1s, b1', b1s, if_pos rfl, lts]
  · rw [wr_e (Or.inl (by decide)), b2 1 (by decide), a3, if_pos (by omega), wr_e (Or.inl (by decide))]
  · have z := b4 s (by omega) hs
    rw [Nat.zero_add] at z
    rw [wr_e (Or.inl (by decide)), z, a2 9 (by decide), wr_e (Or.inl (by decide))]
theorem imgP (m : mj_m) {x : Int32} (hx : x ≠ 0) : ∃ m' : mj_m, f_X11_image_J18 x m = some (1, m') ∧ (∀ p, p ≠ 0 → p ≠ 9 → m' p = m p) ∧ (∀ s, s ≠ 21 → m' 0 s = m 0 s) ∧ m' 0 21 = 1 ∧ m' 9 1945 = m 0 19 ∧ (∀ s, s < 1897 → m' 9 s = m 1 s) ∧ ∀ s, s < 48 → m' 9 (1897 + s) = m 8 s := by
  obtain ⟨m1, a1, a2, a3⟩ := cpyL (f := f_X11_image_L25 x) (a := 1) (b := 9) (N := 1897) (by decide) (by decide) (fun n i m hi hi2 => by rw [f_X11_image_L25, if_pos (show (1897 : Int32) ≤ nI i from nI_le (a := 1897) hi (by omega))]) (fun n i m hi => by rw [f_X11_image_L25, if_neg (show ¬ (1897 : Int32) ≤ nI i from nI_ge (b := 1897) hi (by decide)), if_neg hx, chk_t (okI hi (by decide)), chk_t (okI (by omega) (by decide)), lts, lts, clI (by omega), nI_1]) 1897 0 mj_fu (mj_wrs m 0 21 1) (by omega) (by unfold mj_fu; omega)
  obtain ⟨m2, b1, b2, b3, b4⟩ := cpyO (f := f_X11_image_L71 x) (a := 8) (b := 9) (N := 48) (oa := 0) (ob := 1897) (by decide) (by decide) (fun n i m hi hi2 => by rw [f_X11_image_L71, if_pos (show (48 : Int32) ≤ nI i from nI_le (a := 48) hi (by omega))]) (fun n i m hi => by rw [f_X11_image_L71, if_neg (show ¬ (48 : Int32) ≤ nI i from nI_ge (b := 48) hi (by decide)), if_neg hx, show (1897 : Int32) + nI i = nI (1897 + i) from nI_add 1897 i, chk_t (okI (by omega) (by decide)), chk_t (okI (by omega) (by decide)), lts, lts, clI (by omega), clI (by omega), nI_1, Nat.zero_add]) 48 0 mj_fu m1 (by omega) (by unfold mj_fu; omega)
  have a1' : f_X11_image_L25 x mj_fu 0 (mj_wrs m 0 21 1) = some m1 := a1
  have b1' : f_X11_image_L71 x mj_fu 0 m1 = some m2 := b1
  refine ⟨mj_wrs m2 9 1945 (m2 0 19), ?_, fun p p0 p9 => by rw [wr_row _ _ _ _ _ p9, b2 p p9, a2 p p9, wr_row _ _ _ _ _ p0], fun s s1 => by rw [wr_e (Or.inl (by decide)), b2 0 (by decide), a2 0 (by decide), wr_e (Or.inr s1)], by rw [wr_e (Or.inl (by decide)), b2 0 (by decide), a2 0 (by decide), rs], by rw [rs, b2 0 (by decide), a2 0 (by decide), wr_e (Or.inr (by decide))], fun s hs => ?_, fun s hs => ?_⟩
  · unfold f_X11_image_J18
    rw [lts, a1', b1s, b1', b1s, if_neg hx, lts]
  · rw [wr_e (Or.inr (by omega)), b3 s (by omega), a3, if_pos (by omega), wr_e (Or.inl (by decide))]
  · have z := b4 s (by omega) hs
    rw [Nat.zero_add] at z
    rw [wr_e (Or.inr (by omega)), z, a2 8 (by decide), wr_e (Or.inl (by decide))]
theorem Inv_get {j : Nat} {M : mj_M} {l m' : mj_m} (h : Inv j M) (h3 : M 3 0 3 = 1) (hC : Cp (M 1) l) (hF : Fl (M 0) l) (hk : ∀ k, k ≠ 0 → k ≠ 1 → k ≠ 8 → m' k = M 4 k) (h0 : ∀ s, s ≠ 0 → s ≠ 19 → s ≠ 21 → m' 0 s = M 4 0 s) (h21 : m' 0 21 = 1) (h19 : m' 0 19 = M 4 9 1945) (h1 : ∀ s, s < 1897 → m' 1 s = M 4 9 s) (h8 : ∀ s, s < 48 → m' 8 s = M 4 9 (1897 + s)) : Inv (j + 1) (va_up (va_up M 0 l) 4 m') := by
  obtain ⟨⟨c1, c2, c3⟩, hl, ⟨r1, r2, r3, r4, r5⟩, i1, i2⟩ := h
  have e0 : va_up (va_up M 0 l) 4 m' 0 = l := rfl
  have e1 : va_up (va_up M 0 l) 4 m' 1 = M 1 := rfl
  have e3 : va_up (va_up M 0 l) 4 m' 3 = M 3 := rfl
  have e4 : va_up (va_up M 0 l) 4 m' 4 = m' := rfl
  have hi : I_link (M 1) (M 4 9) (fun k => M 4 9 (1897 + k)) (M 4 9 1945, 0) (24 * j) (24 * j + 50 * mj_cl (M 4 9 11)) (50 * mj_cl (M 4 9 11)) (9999, (40, 0), (40, 0)) := by
    rcases i2 with h | ⟨-, hh⟩
    · rw [h3] at h
      exact absurd h (by decide)
    · exact hh
  refine ⟨⟨?_, ?_, ?_⟩, ?_, ⟨?_, ?_, ?_, ?_, ?_⟩, ?_, ?_⟩
  · rw [e4, hk 4 (by decide) (by decide) (by decide)]
    exact c1
  · rw [e4, hk 7 (by decide) (by decide) (by decide)]
    exact c2
  · intro β hβ
    rw [up_at, if_neg (by omega), up_at]
    by_cases z : β = 0
    · rw [if_pos z]
      exact Wd.fl (c3 0 (by decide)) hF
    · rw [if_neg z]
      exact c3 β hβ
  · rw [e0, e4, h19, h1 11 (by decide)]
    exact I_link_mono (I_link_ext hi hC h1 h8)
  · rw [e3, e4, h0 9 (by decide) (by decide) (by decide)]
    exact r1
  · rw [e4, h0 9 (by decide) (by decide) (by decide)]
    exact r2
  · intro i hi
    rw [e3, e4, hk 6 (by decide) (by decide) (by decide)]
    rw [e4, h0 9 (by decide) (by decide) (by decide)] at hi
    exact r3 i hi
  · rw [e3, e4, h0 17 (by decide) (by decide) (by decide)]
    exact r4
  · rw [e3, e4, h0 18 (by decide) (by decide) (by decide)]
    exact r5
  · rw [e3, e4, h21]
    exact h3
  · rw [e3, e1, e4, hk 9 (by decide) (by decide) (by decide)]
    exact Or.inr ⟨h3, I_link_mono hi⟩
theorem Inv_put {j : Nat} {M : mj_M} {l m' : mj_m} (h : Inv j M) (hC : Cp (M 0) l) (hF : Fl (M 1) l) (hk : ∀ k, k ≠ 0 → k ≠ 9 → m' k = M 4 k) (h0 : ∀ s, s ≠ 0 → s ≠ 21 → m' 0 s = M 4 0 s) (h21 : m' 0 21 = 1) (h19 : m' 9 1945 = M 4 0 19) (h1 : ∀ s, s < 1897 → m' 9 s = M 4 1 s) (h8 : ∀ s, s < 48 → m' 9 (1897 + s) = M 4 8 s) : Inv (j + 1) (va_up (va_up (va_up M 1 l) 3 (mj_wrs (M 3) 0 3 1)) 4 m') := by
  obtain ⟨⟨c1, c2, c3⟩, hl, ⟨r1, r2, r3, r4, r5⟩, i1, i2⟩ := h
  have e0 : va_up (va_up (va_up M 1 l) 3 (mj_wrs (M 3) 0 3 1)) 4 m' 0 = M 0 := rfl
  have e1 : va_up (va_up (va_up M 1 l) 3 (mj_wrs (M 3) 0 3 1)) 4 m' 1 = l := rfl
  have e3 : va_up (va_up (va_up M 1 l) 3 (mj_wrs (M 3) 0 3 1)) 4 m' 3 = mj_wrs (M 3) 0 3 1 := rfl
  have e4 : va_up (va_up (va_up M 1 l) 3 (mj_wrs (M 3) 0 3 1)) 4 m' 4 = m' := rfl
  refine ⟨⟨?_, ?_, ?_⟩, ?_, ⟨?_, ?_, ?_, ?_, ?_⟩, ?_, ?_⟩
  · rw [e4, hk 4 (by decide) (by decide)]
    exact c1
  · rw [e4, hk 7 (by decide) (by decide)]
    exact c2
  · intro β hβ
    rw [up_at, if_neg (by omega), up_at, if_neg (by omega), up_at]
    by_cases z : β = 1
    · rw [if_pos z]
      exact Wd.fl (c3 1 (by decide)) hF
    · rw [if_neg z]
      exact c3 β hβ
  · rw [e0, e4, h0 19 (by decide) (by decide), hk 1 (by decide) (by decide), hk 8 (by decide) (by decide)]
    exact I_link_mono hl
  · rw [e3, e4, h0 9 (by decide) (by decide), wr_e (Or.inl (by decide))]
    exact r1
  · rw [e4, h0 9 (by decide) (by decide)]
    exact r2
  · intro i hi
    rw [e3, e4, hk 6 (by decide) (by decide), wr_e (Or.inl (by decide))]
    rw [e4, h0 9 (by decide) (by decide)] at hi
    exact r3 i hi
  · rw [e3, e4, h0 17 (by decide) (by decide), wr_e (Or.inl (by decide))]
    exact r4
  · rw [e3, e4, h0 18 (by decide) (by decide), wr_e (Or.inl (by decide))]
    exact r5
  · rw [e3, e4, h21, rs]
  · rw [e3, e1, e4, rs, h19, h1 11 (by decide)]
    exact Or.inr ⟨rfl, I_link_mono (I_link_ext hl hC h1 h8)⟩
theorem c_image : CL_image Inv := by
  intro j M x1 hj h
  have hw : ∀ k s, k ≠ 0 → mj_wrs (M 4) 0 0 0 k s = M 4 k s := fun k s hk => wr_e (Or.inl hk)
  have hwr : ∀ k, k ≠ 0 → mj_wrs (M 4) 0 0 0 k = M 4 k := fun k hk => wr_row _ _ _ _ _ hk
  have h0w : ∀ s, s ≠ 0 → mj_wrs (M 4) 0 0 0 0 s = M 4 0 s := fun s hs => wr_e (Or.inr hs)
  have h21 : M 3 0 3 = M 4 0 21 := h.2.2.2.1
  by_cases hx : lb x1 = 0
  · rw [hx]
    by_cases hz : M 3 0 3 = 0
    · refine ⟨0, M, mj_wrs (M 4) 0 0 0, ?_, ?_, Inv_q0 h⟩
      · unfold f_X10_image
        rw [if_pos rfl, if_pos hz, hz]
        rfl
      · unfold f_X11_image
        rw [lts, if_pos rfl, if_pos (by rw [h0w 21 (by decide), ← h21, hz])]
    · obtain ⟨h3, hi⟩ : M 3 0 3 = 1 ∧ I_link (M 1) (M 4 9) (fun k => M 4 9 (1897 + k)) (M 4 9 1945, 0) (24 * j) (24 * j + 50 * mj_cl (M 4 9 11)) (50 * mj_cl (M 4 9 11)) (9999, (40, 0), (40, 0)) := h.2.2.2.2.resolve_left hz
      obtain ⟨l, a1, a2, a3⟩ := link_copy hi (M 0)
      obtain ⟨m', b1, b2, b3, b4, b5, b6, b7⟩ := imgG (mj_wrs (M 4) 0 0 0)
      refine ⟨1, va_up M 0 l, m', ?_, ?_, Inv_get h h3 a2 a3 (fun k k0 k1 k8 => by rw [b2 k k0 k1 k8, hwr k k0]) (fun s s0 s1 s2 => by rw [b3 s s1 s2, h0w s s0]) b4 (by rw [b5, hw _ _ (by decide)]) (fun s hs => by rw [b6 s hs, hw _ _ (by decide)]) (fun s hs => by rw [b7 s hs, hw _ _ (by decide)])⟩
      · unfold f_X10_image
        rw [if_pos rfl, if_neg hz, a1, b1s, lts, show va_up M 0 l 3 0 3 = M 3 0 3 from rfl, h3]
        rfl
      · unfold f_X11_image
        rw [show va_up M 0 l 4 = M 4 from rfl, lts, if_pos rfl, if_neg (by rw [h0w 21 (by decide), ← h21, h3]; decide), b1]
  · obtain ⟨l, a1, a2, a3⟩ := link_copy h.2.1 (M 1)
    obtain ⟨m', b1, b2, b3, b4, b5, b6, b7⟩ := imgP (mj_wrs (M 4) 0 0 0) hx
    refine ⟨1, va_up (va_up M 1 l) 3 (mj_wrs (M 3) 0 3 1), m', ?_, ?_, Inv_put h a2 a3 (fun k k0 k9 => by rw [b2 k k0 k9, hwr k k0]) (fun s s0 s1 => by rw [b3 s s1, h0w s s0]) b4 (by rw [b5, h0w _ (by decide)]) (fun s hs => by rw [b6 s hs, hw _ _ (by decide)]) (fun s hs => by rw [b7 s hs, hw _ _ (by decide)])⟩
    · unfold f_X10_image
      rw [if_neg hx, a1, b1s, lts, lts]
      rfl
    · unfold f_X11_image
      rw [show va_up (va_up M 1 l) 3 (mj_wrs (M 3) 0 3 1) 4 = M 4 from rfl, lts, if_neg hx, b1]
