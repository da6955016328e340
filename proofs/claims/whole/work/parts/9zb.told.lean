/-! told: the reference's text -/
def TXT (m0 m : mj_m) (L : List Nat) : Prop := m 0 7 = nI L.length ∧ L.length ≤ 60 ∧ (∀ i, i < L.length → m 5 i = nI (tl L i)) ∧ (∀ k, k ≠ 0 → k ≠ 5 → m k = m0 k) ∧ ∀ s, s ≠ 7 → m 0 s = m0 0 s
theorem tl_one (c : Nat) : tl [c] 0 = c := rfl
theorem says_eq {m0 m : mj_m} {L : List Nat} (h : TXT m0 m L) (hl : L.length < 60) (c : Nat) : ∃ m' : mj_m, f_X11_says (nI c) m = some m' ∧ TXT m0 m' (L ++ [c]) := by
  obtain ⟨h1, h2, h3, h4, h5⟩ := h
  have hlen : (L ++ [c]).length = L.length + 1 := by rw [List.length_append]; rfl
  refine ⟨mj_wrs (mj_wrs m 5 L.length (nI c)) 0 7 (nI (L.length + 1)), ?_, ?_, by omega, fun i hi => ?_, fun k k0 k5 => ?_, fun s hs => ?_⟩
  · unfold f_X11_says
    rw [h1, chk_t (okI hl (by decide)), lts, lts, clI (by omega), wr_e (Or.inl (by decide)), h1, nI_1]
  · rw [rs, hlen]
  · rw [wr_e (Or.inl (by decide))]
    by_cases z : i = L.length
    · rw [z, rs, tl_right (Nat.le_refl _), Nat.sub_self]
      rfl
    · rw [wr_e (Or.inr z), tl_left (by omega), h3 i (by omega)]
  · rw [wr_row _ _ _ _ _ k0, wr_row _ _ _ _ _ k5, h4 k k0 k5]
  · rw [wr_e (Or.inr hs), wr_e (Or.inl (by decide)), h5 s hs]
theorem dgN (v : Nat) (hv : v < 256) : (48 + mj_rem (nI v) 10 = nI (48 + v % 10)) ∧ (48 + mj_rem (nI v / 10) 10 = nI (48 + v / 10 % 10)) ∧ (48 + nI v / 100 = nI (48 + v / 100)) := by
  have e1 : mj_rem (nI v) 10 = nI (v % 10) := pk_rem (d := 10) (by omega) (by decide) (by decide)
  have e2 : nI v / 10 = nI (v / 10) := pk_div (d := 10) (by omega) (by decide) (by decide)
  have e3 : mj_rem (nI (v / 10)) 10 = nI (v / 10 % 10) := pk_rem (d := 10) (by omega) (by decide) (by decide)
  have e4 : nI v / 100 = nI (v / 100) := pk_div (d := 100) (by omega) (by decide) (by decide)
  rw [e1, e2, e3, e4]
  exact ⟨nI_add 48 _, nI_add 48 _, nI_add 48 _⟩
theorem num_eq1 {m0 m : mj_m} {L : List Nat} (h : TXT m0 m L) (hl : L.length < 57) {v : Nat} (hv : v < 256) : ∃ m' : mj_m, f_X11_saysNumber (nI v) m = some m' ∧ TXT m0 m' (L ++ dg v) := by
  obtain ⟨g1, g2, g3⟩ := dgN v hv
  unfold f_X11_saysNumber f_X11_saysNumber_J17 f_X11_saysNumber_J37 dg
  rw [g1, g2, g3]
  have le9 : (nI v ≤ 9) ↔ v < 10 := ⟨fun z => Decidable.byContradiction (fun y => absurd z (show ¬ nI v ≤ nI 9 from nI_ge (by omega) (by omega))), fun z => nI_le (b := 9) (by omega) (by decide)⟩
  have le99 : (nI v ≤ 99) ↔ v < 100 := ⟨fun z => Decidable.byContradiction (fun y => absurd z (show ¬ nI v ≤ nI 99 from nI_ge (by omega) (by omega))), fun z => nI_le (b := 99) (by omega) (by decide)⟩
  by_cases a : v < 10
  · obtain ⟨m1, a1, a2⟩ := says_eq h (by omega) (48 + v % 10)
    refine ⟨m1, ?_, ?_⟩
    · rw [if_pos (le99.mpr (by omega)), if_pos (le9.mpr a), a1, b1s]
    · rw [if_pos a, show v = v % 10 by omega]
      exact a2
  · by_cases b : v < 100
    · obtain ⟨m1, a1, a2⟩ := says_eq h (by omega) (48 + v / 10 % 10)
      obtain ⟨m2, b1, b2⟩ := says_eq a2 (by rw [List.length_append]; show L.length + 1 < 60; omega) (48 + v % 10)
      refine ⟨m2, ?_, ?_⟩
      · rw [if_pos (le99.mpr b), if_neg (fun z => a (le9.mp z)), a1, b1s, b1, b1s]
      · rw [if_neg a, if_pos b]
        rw [show v / 10 % 10 = v / 10 by omega, List.append_assoc] at b2
        exact b2
    · obtain ⟨m1, a1, a2⟩ := says_eq h (by omega) (48 + v / 100)
      obtain ⟨m2, b1, b2⟩ := says_eq a2 (by rw [List.length_append]; show L.length + 1 < 60; omega) (48 + v / 10 % 10)
      obtain ⟨m3, c1, c2⟩ := says_eq b2 (by rw [List.length_append, List.length_append]; show L.length + 1 + 1 < 60; omega) (48 + v % 10)
      refine ⟨m3, ?_, ?_⟩
      · rw [if_neg (fun z => b (le99.mp z)), a1, b1s, if_neg (fun z => a (le9.mp z)), b1, b1s, c1, b1s]
      · rw [if_neg a, if_neg b]
        rw [List.append_assoc, List.append_assoc] at c2
        exact c2
def nmT : Nat → Int32 := mj_pre lst_X11_init_q4 95
theorem L4_ext (l1 : Int32) {m m' : mj_m} (h : m 4 = m' 4) : ∀ (n : Nat) (l2 l3 : Int32), f_X11_saysName_L4 l1 n l2 l3 m = f_X11_saysName_L4 l1 n l2 l3 m' := by
  intro n
  induction n with
  | zero => intro l2 l3; rfl
  | succ n ih =>
    intro l2 l3
    rw [f_X11_saysName_L4, f_X11_saysName_L4, h]
    simp only [ih]
theorem sayW {m0 : mj_m} (h4 : m0 4 = nmT) : ∀ (W : List Nat) (p n : Nat) (m : mj_m) (L : List Nat), (∀ i, i < W.length → nmT (p + i) = nI (tl W i) ∧ nmT (p + i) ≠ 32) → nmT (p + W.length) = 32 → p + W.length < 95 → W.length < n → TXT m0 m L → L.length + W.length ≤ 60 → ∃ m' : mj_m, f_X11_saysName_L36 n (nI p) m = some m' ∧ TXT m0 m' (L ++ W) := by
  intro W
  induction W with
  | nil =>
    intro p n m L h1 h2 h3 hn ht hl
    obtain ⟨n, rfl⟩ : ∃ k, n = k + 1 := ⟨n - 1, by omega⟩
    have e4 : m 4 = nmT := by rw [ht.2.2.2.1 4 (by decide) (by decide), h4]
    refine ⟨m, ?_, by rw [List.append_nil]; exact ht⟩
    have h3' : p < 95 := h3
    rw [f_X11_saysName_L36, chk_t (okI h3' (by decide)), clI (by omega), e4, if_pos (show nmT p = 32 from h2)]
  | cons c W ih =>
    intro p n m L h1 h2 h3 hn ht hl
    have hlen : (c :: W).length = W.length + 1 := rfl
    obtain ⟨n, rfl⟩ : ∃ k, n = k + 1 := ⟨n - 1, by omega⟩
    have e4 : m 4 = nmT := by rw [ht.2.2.2.1 4 (by decide) (by decide), h4]
    obtain ⟨q1, q2⟩ := h1 0 (by omega)
    have q1' : nmT p = nI c := q1
    have q2' : ¬ nmT p = 32 := q2
    obtain ⟨m1, a1, a2⟩ := says_eq ht (by omega) c
    obtain ⟨m', b1, b2⟩ := ih (p + 1) n m1 (L ++ [c]) (fun i hi => by
      have z := h1 (i + 1) (by omega)
      rw [show p + (i + 1) = p + 1 + i by omega] at z
      exact z) (by rw [show p + 1 + W.length = p + (c :: W).length by omega]; exact h2) (by omega) (by omega) a2 (by rw [List.length_append]; show L.length + 1 + W.length ≤ 60; omega)
    refine ⟨m', ?_, by rw [List.append_assoc] at b2; exact b2⟩
    rw [f_X11_saysName_L36, chk_t (okI (by omega) (by decide)), clI (by omega), e4, if_neg q2', chk_t (okI (by omega) (by decide)), q1', a1, b1s, lts, nI_1]
    exact b1
def NM (k p i : Nat) : Prop := f_X11_saysName_L4 (nI k) mj_fu 0 0 (fun _ => nmT) = some (nI p) ∧ (∀ j, j < (sw i).length → nmT (p + 1 + j) = nI (tl (sw i) j) ∧ nmT (p + 1 + j) ≠ 32) ∧ nmT (p + 1 + (sw i).length) = 32 ∧ p + 1 + (sw i).length < 95
theorem nameE {m0 m : mj_m} {L : List Nat} {k p i : Nat} (hN : NM k p i) (h4 : m0 4 = nmT) (ht : TXT m0 m L) (hl : L.length + (sw i).length ≤ 60) : ∃ m' : mj_m, f_X11_saysName (nI k) m = some m' ∧ TXT m0 m' (L ++ sw i) := by
  obtain ⟨n1, n2, n3, n4⟩ := hN
  have e4 : m 4 = nmT := by rw [ht.2.2.2.1 4 (by decide) (by decide), h4]
  obtain ⟨m', a1, a2⟩ := sayW h4 (sw i) (p + 1) mj_fu m L n2 n3 n4 (by unfold mj_fu; omega) ht hl
  refine ⟨m', ?_, a2⟩
  unfold f_X11_saysName
  rw [L4_ext (nI k) (m' := fun _ => nmT) e4, n1, b1s, lts, nI_1, a1, b1s]
theorem NM_0_13 : NM 0 0 13 := ⟨by decide +kernel, by decide +kernel, by decide +kernel, by decide +kernel⟩
theorem NM_1_14 : NM 1 7 14 := ⟨by decide +kernel, by decide +kernel, by decide +kernel, by decide +kernel⟩
theorem NM_2_15 : NM 2 15 15 := ⟨by decide +kernel, by decide +kernel, by decide +kernel, by decide +kernel⟩
theorem NM_3_16 : NM 3 23 16 := ⟨by decide +kernel, by decide +kernel, by decide +kernel, by decide +kernel⟩
theorem NM_4_17 : NM 4 30 17 := ⟨by decide +kernel, by decide +kernel, by decide +kernel, by decide +kernel⟩
theorem NM_5_18 : NM 5 38 18 := ⟨by decide +kernel, by decide +kernel, by decide +kernel, by decide +kernel⟩
theorem NM_6_23 : NM 6 42 23 := ⟨by decide +kernel, by decide +kernel, by decide +kernel, by decide +kernel⟩
theorem NM_7_22 : NM 7 47 22 := ⟨by decide +kernel, by decide +kernel, by decide +kernel, by decide +kernel⟩
theorem NM_8_21 : NM 8 52 21 := ⟨by decide +kernel, by decide +kernel, by decide +kernel, by decide +kernel⟩
theorem NM_8_24 : NM 8 52 24 := ⟨by decide +kernel, by decide +kernel, by decide +kernel, by decide +kernel⟩
theorem NM_9_25 : NM 9 59 25 := ⟨by decide +kernel, by decide +kernel, by decide +kernel, by decide +kernel⟩
theorem NM_10_26 : NM 10 64 26 := ⟨by decide +kernel, by decide +kernel, by decide +kernel, by decide +kernel⟩
theorem NM_11_27 : NM 11 71 27 := ⟨by decide +kernel, by decide +kernel, by decide +kernel, by decide +kernel⟩
theorem NM_12_28 : NM 12 78 28 := ⟨by decide +kernel, by decide +kernel, by decide +kernel, by decide +kernel⟩
theorem NM_13_29 : NM 13 84 29 := ⟨by decide +kernel, by decide +kernel, by decide +kernel, by decide +kernel⟩
