/-! told: the answer -/
theorem rep_bits : ∀ f : Fin 32, ∀ b : Fin 256, mj_ush (mj_shl (nI f.1) 8 ||| nI b.1) 8 = nI f.1 ∧ (mj_shl (nI f.1) 8 ||| nI b.1) &&& 255 = nI b.1 := by decide +kernel
theorem rep_f : ∀ f : Fin 32, mj_ush (nI f.1) 3 = nI (f.1 / 8) ∧ nI f.1 / 8 = nI (f.1 / 8) ∧ ((nI f.1 &&& 1 ≤ 0) ↔ nI f.1 &&& 1 = 0) ∧ ((nI f.1 &&& 2 ≤ 0) ↔ nI f.1 &&& 2 = 0) ∧ ((nI f.1 &&& 4 ≤ 0) ↔ nI f.1 &&& 4 = 0) := by decide +kernel
theorem j79 {m0 m : mj_m} {L : List Nat} (h : TXT m0 m L) (i : Int32) : f_X11_told_J79 i m = some (tt_ans L i, m) := by
  obtain ⟨h1, h2, h3, -⟩ := h
  unfold f_X11_told_J79 tt_ans
  rw [h1]
  by_cases a : i = -1
  · rw [if_pos a, if_pos a]
  · rw [if_neg a, if_neg a]
    by_cases b : i < 0
    · rw [if_pos b, if_pos b]
    · rw [if_neg b, if_neg b]
      by_cases c : nI L.length ≤ i
      · rw [if_pos c, if_pos c]
      · rw [if_neg c, if_neg c]
        obtain ⟨q, hq, rfl⟩ := in_lt (by omega) b c
        rw [chk_t (okI (by omega) (by decide)), clI (by omega), h3 q hq]
theorem mwN {s : Nat} (h1 : 1 ≤ s) (h6 : s ≤ 6) : ∃ p, NM (s - 1) p (f_X10_machineWord (nI s)) := by
  rcases (by omega : s = 1 ∨ s = 2 ∨ s = 3 ∨ s = 4 ∨ s = 5 ∨ s = 6) with rfl | rfl | rfl | rfl | rfl | rfl
  · exact ⟨_, NM_0_13⟩
  · exact ⟨_, NM_1_14⟩
  · exact ⟨_, NM_2_15⟩
  · exact ⟨_, NM_3_16⟩
  · exact ⟨_, NM_4_17⟩
  · exact ⟨_, NM_5_18⟩
theorem alN {s : Nat} (h1 : 1 ≤ s) (h6 : s ≤ 6) : ∃ p, NM (s + 7) p (f_X10_alarmWord (nI s)) := by
  rcases (by omega : s = 1 ∨ s = 2 ∨ s = 3 ∨ s = 4 ∨ s = 5 ∨ s = 6) with rfl | rfl | rfl | rfl | rfl | rfl
  · exact ⟨_, NM_8_24⟩
  · exact ⟨_, NM_9_25⟩
  · exact ⟨_, NM_10_26⟩
  · exact ⟨_, NM_11_27⟩
  · exact ⟨_, NM_12_28⟩
  · exact ⟨_, NM_13_29⟩
theorem sw_19 : sw 19 = [32] ++ [35] := by decide +kernel
theorem sw_20 : sw 20 = [32] ++ [72, 69, 76, 68] ++ [32] := by decide +kernel
theorem sw_30 : sw 30 = [] := by decide +kernel
theorem heldE {m0 m : mj_m} {L : List Nat} (h4 : m0 4 = nmT) (ht : TXT m0 m L) (hl : L.length + 4 ≤ 60) : ∃ m' : mj_m, f_X11_saysName 14 m = some m' ∧ TXT m0 m' (L ++ [72, 69, 76, 68]) := by
  have e4 : m 4 = nmT := by rw [ht.2.2.2.1 4 (by decide) (by decide), h4]
  obtain ⟨m', a1, a2⟩ := sayW h4 [72, 69, 76, 68] 90 mj_fu m L (by decide +kernel) (by decide +kernel) (by decide) (by decide) ht hl
  refine ⟨m', ?_, a2⟩
  unfold f_X11_saysName
  have n1 : f_X11_saysName_L4 14 mj_fu 0 0 (fun _ => nmT) = some (nI 89) := by decide +kernel
  rw [L4_ext 14 (m' := fun _ => nmT) e4, n1, b1s, lts, nI_1, a1, b1s]
theorem dg_le (c : Nat) : (dg c).length ≤ 3 := by
  rw [dg_len]
  split
  · omega
  · split <;> omega
theorem swl {i : Nat} (hi : i < 31) : (sw i).length ≤ 10 := sw_le hi
theorem says' {m0 m : mj_m} {L : List Nat} (h : TXT m0 m L) (hl : L.length < 60) (c : Nat) {x : Int32} (hx : x = nI c) : ∃ m' : mj_m, f_X11_says x m = some m' ∧ TXT m0 m' (L ++ [c]) := by
  rw [hx]
  exact says_eq h hl c
theorem num' {m0 m : mj_m} {L : List Nat} (h : TXT m0 m L) (hl : L.length < 57) {x : Int32} (hx : rg 0 x 255) : ∃ m' : mj_m, f_X11_saysNumber x m = some m' ∧ TXT m0 m' (L ++ tt_n x) := by
  obtain ⟨k, hk, rfl⟩ := byN hx
  unfold tt_n
  rw [clI (by omega)]
  exact num_eq1 h hl hk
theorem rcvT {m0 m l : mj_m} {v : Nat} (h4 : m0 4 = nmT) (ht : TXT m0 m []) (g : I_rec l (m0 1) v) : ∃ m' : mj_m, f_X11_saysReceiver m = some m' ∧ TXT m0 m' (tt_rcv l) := by
  obtain ⟨⟨p1, p1r⟩, ⟨p2, p2r⟩, ⟨p3, p3r⟩, ⟨p4, p4r⟩, -⟩ := g
  have e1 : ∀ {m : mj_m} {L : List Nat}, TXT m0 m L → m 1 = m0 1 := fun h => h.2.2.2.1 1 (by decide) (by decide)
  have b01 : ∀ x : Int32, rg 0 x 1 → x = 0 ∨ x = 1 := fun x hx => by
    obtain ⟨q1, q2⟩ := hx
    by_cases z : x = 0
    · exact Or.inl z
    · right
      grind
  have tail : ∀ (k p i : Nat), NM k p i → i < 31 → ∃ m' : mj_m, f_X11_saysReceiver_J35 (nI k) m = some m' ∧ TXT m0 m' (if l 9 5 = 0 then (([] ++ sw i) ++ [32]) ++ tt_n (l 9 2) else ((([] ++ sw i) ++ [32]) ++ tt_n (l 9 2)) ++ [82]) := fun k p i hN hi => by
    have s10 := swl hi
    obtain ⟨m1, a1, a2⟩ := nameE hN h4 ht (by show 0 + _ ≤ 60; omega)
    obtain ⟨m2, c1, c2⟩ := says' a2 (by rw [List.length_append]; show 0 + _ < 60; omega) 32 (x := 32) rfl
    have l2 : ([] ++ sw i ++ [32]).length ≤ 11 := by
      rw [List.length_append, List.length_append]
      show 0 + _ + 1 ≤ 11
      omega
    obtain ⟨m3, d1, d2⟩ := num' c2 (by omega) p1r
    have l3 : ([] ++ sw i ++ [32] ++ tt_n (m0 1 13)).length ≤ 14 := by
      rw [List.length_append]
      have := dg_le (mj_cl (m0 1 13))
      unfold tt_n
      omega
    unfold f_X11_saysReceiver_J35
    rw [a1, b1s, c1, b1s, e1 c2, d1, b1s, e1 d2, p4, p1]
    rcases b01 _ p4r with z | z
    · refine ⟨m3, ?_, ?_⟩
      · rw [z, if_neg (by decide)]
      · rw [z, if_pos rfl]
        exact d2
    · obtain ⟨m4, f1, f2⟩ := says' d2 (by omega) 82 (x := 82) rfl
      refine ⟨m4, ?_, ?_⟩
      · rw [z, if_pos rfl, f1, b1s]
      · rw [z, if_neg one0]
        exact f2
  unfold f_X11_saysReceiver tt_rcv tt_rc0 tt_rw
  rw [e1 ht, p2, p3]
  rcases b01 _ p2r with z | z
  · rw [z, if_neg (by decide), if_pos rfl]
    rcases b01 _ p3r with y | y
    · rw [y, if_neg (by decide), if_pos rfl]
      exact tail 6 _ 23 NM_6_23 (by decide)
    · rw [y, if_pos rfl, if_neg one0]
      exact tail 7 _ 22 NM_7_22 (by decide)
  · rw [z, if_pos rfl, if_neg one0]
    exact tail 8 _ 21 NM_8_21 (by decide)
