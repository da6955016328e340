/-! calls that only ask -/
theorem nI_mul (a b : Nat) : nI a * nI b = nI (a * b) := (Int32.ofNat_mul a b).symm
theorem nI_sub {a b : Nat} (h : b ≤ a) : nI a - nI b = nI (a - b) := by
  have e := nI_add (a - b) b
  rw [Nat.sub_add_cancel h] at e
  rw [← e, Int32.add_sub_cancel]
theorem in_lt {a : Int32} {b : Nat} (hb : b < 2 ^ 31) (h0 : ¬ a < 0) (h1 : ¬ nI b ≤ a) : ∃ v : Nat, v < b ∧ a = nI v := by
  obtain ⟨v, hv, rfl⟩ := nI_of h0
  exact ⟨v, Nat.not_le.mp (fun h => h1 ((nI_leI hb hv).mpr h)), rfl⟩
theorem okI {v n : Nat} (h : v < n) (hn : n ≤ 100000) : mj_ok (nI v) n = true := mj_ok_nI h (by omega)
theorem clI {v : Nat} (h : v < 2 ^ 31) : mj_cl (nI v) = v := mj_cl_nI h
theorem chk_t {α : Type} {b : Bool} {k : Option α} (h : b = true) : mj_chk b k = k := by
  unfold mj_chk
  rw [if_pos h]
theorem c_verdicts : CL_verdicts Inv := by
  intro j M x1 hj h
  obtain ⟨-, ⟨-, -, -, -, ⟨-, -, -, hv⟩, -⟩, -, -⟩ := id h
  suffices hs : ∃ r, f_X10_verdicts x1 M = some r ∧ f_X11_verdicts x1 (M 4) = some (r, mj_wrs (M 4) 0 0 0) by
    obtain ⟨r, e1, e2⟩ := hs
    exact ⟨r, _, e1, e2, Inv_q0 h⟩
  unfold f_X10_verdicts f_X11_verdicts f_X11_isIn
  simp only [mj_let]
  by_cases h0 : x1 < 0
  · exact ⟨-1, by simp [h0], by simp [h0]⟩
  by_cases h1 : (9 : Int32) ≤ x1
  · have h2 : (8 : Int32) < x1 := by grind
    exact ⟨-1, by simp [h0, h1], by simp [h0, h2]⟩
  obtain ⟨v, hv9, rfl⟩ := in_lt (b := 9) (by decide) h0 h1
  have h2 : ¬ (8 : Int32) < nI v := by grind
  refine ⟨M 0 8 v, ?_, ?_⟩
  · rw [if_neg h0, if_neg h1, chk_t (okI hv9 (by decide)), clI (by omega)]
  · simp only [if_neg h0, if_neg h2]
    rw [if_neg (by decide), show (110 : Int32) + nI v = nI (110 + v) from nI_add 110 v, chk_t (okI (by omega) (by decide)), clI (by omega), wr_at, if_neg (by simp), hv v hv9]
theorem c_state : CL_state Inv := by
  intro j M x1 hj h
  refine ⟨M 0 1 1, mj_twr M 0 1 1 x1, mj_wrs (mj_wrs (M 4) 0 0 0) 1 12 x1, rfl, ?_, ?_⟩
  · obtain ⟨-, ⟨⟨⟨hs, -⟩, -⟩, -⟩, -⟩ := id h
    unfold f_X11_state
    simp only [mj_let]
    show (mj_wrs (M 4) 0 0 0 1 12, _) = _
    rw [wr_at, if_neg (by decide), ← hs]
    rfl
  · sorry
