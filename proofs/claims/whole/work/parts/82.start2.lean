/-! START as a whole -/
theorem four {x : Int32} (h : 0 ≤ x ∧ x ≤ 3) : x = 0 ∨ x = 1 ∨ x = 2 ∨ x = 3 := by
  obtain ⟨v, hv, rfl⟩ := in_lt (a := x) (b := 4) (by decide) (by grind) (by
    intro q
    have : (4 : Int32) ≤ x := q
    grind)
  rcases (by omega : v = 0 ∨ v = 1 ∨ v = 2 ∨ v = 3) with rfl | rfl | rfl | rfl
  · exact Or.inl rfl
  · exact Or.inr (Or.inl rfl)
  · exact Or.inr (Or.inr (Or.inl rfl))
  · exact Or.inr (Or.inr (Or.inr rfl))
theorem L_begin {l m : mj_m} {pl : Nat → Int32} {pm : PM} {e u v : Nat} {T : TT} (h : I_link l (m 1) pl pm e u v T) (he : e ≤ 20000) (how x : Int32) : ∃ (r : Int32) (l' m' : mj_m), f_X8_begin how x l = some (r, l') ∧ f_X11_start how x m = some (r, m') ∧ I_link l' (m' 1) pl pm e u v T ∧ Fl l l' ∧ Fm m m' ∧ ∀ s, s < 21 → m' 1 s = m 1 s := by
  have p1 : l 17 6 = m 1 21 + 6 := h.2.2.1.1.1.1
  have r1 : mj_wrs m 0 0 0 1 = m 1 := wr_row _ _ _ _ _ (by decide)
  have no : f_X8_begin how x l = some (0, l) → f_X11_start how x m = some (0, mj_wrs m 0 0 0) → ∃ (r : Int32) (l' m' : mj_m), f_X8_begin how x l = some (r, l') ∧ f_X11_start how x m = some (r, m') ∧ I_link l' (m' 1) pl pm e u v T ∧ Fl l l' ∧ Fm m m' ∧ ∀ s, s < 21 → m' 1 s = m 1 s := by
    intro a b
    refine ⟨0, l, mj_wrs m 0 0 0, a, b, ?_, Fl.rf _, Fm.wr0 (by decide), fun s _ => by rw [r1]⟩
    rw [r1]
    exact h
  by_cases h6 : l 17 6 = 6
  · by_cases hh : 0 ≤ how ∧ how ≤ 3
    · by_cases hx : how = 3 → 0 ≤ x ∧ x ≤ 255
      · rcases four hh with rfl | rfl | rfl | rfl
        · obtain ⟨l', m', a, b, c⟩ := L_beg0 h he h6 x
          exact ⟨1, l', m', a, b, c⟩
        · obtain ⟨l', m', a, b, c⟩ := L_beg1 h he h6 x
          exact ⟨1, l', m', a, b, c⟩
        · obtain ⟨l', m', a, b, c⟩ := L_beg2 h he h6 x
          exact ⟨1, l', m', a, b, c⟩
        · obtain ⟨l', m', a, b, c⟩ := L_beg3 h he h6 x (hx rfl)
          exact ⟨1, l', m', a, b, c⟩
      · have h3 : how = 3 := Decidable.byContradiction (fun q => hx (fun z => absurd z q))
        have hx' : ¬ (0 ≤ x ∧ x ≤ 255) := fun q => hx (fun _ => q)
        refine no ?_ ?_
        · unfold f_X8_begin
          rw [if_pos h6, show f_X10_isWithin how 0 3 = 1 from isIn_t hh]
          simp only [mj_let]
          rw [if_neg one0, if_pos h3, show f_X10_isNumber x = 0 from isIn_f hx', if_pos rfl]
        · unfold f_X11_start f_X11_machine
          simp only [mj_let]
          rw [r1, ← p1, if_pos h6, isIn_t hh, if_neg one0, if_pos h3, isIn_f hx', if_pos rfl]
    · refine no ?_ ?_
      · unfold f_X8_begin
        rw [if_pos h6, show f_X10_isWithin how 0 3 = 0 from isIn_f hh]
        simp only [mj_let]
        rw [if_pos trivial]
      · unfold f_X11_start f_X11_machine
        simp only [mj_let]
        rw [r1, ← p1, if_pos h6, isIn_f hh, if_pos rfl]
  · refine no ?_ ?_
    · unfold f_X8_begin
      rw [if_neg h6]
    · unfold f_X11_start f_X11_machine
      simp only [mj_let]
      rw [r1, ← p1, if_neg h6]
theorem c_start : CL_start Inv := by
  intro j M x1 x2 hj h
  obtain ⟨r, l', m', e1, e2, e3, e4, e5, e6⟩ := L_begin h.2.1 (by omega) x1 x2
  refine ⟨r, va_up M 0 l', m', ?_, e2, Inv_link0 h (I_link_mono e3) e4 e5 (e6 11 (by decide))⟩
  unfold f_X10_start
  rw [e1]
  rfl
