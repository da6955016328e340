/-! a frame in order, on both sides -/
theorem J77_w {s : Int32} {x : mj_m} (h : ¬ x 9 4 = 0) : f_X6_meetInOrder_J77 s x = some x := by
  unfold f_X6_meetInOrder_J77
  rw [if_neg h]
theorem J77_i {s : Int32} {x : mj_m} (h0 : ¬ s = 0) (h1 : ¬ s = 1) : f_X6_meetInOrder_J77 s x = some x := by
  unfold f_X6_meetInOrder_J77 f_X6_meetInOrder_J100
  rw [if_neg h0, if_neg h1]
  split <;> rfl
theorem J77_1 {x : mj_m} (h : x 9 4 = 0) : f_X6_meetInOrder_J77 1 x = some (mj_wrs x 9 5 1) := by
  unfold f_X6_meetInOrder_J77 f_X6_meetInOrder_J100
  rw [if_pos h, if_neg one0, if_pos rfl, lts]
theorem J77_0 {x : mj_m} (h : x 9 4 = 0) : f_X6_meetInOrder_J77 0 x = some (mj_wrs (mj_wrs x 9 4 1) 9 5 1) := by
  unfold f_X6_meetInOrder_J77 f_X6_meetInOrder_J100
  rw [if_pos h, if_pos rfl, lts, lts, if_neg (by decide)]
theorem J56_o {s : Int32} {l : mj_m} (h : ¬ s = 3) : f_X6_meetInOrder_J56 s l = f_X6_meetInOrder_J77 s (mj_wrs l 9 12 (l 9 12 + 1)) := by
  unfold f_X6_meetInOrder_J56
  rw [lts, if_neg h]
theorem J56_3 {l : mj_m} : f_X6_meetInOrder_J56 3 l = some (mj_wrs (mj_wrs l 9 12 (l 9 12 + 1)) 9 3 1) := by
  unfold f_X6_meetInOrder_J56
  rw [lts, if_pos rfl, lts, J77_i (by decide) (by decide)]
theorem tI_lock {n cmd : Int32} {m : mj_m} (h : m 1 14 = 1) : f_X11_takesIn n cmd m = some (0, m) := by
  unfold f_X11_takesIn
  rw [if_pos h]
theorem tI_z {n cmd z : Int32} {m : mj_m} (h : ¬ m 1 14 = 1) (hz : f_X11_zoneOf (f_X11_far n m) m = some z) : f_X11_takesIn n cmd m = if z = 1 then (if m 1 15 = 0 then f_X11_takesIn_J46 cmd z (mj_wrs m 1 16 1) else f_X11_takesIn_J46 cmd z m) else f_X11_takesIn_J46 cmd z m := by
  unfold f_X11_takesIn
  rw [if_neg h, lts, hz, b1s]
  simp only [lts]
theorem tI_46 {cmd z : Int32} {m : mj_m} (h : ¬ z = 3) : f_X11_takesIn_J46 cmd z m = f_X11_takesIn_J59 cmd z m := by
  unfold f_X11_takesIn_J46
  rw [if_neg h]
theorem tI_463 {cmd : Int32} {m : mj_m} : f_X11_takesIn_J46 cmd 3 m = some (0, mj_wrs m 1 14 1) := by
  unfold f_X11_takesIn_J46 f_X11_takesIn_J59
  rw [if_pos rfl, lts, if_pos (by decide)]
theorem tI_59 {cmd z : Int32} {m : mj_m} (h : 0 < z) : f_X11_takesIn_J59 cmd z m = some (0, m) := by
  unfold f_X11_takesIn_J59
  rw [if_pos h]
theorem tI_590 {cmd : Int32} {m : mj_m} (h : m 1 15 = 1) : f_X11_takesIn_J59 cmd 0 m = some (0, m) := by
  unfold f_X11_takesIn_J59
  rw [if_neg (by decide), if_pos h]
theorem tI_591 {cmd : Int32} {m : mj_m} (h : ¬ m 1 15 = 1) (hr : ¬ m 1 18 < m 1 1 + 3) : f_X11_takesIn_J59 cmd 0 m = some (0, mj_wrs (mj_wrs m 1 16 1) 1 15 1) := by
  unfold f_X11_takesIn_J59
  rw [if_neg (by decide), if_neg h, set1, b1s, if_neg hr, lts, lts]
theorem tI_592 {cmd : Int32} {m : mj_m} (h : ¬ m 1 15 = 1) (hr : m 1 18 < m 1 1 + 3) : f_X11_takesIn_J59 cmd 0 m = mj_b1 (f_X11_puts 50 18 cmd m) (fun m6 => mj_b1 (f_X11_keeps 419 19 cmd m6) (fun m8 => mj_b1 (f_X11_takenOf ((m8 0 4) - 1) m8) (fun m10 => some (1, mj_wrs (mj_wrs m10 1 13 ((m10 1 13 + 1) &&& 255)) 1 16 0)))) := by
  unfold f_X11_takesIn_J59 f_X11_round
  rw [if_neg (by decide), if_neg h, set1, b1s, if_pos hr]
  simp only [lts]
theorem c_lock {n cmd line : Int32} {l : mj_m} (h : ¬ l 9 3 = 0) : f_X6_meetInOrder n cmd line l = some (mj_wrs l 9 12 (l 9 12 + 1)) := by
  unfold f_X6_meetInOrder f_X6_meetInOrder_J16
  rw [if_neg h, if_neg (by decide), J56_o (by decide), J77_i (by decide) (by decide)]
theorem c_z {n cmd line : Int32} {l : mj_m} (h : l 9 3 = 0) : f_X6_meetInOrder n cmd line l = f_X6_meetInOrder_J16 cmd line (f_X6_zoneOf n l) l := by
  unfold f_X6_meetInOrder
  rw [if_pos h, lts]
theorem c_16 {cmd line z : Int32} {l : mj_m} (h : ¬ z = 0) : f_X6_meetInOrder_J16 cmd line z l = f_X6_meetInOrder_J56 z l := by
  unfold f_X6_meetInOrder_J16
  rw [if_neg h]
theorem c_16w {cmd line : Int32} {l : mj_m} (h : ¬ l 9 4 = 0) : f_X6_meetInOrder_J16 cmd line 0 l = f_X6_meetInOrder_J56 0 l := by
  unfold f_X6_meetInOrder_J16
  rw [if_pos rfl, if_neg h]
theorem c_16f {cmd line : Int32} {l : mj_m} (h : l 9 4 = 0) (hr : l 2 1 ≤ l 10 4) : f_X6_meetInOrder_J16 cmd line 0 l = f_X6_meetInOrder_J56 0 l := by
  unfold f_X6_meetInOrder_J16
  rw [if_pos rfl, if_pos h, if_pos hr]
theorem c_16t {cmd line : Int32} {l : mj_m} (h : l 9 4 = 0) (hr : ¬ l 2 1 ≤ l 10 4) : f_X6_meetInOrder_J16 cmd line 0 l = f_X6_takeIn cmd line l := by
  unfold f_X6_meetInOrder_J16
  rw [if_pos rfl, if_pos h, if_neg hr]
  cases f_X6_takeIn cmd line l <;> rfl
set_option maxHeartbeats 1000000 in
theorem mo_pair {l m : mj_m} {pl : Nat → Int32} {pm : PM} {e u v T : Nat} (h : I_lk0 l (m 1) pl pm e u v T) (he : e ≤ 20000) (hv : v < 2 ^ 28) (hT : T ≤ 20000) {n cmd line : Int32} {L : Nat} (h04 : m 0 4 = nI L) (hL : L ≤ mj_cl (m 1 40)) (hline : line = if L = 0 then -1 else lnum (L - 1)) : ∃ l' m' : mj_m, f_X6_meetInOrder n cmd line l = some l' ∧ tkR n cmd m = some m' ∧ I_lk0 l' (m' 1) pl pm e u (v + 1) T ∧ M_ok l m l' m' := by
  obtain ⟨p1, p2, p3, p4, p5, p6, -, -, p15⟩ := h.2.1
  have hs := h.1.1
  have hz := zone_eq (l := l) (m := m) hs.2.1 p1.1 n
  have one1 : ¬ (0 : Int32) = 1 := by decide
  rcases bit01 p2.2 with k | k
  · have lk : l 9 3 = 0 := p2.1.trans k
    have mk : ¬ m 1 14 = 1 := by rw [k]; exact one1
    rw [c_z lk]
    rcases zone4 n l with z | z | z | z
    · rw [z] at hz ⊢
      rcases bit01 p3.2 with w | w
      · have lw : l 9 4 = 0 := p3.1.trans w
        have mw : ¬ m 1 15 = 1 := by rw [w]; exact one1
        by_cases hr : l 2 1 ≤ l 10 4
        · have hr' : ¬ m 1 18 < m 1 1 + 3 := by
            rw [← hs.2.2.1, ← p6.1]
            exact Int32.not_lt.mpr hr
          refine ⟨mj_wrs (mj_wrs (mj_wrs l 9 12 (l 9 12 + 1)) 9 4 1) 9 5 1, _, (by rw [c_16f lw hr, J56_o (by decide), J77_0 (by rw [wr_e (Or.inr (by decide)), lw])]), tkR_no (by rw [tI_z mk hz, if_neg one1, tI_46 (by decide), tI_591 mw hr']), mo_no h (A := m 1 14) (W := 1) (R := 1) (by first | exact p2.2 | exact ⟨by decide, by decide⟩) (by first | exact p3.2 | exact ⟨by decide, by decide⟩) (by first | exact p4.2 | exact ⟨by decide, by decide⟩) (fun k hk => by rw [wr_row _ _ _ _ _ hk, wr_row _ _ _ _ _ hk, wr_row _ _ _ _ _ hk]) (fun j a b c d => by simp (disch := omega) only [wr_e]) (by simp (disch := omega) only [wr_e, rs, p2.1, p3.1, p4.1]) (by simp (disch := omega) only [wr_e, rs, p2.1, p3.1, p4.1]) (by simp (disch := omega) only [wr_e, rs, p2.1, p3.1, p4.1]) (by simp (disch := omega) only [wr_e, rs]) (fun p hp => by rw [wr_row _ _ _ _ _ hp, wr_row _ _ _ _ _ hp, wr_row _ _ _ _ _ hp]) (fun s a b c d => by simp (disch := omega) only [wr_e]) (by simp (disch := omega) only [wr_e, rs]) (by simp (disch := omega) only [wr_e, rs]) (by simp (disch := omega) only [wr_e, rs]) (by simp (disch := omega) only [wr_e, rs])⟩
        · have hr' : m 1 18 < m 1 1 + 3 := by
            rw [← hs.2.2.1, ← p6.1]
            exact Int32.not_le.mp hr
          obtain ⟨l', m', e1, e2, e3, e4⟩ := mo_yes (n := n) (cmd := cmd) h he hv hT h04 hL hline hr
          refine ⟨l', m', by rw [c_16t lw hr, e1], tkR_yes ?_, e3, e4⟩
          rw [tI_z mk hz, if_neg one1, tI_46 (by decide), tI_592 mw hr']
          exact e2
      · have lw : ¬ l 9 4 = 0 := by rw [p3.1, w]; exact one0
        refine ⟨mj_wrs l 9 12 (l 9 12 + 1), _, (by rw [c_16w lw, J56_o (by decide), J77_w (by rw [wr_e (Or.inr (by decide))]; exact lw)]), tkR_no (by rw [tI_z mk hz, if_neg one1, tI_46 (by decide), tI_590 w]), mo_no h (A := m 1 14) (W := m 1 15) (R := m 1 16) (by first | exact p2.2 | exact ⟨by decide, by decide⟩) (by first | exact p3.2 | exact ⟨by decide, by decide⟩) (by first | exact p4.2 | exact ⟨by decide, by decide⟩) (fun k hk => by rw [wr_row _ _ _ _ _ hk]) (fun j a b c d => by simp (disch := omega) only [wr_e]) (by simp (disch := omega) only [wr_e, rs, p2.1, p3.1, p4.1]) (by simp (disch := omega) only [wr_e, rs, p2.1, p3.1, p4.1]) (by simp (disch := omega) only [wr_e, rs, p2.1, p3.1, p4.1]) (by simp (disch := omega) only [wr_e, rs]) (fun p hp => by rw [wr_row _ _ _ _ _ hp]) (fun s a b c d => by simp (disch := omega) only [wr_e]) (by simp (disch := omega) only [wr_e, rs]) (by simp (disch := omega) only [wr_e, rs]) (by simp (disch := omega) only [wr_e, rs]) (by simp (disch := omega) only [wr_e, rs])⟩
    · rw [z] at hz ⊢
      rcases bit01 p3.2 with w | w
      · have lw : l 9 4 = 0 := p3.1.trans w
        refine ⟨mj_wrs (mj_wrs l 9 12 (l 9 12 + 1)) 9 5 1, _, (by rw [c_16 one0, J56_o (by decide), J77_1 (by rw [wr_e (Or.inr (by decide)), lw])]), tkR_no (by rw [tI_z mk hz, if_pos rfl, if_pos w, tI_46 (by decide), tI_59 (by decide)]), mo_no h (A := m 1 14) (W := m 1 15) (R := 1) (by first | exact p2.2 | exact ⟨by decide, by decide⟩) (by first | exact p3.2 | exact ⟨by decide, by decide⟩) (by first | exact p4.2 | exact ⟨by decide, by decide⟩) (fun k hk => by rw [wr_row _ _ _ _ _ hk, wr_row _ _ _ _ _ hk]) (fun j a b c d => by simp (disch := omega) only [wr_e]) (by simp (disch := omega) only [wr_e, rs, p2.1, p3.1, p4.1]) (by simp (disch := omega) only [wr_e, rs, p2.1, p3.1, p4.1]) (by simp (disch := omega) only [wr_e, rs, p2.1, p3.1, p4.1]) (by simp (disch := omega) only [wr_e, rs]) (fun p hp => by rw [wr_row _ _ _ _ _ hp, wr_row _ _ _ _ _ hp]) (fun s a b c d => by simp (disch := omega) only [wr_e]) (by simp (disch := omega) only [wr_e, rs]) (by simp (disch := omega) only [wr_e, rs]) (by simp (disch := omega) only [wr_e, rs]) (by simp (disch := omega) only [wr_e, rs])⟩
      · have lw : ¬ l 9 4 = 0 := by rw [p3.1, w]; exact one0
        have mw : ¬ m 1 15 = 0 := by rw [w]; exact one0
        refine ⟨mj_wrs l 9 12 (l 9 12 + 1), _, (by rw [c_16 one0, J56_o (by decide), J77_w (by rw [wr_e (Or.inr (by decide))]; exact lw)]), tkR_no (by rw [tI_z mk hz, if_pos rfl, if_neg mw, tI_46 (by decide), tI_59 (by decide)]), mo_no h (A := m 1 14) (W := m 1 15) (R := m 1 16) (by first | exact p2.2 | exact ⟨by decide, by decide⟩) (by first | exact p3.2 | exact ⟨by decide, by decide⟩) (by first | exact p4.2 | exact ⟨by decide, by decide⟩) (fun k hk => by rw [wr_row _ _ _ _ _ hk]) (fun j a b c d => by simp (disch := omega) only [wr_e]) (by simp (disch := omega) only [wr_e, rs, p2.1, p3.1, p4.1]) (by simp (disch := omega) only [wr_e, rs, p2.1, p3.1, p4.1]) (by simp (disch := omega) only [wr_e, rs, p2.1, p3.1, p4.1]) (by simp (disch := omega) only [wr_e, rs]) (fun p hp => by rw [wr_row _ _ _ _ _ hp]) (fun s a b c d => by simp (disch := omega) only [wr_e]) (by simp (disch := omega) only [wr_e, rs]) (by simp (disch := omega) only [wr_e, rs]) (by simp (disch := omega) only [wr_e, rs]) (by simp (disch := omega) only [wr_e, rs])⟩
    · rw [z] at hz ⊢
      refine ⟨mj_wrs l 9 12 (l 9 12 + 1), _, (by rw [c_16 (by decide), J56_o (by decide), J77_i (by decide) (by decide)]), tkR_no (by rw [tI_z mk hz, if_neg (by decide), tI_46 (by decide), tI_59 (by decide)]), mo_no h (A := m 1 14) (W := m 1 15) (R := m 1 16) (by first | exact p2.2 | exact ⟨by decide, by decide⟩) (by first | exact p3.2 | exact ⟨by decide, by decide⟩) (by first | exact p4.2 | exact ⟨by decide, by decide⟩) (fun k hk => by rw [wr_row _ _ _ _ _ hk]) (fun j a b c d => by simp (disch := omega) only [wr_e]) (by simp (disch := omega) only [wr_e, rs, p2.1, p3.1, p4.1]) (by simp (disch := omega) only [wr_e, rs, p2.1, p3.1, p4.1]) (by simp (disch := omega) only [wr_e, rs, p2.1, p3.1, p4.1]) (by simp (disch := omega) only [wr_e, rs]) (fun p hp => by rw [wr_row _ _ _ _ _ hp]) (fun s a b c d => by simp (disch := omega) only [wr_e]) (by simp (disch := omega) only [wr_e, rs]) (by simp (disch := omega) only [wr_e, rs]) (by simp (disch := omega) only [wr_e, rs]) (by simp (disch := omega) only [wr_e, rs])⟩
    · rw [z] at hz ⊢
      refine ⟨mj_wrs (mj_wrs l 9 12 (l 9 12 + 1)) 9 3 1, _, (by rw [c_16 (by decide), J56_3]), tkR_no (by rw [tI_z mk hz, if_neg (by decide), tI_463]), mo_no h (A := 1) (W := m 1 15) (R := m 1 16) (by first | exact p2.2 | exact ⟨by decide, by decide⟩) (by first | exact p3.2 | exact ⟨by decide, by decide⟩) (by first | exact p4.2 | exact ⟨by decide, by decide⟩) (fun k hk => by rw [wr_row _ _ _ _ _ hk, wr_row _ _ _ _ _ hk]) (fun j a b c d => by simp (disch := omega) only [wr_e]) (by simp (disch := omega) only [wr_e, rs, p2.1, p3.1, p4.1]) (by simp (disch := omega) only [wr_e, rs, p2.1, p3.1, p4.1]) (by simp (disch := omega) only [wr_e, rs, p2.1, p3.1, p4.1]) (by simp (disch := omega) only [wr_e, rs]) (fun p hp => by rw [wr_row _ _ _ _ _ hp, wr_row _ _ _ _ _ hp]) (fun s a b c d => by simp (disch := omega) only [wr_e]) (by simp (disch := omega) only [wr_e, rs]) (by simp (disch := omega) only [wr_e, rs]) (by simp (disch := omega) only [wr_e, rs]) (by simp (disch := omega) only [wr_e, rs])⟩
  · have lk : ¬ l 9 3 = 0 := by rw [p2.1, k]; exact one0
    refine ⟨mj_wrs l 9 12 (l 9 12 + 1), _, (c_lock lk), tkR_no (tI_lock k), mo_no h (A := m 1 14) (W := m 1 15) (R := m 1 16) (by first | exact p2.2 | exact ⟨by decide, by decide⟩) (by first | exact p3.2 | exact ⟨by decide, by decide⟩) (by first | exact p4.2 | exact ⟨by decide, by decide⟩) (fun k hk => by rw [wr_row _ _ _ _ _ hk]) (fun j a b c d => by simp (disch := omega) only [wr_e]) (by simp (disch := omega) only [wr_e, rs, p2.1, p3.1, p4.1]) (by simp (disch := omega) only [wr_e, rs, p2.1, p3.1, p4.1]) (by simp (disch := omega) only [wr_e, rs, p2.1, p3.1, p4.1]) (by simp (disch := omega) only [wr_e, rs]) (fun p hp => by rw [wr_row _ _ _ _ _ hp]) (fun s a b c d => by simp (disch := omega) only [wr_e]) (by simp (disch := omega) only [wr_e, rs]) (by simp (disch := omega) only [wr_e, rs]) (by simp (disch := omega) only [wr_e, rs]) (by simp (disch := omega) only [wr_e, rs])⟩
