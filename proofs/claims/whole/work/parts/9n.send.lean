/-! set, send -/
theorem set_iff {l : mj_m} {n : Nat → Int32} : I_set l n ↔ (l 1 1 = n 12 ∧ ∀ i, i < 11 → l 2 i = n i + f_X11_firstOf (nI i)) := by
  have z : ∀ x : Int32, x + 0 = x := Int32.add_zero
  have f0 : f_X11_firstOf (nI 0) = 10 := by decide
  have f1 : f_X11_firstOf (nI 1) = 3 := by decide
  have f2 : f_X11_firstOf (nI 2) = 3 := by decide
  have f3 : f_X11_firstOf (nI 3) = 3 := by decide
  have f4 : f_X11_firstOf (nI 4) = 12 := by decide
  have f5 : f_X11_firstOf (nI 5) = 0 := by decide
  have f6 : f_X11_firstOf (nI 6) = 3 := by decide
  have f7 : f_X11_firstOf (nI 7) = 3 := by decide
  have f8 : f_X11_firstOf (nI 8) = 0 := by decide
  have f9 : f_X11_firstOf (nI 9) = 0 := by decide
  have f10 : f_X11_firstOf (nI 10) = 4 := by decide
  constructor
  · rintro ⟨h, s0, s1, s2, s3, s4, s5, s6, s7, s8, s9, s10⟩
    refine ⟨h, fun i hi => ?_⟩
    rcases (by omega : i = 0 ∨ i = 1 ∨ i = 2 ∨ i = 3 ∨ i = 4 ∨ i = 5 ∨ i = 6 ∨ i = 7 ∨ i = 8 ∨ i = 9 ∨ i = 10) with rfl | rfl | rfl | rfl | rfl | rfl | rfl | rfl | rfl | rfl | rfl
    · rw [f0]; exact s0
    · rw [f1]; exact s1
    · rw [f2]; exact s2
    · rw [f3]; exact s3
    · rw [f4]; exact s4
    · rw [f5, z]; exact s5
    · rw [f6]; exact s6
    · rw [f7]; exact s7
    · rw [f8, z]; exact s8
    · rw [f9, z]; exact s9
    · rw [f10]; exact s10
  · rintro ⟨h, s⟩
    have s0 := s 0 (by decide)
    have s1 := s 1 (by decide)
    have s2 := s 2 (by decide)
    have s3 := s 3 (by decide)
    have s4 := s 4 (by decide)
    have s5 := s 5 (by decide)
    have s6 := s 6 (by decide)
    have s7 := s 7 (by decide)
    have s8 := s 8 (by decide)
    have s9 := s 9 (by decide)
    have s10 := s 10 (by decide)
    rw [f0] at s0
    rw [f1] at s1
    rw [f2] at s2
    rw [f3] at s3
    rw [f4] at s4
    rw [f5, z] at s5
    rw [f6] at s6
    rw [f7] at s7
    rw [f8, z] at s8
    rw [f9, z] at s9
    rw [f10] at s10
    exact ⟨h, s0, s1, s2, s3, s4, s5, s6, s7, s8, s9, s10⟩
theorem rng_iff {l : mj_m} : I_rng l ↔ ∀ i, i < 11 → rg (mj_sa 1 i) (l 2 i) (mj_sa 2 i) := by
  constructor
  · rintro ⟨s0, s1, s2, s3, s4, s5, s6, s7, s8, s9, s10⟩ i hi
    rcases (by omega : i = 0 ∨ i = 1 ∨ i = 2 ∨ i = 3 ∨ i = 4 ∨ i = 5 ∨ i = 6 ∨ i = 7 ∨ i = 8 ∨ i = 9 ∨ i = 10) with rfl | rfl | rfl | rfl | rfl | rfl | rfl | rfl | rfl | rfl | rfl <;> assumption
  · intro s
    exact ⟨s 0 (by decide), s 1 (by decide), s 2 (by decide), s 3 (by decide), s 4 (by decide), s 5 (by decide), s 6 (by decide), s 7 (by decide), s 8 (by decide), s 9 (by decide), s 10 (by decide)⟩
theorem set_fin {l m : mj_m} {pl : Nat → Int32} {pm : PM} {e u v : Nat} {T : TT} (h : I_link l (m 1) pl pm e u v T) {k : Nat} (hk : k < 11) {x : Int32} (hx : rg (mj_sa 1 k) x (mj_sa 2 k)) : I_link (mj_wrs l 2 k x) (mj_wrs (mj_wrs m 0 0 0) 1 k (x - f_X11_firstOf (nI k)) 1) pl pm e u v T := by
  obtain ⟨⟨g_set, g_rng, g_tick⟩, g_rec, ⟨g_mach, g_line, g_sent, g_pass, g_dir, g_rep, g_st⟩, g_led, g_dia, g_up, g_dn, g_plan⟩ := h
  have hl : ∀ p, p ≠ 2 → mj_wrs l 2 k x p = l p := fun p hp => wr_row _ _ _ _ _ hp
  have hn : ∀ s, 11 ≤ s → mj_wrs (mj_wrs m 0 0 0) 1 k (x - f_X11_firstOf (nI k)) 1 s = m 1 s := fun s hs => by rw [wr_e (Or.inr (by omega)), r10]
  refine ⟨⟨?_, ?_, I_tick_cg g_tick (by rw [hl 1 (by omega)]) (hn 11 (by omega))⟩, I_rec_cg (I_rec_mono g_rec) (fun k _ _ => hl k (by omega)) (hn 38 (by omega)) (fun s _ _ => hn s (by omega)) (fun s _ _ => hn s (by omega)) (fun s _ _ => hn s (by omega)), ⟨I_mach_cg g_mach (fun _ _ => by rw [hl 17 (by omega)]) (fun s _ => hn s (by omega)), I_line_cg g_line (by rw [hl 18 (by omega)]) (hl 19 (by omega)) (hl 21 (by omega)) (hn 24 (by omega)) (hn 40 (by omega)) (fun s _ _ => hn s (by omega)), I_sent_cg g_sent (fun k _ _ => hl k (by omega)) (hn 22 (by omega)) (hn 24 (by omega)) (hn 25 (by omega)) (hn 40 (by omega)) (fun s _ _ => hn s (by omega)), I_pass_cg g_pass (by rw [hl 28 (by omega)]) (hl 29 (by omega)) (hn 29 (by omega)) (fun s _ _ => hn s (by omega)), I_dir_cg g_dir (fun _ _ => by rw [hl 17 (by omega)]) (fun s _ => hn s (by omega)), I_rep_cg g_rep (by rw [hl 17 (by omega)]) (hn 45 (by omega)) (hn 46 (by omega)) (hn 47 (by omega)), I_st_cg g_st (by rw [hl 17 (by omega)]) (by rw [hl 17 (by omega)]) (hn 31 (by omega)) (fun s _ _ => hn s (by omega))⟩, I_led_cg (I_led_mono g_led) (fun _ _ => by rw [hl 3 (by omega)]) (hl 4 (by omega)) (hl 46 (by omega)) (hn 11 (by omega)) (hn 19 (by omega)) (hn 24 (by omega)) (hn 25 (by omega)) (hn 40 (by omega)) (fun s _ _ => hn s (by omega)), I_dia_cg (I_dia_mono g_dia) (fun k _ _ => hl k (by omega)) (hn 33 (by omega)) (hn 34 (by omega)) (hn 48 (by omega)) (fun s _ _ => hn s (by omega)), I_up_cg g_up (fun k _ _ => hl k (by omega)) (hn 11 (by omega)) (hn 35 (by omega)) (hn 37 (by omega)) (hn 40 (by omega)) (hn 41 (by omega)) (hn 43 (by omega)) (fun s _ _ => hn s (by omega)) (fun s _ _ => hn s (by omega)), I_dn_cg g_dn (fun k _ _ => hl k (by omega)) (hn 11 (by omega)) (hn 36 (by omega)) (hn 42 (by omega)) (hn 44 (by omega)) (fun s _ _ => hn s (by omega)) (fun s _ _ => hn s (by omega)), I_plan_cg g_plan (fun k _ _ => hl k (by omega)) (hn 49 (by omega))⟩
  · refine set_iff.mpr ⟨?_, fun i hi => ?_⟩
    · rw [hl 1 (by decide), hn 12 (by decide)]
      exact g_set.1
    · by_cases z : i = k
      · rw [z, rs, rs, Int32.sub_add_cancel]
      · rw [wr_e (Or.inr z), wr_e (Or.inr z), r10]
        exact (set_iff.mp g_set).2 i hi
  · refine rng_iff.mpr (fun i hi => ?_)
    by_cases z : i = k
    · rw [z, rs]
      exact hx
    · rw [wr_e (Or.inr z)]
      exact rng_iff.mp g_rng i hi
/-- what may be set, on both sides -/
theorem can_eq {l m : mj_m} (h8 : l 2 8 = m 1 8) (h9 : l 2 9 = m 1 9) (r8 : rg 0 (l 2 8) 90) (r9 : rg 0 (l 2 9) 90) {k : Nat} (hk : k < 11) (x : Int32) : (f_X11_canSet (nI k) x m = 0 ∧ f_X0_change (nI k) x l = some (0, l)) ∨ (f_X11_canSet (nI k) x m = 1 ∧ f_X0_change (nI k) x l = some (1, mj_wrs l 2 k x) ∧ rg (mj_sa 1 k) x (mj_sa 2 k)) := by
  have base : f_X0_change (nI k) x l = if f_X10_isWithin x (mj_sa 1 k) (mj_sa 2 k) = 0 then some (0, l) else (if nI k = 0 then (if mj_rem x 2 = 0 then f_X0_change_J43 (nI k) x l else some (0, l)) else f_X0_change_J43 (nI k) x l) := by
    unfold f_X0_change
    rw [if_neg (nI_pos (by omega)), if_pos (show nI k < 11 from nI_lt (b := 11) hk (by decide)), chk_t (okI hk (by decide)), chk_t (okI hk (by decide)), clI (by omega), lts]
  have w : f_X0_change_J87 (nI k) x l = some (1, mj_wrs l 2 k x) := by
    unfold f_X0_change_J87
    rw [chk_t (okI hk (by decide)), clI (by omega), lts]
  have in_w : ∀ lo hi : Int32, ¬ f_X10_isWithin x lo hi = 0 → rg lo x hi := fun lo hi z => by
    by_cases y : lo ≤ x ∧ x ≤ hi
    · exact y
    · exact absurd (isW_f y) z
  -- the plain ones
  have plain : ∀ lo hi : Int32, mj_sa 1 k = lo → mj_sa 2 k = hi → ¬ nI k = 0 → ¬ nI k = 8 → ¬ nI k = 9 → f_X11_canSet (nI k) x m = f_X11_isIn x lo hi → (f_X11_canSet (nI k) x m = 0 ∧ f_X0_change (nI k) x l = some (0, l)) ∨ (f_X11_canSet (nI k) x m = 1 ∧ f_X0_change (nI k) x l = some (1, mj_wrs l 2 k x) ∧ rg (mj_sa 1 k) x (mj_sa 2 k)) := fun lo hi e1 e2 n0 n8 n9 ec => by
    rw [base, ec, e1, e2, if_neg n0]
    unfold f_X0_change_J43 f_X0_change_J65
    rw [if_neg n8, if_neg n9, w]
    by_cases y : lo ≤ x ∧ x ≤ hi
    · rw [isIn_t y, isW_t y, if_neg one0]
      exact Or.inr ⟨rfl, rfl, y⟩
    · rw [isIn_f y, isW_f y, if_pos rfl]
      exact Or.inl ⟨rfl, rfl⟩
  have sum : ∀ a : Int32, rg 0 a 90 → rg 0 x 90 → (x + a ≤ 90 ↔ x ≤ 90 - a) := fun a ha hx => by
    obtain ⟨p, hp, rfl⟩ := in_lt (a := a) (b := 91) (by decide) (Int32.not_lt.mpr ha.1) (fun z => by
      have : (91 : Int32) ≤ 90 := Int32.le_trans z ha.2
      exact absurd this (by decide))
    obtain ⟨q, hq, rfl⟩ := in_lt (a := x) (b := 91) (by decide) (Int32.not_lt.mpr hx.1) (fun z => by
      have : (91 : Int32) ≤ 90 := Int32.le_trans z hx.2
      exact absurd this (by decide))
    rw [nI_add, show (90 : Int32) = nI 90 from rfl, nI_sub (by omega), nI_leI (by omega) (by omega), nI_leI (by omega) (by omega)]
    omega
  have upto : ∀ a : Int32, rg 0 a 90 → x ≤ 90 - a → x ≤ 90 := fun a ha hx => by
    obtain ⟨p, hp, rfl⟩ := in_lt (a := a) (b := 91) (by decide) (Int32.not_lt.mpr ha.1) (fun z => by
      have : (91 : Int32) ≤ 90 := Int32.le_trans z ha.2
      exact absurd this (by decide))
    rw [show (90 : Int32) = nI 90 from rfl, nI_sub (by omega)] at hx
    exact Int32.le_trans hx (nI_le (b := 90) (by omega) (by decide))
  rcases (by omega : k = 0 ∨ k = 1 ∨ k = 2 ∨ k = 3 ∨ k = 4 ∨ k = 5 ∨ k = 6 ∨ k = 7 ∨ k = 8 ∨ k = 9 ∨ k = 10) with hk' | hk' | hk' | hk' | hk' | hk' | hk' | hk' | hk' | hk' | hk'
  · subst hk'
    rw [base]
    unfold f_X0_change_J43 f_X0_change_J65
    rw [if_pos (show nI 0 = 0 from rfl), if_neg (show ¬ nI 0 = 8 by decide), if_neg (show ¬ nI 0 = 9 by decide), w]
    have ec : f_X11_canSet (nI 0) x m = if f_X11_isIn x 2 200 = 0 then 0 else (if mj_rem x 2 = 0 then 1 else 0) := by
      unfold f_X11_canSet
      rw [if_pos (show nI 0 = 0 from rfl), lts]
    rw [ec, show mj_sa 1 0 = 2 from rfl, show mj_sa 2 0 = 200 from rfl]
    by_cases y : 2 ≤ x ∧ x ≤ 200
    · rw [isIn_t y, isW_t y, if_neg one0, if_neg one0]
      by_cases z : mj_rem x 2 = 0
      · rw [if_pos z, if_pos z]
        exact Or.inr ⟨rfl, rfl, y⟩
      · rw [if_neg z, if_neg z]
        exact Or.inl ⟨rfl, rfl⟩
    · rw [isIn_f y, isW_f y, if_pos rfl, if_pos rfl]
      exact Or.inl ⟨rfl, rfl⟩
  · subst hk'
    refine plain 0 8 rfl rfl (by decide) (by decide) (by decide) ?_
    unfold f_X11_canSet
    rw [if_neg (by decide), if_pos (by decide), lts]
  · subst hk'
    refine plain 1 20 rfl rfl (by decide) (by decide) (by decide) ?_
    unfold f_X11_canSet
    rw [if_neg (by decide), if_neg (by decide), if_pos (by decide), lts]
  · subst hk'
    refine plain 1 9 rfl rfl (by decide) (by decide) (by decide) ?_
    unfold f_X11_canSet
    rw [if_neg (by decide), if_neg (by decide), if_neg (by decide), if_neg (by decide), if_pos (by decide), lts]
  · subst hk'
    refine plain 1 99 rfl rfl (by decide) (by decide) (by decide) ?_
    unfold f_X11_canSet
    rw [if_neg (by decide), if_neg (by decide), if_neg (by decide), if_neg (by decide), if_neg (by decide), if_pos (by decide), lts]
  · subst hk'
    refine plain 0 1 rfl rfl (by decide) (by decide) (by decide) ?_
    unfold f_X11_canSet
    rw [if_neg (by decide), if_neg (by decide), if_neg (by decide), if_neg (by decide), if_neg (by decide), if_neg (by decide), if_pos (by decide), lts]
  · subst hk'
    refine plain 1 40 rfl rfl (by decide) (by decide) (by decide) ?_
    unfold f_X11_canSet
    rw [if_neg (by decide), if_neg (by decide), if_neg (by decide), if_neg (by decide), if_neg (by decide), if_neg (by decide), if_neg (by decide), if_pos (by decide), lts]
  · subst hk'
    refine plain 1 40 rfl rfl (by decide) (by decide) (by decide) ?_
    unfold f_X11_canSet
    rw [if_neg (by decide), if_neg (by decide), if_neg (by decide), if_neg (by decide), if_neg (by decide), if_neg (by decide), if_neg (by decide), if_neg (by decide), if_pos (by decide), lts]
  · subst hk'
    have ec : f_X11_canSet (nI 8) x m = f_X11_isIn x 0 (90 - m 1 9) := by
      unfold f_X11_canSet
      rw [if_neg (by decide), if_neg (by decide), if_neg (by decide), if_neg (by decide), if_neg (by decide), if_neg (by decide), if_neg (by decide), if_neg (by decide), if_neg (by decide), if_pos (by decide), lts]
    rw [base, ec, show mj_sa 1 8 = 0 from rfl, show mj_sa 2 8 = 90 from rfl, if_neg (show ¬ nI 8 = 0 by decide)]
    unfold f_X0_change_J43 f_X0_change_J65
    rw [if_pos (show nI 8 = 8 by decide), if_neg (show ¬ nI 8 = 9 by decide), w, ← h9]
    by_cases y : 0 ≤ x ∧ x ≤ 90
    · rw [isW_t y, if_neg one0]
      by_cases z : x + l 2 9 ≤ 90
      · rw [if_pos z, isIn_t ⟨y.1, (sum _ r9 y).mp z⟩]
        exact Or.inr ⟨rfl, rfl, y⟩
      · rw [if_neg z, isIn_f (fun q => z ((sum _ r9 y).mpr q.2))]
        exact Or.inl ⟨rfl, rfl⟩
    · rw [isW_f y, if_pos rfl, isIn_f (fun q => y ⟨q.1, upto _ r9 q.2⟩)]
      exact Or.inl ⟨rfl, rfl⟩
  · subst hk'
    have ec : f_X11_canSet (nI 9) x m = if f_X11_isIn x 0 (90 - m 1 8) = 0 then 0 else 1 := by
      unfold f_X11_canSet
      rw [if_neg (by decide), if_neg (by decide), if_neg (by decide), if_neg (by decide), if_neg (by decide), if_neg (by decide), if_neg (by decide), if_neg (by decide), if_neg (by decide), if_neg (by decide), if_pos (by decide), lts]
    rw [base, ec, show mj_sa 1 9 = 0 from rfl, show mj_sa 2 9 = 90 from rfl, if_neg (show ¬ nI 9 = 0 by decide)]
    unfold f_X0_change_J43 f_X0_change_J65
    rw [if_neg (show ¬ nI 9 = 8 by decide), if_pos (show nI 9 = 9 by decide), w, ← h8]
    by_cases y : 0 ≤ x ∧ x ≤ 90
    · rw [isW_t y, if_neg one0]
      by_cases z : x + l 2 8 ≤ 90
      · rw [if_pos z, isIn_t ⟨y.1, (sum _ r8 y).mp z⟩, if_neg one0]
        exact Or.inr ⟨rfl, rfl, y⟩
      · rw [if_neg z, isIn_f (fun q => z ((sum _ r8 y).mpr q.2)), if_pos rfl]
        exact Or.inl ⟨rfl, rfl⟩
    · rw [isW_f y, if_pos rfl, isIn_f (fun q => y ⟨q.1, upto _ r8 q.2⟩), if_pos rfl]
      exact Or.inl ⟨rfl, rfl⟩
  · subst hk'
    refine plain 1 20 rfl rfl (by decide) (by decide) (by decide) ?_
    unfold f_X11_canSet
    rw [if_neg (by decide), if_neg (by decide), if_neg (by decide), if_pos (by decide), lts]
theorem c_set : CL_set Inv := by
  intro j M x1 x2 hj h
  have g := h.2.1
  obtain ⟨⟨g_set, g_rng, g_tick⟩, -⟩ := g
  by_cases hx : ¬ x1 < 0 ∧ ¬ nI 11 ≤ x1
  · obtain ⟨k, hk, rfl⟩ := in_lt (b := 11) (by decide) hx.1 hx.2
    rcases can_eq (l := M 0) (m := mj_wrs (M 4) 0 0 0) (by rw [r10]; exact g_set.2.2.2.2.2.2.2.2.2.1) (by rw [r10]; exact g_set.2.2.2.2.2.2.2.2.2.2.1) g_rng.2.2.2.2.2.2.2.2.1 g_rng.2.2.2.2.2.2.2.2.2.1 hk x2 with ⟨a1, a2⟩ | ⟨a1, a2, a3⟩
    · refine ⟨0, M, mj_wrs (M 4) 0 0 0, ?_, ?_, Inv_q0 h⟩
      · unfold f_X10_set
        rw [a2, b2s, lts, mj_self]
      · unfold f_X11_set
        rw [lts, lts, a1, if_pos rfl]
    · refine ⟨1, va_up M 0 (mj_wrs (M 0) 2 k x2), mj_wrs (mj_wrs (M 4) 0 0 0) 1 k (x2 - f_X11_firstOf (nI k)), ?_, ?_, Inv_link0 h (I_link_mono (set_fin h.2.1 hk a3)) (Fl.wr (Or.inl (by decide)) (Or.inl (by decide))) ((Fm.wr0 (by decide)).tr Fm.wr) (by rw [wr_e (Or.inr (by omega)), r10])⟩
      · unfold f_X10_set
        rw [a2, b2s, lts]
      · show f_X11_set (nI k) x2 (M 4) = _
        unfold f_X11_set
        rw [lts, lts, a1, if_neg one0, lts, chk_t (okI (by omega) (by decide)), clI (by omega), lts]
  · refine ⟨0, M, mj_wrs (M 4) 0 0 0, ?_, ?_, Inv_q0 h⟩
    · have : f_X0_change x1 x2 (M 0) = some (0, M 0) := by
        unfold f_X0_change
        by_cases z : x1 < 0
        · rw [if_pos z]
        · rw [if_neg z, if_neg (show ¬ x1 < 11 from fun y => hx ⟨z, Int32.not_le.mpr y⟩)]
      unfold f_X10_set
      rw [this, b2s, lts, mj_self]
    · have ne : ∀ k : Nat, k < 11 → ¬ x1 = nI k := fun k hk z => hx ⟨by rw [z]; exact nI_pos (by omega), by rw [z]; exact nI_ge hk (by decide)⟩
      have : f_X11_canSet x1 x2 (mj_wrs (M 4) 0 0 0) = 0 := by
        unfold f_X11_canSet
        rw [if_neg (show ¬ x1 = 0 from ne 0 (by decide)), if_neg (show ¬ x1 = 1 from ne 1 (by decide)), if_neg (show ¬ x1 = 2 from ne 2 (by decide)), if_neg (show ¬ x1 = 10 from ne 10 (by decide)), if_neg (show ¬ x1 = 3 from ne 3 (by decide)), if_neg (show ¬ x1 = 4 from ne 4 (by decide)), if_neg (show ¬ x1 = 5 from ne 5 (by decide)), if_neg (show ¬ x1 = 6 from ne 6 (by decide)), if_neg (show ¬ x1 = 7 from ne 7 (by decide)), if_neg (show ¬ x1 = 8 from ne 8 (by decide)), if_neg (show ¬ x1 = 9 from ne 9 (by decide))]
      unfold f_X11_set
      rw [lts, lts, this, if_pos rfl]
