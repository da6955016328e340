/-! the alarm -/
def I_lw (l : mj_m) (n pl : Nat → Int32) (pm : PM) (e u v : Nat) (T : TT) : Prop := (I_set l n ∧ I_rng l ∧ I_tick l n T.1) ∧ I_rec l n v ∧ (I_mach l n ∧ I_line l n ∧ I_sent l n ∧ I_pass l n ∧ I_dir l n ∧ I_rep l n) ∧ I_led l n e v ∧ I_dia l n u ∧ I_up l n T.2.1 ∧ I_dn l n T.2.2 ∧ I_plan l n pl pm
theorem I_link.w {l : mj_m} {n pl : Nat → Int32} {pm : PM} {e u v : Nat} {T : TT} (h : I_link l n pl pm e u v T) : I_lw l n pl pm e u v T := by
  obtain ⟨h1, h2, ⟨a1, a2, a3, a4, a5, a6, a7⟩, h3⟩ := h
  exact ⟨h1, h2, ⟨a1, a2, a3, a4, a5, a6⟩, h3⟩
/-- without the ways, and without how the states go together; without the ways alone -/
def I_lwc (l : mj_m) (n pl : Nat → Int32) (pm : PM) (e u v T : Nat) : Prop := (I_set l n ∧ I_rng l ∧ I_tick l n T) ∧ I_rec l n v ∧ (I_mach l n ∧ I_line l n ∧ I_sent l n ∧ I_pass l n ∧ I_dir l n ∧ I_rep l n) ∧ I_led l n e v ∧ I_dia l n u ∧ I_plan l n pl pm
def I_lk0 (l : mj_m) (n pl : Nat → Int32) (pm : PM) (e u v T : Nat) : Prop := (I_set l n ∧ I_rng l ∧ I_tick l n T) ∧ I_rec l n v ∧ I_snd l n ∧ I_led l n e v ∧ I_dia l n u ∧ I_plan l n pl pm
theorem I_lk0.w {l : mj_m} {n pl : Nat → Int32} {pm : PM} {e u v T : Nat} (h : I_lk0 l n pl pm e u v T) : I_lwc l n pl pm e u v T := by
  obtain ⟨h1, h2, ⟨a1, a2, a3, a4, a5, a6, a7⟩, h3⟩ := h
  exact ⟨h1, h2, ⟨a1, a2, a3, a4, a5, a6⟩, h3⟩
theorem I_link.c {l : mj_m} {n pl : Nat → Int32} {pm : PM} {e u v : Nat} {T : TT} (h : I_link l n pl pm e u v T) : I_lk0 l n pl pm e u v T.1 ∧ I_up l n T.2.1 ∧ I_dn l n T.2.2 := by
  obtain ⟨h1, h2, h3, h4, h5, h6, h7, h8⟩ := h
  exact ⟨⟨h1, h2, h3, h4, h5, h8⟩, h6, h7⟩
theorem I_lk0.l {l : mj_m} {n pl : Nat → Int32} {pm : PM} {e u v : Nat} {T : TT} (h : I_lk0 l n pl pm e u v T.1) (h6 : I_up l n T.2.1) (h7 : I_dn l n T.2.2) : I_link l n pl pm e u v T := by
  obtain ⟨h1, h2, h3, h4, h5, h8⟩ := h
  exact ⟨h1, h2, h3, h4, h5, h6, h7, h8⟩
theorem st3_join {v : Int32} {f : Nat → Int32} {A B C s : Nat} (h1 : A ≤ B) (h2 : B ≤ C) : st3 v (fun s => st3 v f B C s) A B s = st3 v f A C s := by
  unfold st3
  dsimp only
  by_cases h : A ≤ s / 7 ∧ s / 7 < C ∧ s / 7 < 100 ∧ s % 7 = 6
  · rw [if_pos h]
    by_cases hB : s / 7 < B
    · rw [if_pos (by omega)]
    · rw [if_neg (by omega), if_pos (by omega)]
  · rw [if_neg h, if_neg (by omega), if_neg (by omega)]
theorem nal {l m : mj_m} {a : Int32} {c : Nat} (hc : c < 2 ^ 30) (h1 : l 5 4 = nI c) (h2 : m 1 33 = nI c) (hr : ∀ i, i < c → i < 60 → l 7 i = m 1 (119 + i)) : ∃ l1 m1 : mj_m, f_X1_noteAlarm a l = some l1 ∧ (if (60 : Int32) ≤ m 1 33 then f_X11_alarms_J62 a m else mj_chk (mj_ok (119 + m 1 33) 1897) (mj_let (mj_wrs m 1 (mj_cl (119 + m 1 33)) a) (fun m13 => f_X11_alarms_J62 a m13))) = some m1 ∧ (∀ k, k ≠ 5 → k ≠ 7 → l1 k = l k) ∧ (∀ j, j ≠ 4 → j ≠ 5 → l1 5 j = l 5 j) ∧ l1 5 4 = nI (c + 1) ∧ l1 5 5 = a ∧ (∀ p, p ≠ 1 → m1 p = m p) ∧ (∀ s, s ≠ 33 → s ≠ 48 → (s < 119 ∨ 178 < s) → m1 1 s = m 1 s) ∧ m1 1 33 = nI (c + 1) ∧ m1 1 48 = a ∧ ∀ i, i < c + 1 → i < 60 → l1 7 i = m1 1 (119 + i) := by
  by_cases h60 : 60 ≤ c
  · have q : (60 : Int32) ≤ nI c := nI_le (a := 60) h60 (by omega)
    refine ⟨mj_wrs (mj_wrs l 5 4 (nI (c + 1))) 5 5 a, mj_wrs (mj_wrs m 1 33 (nI (c + 1))) 1 48 a, ?_, ?_, fun k a b => ?_, fun j a b => ?_, by simp [wr_at], by simp [wr_at], fun p hp => ?_, fun s a b _ => ?_, by simp [wr_at], by simp [wr_at], fun i hi h6 => ?_⟩
    · unfold f_X1_noteAlarm f_X1_noteAlarm_J19
      rw [h1, if_pos q]
      simp only [mj_let]
      rw [nI_1]
    · rw [h2, if_pos q]
      unfold f_X11_alarms_J62
      rw [show (33 : Int32) = nI 33 from rfl, more_eq (by decide), h2, nI_1]
      rfl
    · rw [wr_row _ _ _ _ _ a, wr_row _ _ _ _ _ a]
    · rw [wr_e (Or.inr b), wr_e (Or.inr a)]
    · rw [wr_row _ _ _ _ _ hp, wr_row _ _ _ _ _ hp]
    · rw [wr_e (Or.inr b), wr_e (Or.inr a)]
    · rw [wr_e (Or.inl (by decide)), wr_e (Or.inl (by decide)), wr_e (Or.inr (by omega)), wr_e (Or.inr (by omega))]
      exact hr i (by omega) h6
  · have q : ¬ (60 : Int32) ≤ nI c := nI_ge (b := 60) (by omega) (by decide)
    have x : (119 : Int32) + nI c = nI (119 + c) := nI_add 119 c
    refine ⟨mj_wrs (mj_wrs (mj_wrs l 7 c a) 5 4 (nI (c + 1))) 5 5 a, mj_wrs (mj_wrs (mj_wrs m 1 (119 + c) a) 1 33 (nI (c + 1))) 1 48 a, ?_, ?_, fun k a b => ?_, fun j a b => ?_, by simp [wr_at], by simp [wr_at], fun p hp => ?_, fun s a b h9 => ?_, by simp [wr_at], by simp [wr_at], fun i hi h6 => ?_⟩
    · unfold f_X1_noteAlarm f_X1_noteAlarm_J19
      rw [h1, if_neg q, chk_t (okI (by omega) (by decide)), clI (by omega)]
      simp only [mj_let]
      rw [wr_e (Or.inl (by decide)), h1, nI_1]
    · rw [h2, if_neg q, x, chk_t (okI (by omega) (by decide)), clI (by omega)]
      unfold f_X11_alarms_J62
      simp only [mj_let]
      rw [show (33 : Int32) = nI 33 from rfl, more_eq (by decide), wr_e (Or.inr (by omega)), h2, nI_1]
      rfl
    · rw [wr_row _ _ _ _ _ a, wr_row _ _ _ _ _ a, wr_row _ _ _ _ _ b]
    · rw [wr_e (Or.inr b), wr_e (Or.inr a), wr_e (Or.inl (by decide))]
    · rw [wr_row _ _ _ _ _ hp, wr_row _ _ _ _ _ hp, wr_row _ _ _ _ _ hp]
    · rw [wr_e (Or.inr b), wr_e (Or.inr a), wr_e (Or.inr (by omega))]
    · have ea : mj_wrs (mj_wrs (mj_wrs l 7 c a) 5 4 (nI (c + 1))) 5 5 a 7 i = if i = c then a else l 7 i := by simp [wr_at]
      have eb : mj_wrs (mj_wrs (mj_wrs m 1 (119 + c) a) 1 33 (nI (c + 1))) 1 48 a 1 (119 + i) = if i = c then a else m 1 (119 + i) := by
        rw [wr_e (Or.inr (by omega)), wr_e (Or.inr (by omega)), wr_n]
        by_cases hic : i = c
        · rw [if_pos hic, if_pos (by omega)]
        · rw [if_neg hic, if_neg (by omega)]
      rw [ea, eb]
      by_cases hic : i = c
      · rw [if_pos hic, if_pos hic]
      · rw [if_neg hic, if_neg hic]
        exact hr i (by omega) h6
/-- LINE and SENT empty on both sides -/
theorem emp {l m : mj_m} {e v : Nat} (he : e ≤ 20000) (gl : I_line l (m 1)) (gs : I_sent l (m 1)) (gd : I_led l (m 1) e v) : ∃ l1 l2 m1 : mj_m, f_X2_lose 18 l = some l1 ∧ f_X2_lose 23 l1 = some l2 ∧ f_X11_empties m = some m1 ∧ (∀ k, k ≠ 4 → k ≠ 18 → k ≠ 23 → l2 k = l k) ∧ l2 18 4 = 0 ∧ l2 23 4 = 0 ∧ (∀ p, p ≠ 1 → m1 p = m p) ∧ m1 1 24 = 0 ∧ m1 1 25 = 0 ∧ (∀ s, s ≠ 24 → s ≠ 25 → s < 1097 → m1 1 s = m 1 s) ∧ I_led l2 (m1 1) e v := by
  obtain ⟨a1, a2, a3⟩ := id gl
  obtain ⟨b1, b2, b3⟩ := id gs
  obtain ⟨d1, d2, d3, -⟩ := id gd
  obtain ⟨p, hp, ep, cp⟩ := cn_i a2
  obtain ⟨q, hq, eq, cq⟩ := cn_i b2
  obtain ⟨E, hE, eE, cE⟩ := cn_i d2
  rw [cp, cq, cE] at d3
  obtain ⟨l1, x1, x2, x3, x4⟩ := lose_eq (b := 18) (c := p) (F := E - p) (m := l) (by decide) (by omega) (by rw [a1, ep]) (fun i hi => by
    have := (a3 i (by omega)).2.2
    rw [cE, cp] at this
    exact this)
  obtain ⟨l2, y1, y2, y3, y4⟩ := lose_eq (b := 23) (c := q) (F := E - p - q) (m := l1) (by decide) (by omega) (by rw [x2 23 (by decide) (by decide), b1, eq]) (fun i hi => by
    rw [x2 26 (by decide) (by decide)]
    have := (b3 i (by omega)).2.2.2.1
    rw [cE, cp, cq] at this
    exact this)
  obtain ⟨m1, z1, z2, z3, z4, z5⟩ := empties_eq (E := E) (a := p) (b := q) (m := m) (by omega) (by omega) (by omega) eE ep eq
  have w4 : ∀ s, l2 4 s = st3 3 (l 4) (E - p - q) E s := fun s => by
    rw [y4 s, show l1 4 = fun s => st3 3 (l 4) (E - p) (E - p + p) s from funext x4, show E - p + p = E by omega, show E - p - q + q = E - p by omega, st3_join (by omega) (by omega)]
  have zn : ∀ s, s ≠ 24 → s ≠ 25 → s < 1097 → m1 1 s = m 1 s := fun s h1 h2 h3 => by
    rw [z5 s h1 h2]
    unfold rt3
    rw [if_neg (by omega)]
  refine ⟨l1, l2, m1, x1, y1, z1, fun k h4 h18 h23 => by rw [y2 k h4 h23, x2 k h4 h18], by rw [y2 18 (by decide) (by decide), x3], y3, z2, z3, z4, zn, ?_⟩
  refine I_led_st (A := E - p - q) (B := E) gd w4 (fun s _ => by rw [y2 3 (by decide) (by decide), x2 3 (by decide) (by decide)]) (by rw [y2 46 (by decide) (by decide), x2 46 (by decide) (by decide)]) (fun s h1 h2 => by rw [z5 s (by omega) (by omega)]) (zn 11 (by decide) (by decide) (by decide)) (zn 19 (by decide) (by decide) (by decide)) (zn 40 (by decide) (by decide) (by decide)) ?_
  rw [z3, z4]
  exact Nat.zero_le _
set_option maxHeartbeats 1000000 in
theorem L_alarmC {l m : mj_m} {pl : Nat → Int32} {pm : PM} {e u v T : Nat} (h : I_lwc l (m 1) pl pm e u v T) (he : e ≤ 20000) (hu : u < 2 ^ 29) (a : Int32) (ha : rg 0 a 6) : ∃ (l' m' : mj_m), f_X8_giveAlarm a l = some l' ∧ f_X11_alarms a m = some m' ∧ I_lk0 l' (m' 1) pl pm e (u + 1) v T ∧ (∀ k, k < 4 ∨ (7 < k ∧ k ≠ 17 ∧ k ≠ 18 ∧ k ≠ 23) → l' k = l k) ∧ (∀ s, s ≠ 21 ∧ s ≠ 24 ∧ s ≠ 25 ∧ s ≠ 26 ∧ s ≠ 31 ∧ s ≠ 32 ∧ s ≠ 33 ∧ s ≠ 34 ∧ s ≠ 48 ∧ (s < 119 ∨ 418 < s) ∧ s < 1097 → m' 1 s = m 1 s) ∧ (∀ p, p ≠ 1 → m' p = m p) ∧ l' 17 6 = 6 ∧ l' 17 11 = 0 := by
  obtain ⟨⟨g_set, g_rng, g_tick⟩, g_rec, ⟨g_mach, g_line, g_sent, g_pass, g_dir, g_rep⟩, g_led, g_dia, g_plan⟩ := h
  obtain ⟨⟨p1, p1r⟩, p2, p3, p4, p5, ⟨p6, p6r⟩, p7⟩ := id g_mach
  obtain ⟨d1, ⟨d2, d3, d4⟩, d5, d6⟩ := id g_dia
  obtain ⟨c, hc, ec, cc⟩ := cn_i d3
  obtain ⟨l1, m1, a1, a2, a3, a4, a5, a6, a7, a8⟩ := chg (a := l 17 6) (b := 6) (l := l) (m := m) d1 g_tick.1 p1
  -- the rows behind the change of MACHINE
  have hl2 : ∀ k, k ≠ 5 → k ≠ 6 → k ≠ 17 → mj_wrs l1 17 6 6 k = l k := fun k h5 h6 h17 => by rw [wr_row _ _ _ _ _ h17, a3 k h5 h6]
  obtain ⟨l3, l4, m2, b1, b2, b3, b4, b5, b6, b7, b8, b9, b10, b11⟩ := emp (l := mj_wrs l1 17 6 6) (m := m1) he
    (I_line_cg g_line (by rw [hl2 18 (by decide) (by decide) (by decide)]) (hl2 19 (by decide) (by decide) (by decide)) (hl2 21 (by decide) (by decide) (by decide)) (a6 24 (by decide) (by decide) (by omega)) (a6 40 (by decide) (by decide) (by omega)) (fun s _ _ => a6 s (by omega) (by omega) (by omega)))
    (I_sent_cg g_sent (fun k _ _ => hl2 k (by omega) (by omega) (by omega)) (a6 22 (by decide) (by decide) (by omega)) (a6 24 (by decide) (by decide) (by omega)) (a6 25 (by decide) (by decide) (by omega)) (a6 40 (by decide) (by decide) (by omega)) (fun s _ _ => a6 s (by omega) (by omega) (by omega)))
    (I_led_cg g_led (fun _ _ => by rw [hl2 3 (by decide) (by decide) (by decide)]) (hl2 4 (by decide) (by decide) (by decide)) (hl2 46 (by decide) (by decide) (by decide)) (a6 11 (by decide) (by decide) (by omega)) (a6 19 (by decide) (by decide) (by omega)) (a6 24 (by decide) (by decide) (by omega)) (a6 25 (by decide) (by decide) (by omega)) (a6 40 (by decide) (by decide) (by omega)) (fun s _ _ => a6 s (by omega) (by omega) (by omega)))
  obtain ⟨l5, m4, e1, e2, e3, e4, e5, e6, e7, e8, e9, e10, e11⟩ := nal (l := mj_wrs (mj_wrs (mj_wrs (mj_wrs l4 17 12 (-1)) 17 13 0) 17 10 0) 17 11 0) (m := mj_wrs (mj_wrs (mj_wrs m2 1 26 0) 1 31 0) 1 32 0) (a := a) (c := c) (by omega)
    (by rw [wr_e (Or.inl (by decide)), wr_e (Or.inl (by decide)), wr_e (Or.inl (by decide)), wr_e (Or.inl (by decide)), b4 5 (by decide) (by decide) (by decide), wr_e (Or.inl (by decide)), a4 4 (by decide), d2, ec])
    (by rw [wr_e (Or.inr (by decide)), wr_e (Or.inr (by decide)), wr_e (Or.inr (by decide)), b10 33 (by decide) (by decide) (by decide), a6 33 (by decide) (by decide) (by omega), ec])
    (fun i hi h6 => by
      rw [wr_e (Or.inl (by decide)), wr_e (Or.inl (by decide)), wr_e (Or.inl (by decide)), wr_e (Or.inl (by decide)), b4 7 (by decide) (by decide) (by decide), wr_e (Or.inl (by decide)), a3 7 (by decide) (by decide), wr_e (Or.inr (by omega)), wr_e (Or.inr (by omega)), wr_e (Or.inr (by omega)), b10 _ (by omega) (by omega) (by omega), a6 _ (by omega) (by omega) (by omega)]
      exact d4 i (by omega) h6)
  have hl : ∀ k, k < 4 ∨ (7 < k ∧ k ≠ 17 ∧ k ≠ 18 ∧ k ≠ 23) → l5 k = l k := fun k hk => by
    rw [e3 k (by omega) (by omega), wr_row _ _ _ _ _ (by omega), wr_row _ _ _ _ _ (by omega), wr_row _ _ _ _ _ (by omega), wr_row _ _ _ _ _ (by omega), b4 k (by omega) (by omega) (by omega), hl2 k (by omega) (by omega) (by omega)]
  have hn : ∀ s, s ≠ 21 ∧ s ≠ 24 ∧ s ≠ 25 ∧ s ≠ 26 ∧ s ≠ 31 ∧ s ≠ 32 ∧ s ≠ 33 ∧ s ≠ 34 ∧ s ≠ 48 ∧ (s < 119 ∨ 418 < s) ∧ s < 1097 → m4 1 s = m 1 s := fun s hs => by
    rw [e8 s (by omega) (by omega) (by omega), wr_e (Or.inr (by omega)), wr_e (Or.inr (by omega)), wr_e (Or.inr (by omega)), b10 s (by omega) (by omega) (by omega), a6 s (by omega) (by omega) (by omega)]
  refine ⟨l5, m4, ?_, ?_, ?_, hl, hn, fun q hq => ?_, ?_, ?_⟩
  · unfold f_X8_giveAlarm
    rw [a1]
    simp only [mj_b2, mj_let]
    rw [b1]
    simp only [mj_b1]
    rw [b2]
    simp only
    rw [e1]
  · unfold f_X11_alarms
    rw [a2]
    simp only [mj_b1, mj_let]
    rw [b3]
    simp only
    exact e2
  · -- what each cell is now
    have hz : ∀ s, s = 24 ∨ s = 25 → m4 1 s = 0 := fun s hs => by
      rw [e8 s (by omega) (by omega) (by omega), wr_e (Or.inr (by omega)), wr_e (Or.inr (by omega)), wr_e (Or.inr (by omega))]
      rcases hs with rfl | rfl
      · exact b8
      · exact b9
    have h17 : ∀ j, j ≠ 6 → j ≠ 10 → j ≠ 11 → j ≠ 12 → j ≠ 13 → l5 17 j = l 17 j := fun j h1 h2 h3 h4 h5 => by
      rw [e3 17 (by decide) (by decide), wr_e (Or.inr h3), wr_e (Or.inr h2), wr_e (Or.inr h5), wr_e (Or.inr h4), b4 17 (by decide) (by decide) (by decide), wr_e (Or.inr h1), a3 17 (by decide) (by decide)]
    have k6 : l5 17 6 = 6 := by
      rw [e3 17 (by decide) (by decide), wr_e (Or.inr (by decide)), wr_e (Or.inr (by decide)), wr_e (Or.inr (by decide)), wr_e (Or.inr (by decide)), b4 17 (by decide) (by decide) (by decide), wr_at, if_pos ⟨rfl, rfl⟩]
    have k10 : l5 17 10 = 0 := by
      rw [e3 17 (by decide) (by decide)]
      simp [wr_at]
    have k11 : l5 17 11 = 0 := by
      rw [e3 17 (by decide) (by decide)]
      simp [wr_at]
    have k12 : l5 17 12 = -1 := by
      rw [e3 17 (by decide) (by decide)]
      simp [wr_at]
    have k13 : l5 17 13 = 0 := by
      rw [e3 17 (by decide) (by decide)]
      simp [wr_at]
    have n21 : m4 1 21 = 0 := by
      rw [e8 21 (by decide) (by decide) (by decide), wr_e (Or.inr (by decide)), wr_e (Or.inr (by decide)), wr_e (Or.inr (by decide)), b10 21 (by decide) (by decide) (by decide), a7]
      decide
    have nz : ∀ s, s = 26 ∨ s = 31 ∨ s = 32 → m4 1 s = 0 := fun s hs => by
      rw [e8 s (by omega) (by omega) (by omega)]
      rcases hs with rfl | rfl | rfl <;> simp [wr_at]
    have c0 : mj_cl (0 : Int32) = 0 := by decide
    refine ⟨⟨I_set_cg g_set (by rw [hl 1 (by omega)]) (hl 2 (by omega)) (hn 12 (by omega)) (fun s _ => hn s (by omega)), I_rng_cg g_rng (hl 2 (by omega)), I_tick_cg g_tick (by rw [hl 1 (by omega)]) (hn 11 (by omega))⟩, I_rec_cg (I_rec_mono g_rec) (fun k _ _ => hl k (by omega)) (hn 38 (by omega)) (fun s _ _ => hn s (by omega)) (fun s _ _ => hn s (by omega)) (fun s _ _ => hn s (by omega)), ⟨?_, ?_, ?_, I_pass_cg g_pass (by rw [hl 28 (by omega)]) (hl 29 (by omega)) (hn 29 (by omega)) (fun s _ _ => hn s (by omega)), ?_, I_rep_cg g_rep (h17 14 (by decide) (by decide) (by decide) (by decide) (by decide)) (hn 45 (by omega)) (hn 46 (by omega)) (hn 47 (by omega)), ?_⟩, ?_, ?_, I_plan_cg g_plan (fun k _ _ => hl k (by omega)) (hn 49 (by omega))⟩
    · unfold I_mach
      rw [k6, k10, k11, n21, nz 31 (by simp), nz 32 (by simp), h17 7 (by decide) (by decide) (by decide) (by decide) (by decide), h17 8 (by decide) (by decide) (by decide) (by decide) (by decide), h17 9 (by decide) (by decide) (by decide) (by decide) (by decide), h17 15 (by decide) (by decide) (by decide) (by decide) (by decide), hn 22 (by omega), hn 23 (by omega), hn 30 (by omega), hn 39 (by omega)]
      exact ⟨⟨by decide, by decide, by decide⟩, p2, p3, p4, ⟨rfl, by decide, by decide⟩, ⟨rfl, by decide, by decide⟩, p7⟩
    · refine ⟨?_, ?_, fun i hi => ?_⟩
      · rw [hz 24 (by simp), e3 18 (by decide) (by decide), wr_e (Or.inl (by decide)), wr_e (Or.inl (by decide)), wr_e (Or.inl (by decide)), wr_e (Or.inl (by decide)), b5]
      · rw [hz 24 (by simp)]
        exact cn_mk (c := 0) (by decide) (by decide)
      · rw [hz 24 (by simp), c0] at hi
        omega
    · refine ⟨?_, ?_, fun i hi => ?_⟩
      · rw [hz 25 (by simp), e3 23 (by decide) (by decide), wr_e (Or.inl (by decide)), wr_e (Or.inl (by decide)), wr_e (Or.inl (by decide)), wr_e (Or.inl (by decide)), b6]
      · rw [hz 25 (by simp)]
        exact cn_mk (c := 0) (by decide) (by decide)
      · rw [hz 25 (by simp), c0] at hi
        omega
    · unfold I_dir
      rw [k6, k11, k12, k13, nz 26 (by simp)]
      refine ⟨Or.inl ⟨rfl, rfl⟩, fun q => absurd q (by decide), ⟨by decide, by decide⟩, fun q => ?_⟩
      rcases q with q | q
      · exact absurd q (by decide)
      · exact absurd q (by decide)
    · unfold I_st
      rw [k6, k11, hz 24 (by simp), hz 25 (by simp), nz 31 (by simp)]
      refine ⟨fun q => absurd rfl q, fun q => ?_, fun _ _ => ⟨rfl, rfl⟩, fun _ => rfl⟩
      rcases q with q | q
      · exact absurd q (by decide)
      · exact absurd rfl q
    · refine I_led_cg b11 (fun s _ => ?_) ?_ ?_ ?_ ?_ ?_ ?_ ?_ (fun s h1 h2 => ?_)
      · rw [e3 3 (by decide) (by decide), wr_e (Or.inl (by decide)), wr_e (Or.inl (by decide)), wr_e (Or.inl (by decide)), wr_e (Or.inl (by decide))]
      · rw [e3 4 (by decide) (by decide), wr_row _ _ _ _ _ (by decide), wr_row _ _ _ _ _ (by decide), wr_row _ _ _ _ _ (by decide), wr_row _ _ _ _ _ (by decide)]
      · rw [e3 46 (by decide) (by decide), wr_row _ _ _ _ _ (by decide), wr_row _ _ _ _ _ (by decide), wr_row _ _ _ _ _ (by decide), wr_row _ _ _ _ _ (by decide)]
      all_goals rw [e8 _ (by omega) (by omega) (by omega), wr_e (Or.inr (by omega)), wr_e (Or.inr (by omega)), wr_e (Or.inr (by omega))]
    · obtain ⟨f1, f2, f3⟩ := a8
      refine ⟨⟨?_, ?_, fun i hi => ?_⟩, ⟨?_, ?_, fun i hi h6 => ?_⟩, ⟨?_, ?_⟩, fun q hq => ?_⟩
      · rw [e4 2 (by decide) (by decide), wr_e (Or.inl (by decide)), wr_e (Or.inl (by decide)), wr_e (Or.inl (by decide)), wr_e (Or.inl (by decide)), b4 5 (by decide) (by decide) (by decide), wr_e (Or.inl (by decide)), e8 34 (by decide) (by decide) (by decide), wr_e (Or.inr (by decide)), wr_e (Or.inr (by decide)), wr_e (Or.inr (by decide)), b10 34 (by decide) (by decide) (by decide)]
        exact f1
      · rw [e8 34 (by decide) (by decide) (by decide), wr_e (Or.inr (by decide)), wr_e (Or.inr (by decide)), wr_e (Or.inr (by decide)), b10 34 (by decide) (by decide) (by decide)]
        exact f2
      · rw [e8 34 (by decide) (by decide) (by decide), wr_e (Or.inr (by decide)), wr_e (Or.inr (by decide)), wr_e (Or.inr (by decide)), b10 34 (by decide) (by decide) (by decide)] at hi
        have h80 := f2.2
        rw [e3 6 (by decide) (by decide), wr_e (Or.inl (by decide)), wr_e (Or.inl (by decide)), wr_e (Or.inl (by decide)), wr_e (Or.inl (by decide)), b4 6 (by decide) (by decide) (by decide), wr_e (Or.inl (by decide)), e8 _ (by omega) (by omega) (by omega), wr_e (Or.inr (by omega)), wr_e (Or.inr (by omega)), wr_e (Or.inr (by omega)), b10 _ (by omega) (by omega) (by omega)]
        exact f3 i hi
      · rw [e5, e9]
      · rw [e9]
        exact cn_mk (by omega) (by omega)
      · rw [e9, clI (by omega)] at hi
        exact e11 i hi h6
      · rw [e6, e10]
      · rw [e10]
        exact ha
      · rw [hl 8 (by omega), hn _ (by omega)]
        exact d6 q hq
  · rw [e7 q hq, wr_row _ _ _ _ _ hq, wr_row _ _ _ _ _ hq, wr_row _ _ _ _ _ hq, b7 q hq, a5 q hq]
  · rw [e3 17 (by decide) (by decide), wr_e (Or.inr (by decide)), wr_e (Or.inr (by decide)), wr_e (Or.inr (by decide)), wr_e (Or.inr (by decide)), b4 17 (by decide) (by decide) (by decide), wr_at, if_pos ⟨rfl, rfl⟩]
  · rw [e3 17 (by decide) (by decide)]
    simp [wr_at]
theorem L_alarm {l m : mj_m} {pl : Nat → Int32} {pm : PM} {e u v : Nat} {T : TT} (h : I_lw l (m 1) pl pm e u v T) (he : e ≤ 20000) (hu : u < 2 ^ 29) (a : Int32) (ha : rg 0 a 6) : ∃ (l' m' : mj_m), f_X8_giveAlarm a l = some l' ∧ f_X11_alarms a m = some m' ∧ I_link l' (m' 1) pl pm e (u + 1) v T ∧ Fl l l' ∧ Fm m m' ∧ (∀ s, s < 21 → m' 1 s = m 1 s) ∧ l' 17 6 = 6 ∧ l' 17 11 = 0 ∧ m' 1 22 = m 1 22 := by
  obtain ⟨⟨g_set, g_rng, g_tick⟩, g_rec, ⟨g_mach, g_line, g_sent, g_pass, g_dir, g_rep⟩, g_led, g_dia, g_up, g_dn, g_plan⟩ := h
  obtain ⟨l', m', e1, e2, ⟨c1, c2, c3, c4, c5, c6⟩, hl, hn, e6, e7, e8⟩ := L_alarmC (l := l) (m := m) ⟨⟨g_set, g_rng, g_tick⟩, g_rec, ⟨g_mach, g_line, g_sent, g_pass, g_dir, g_rep⟩, g_led, g_dia, g_plan⟩ he hu a ha
  exact ⟨l', m', e1, e2, ⟨c1, c2, c3, c4, c5, I_up_cg g_up (fun k _ _ => hl k (by omega)) (hn 11 (by omega)) (hn 35 (by omega)) (hn 37 (by omega)) (hn 40 (by omega)) (hn 41 (by omega)) (hn 43 (by omega)) (fun s _ _ => hn s (by omega)) (fun s _ _ => hn s (by omega)), I_dn_cg g_dn (fun k _ _ => hl k (by omega)) (hn 11 (by omega)) (hn 36 (by omega)) (hn 42 (by omega)) (hn 44 (by omega)) (fun s _ _ => hn s (by omega)) (fun s _ _ => hn s (by omega)), c6⟩, Fl.k (hl 33 (by omega)) (hl 38 (by omega)), Fm.k e6, fun s hs => hn s (by omega), e7, e8, hn 22 (by omega)⟩
