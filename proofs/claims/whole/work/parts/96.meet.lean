/-! a frame comes -/
theorem bit01 {x : Int32} (h : rg 0 x 1) : x = 0 ∨ x = 1 := by
  obtain ⟨h1, h2⟩ := h
  by_cases q : x = 0
  · exact Or.inl q
  · exact Or.inr (by grind)
theorem byN {x : Int32} (h : rg 0 x 255) : ∃ k : Nat, k < 256 ∧ x = nI k := by
  obtain ⟨e1, e2⟩ := tx_n0 h.1 h.2
  exact ⟨_, e2, e1⟩
theorem I_rec_set {l l' : mj_m} {n n' : Nat → Int32} {v : Nat} (h : I_rec l n v) (hl : ∀ k, 10 ≤ k → k ≤ 16 → l' k = l k) (h9 : l' 9 9 = l 9 9) (h11 : l' 9 11 = l 9 11) (hn : ∀ s, 18 ≤ s → s ≤ 20 → n' s = n s) (hn2 : ∀ s, 50 ≤ s → s ≤ 57 → n' s = n s) (hn3 : ∀ s, 419 ≤ s → s ≤ 618 → n' s = n s) (a : l' 9 2 = n' 13 ∧ rg 0 (n' 13) 255) (b : l' 9 3 = n' 14 ∧ rg 0 (n' 14) 1) (c : l' 9 4 = n' 15 ∧ rg 0 (n' 15) 1) (d : l' 9 5 = n' 16 ∧ rg 0 (n' 16) 1) (e : l' 9 6 = n' 17 ∧ rg 0 (n' 17) 3) (f : l' 9 12 = n' 38) : I_rec l' n' v := by
  obtain ⟨-, -, -, -, -, ⟨p6, p7, p8⟩, ⟨p9, p10, p11⟩, ⟨p12, p13, p14⟩, -⟩ := h
  refine ⟨a, b, c, d, e, ⟨?_, ?_, fun i hi => ?_⟩, ⟨?_, ?_, fun i hi h1 => ?_⟩, ⟨?_, ?_, fun i hi h1 => ?_⟩, f⟩
  · rw [hl 10 (by decide) (by decide), hn 18 (by decide) (by decide)]
    exact p6
  · rw [hn 18 (by decide) (by decide)]
    exact p7
  · rw [hn 18 (by decide) (by decide)] at hi
    rw [hl 11 (by decide) (by decide), hn2 _ (by omega) (by have := p7.2; omega)]
    exact p8 i hi
  · rw [h9, hn 19 (by decide) (by decide)]
    exact p9
  · rw [hn 19 (by decide) (by decide)]
    exact p10
  · rw [hn 19 (by decide) (by decide)] at hi
    rw [hl 15 (by decide) (by decide), hn3 _ (by omega) (by omega)]
    exact p11 i hi h1
  · rw [h11, hn 20 (by decide) (by decide)]
    exact p12
  · rw [hn 20 (by decide) (by decide)]
    exact p13
  · rw [hn 20 (by decide) (by decide)] at hi
    rw [hl 16 (by decide) (by decide), hn3 _ (by omega) (by omega)]
    exact p14 i hi h1
theorem good_eq {m : mj_m} (h0 : rg 0 (m 3 0) 255) (h2 : rg 0 (m 3 2) 255) (h3 : rg 0 (m 3 3) 255) : f_X11_isGoodFrame m = if (m 3 0 + m 3 1 + m 3 2 + m 3 3 + 85) &&& 255 = m 3 4 then f_X6_isGood (m 3 0) (m 3 2) (m 3 3) else 0 := by
  obtain ⟨x, hx, ex⟩ := byN h2
  obtain ⟨y, hy, ey⟩ := byN h3
  have e : (256 : Int32) * m 3 2 + m 3 3 = nI (256 * x + y) := by
    rw [ex, ey, show (256 : Int32) = nI 256 from rfl, nI_mul, nI_add]
  have p : (0 : Int32) ≤ 256 * m 3 2 + m 3 3 := by
    rw [e]
    exact nI_pos' (by omega)
  obtain ⟨q1, q2⟩ := h0
  unfold f_X11_isGoodFrame f_X6_isGood f_X10_isCommand f_X10_isWithin f_X11_round
  simp only [lts]
  generalize (256 : Int32) * m 3 2 + m 3 3 = z at *
  generalize (m 3 0 + m 3 1 + m 3 2 + m 3 3 + 85) &&& 255 = s at *
  by_cases hs : s = m 3 4
  · rw [if_pos hs.symm, if_pos hs]
    by_cases k2 : m 3 0 = 2
    · rw [if_pos (by rw [k2]; decide), if_pos k2, if_pos k2]
      by_cases k : 2 ≤ m 3 2
      · rw [if_pos k, if_pos (by grind)]
      · rw [if_neg k, if_neg (by grind)]
    · rw [if_neg k2, if_neg k2]
      by_cases k : m 3 0 ≤ 2
      · have n2 : ¬ 2 ≤ m 3 0 := fun y => k2 (Int32.le_antisymm k y)
        have nz : ¬ z < 0 := Int32.not_lt.mpr p
        rw [if_pos k, if_neg n2, if_neg nz]
        by_cases k9 : 9999 < z
        · rw [if_pos k9]
          rfl
        · rw [if_neg k9]
          rfl
      · rw [if_neg k, if_pos (by grind)]
  · rw [if_neg (fun z => hs z.symm), if_neg hs]
def M_ok (l m l' m' : mj_m) : Prop := (∀ k, k ≠ 3 → k ≠ 4 → k ≠ 46 → k < 9 ∨ 16 < k → l' k = l k) ∧ (∀ p, p ≠ 1 → m' p = m p) ∧ ∀ s, s < 13 ∨ 20 < s → s ≠ 38 → s < 50 ∨ 57 < s → s < 419 ∨ 618 < s → s < 1097 → m' 1 s = m 1 s
/-- what only sets numbers of the receiver -/
theorem rec_only {l m : mj_m} {pl : Nat → Int32} {pm : PM} {e u v T : Nat} (h : I_lk0 l (m 1) pl pm e u v T) {l' m' : mj_m} (hl : ∀ k, k ≠ 9 → l' k = l k) (h9 : ∀ j, j = 9 ∨ j = 11 → l' 9 j = l 9 j) (hp : ∀ p, p ≠ 1 → m' p = m p) (hn : ∀ s, s < 13 ∨ (17 < s ∧ s ≠ 38) → m' 1 s = m 1 s) (a : l' 9 2 = m' 1 13 ∧ rg 0 (m' 1 13) 255) (b : l' 9 3 = m' 1 14 ∧ rg 0 (m' 1 14) 1) (c : l' 9 4 = m' 1 15 ∧ rg 0 (m' 1 15) 1) (d : l' 9 5 = m' 1 16 ∧ rg 0 (m' 1 16) 1) (g : l' 9 6 = m' 1 17 ∧ rg 0 (m' 1 17) 3) (f : l' 9 12 = m' 1 38) : I_lk0 l' (m' 1) pl pm e u (v + 1) T ∧ M_ok l m l' m' := by
  obtain ⟨⟨g_set, g_rng, g_tick⟩, g_rec, ⟨g_mach, g_line, g_sent, g_pass, g_dir, g_rep, g_st⟩, g_led, g_dia, g_plan⟩ := h
  refine ⟨?_, fun k _ _ _ hk => hl k (by omega), hp, fun s s1 s2 s3 s4 s5 => hn s (by omega)⟩
  refine ⟨⟨I_set_cg g_set (by rw [hl 1 (by omega)]) (hl 2 (by omega)) (hn 12 (by omega)) (fun s _ => hn s (by omega)), I_rng_cg g_rng (hl 2 (by omega)), I_tick_cg g_tick (by rw [hl 1 (by omega)]) (hn 11 (by omega))⟩, ?_, ⟨I_mach_cg g_mach (fun _ _ => by rw [hl 17 (by omega)]) (fun s _ => hn s (by omega)), I_line_cg g_line (by rw [hl 18 (by omega)]) (hl 19 (by omega)) (hl 21 (by omega)) (hn 24 (by omega)) (hn 40 (by omega)) (fun s _ _ => hn s (by omega)), I_sent_cg g_sent (fun k _ _ => hl k (by omega)) (hn 22 (by omega)) (hn 24 (by omega)) (hn 25 (by omega)) (hn 40 (by omega)) (fun s _ _ => hn s (by omega)), I_pass_cg g_pass (by rw [hl 28 (by omega)]) (hl 29 (by omega)) (hn 29 (by omega)) (fun s _ _ => hn s (by omega)), I_dir_cg g_dir (fun _ _ => by rw [hl 17 (by omega)]) (fun s _ => hn s (by omega)), I_rep_cg g_rep (by rw [hl 17 (by omega)]) (hn 45 (by omega)) (hn 46 (by omega)) (hn 47 (by omega)), I_st_cg g_st (by rw [hl 17 (by omega)]) (by rw [hl 17 (by omega)]) (hn 31 (by omega)) (fun s _ _ => hn s (by omega))⟩, I_led_cg (I_led_mono g_led) (fun _ _ => by rw [hl 3 (by omega)]) (hl 4 (by omega)) (hl 46 (by omega)) (hn 11 (by omega)) (hn 19 (by omega)) (hn 24 (by omega)) (hn 25 (by omega)) (hn 40 (by omega)) (fun s _ _ => hn s (by omega)), I_dia_cg (I_dia_mono g_dia) (fun k _ _ => hl k (by omega)) (hn 33 (by omega)) (hn 34 (by omega)) (hn 48 (by omega)) (fun s _ _ => hn s (by omega)), I_plan_cg g_plan (fun k _ _ => hl k (by omega)) (hn 49 (by omega))⟩
  exact I_rec_set (I_rec_mono g_rec) (fun k _ _ => hl k (by omega)) (h9 9 (Or.inl rfl)) (h9 11 (Or.inr rfl)) (fun s _ _ => hn s (by omega)) (fun s _ _ => hn s (by omega)) (fun s _ _ => hn s (by omega)) a b c d g f
theorem m38 (m : mj_m) : f_X11_more 38 m = some (mj_wrs m 1 38 (m 1 38 + 1)) := more_eq (Q := 38) (by decide)
/-- in order, and not taken in: what both sides set -/
theorem mo_no {l m : mj_m} {pl : Nat → Int32} {pm : PM} {e u v T : Nat} (h : I_lk0 l (m 1) pl pm e u v T) {A W R : Int32} {l' m' : mj_m} (hA : rg 0 A 1) (hW : rg 0 W 1) (hR : rg 0 R 1) (hl : ∀ k, k ≠ 9 → l' k = l k) (hj : ∀ j, j ≠ 3 → j ≠ 4 → j ≠ 5 → j ≠ 12 → l' 9 j = l 9 j) (l3 : l' 9 3 = A) (l4 : l' 9 4 = W) (l5 : l' 9 5 = R) (l12 : l' 9 12 = l 9 12 + 1) (hp : ∀ p, p ≠ 1 → m' p = m p) (hn : ∀ s, s ≠ 14 → s ≠ 15 → s ≠ 16 → s ≠ 38 → m' 1 s = m 1 s) (n14 : m' 1 14 = A) (n15 : m' 1 15 = W) (n16 : m' 1 16 = R) (n38 : m' 1 38 = m 1 38 + 1) : I_lk0 l' (m' 1) pl pm e u (v + 1) T ∧ M_ok l m l' m' := by
  have g_rec := h.2.1
  obtain ⟨p1, -, -, -, p5, -, -, -, p15⟩ := g_rec
  refine rec_only h hl (fun j hj' => hj j (by omega) (by omega) (by omega) (by omega)) hp (fun s hs => hn s (by omega) (by omega) (by omega) (by omega)) ?_ ⟨by rw [l3, n14], by rw [n14]; exact hA⟩ ⟨by rw [l4, n15], by rw [n15]; exact hW⟩ ⟨by rw [l5, n16], by rw [n16]; exact hR⟩ ?_ ?_
  · rw [hj 2 (by decide) (by decide) (by decide) (by decide), hn 13 (by decide) (by decide) (by decide) (by decide)]
    exact p1
  · rw [hj 6 (by decide) (by decide) (by decide) (by decide), hn 17 (by decide) (by decide) (by decide) (by decide)]
    exact p5
  · rw [l12, n38, p15]
theorem zone4 (n : Int32) (l : mj_m) : f_X6_zoneOf n l = 0 ∨ f_X6_zoneOf n l = 1 ∨ f_X6_zoneOf n l = 2 ∨ f_X6_zoneOf n l = 3 := by
  unfold f_X6_zoneOf
  simp only [lts]
  generalize l 2 0 / 2 = x
  generalize f_X10_far n (l 9 2) = y
  by_cases h0 : y = 0
  · rw [if_pos h0]
    exact Or.inl rfl
  · rw [if_neg h0]
    by_cases h1 : x ≤ y
    · rw [if_pos h1]
      by_cases h2 : y < 256 - x
      · rw [if_pos h2]
        exact Or.inr (Or.inr (Or.inr rfl))
      · rw [if_neg h2]
        exact Or.inr (Or.inr (Or.inl rfl))
    · rw [if_neg h1]
      exact Or.inr (Or.inl rfl)
def tkR (n cmd : Int32) (m : mj_m) : Option mj_m := mj_b2 (f_X11_takesIn n cmd m) (fun r23 m24 => if r23 = 0 then (mj_b1 (f_X11_more 38 m24) (fun m27 => some m27)) else (some m24))
theorem tkR_no {n cmd : Int32} {m m1 : mj_m} (h : f_X11_takesIn n cmd m = some (0, m1)) : tkR n cmd m = some (mj_wrs m1 1 38 (m1 1 38 + 1)) := by
  unfold tkR
  rw [h, b2s, if_pos rfl, m38, b1s]
theorem tkR_yes {n cmd : Int32} {m m1 : mj_m} (h : f_X11_takesIn n cmd m = some (1, m1)) : tkR n cmd m = some m1 := by
  unfold tkR
  rw [h, b2s, if_neg one0]
/-- one more at the receiver -/
theorem rec_take {l l' : mj_m} {n n' : Nat → Int32} {v : Nat} {x : Int32} {c o : Nat} (h : I_rec l n v) (hv : v < 2 ^ 28) (hc : n 18 = nI c) (hc8 : c < 8) (ho : n 19 = nI o) (hov : o ≤ v) (hl10 : l' 10 4 = nI (c + 1)) (hl11 : ∀ i, l' 11 i = if i = c then x else l 11 i) (hl15 : ∀ i, l' 15 i = if i = o ∧ o < 100 then x else l 15 i) (hl16 : l' 16 = l 16) (h92 : l' 9 2 = (l 9 2 + 1) &&& 255) (h93 : l' 9 3 = l 9 3) (h94 : l' 9 4 = l 9 4) (h95 : l' 9 5 = 0) (h96 : l' 9 6 = l 9 6) (h99 : l' 9 9 = nI (o + 1)) (h911 : l' 9 11 = l 9 11) (h912 : l' 9 12 = l 9 12) (n13 : n' 13 = (n 13 + 1) &&& 255) (n16 : n' 16 = 0) (n18 : n' 18 = nI (c + 1)) (n19 : n' 19 = nI (o + 1)) (hn : ∀ s, s = 14 ∨ s = 15 ∨ s = 17 ∨ s = 20 ∨ s = 38 → n' s = n s) (h50 : ∀ i, i < 8 → n' (50 + i) = if i = c then x else n (50 + i)) (h419 : ∀ i, i < 100 → n' (419 + i) = if i = o then x else n (419 + i)) (h519 : ∀ s, 519 ≤ s → s ≤ 618 → n' s = n s) : I_rec l' n' (v + 1) := by
  obtain ⟨p1, p2, p3, p4, p5, ⟨p6, p7, p8⟩, ⟨p9, p10, p11⟩, ⟨p12, p13, p14⟩, p15⟩ := h
  refine ⟨⟨by rw [h92, n13, p1.1], ?_⟩, ?_, ?_, ⟨by rw [h95, n16], by rw [n16]; exact ⟨by decide, by decide⟩⟩, ?_, ⟨by rw [hl10, n18], by rw [n18]; exact cn_mk (by omega) (by decide), fun i hi => ?_⟩, ⟨by rw [h99, n19], by rw [n19]; exact cn_mk (by omega) (by omega), fun i hi h1 => ?_⟩, ⟨?_, ?_, fun i hi h1 => ?_⟩, ?_⟩
  · rw [n13]
    obtain ⟨k, hk, ek⟩ := byN p1.2
    rw [ek, nI_1, show (255 : Int32) = nI (2 ^ 8 - 1) from rfl, fa_mask]
    exact ⟨nI_pos' (by omega), nI_le (b := 255) (by omega) (by decide)⟩
  · rw [h93, hn 14 (by omega)]
    exact p2
  · rw [h94, hn 15 (by omega)]
    exact p3
  · rw [h96, hn 17 (by omega)]
    exact p5
  · rw [n18, clI (by omega)] at hi
    rw [hl11, h50 i (by omega)]
    by_cases z : i = c
    · rw [if_pos z, if_pos z]
    · rw [if_neg z, if_neg z]
      exact p8 i (by rw [hc, clI (by omega)]; omega)
  · rw [n19, clI (by omega)] at hi
    rw [hl15, h419 i h1]
    by_cases z : i = o
    · rw [if_pos ⟨z, by omega⟩, if_pos z]
    · rw [if_neg (fun y => z y.1), if_neg z]
      exact p11 i (by rw [ho, clI (by omega)]; omega) h1
  · rw [h911, hn 20 (by omega)]
    exact p12
  · rw [hn 20 (by omega)]
    exact cn_mono p13 (by omega)
  · rw [hn 20 (by omega)] at hi
    rw [hl16, h519 _ (by omega) (by omega)]
    exact p14 i hi h1
  · rw [h912, hn 38 (by omega)]
    exact p15
theorem keeps_eq {R Q o : Nat} {x : Int32} {m : mj_m} (hQ : Q < 50) (hR : 419 ≤ R) (hR2 : R + 100 < 1097) (ho : m 1 Q = nI o) (hob : o < 2 ^ 30) : ∃ m' : mj_m, f_X11_keeps (nI R) (nI Q) x m = some m' ∧ (∀ p, p ≠ 1 → m' p = m p) ∧ m' 1 Q = nI (o + 1) ∧ (∀ s, s ≠ Q → s < R ∨ R + 100 ≤ s → m' 1 s = m 1 s) ∧ ∀ i, i < 100 → m' 1 (R + i) = if i = o then x else m 1 (R + i) := by
  unfold f_X11_keeps
  rw [chk_t (okI (by omega) (by decide)), clI (by omega), ho]
  by_cases h : 100 ≤ o
  · rw [if_pos (show (100 : Int32) ≤ nI o from nI_le (a := 100) h (by omega)), more_eq (by omega), ho, nI_1]
    simp only [b1s]
    exact ⟨_, rfl, fun p hp => wr_row _ _ _ _ _ hp, rs _ _ _ _, fun s h1 _ => wr_e (Or.inr h1), fun i hi => by rw [wr_e (Or.inr (by omega)), if_neg (by omega)]⟩
  · rw [if_neg (show ¬ (100 : Int32) ≤ nI o from nI_ge (b := 100) (by omega) (by decide)), chk_t (okI (by omega) (by decide)), nI_add, chk_t (okI (by omega) (by decide)), clI (by omega)]
    simp only [lts]
    rw [more_eq (by omega), wr_e (Or.inr (by omega)), ho, nI_1]
    simp only [b1s]
    refine ⟨_, rfl, fun p hp => by rw [wr_row _ _ _ _ _ hp, wr_row _ _ _ _ _ hp], rs _ _ _ _, fun s h1 h2 => by rw [wr_e (Or.inr h1), wr_e (Or.inr (by omega))], fun i hi => ?_⟩
    rw [wr_e (Or.inr (by omega))]
    by_cases z : i = o
    · rw [if_pos z, z, rs]
    · rw [if_neg z, wr_e (Or.inr (by omega))]
theorem ckeep {l : mj_m} {x : Int32} {o a b : Nat} (ho : l a b = nI o) (hob : o < 2 ^ 30) (hka : a < 15) : ∀ (k : Nat) (_ : 15 ≤ k), ∃ l' : mj_m, (if (100 : Int32) ≤ l a b then some l else mj_chk (mj_ok (l a b) 100) (some (mj_wrs l k (mj_cl (l a b)) x))) = some l' ∧ (∀ p, p ≠ k → l' p = l p) ∧ ∀ i, l' k i = if i = o ∧ o < 100 then x else l k i := by
  intro k hk
  rw [ho]
  by_cases h : 100 ≤ o
  · rw [if_pos (show (100 : Int32) ≤ nI o from nI_le (a := 100) h (by omega))]
    exact ⟨l, rfl, fun _ _ => rfl, fun i => by rw [if_neg (by omega)]⟩
  · rw [if_neg (show ¬ (100 : Int32) ≤ nI o from nI_ge (b := 100) (by omega) (by decide)), chk_t (okI (by omega) (by decide)), clI (by omega)]
    refine ⟨_, rfl, fun p hp => wr_row _ _ _ _ _ hp, fun i => ?_⟩
    by_cases z : i = o
    · rw [if_pos ⟨z, by omega⟩, z, rs]
    · rw [if_neg (fun y => z y.1), wr_e (Or.inr z)]
set_option maxHeartbeats 1000000 in
theorem mo_yes {l m : mj_m} {pl : Nat → Int32} {pm : PM} {e u v T : Nat} (h : I_lk0 l (m 1) pl pm e u v T) (he : e ≤ 20000) (hv : v < 2 ^ 28) (hT : T ≤ 20000) {n cmd line : Int32} {L : Nat} (h04 : m 0 4 = nI L) (hL : L ≤ mj_cl (m 1 40)) (hline : line = if L = 0 then -1 else lnum (L - 1)) (hroom : ¬ l 2 1 ≤ l 10 4) : ∃ l' m' : mj_m, f_X6_takeIn cmd line l = some l' ∧ mj_b1 (f_X11_puts 50 18 cmd m) (fun m6 => mj_b1 (f_X11_keeps 419 19 cmd m6) (fun m8 => mj_b1 (f_X11_takenOf ((m8 0 4) - 1) m8) (fun m10 => some (1, mj_wrs (mj_wrs m10 1 13 ((m10 1 13 + 1) &&& 255)) 1 16 0)))) = some ((1 : Int32), m') ∧ I_lk0 l' (m' 1) pl pm e u (v + 1) T ∧ M_ok l m l' m' := by
  obtain ⟨⟨g_set, g_rng, g_tick⟩, g_rec, ⟨g_mach, g_line, g_sent, g_pass, g_dir, g_rep, g_st⟩, g_led, g_dia, g_plan⟩ := h
  obtain ⟨p1, p2, p3, p4, p5, ⟨p6, p7, p8⟩, ⟨p9, p10, p11⟩, p12, p15⟩ := id g_rec
  obtain ⟨c, hc8, ec, cc⟩ := cn_i p7
  obtain ⟨o, ho, eo, co⟩ := cn_i p10
  have hc : c < 8 := by
    rcases Nat.lt_or_ge c 8 with z | z
    · exact z
    · exfalso
      refine hroom ?_
      have hr := g_rng.2.1.2
      rw [p6, ec, show c = 8 by omega]
      exact hr
  have g11 := g_tick.2
  -- the class's row
  have a1 := add_eq (b := 10) (c := c) (x := cmd) (y := l 9 2) (z := line) (m := l) (by rw [p6, ec]) (by omega)
  generalize hla : mj_wrs (mj_wrs (mj_wrs (mj_wrs (mj_wrs l (10 + 1) c cmd) (10 + 2) c (l 9 2)) (10 + 3) c line) (10 + 4) c 0) 10 4 (nI (c + 1)) = la at *
  have la_k : ∀ k, k < 10 ∨ 14 < k → la k = l k := fun k hk => by
    rw [← hla]
    rw [wr_row _ _ _ _ _ (by omega), wr_row _ _ _ _ _ (by omega), wr_row _ _ _ _ _ (by omega), wr_row _ _ _ _ _ (by omega), wr_row _ _ _ _ _ (by omega)]
  have la_4 : la 10 4 = nI (c + 1) := by rw [← hla, rs]
  have la_11 : ∀ i, la 11 i = if i = c then cmd else l 11 i := fun i => by
    rw [← hla]
    by_cases z : i = c
    · rw [if_pos z]
      subst z
      simp (disch := omega) only [wr_e, rs]
    · rw [if_neg z]
      simp (disch := omega) only [wr_e]
  obtain ⟨lb', k1, k2, k3⟩ := ckeep (l := la) (x := cmd) (o := o) (a := 9) (b := 9) (by rw [la_k 9 (by omega), p9, eo]) (by omega) (by decide) 15 (by decide)
  -- the reference's
  obtain ⟨mk, q1, q2, q3, q4, q5⟩ := keeps_eq (R := 419) (Q := 19) (x := cmd) (m := mj_wrs (mj_wrs m 1 (50 + c) cmd) 1 18 (nI (c + 1))) (by decide) (by decide) (by decide) (by rw [wr_e (Or.inr (by decide)), wr_e (Or.inr (by omega)), eo]) (by omega)
  have mk_s : ∀ s, s ≠ 18 → s ≠ 19 → s ≠ 50 + c → s < 419 ∨ 519 ≤ s → mk 1 s = m 1 s := fun s s1 s2 s3 s4 => by rw [q4 s s2 s4, wr_e (Or.inr s1), wr_e (Or.inr s3)]
  have mk0 : mk 0 4 = nI L := by rw [q2 0 (by decide), wr_row _ _ _ _ _ (by decide), wr_row _ _ _ _ _ (by decide), h04]
  -- the ledger
  have ll : ∀ k, k < 9 ∨ 16 < k → mj_wrs (mj_wrs (mj_wrs lb' 9 9 (nI (o + 1))) 9 2 ((l 9 2 + 1) &&& 255)) 9 5 0 k = l k := fun k hk => by
    rw [wr_row _ _ _ _ _ (by omega), wr_row _ _ _ _ _ (by omega), wr_row _ _ _ _ _ (by omega), k2 k (by omega), la_k k (by omega)]
  obtain ⟨lc, mc, t1, t2, t3, t4, t5, t6⟩ := taken_eq (l := mj_wrs (mj_wrs (mj_wrs lb' 9 9 (nI (o + 1))) 9 2 ((l 9 2 + 1) &&& 255)) 9 5 0) (m := mk) (n0 := m 1) (e := e) (v := v) (o := o) (L := L) (line := line) (I_led_cg g_led (fun s _ => by rw [ll 3 (by omega)]) (ll 4 (by omega)) (ll 46 (by omega)) rfl rfl rfl rfl rfl (fun _ _ _ => rfl)) he hv ho (mk_s 11 (by decide) (by decide) (by omega) (by omega)) (by rw [ll 1 (by omega), mk_s 11 (by decide) (by decide) (by omega) (by omega)]; exact g_tick.1) (by rw [mk_s 11 (by decide) (by decide) (by omega) (by omega)]; exact cn_mono g11 hT) eo q3 (mk_s 24 (by decide) (by decide) (by omega) (by omega)) (mk_s 25 (by decide) (by decide) (by omega) (by omega)) (mk_s 40 (by decide) (by decide) (by omega) (by omega)) (fun s _ _ => mk_s s (by omega) (by omega) (by omega) (by omega)) hL hline
  have hl9 : ∀ j, j ≠ 2 → j ≠ 5 → j ≠ 9 → lc 9 j = l 9 j := fun j j2 j5 j9 => by
    rw [t3 9 (by decide) (by decide) (by decide), wr_e (Or.inr j5), wr_e (Or.inr j2), wr_e (Or.inr j9), k2 9 (by decide), la_k 9 (by omega)]
  have hlk : ∀ k, 10 ≤ k → k ≤ 16 → lc k = lb' k := fun k _ _ => by
    rw [t3 k (by omega) (by omega) (by omega), wr_row _ _ _ _ _ (by omega), wr_row _ _ _ _ _ (by omega), wr_row _ _ _ _ _ (by omega)]
  have hl : ∀ k, k ≠ 3 ∧ k ≠ 4 ∧ k ≠ 46 ∧ (k < 9 ∨ 16 < k) → lc k = l k := fun k hk => by rw [t3 k hk.1 hk.2.1 hk.2.2.1, ll k hk.2.2.2]
  have hn : ∀ s, s ≠ 13 ∧ s ≠ 16 ∧ s ≠ 18 ∧ s ≠ 19 ∧ (s < 50 ∨ 57 < s) ∧ (s < 419 ∨ 519 ≤ s) ∧ s < 1097 → mj_wrs (mj_wrs mc 1 13 ((m 1 13 + 1) &&& 255)) 1 16 0 1 s = m 1 s := fun s hs => by
    rw [wr_e (Or.inr (by omega)), wr_e (Or.inr (by omega)), t5 s (by omega), mk_s s (by omega) (by omega) (by omega) (by omega)]
  refine ⟨lc, mj_wrs (mj_wrs mc 1 13 ((m 1 13 + 1) &&& 255)) 1 16 0, ?_, ?_, ?_, fun k k3' k4' k46 hk => hl k ⟨k3', k4', k46, hk⟩, fun p hp => by rw [wr_row _ _ _ _ _ hp, wr_row _ _ _ _ _ hp, t4 p hp, q2 p hp, wr_row _ _ _ _ _ hp, wr_row _ _ _ _ _ hp], fun s s1 s2 s3 s4 s5 => hn s (by omega)⟩
  · unfold f_X6_takeIn
    rw [a1]
    simp only [b1s, lts]
    have J : ∀ x : mj_m, x 9 9 = nI o → x 9 2 = l 9 2 → f_X6_takeIn_J32 line x = f_X2_noteTakenIn line (mj_wrs (mj_wrs (mj_wrs x 9 9 (nI (o + 1))) 9 2 ((l 9 2 + 1) &&& 255)) 9 5 0) := fun x x9 x2 => by
      unfold f_X6_takeIn_J32
      simp only [lts]
      rw [x9, nI_1, wr_e (m := x) (Or.inr (by decide)), x2]
      cases f_X2_noteTakenIn line (mj_wrs (mj_wrs (mj_wrs x 9 9 (nI (o + 1))) 9 2 ((l 9 2 + 1) &&& 255)) 9 5 0) <;> rfl
    have x99 : la 9 9 = nI o := by rw [la_k 9 (by omega), p9, eo]
    have x92 : la 9 2 = l 9 2 := by rw [la_k 9 (by omega)]
    rw [x99] at k1 ⊢
    by_cases z : (100 : Int32) ≤ nI o
    · rw [if_pos z] at k1 ⊢
      cases k1
      rw [J la x99 x92]
      exact t1
    · rw [if_neg z] at k1 ⊢
      have z' : o < 100 := by
        rcases Nat.lt_or_ge o 100 with y | y
        · exact y
        · exact absurd (nI_le (a := 100) y (by omega)) z
      rw [chk_t (okI z' (by decide))] at k1 ⊢
      cases k1
      rw [J _ (by rw [wr_e (Or.inl (by decide)), x99]) (by rw [wr_e (Or.inl (by decide)), x92])]
      exact t1
  · rw [show (50 : Int32) = nI 50 from rfl, show (18 : Int32) = nI 18 from rfl, puts_eq (c := c) (by decide) ec (by omega) (by omega), b1s, show (419 : Int32) = nI 419 from rfl, show (19 : Int32) = nI 19 from rfl, q1, b1s, mk0, t2, b1s, t5 13 (by decide), mk_s 13 (by decide) (by decide) (by omega) (by omega)]
  · refine ⟨⟨I_set_cg g_set (by rw [hl 1 (by omega)]) (hl 2 (by omega)) (hn 12 (by omega)) (fun s _ => hn s (by omega)), I_rng_cg g_rng (hl 2 (by omega)), I_tick_cg g_tick (by rw [hl 1 (by omega)]) (hn 11 (by omega))⟩, ?_, ⟨I_mach_cg g_mach (fun _ _ => by rw [hl 17 (by omega)]) (fun s _ => hn s (by omega)), I_line_cg g_line (by rw [hl 18 (by omega)]) (hl 19 (by omega)) (hl 21 (by omega)) (hn 24 (by omega)) (hn 40 (by omega)) (fun s _ _ => hn s (by omega)), I_sent_cg g_sent (fun k _ _ => hl k (by omega)) (hn 22 (by omega)) (hn 24 (by omega)) (hn 25 (by omega)) (hn 40 (by omega)) (fun s _ _ => hn s (by omega)), I_pass_cg g_pass (by rw [hl 28 (by omega)]) (hl 29 (by omega)) (hn 29 (by omega)) (fun s _ _ => hn s (by omega)), I_dir_cg g_dir (fun _ _ => by rw [hl 17 (by omega)]) (fun s _ => hn s (by omega)), I_rep_cg g_rep (by rw [hl 17 (by omega)]) (hn 45 (by omega)) (hn 46 (by omega)) (hn 47 (by omega)), I_st_cg g_st (by rw [hl 17 (by omega)]) (by rw [hl 17 (by omega)]) (hn 31 (by omega)) (fun s _ _ => hn s (by omega))⟩, ?_, I_dia_cg (I_dia_mono g_dia) (fun k _ _ => hl k (by omega)) (hn 33 (by omega)) (hn 34 (by omega)) (hn 48 (by omega)) (fun s _ _ => hn s (by omega)), I_plan_cg g_plan (fun k _ _ => hl k (by omega)) (hn 49 (by omega))⟩
    · have r : ∀ s, s ≠ 13 → s ≠ 16 → s < 1097 → mj_wrs (mj_wrs mc 1 13 ((m 1 13 + 1) &&& 255)) 1 16 0 1 s = mk 1 s := fun s s1 s2 s3 => by rw [wr_e (Or.inr s2), wr_e (Or.inr s1), t5 s s3]
      refine rec_take (x := cmd) (c := c) (o := o) g_rec hv ec hc eo ho ?_ (fun i => ?_) (fun i => ?_) ?_ ?_ (hl9 3 (by decide) (by decide) (by decide)) (hl9 4 (by decide) (by decide) (by decide)) ?_ (hl9 6 (by decide) (by decide) (by decide)) ?_ (hl9 11 (by decide) (by decide) (by decide)) (hl9 12 (by decide) (by decide) (by decide)) ?_ (rs _ _ _ _) ?_ ?_ (fun s hs => hn s (by omega)) (fun i hi => ?_) (fun i hi => ?_) (fun s s1 s2 => hn s (by omega))
      · rw [hlk 10 (by decide) (by decide), k2 10 (by decide), la_4]
      · rw [hlk 11 (by decide) (by decide), k2 11 (by decide), la_11]
      · rw [hlk 15 (by decide) (by decide), k3, la_k 15 (by omega)]
      · rw [hlk 16 (by decide) (by decide), k2 16 (by decide), la_k 16 (by omega)]
      · rw [t3 9 (by decide) (by decide) (by decide)]
        simp (disch := omega) only [wr_e, rs]
      · rw [t3 9 (by decide) (by decide) (by decide), rs]
      · rw [t3 9 (by decide) (by decide) (by decide)]
        simp (disch := omega) only [wr_e, rs]
      · rw [wr_e (Or.inr (by decide)), rs]
      · rw [r 18 (by decide) (by decide) (by decide), q4 18 (by decide) (by omega), rs]
      · rw [r 19 (by decide) (by decide) (by decide), q3]
      · rw [r _ (by omega) (by omega) (by omega), q4 _ (by omega) (by omega), wr_e (Or.inr (by omega))]
        by_cases z : i = c
        · rw [if_pos z, z, rs]
        · rw [if_neg z, wr_e (Or.inr (by omega))]
      · rw [r _ (by omega) (by omega) (by omega), q5 i hi]
        by_cases z : i = o
        · rw [if_pos z, if_pos z]
        · rw [if_neg z, if_neg z, wr_e (Or.inr (by omega)), wr_e (Or.inr (by omega))]
    · refine I_led_cg t6 (fun _ _ => rfl) rfl rfl ?_ ?_ ?_ ?_ ?_ (fun s _ _ => ?_) <;> rw [wr_e (Or.inr (by omega)), wr_e (Or.inr (by omega))]
