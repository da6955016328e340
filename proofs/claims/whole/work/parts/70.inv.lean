/-! PART II: the invariant between the class's memory and the reference's -/
theorem wr_at (m : mj_m) (k j : Nat) (x : Int32) (k' j' : Nat) : mj_wrs m k j x k' j' = if k' = k ∧ j' = j then x else m k' j' := by
  unfold mj_wrs va_up upd
  by_cases h : k' = k
  · subst h
    simp
  · simp [h]
theorem wr_row (m : mj_m) (k j : Nat) (x : Int32) (k' : Nat) (h : k' ≠ k) : mj_wrs m k j x k' = m k' := by
  unfold mj_wrs va_up
  rw [if_neg h]
theorem up_at (M : mj_M) (b : Nat) (m : mj_m) (b' : Nat) : va_up M b m b' = if b' = b then m else M b' := rfl
def rg (a x b : Int32) : Prop := a ≤ x ∧ x ≤ b
def cn (x : Int32) (b : Nat) : Prop := x = nI (mj_cl x) ∧ mj_cl x ≤ b
def lnum (x : Nat) : Int32 := if x < 100 then nI x else -1
def I_set (l : mj_m) (n : Nat → Int32) : Prop := l 1 1 = n 12 ∧ l 2 0 = n 0 + 10 ∧ l 2 1 = n 1 + 3 ∧ l 2 2 = n 2 + 3 ∧ l 2 3 = n 3 + 3 ∧ l 2 4 = n 4 + 12 ∧ l 2 5 = n 5 ∧ l 2 6 = n 6 + 3 ∧ l 2 7 = n 7 + 3 ∧ l 2 8 = n 8 ∧ l 2 9 = n 9 ∧ l 2 10 = n 10 + 4
def I_rng (l : mj_m) : Prop := rg 2 (l 2 0) 200 ∧ rg 0 (l 2 1) 8 ∧ rg 1 (l 2 2) 20 ∧ rg 1 (l 2 3) 9 ∧ rg 1 (l 2 4) 99 ∧ rg 0 (l 2 5) 1 ∧ rg 1 (l 2 6) 40 ∧ rg 1 (l 2 7) 40 ∧ rg 0 (l 2 8) 90 ∧ rg 0 (l 2 9) 90 ∧ rg 1 (l 2 10) 20
def I_tick (l : mj_m) (n : Nat → Int32) (T : Nat) : Prop := l 1 0 = n 11 ∧ cn (n 11) T
/-- the receiver -/
def I_rec (l : mj_m) (n : Nat → Int32) (v : Nat) : Prop := (l 9 2 = n 13 ∧ rg 0 (n 13) 255) ∧ (l 9 3 = n 14 ∧ rg 0 (n 14) 1) ∧ (l 9 4 = n 15 ∧ rg 0 (n 15) 1) ∧ (l 9 5 = n 16 ∧ rg 0 (n 16) 1) ∧ (l 9 6 = n 17 ∧ rg 0 (n 17) 3) ∧ (l 10 4 = n 18 ∧ cn (n 18) 8 ∧ ∀ i, i < mj_cl (n 18) → l 11 i = n (50 + i)) ∧ (l 9 9 = n 19 ∧ cn (n 19) v ∧ ∀ i, i < mj_cl (n 19) → i < 100 → l 15 i = n (419 + i)) ∧ (l 9 11 = n 20 ∧ cn (n 20) v ∧ ∀ i, i < mj_cl (n 20) → i < 100 → l 16 i = n (519 + i)) ∧ l 9 12 = n 38
/-- LINE, SENT and what goes past, as rows -/
def I_line (l : mj_m) (n : Nat → Int32) : Prop := l 18 4 = n 24 ∧ cn (n 24) 8 ∧ ∀ i, i < mj_cl (n 24) → l 19 i = n (58 + i) ∧ rg 0 (n (58 + i)) 9999 ∧ l 21 i = lnum (mj_cl (n 40) - mj_cl (n 24) + i)
def I_sent (l : mj_m) (n : Nat → Int32) : Prop := l 23 4 = n 25 ∧ cn (n 25) 20 ∧ ∀ i, i < mj_cl (n 25) → l 24 i = n (66 + i) ∧ rg 0 (n (66 + i)) 9999 ∧ l 25 i = (n 22 - n 25 + nI i) &&& 255 ∧ l 26 i = lnum (mj_cl (n 40) - mj_cl (n 24) - mj_cl (n 25) + i) ∧ l 27 i = n (86 + i) ∧ rg 0 (n (86 + i)) 1
def I_pass (l : mj_m) (n : Nat → Int32) : Prop := l 28 4 = n 29 ∧ cn (n 29) 4 ∧ ∀ i, i < mj_cl (n 29) → l 29 i = n (106 + i) ∧ rg 0 (n (106 + i)) 9999
/-- the machine's own numbers -/
def I_mach (l : mj_m) (n : Nat → Int32) : Prop := (l 17 6 = n 21 + 6 ∧ rg 1 (l 17 6) 6) ∧ (l 17 7 = n 22 ∧ rg 0 (n 22) 255) ∧ (l 17 8 = n 23 ∧ rg 0 (n 23) 255) ∧ l 17 9 = n 30 ∧ (l 17 10 = n 31 ∧ rg 0 (n 31) 99) ∧ (l 17 11 = n 32 ∧ rg 0 (n 32) 5) ∧ l 17 15 = n 39
def I_dir (l : mj_m) (n : Nat → Int32) : Prop := ((n 26 = 0 ∧ l 17 12 = -1) ∨ (n 26 = 1 ∧ l 17 12 = 0 ∧ n 27 = 0) ∨ (n 26 = 2 ∧ l 17 12 = 256 + n 27 ∧ rg 0 (n 27) 255)) ∧ (l 17 6 = 5 → l 17 13 = n 28) ∧ rg 0 (l 17 13) 1 ∧ (l 17 6 = 5 ∨ l 17 11 = 5 → n 26 ≠ 0)
def I_rep (l : mj_m) (n : Nat → Int32) : Prop := (n 45 = 0 ∧ l 17 14 = -1) ∨ (n 45 = 1 ∧ l 17 14 = -2) ∨ (n 45 = 2 ∧ l 17 14 = mj_shl (n 46) 8 ||| n 47 ∧ rg 0 (n 46) 31 ∧ rg 0 (n 47) 255)
/-- how the states go together -/
def I_st (l : mj_m) (n : Nat → Int32) : Prop := (l 17 11 ≠ 0 → l 17 6 = 6) ∧ (l 17 6 ≤ 5 ∨ l 17 11 ≠ 0 → n 23 = (n 22 - n 25) &&& 255) ∧ (4 ≤ l 17 6 → ¬ rg 1 (l 17 11) 3 → n 24 = 0 ∧ n 25 = 0) ∧ (l 17 6 = 6 → n 31 = 0)
def I_snd (l : mj_m) (n : Nat → Int32) : Prop := I_mach l n ∧ I_line l n ∧ I_sent l n ∧ I_pass l n ∧ I_dir l n ∧ I_rep l n ∧ I_st l n
/-- a line of the ledger -/
def I_ll (l : mj_m) (n : Nat → Int32) (t v i : Nat) : Prop := l 4 (7 * i) = n (1097 + 8 * i) ∧ l 4 (7 * i + 1) = n (1097 + 8 * i + 1) ∧ l 4 (7 * i + 2) = n (1097 + 8 * i + 2) ∧ l 4 (7 * i + 3) = n (1097 + 8 * i + 3) - 1 ∧ l 4 (7 * i + 4) = n (1097 + 8 * i + 4) ∧ l 4 (7 * i + 5) = n (1097 + 8 * i + 5) - 1 ∧ l 4 (7 * i + 6) = n (1097 + 8 * i + 6) ∧ cn (n (1097 + 8 * i + 1)) t ∧ cn (n (1097 + 8 * i + 2)) v ∧ cn (n (1097 + 8 * i + 4)) v ∧ (n (1097 + 8 * i + 4) = 0 → n (1097 + 8 * i + 5) = 0) ∧ (n (1097 + 8 * i + 4) ≠ 0 → cn (n (1097 + 8 * i + 5)) (t + 1) ∧ mj_cl (n (1097 + 8 * i + 1)) < mj_cl (n (1097 + 8 * i + 5)) ∧ cn (l 46 i) v ∧ mj_cl (l 46 i) < mj_cl (l 3 4) ∧ cn (n (1097 + 8 * i + 7)) v ∧ mj_cl (n (1097 + 8 * i + 7)) ≤ mj_cl (n 19))
def I_led (l : mj_m) (n : Nat → Int32) (e v : Nat) : Prop := l 3 5 = n 40 ∧ cn (n 40) e ∧ mj_cl (n 24) + mj_cl (n 25) ≤ mj_cl (n 40) ∧ l 3 2 = (if mj_cl (n 40) < 100 then n 40 else 100) ∧ cn (l 3 4) v ∧ (∀ i, i < mj_cl (n 40) → i < 100 → I_ll l n (mj_cl (n 11)) v i) ∧ ∀ a b, a < mj_cl (n 40) → a < 100 → b < mj_cl (n 40) → b < 100 → n (1097 + 8 * a + 4) ≠ 0 → n (1097 + 8 * b + 4) ≠ 0 → (mj_cl (l 46 a) < mj_cl (l 46 b) ↔ mj_cl (n (1097 + 8 * a + 7)) < mj_cl (n (1097 + 8 * b + 7)))
def I_dia (l : mj_m) (n : Nat → Int32) (u : Nat) : Prop := (l 5 2 = n 34 ∧ cn (n 34) 80 ∧ ∀ i, i < 3 * mj_cl (n 34) → l 6 i = n (179 + i)) ∧ (l 5 4 = n 33 ∧ cn (n 33) u ∧ ∀ i, i < mj_cl (n 33) → i < 60 → l 7 i = n (119 + i)) ∧ (l 5 5 = n 48 ∧ rg 0 (n 48) 6) ∧ ∀ v, v < 9 → l 8 v = n (110 + v)
/-- fates: the same numbers on both sides, each once -/
def I_fate (f g : Nat → Int32) (c : Nat) : Prop := (∀ i, i < c → ∃ k, k < c ∧ f i = g k) ∧ (∀ i, i < c → ∃ k, k < c ∧ g i = f k) ∧ (∀ i k, i < c → k < c → f i = f k → i = k) ∧ ∀ i k, i < c → k < c → g i = g k → i = k
/-- one way: base w in the link, slots of the row: on (how many), R (the first), G (how long one is), fa (fates), fr (their row), we (went) -/
def I_way (l : mj_m) (n : Nat → Int32) (w wd on R G fa fr we : Nat) (W : Nat × Nat) : Prop := (l w 7 = n on ∧ (cn (n on) 41 ∧ mj_cl (n on) ≤ W.1) ∧ ∀ i, i < mj_cl (n on) → l (w + 2) i = n (R + G * i) ∧ cn (n (R + G * i)) (mj_cl (n 11) + 40) ∧ mj_cl (n (R + G * i)) + (mj_cl (n on) - 1 - i) + W.2 ≤ mj_cl (n 11) + 40 ∧ ∀ k, k < wd → l (w + 1) (5 * i + k) = n (R + G * i + 1 + k) ∧ rg 0 (n (R + G * i + 1 + k)) 255) ∧ (l w 8 = n fa ∧ cn (n fa) 8 ∧ I_fate (l (w + 4)) (fun i => n (fr + i)) (mj_cl (n fa))) ∧ l w 9 = n we
def I_up (l : mj_m) (n : Nat → Int32) (W : Nat × Nat) : Prop := I_way l n 33 5 41 635 7 43 619 35 W ∧ l 33 10 = n 37 ∧ ∀ i, i < mj_cl (n 41) → cn (n (635 + 7 * i + 6)) (mj_cl (n 40)) ∧ l 36 i = if n (635 + 7 * i + 6) = 0 then -1 else lnum (mj_cl (n (635 + 7 * i + 6)) - 1)
def I_dn (l : mj_m) (n : Nat → Int32) (W : Nat × Nat) : Prop := I_way l n 38 3 42 929 4 44 627 36 W
def wm (x : Int32) : Int32 := ([0, 1, 6, 7, 8, 2, 9, 10, 3, 11, 4, 12, 5] : List Int32).getD (mj_cl x) 0
abbrev PM : Type := Int32 × Int32
abbrev TT : Type := Nat × (Nat × Nat) × (Nat × Nat)
def I_plan (l : mj_m) (n pl : Nat → Int32) (pm : PM) : Prop := l 43 3 = n 49 + pm.2 ∧ l 43 2 = pm.1 ∧ cn pm.1 24 ∧ cn (n 49) (mj_cl pm.1) ∧ ∀ i, i < mj_cl pm.1 → cn (l 44 i) 12 ∧ pl (2 * i) = wm (l 44 i) ∧ (pl (2 * i) ≤ 5 → l 45 i = pl (2 * i + 1))
def I_link (l : mj_m) (n pl : Nat → Int32) (pm : PM) (e u v : Nat) (T : TT) : Prop := (I_set l n ∧ I_rng l ∧ I_tick l n T.1) ∧ I_rec l n v ∧ I_snd l n ∧ I_led l n e v ∧ I_dia l n u ∧ I_up l n T.2.1 ∧ I_dn l n T.2.2 ∧ I_plan l n pl pm
def I_rd (M : mj_M) : Prop := M 3 1 1 = M 4 0 9 ∧ cn (M 4 0 9) 400 ∧ (∀ i, i < mj_cl (M 4 0 9) → M 3 2 i = M 4 6 i ∧ rg 0 (M 4 6 i) 255) ∧ M 3 1 3 = M 4 0 17 ∧ M 3 1 4 = M 4 0 18
def I_img (M : mj_M) (j : Nat) : Prop := M 3 0 3 = M 4 0 21 ∧ (M 3 0 3 = 0 ∨ (M 3 0 3 = 1 ∧ I_link (M 1) (M 4 9) (fun k => M 4 9 (1897 + k)) (M 4 9 1945, 0) (24 * j) (24 * j + 50 * mj_cl (M 4 9 11)) (50 * mj_cl (M 4 9 11)) (9999, (40, 0), (40, 0))))
def I_con (M : mj_M) : Prop := M 4 4 = mj_pre lst_X11_init_q4 95 ∧ M 4 7 = mj_pre lst_X11_init_q7 71 ∧ ∀ β, β < 3 → M β 33 1 = 5 ∧ M β 33 2 = 6 ∧ M β 38 1 = 3 ∧ M β 38 2 = 7
def Inv (j : Nat) (M : mj_M) : Prop := I_con M ∧ I_link (M 0) (M 4 1) (M 4 8) (M 4 0 19, 0) (24 * j) (24 * j + 50 * mj_cl (M 4 1 11)) (50 * mj_cl (M 4 1 11)) (9999, (40, 0), (40, 0)) ∧ I_rd M ∧ I_img M j
theorem cn_mono {x : Int32} {a b : Nat} (h : cn x a) (hab : a ≤ b) : cn x b := ⟨h.1, Nat.le_trans h.2 hab⟩
theorem I_rec_mono {l : mj_m} {n : Nat → Int32} {v v' : Nat} (h : I_rec l n v) (hv : v ≤ v' := by omega) : I_rec l n v' := by
  obtain ⟨h1, h2, h3, h4, h5, h6, ⟨a1, a2, a3⟩, ⟨b1, b2, b3⟩, h9⟩ := h
  exact ⟨h1, h2, h3, h4, h5, h6, ⟨a1, cn_mono a2 hv, a3⟩, ⟨b1, cn_mono b2 hv, b3⟩, h9⟩
theorem I_ll_mono {l : mj_m} {n : Nat → Int32} {t t' v v' i : Nat} (h : I_ll l n t v i) (ht : t ≤ t') (hv : v ≤ v') : I_ll l n t' v' i := by
  obtain ⟨h0, h1, h2, h3, h4, h5, h6, h7, h8, h9, h10, h11⟩ := h
  refine ⟨h0, h1, h2, h3, h4, h5, h6, cn_mono h7 ht, cn_mono h8 hv, cn_mono h9 hv, h10, fun q => ?_⟩
  obtain ⟨a1, a2, a3, a4, a5, a6⟩ := h11 q
  exact ⟨cn_mono a1 (by omega), a2, cn_mono a3 hv, a4, cn_mono a5 hv, a6⟩
theorem I_led_mono {l : mj_m} {n : Nat → Int32} {e e' v v' : Nat} (h : I_led l n e v) (he : e ≤ e' := by omega) (hv : v ≤ v' := by omega) : I_led l n e' v' := by
  obtain ⟨h1, h2, h3, h4, h5, h6, h7⟩ := h
  exact ⟨h1, cn_mono h2 he, h3, h4, cn_mono h5 hv, fun i a b => I_ll_mono (h6 i a b) (Nat.le_refl _) hv, h7⟩
theorem I_dia_mono {l : mj_m} {n : Nat → Int32} {u u' : Nat} (h : I_dia l n u) (hu : u ≤ u' := by omega) : I_dia l n u' := ⟨h.1, ⟨h.2.1.1, cn_mono h.2.1.2.1 hu, h.2.1.2.2⟩, h.2.2⟩
theorem I_link_mono {l : mj_m} {n pl : Nat → Int32} {pm : PM} {e e' u u' v v' : Nat} {T : TT} (h : I_link l n pl pm e u v T) (he : e ≤ e' := by omega) (hu : u ≤ u' := by omega) (hv : v ≤ v' := by omega) : I_link l n pl pm e' u' v' T := by
  obtain ⟨h1, h2, h3, h4, h5, h6⟩ := h
  exact ⟨h1, I_rec_mono h2 hv, h3, I_led_mono h4 he hv, I_dia_mono h5 hu, h6⟩
/-- a call that changes nothing of the reference but what is of no account -/
theorem Inv_q {j : Nat} {M : mj_M} {m : mj_m} (h : Inv j M) (hk : ∀ k, k ≠ 0 → k ≠ 2 → k ≠ 3 → k ≠ 5 → m k = M 4 k) (h9 : m 0 9 = M 4 0 9) (h17 : m 0 17 = M 4 0 17) (h18 : m 0 18 = M 4 0 18) (h19 : m 0 19 = M 4 0 19) (h21 : m 0 21 = M 4 0 21) : Inv (j + 1) (va_up M 4 m) := by
  obtain ⟨⟨c1, c2, c3⟩, hl, ⟨r1, r2, r3, r4, r5⟩, i1, i2⟩ := h
  have e0 : va_up M 4 m 0 = M 0 := rfl
  have e1 : va_up M 4 m 1 = M 1 := rfl
  have e3 : va_up M 4 m 3 = M 3 := rfl
  have e4 : va_up M 4 m 4 = m := rfl
  refine ⟨⟨?_, ?_, ?_⟩, ?_, ⟨?_, ?_, ?_, ?_, ?_⟩, ?_, ?_⟩
  · rw [e4, hk 4 (by decide) (by decide) (by decide) (by decide)]
    exact c1
  · rw [e4, hk 7 (by decide) (by decide) (by decide) (by decide)]
    exact c2
  · intro β hβ
    rw [up_at, if_neg (by omega)]
    exact c3 β hβ
  · rw [e0, e4, hk 1 (by decide) (by decide) (by decide) (by decide), hk 8 (by decide) (by decide) (by decide) (by decide), h19]
    exact I_link_mono hl
  · rw [e3, e4, h9]
    exact r1
  · rw [e4, h9]
    exact r2
  · intro i hi
    rw [e3, e4, hk 6 (by decide) (by decide) (by decide) (by decide)]
    rw [e4, h9] at hi
    exact r3 i hi
  · rw [e3, e4, h17]
    exact r4
  · rw [e3, e4, h18]
    exact r5
  · rw [e3, e4, h21]
    exact i1
  · rw [e3, e1, e4, hk 9 (by decide) (by decide) (by decide) (by decide)]
    rcases i2 with h | ⟨h, hh⟩
    · exact Or.inl h
    · exact Or.inr ⟨h, I_link_mono hh⟩
theorem Inv_q0 {j : Nat} {M : mj_M} (h : Inv j M) : Inv (j + 1) (va_up M 4 (mj_wrs (M 4) 0 0 0)) := by
  refine Inv_q h (fun k h0 _ _ _ => wr_row _ _ _ _ _ h0) ?_ ?_ ?_ ?_ ?_ <;> rw [wr_at, if_neg (by decide)]
theorem c_mono (j : Nat) (M : mj_M) (h : Inv j M) : Inv (j + 1) M := by
  have := Inv_q (m := M 4) h (fun _ _ _ _ _ => rfl) rfl rfl rfl rfl rfl
  rw [mj_self] at this
  exact this
/-- what an operation on the link leaves as it is -/
def Fl (l l' : mj_m) : Prop := l' 33 1 = l 33 1 ∧ l' 33 2 = l 33 2 ∧ l' 38 1 = l 38 1 ∧ l' 38 2 = l 38 2
def Fm (m m' : mj_m) : Prop := (∀ k, k ≠ 0 → k ≠ 1 → k ≠ 3 → m' k = m k) ∧ m' 0 9 = m 0 9 ∧ m' 0 17 = m 0 17 ∧ m' 0 18 = m 0 18 ∧ m' 0 19 = m 0 19 ∧ m' 0 21 = m 0 21
theorem Fl.rf (l : mj_m) : Fl l l := ⟨rfl, rfl, rfl, rfl⟩
theorem Fm.rf (m : mj_m) : Fm m m := ⟨fun _ _ _ _ => rfl, rfl, rfl, rfl, rfl, rfl⟩
theorem Fl.tr {l l' l'' : mj_m} (h : Fl l l') (h' : Fl l' l'') : Fl l l'' := ⟨h'.1.trans h.1, h'.2.1.trans h.2.1, h'.2.2.1.trans h.2.2.1, h'.2.2.2.trans h.2.2.2⟩
theorem Fm.tr {m m' m'' : mj_m} (h : Fm m m') (h' : Fm m' m'') : Fm m m'' := ⟨fun k a b c => (h'.1 k a b c).trans (h.1 k a b c), h'.2.1.trans h.2.1, h'.2.2.1.trans h.2.2.1, h'.2.2.2.1.trans h.2.2.2.1, h'.2.2.2.2.1.trans h.2.2.2.2.1, h'.2.2.2.2.2.trans h.2.2.2.2.2⟩
theorem Fl.wr {l : mj_m} {k j : Nat} {x : Int32} (h : k ≠ 33 ∨ (j ≠ 1 ∧ j ≠ 2)) (h' : k ≠ 38 ∨ (j ≠ 1 ∧ j ≠ 2)) : Fl l (mj_wrs l k j x) := by
  unfold Fl
  simp only [wr_at]
  refine ⟨if_neg ?_, if_neg ?_, if_neg ?_, if_neg ?_⟩ <;> omega
theorem Fm.wr {m : mj_m} {j : Nat} {x : Int32} : Fm m (mj_wrs m 1 j x) := by
  unfold Fm
  simp only [wr_at]
  exact ⟨fun k _ h1 _ => wr_row _ _ _ _ _ h1, if_neg (by simp), if_neg (by simp), if_neg (by simp), if_neg (by simp), if_neg (by simp)⟩
theorem Fm.wr3 {m : mj_m} {j : Nat} {x : Int32} : Fm m (mj_wrs m 3 j x) := by
  unfold Fm
  simp only [wr_at]
  exact ⟨fun k _ _ h1 => wr_row _ _ _ _ _ h1, if_neg (by simp), if_neg (by simp), if_neg (by simp), if_neg (by simp), if_neg (by simp)⟩
theorem Fm.wr0 {m : mj_m} {j : Nat} {x : Int32} (h : j < 9) : Fm m (mj_wrs m 0 j x) := by
  unfold Fm
  simp only [wr_at]
  exact ⟨fun k h1 _ _ => wr_row _ _ _ _ _ h1, if_neg (by omega), if_neg (by omega), if_neg (by omega), if_neg (by omega), if_neg (by omega)⟩
theorem Inv_link {j : Nat} {M : mj_M} {l' m' : mj_m} (h : Inv j M) (hl : I_link l' (m' 1) (M 4 8) (M 4 0 19, 0) (24 * (j + 1)) (24 * (j + 1) + 50 * mj_cl (m' 1 11)) (50 * mj_cl (m' 1 11)) (9999, (40, 0), (40, 0))) (fl : Fl (M 0) l') (fm : Fm (M 4) m') : Inv (j + 1) (va_up (va_up M 0 l') 4 m') := by
  obtain ⟨⟨c1, c2, c3⟩, -, ⟨r1, r2, r3, r4, r5⟩, i1, i2⟩ := h
  obtain ⟨hk, h9, h17, h18, h19, h21⟩ := fm
  have e0 : va_up (va_up M 0 l') 4 m' 0 = l' := rfl
  have e1 : va_up (va_up M 0 l') 4 m' 1 = M 1 := rfl
  have e3 : va_up (va_up M 0 l') 4 m' 3 = M 3 := rfl
  have e4 : va_up (va_up M 0 l') 4 m' 4 = m' := rfl
  refine ⟨⟨?_, ?_, ?_⟩, ?_, ⟨?_, ?_, ?_, ?_, ?_⟩, ?_, ?_⟩
  · rw [e4, hk 4 (by decide) (by decide) (by decide)]
    exact c1
  · rw [e4, hk 7 (by decide) (by decide) (by decide)]
    exact c2
  · intro β hβ
    rw [up_at, if_neg (by omega), up_at]
    by_cases h0 : β = 0
    · subst h0
      rw [if_pos rfl, fl.1, fl.2.1, fl.2.2.1, fl.2.2.2]
      exact c3 0 (by decide)
    · rw [if_neg h0]
      exact c3 β hβ
  · rw [e0, e4, hk 8 (by decide) (by decide) (by decide), h19]
    exact hl
  · rw [e3, e4, h9]
    exact r1
  · rw [e4, h9]
    exact r2
  · intro i hi
    rw [e3, e4, hk 6 (by decide) (by decide) (by decide)]
    rw [e4, h9] at hi
    exact r3 i hi
  · rw [e3, e4, h17]
    exact r4
  · rw [e3, e4, h18]
    exact r5
  · rw [e3, e4, h21]
    exact i1
  · rw [e3, e1, e4, hk 9 (by decide) (by decide) (by decide)]
    rcases i2 with h | ⟨h, hh⟩
    · exact Or.inl h
    · exact Or.inr ⟨h, I_link_mono hh⟩
theorem Inv_link0 {j : Nat} {M : mj_M} {l' m' : mj_m} (h : Inv j M) (hl : I_link l' (m' 1) (M 4 8) (M 4 0 19, 0) (24 * (j + 1)) (24 * (j + 1) + 50 * mj_cl (M 4 1 11)) (50 * mj_cl (M 4 1 11)) (9999, (40, 0), (40, 0))) (fl : Fl (M 0) l') (fm : Fm (M 4) m') (ht : m' 1 11 = M 4 1 11) : Inv (j + 1) (va_up (va_up M 0 l') 4 m') := by
  refine Inv_link h ?_ fl fm
  rw [ht]
  exact hl
theorem c_fault : CL_fault Inv := by
  intro j M x1 hj h
  obtain ⟨-, -, ⟨-, -, -, r4, r5⟩, -⟩ := id h
  refine ⟨f_X10_fault x1 M, mj_wrs (M 4) 0 0 0, rfl, ?_, Inv_q0 h⟩
  unfold f_X11_fault f_X10_fault
  simp only [mj_let, wr_at]
  rw [r4, r5]
  split
  · rfl
  · split <;> rfl
