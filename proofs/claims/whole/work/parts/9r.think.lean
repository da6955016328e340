/-! image; thought -/
theorem cpyL {f : Nat → Int32 → mj_m → Option mj_m} {a b N : Nat} (hab : a ≠ b) (hN : N ≤ 2000) (h0 : ∀ n i m, N ≤ i → i < 2 ^ 30 → f (n + 1) (nI i) m = some m) (h1 : ∀ n i m, i < N → f (n + 1) (nI i) m = f n (nI (i + 1)) (mj_wrs m b i (m a i))) : ∀ (k i n : Nat) (m : mj_m), i + k = N → k < n → ∃ m' : mj_m, f n (nI i) m = some m' ∧ (∀ p, p ≠ b → m' p = m p) ∧ ∀ s, m' b s = if i ≤ s ∧ s < N then m a s else m b s := by
  intro k
  induction k with
  | zero =>
    intro i n m hi hn
    obtain ⟨n, rfl⟩ : ∃ k, n = k + 1 := ⟨n - 1, by omega⟩
    exact ⟨m, h0 n i m (by omega) (by omega), fun _ _ => rfl, fun s => by rw [if_neg (by omega)]⟩
  | succ k ih =>
    intro i n m hi hn
    obtain ⟨n, rfl⟩ : ∃ k, n = k + 1 := ⟨n - 1, by omega⟩
    obtain ⟨m', e1, e2, e3⟩ := ih (i + 1) n (mj_wrs m b i (m a i)) (by omega) (by omega)
    refine ⟨m', (h1 n i m (by omega)).trans e1, fun p hp => by rw [e2 p hp, wr_row _ _ _ _ _ hp], fun s => ?_⟩
    rw [e3, wr_row _ _ _ _ a hab]
    by_cases z : s = i
    · rw [if_neg (by omega), if_pos (by omega), z, rs]
    · by_cases y : i + 1 ≤ s ∧ s < N
      · rw [if_pos y, if_pos (by omega)]
      · rw [if_neg y, if_neg (by omega), wr_e (Or.inr z)]
theorem thinks_eq (m : mj_m) : ∃ m' : mj_m, f_X11_thinks m = some m' ∧ (∀ p, p ≠ 1 → p ≠ 2 → m' p = m p) ∧ (∀ s, s < 1897 → m' 2 s = m 1 s) ∧ (∀ s, s ≠ 8 → s ≠ 9 → m' 1 s = m 1 s) ∧ m' 1 8 = 0 ∧ m' 1 9 = 0 := by
  obtain ⟨m1, e1, e2, e3⟩ := cpyL (f := f_X11_thinks_L2) (a := 1) (b := 2) (N := 1897) (by decide) (by decide) (fun n i m hi hi2 => by rw [f_X11_thinks_L2, if_pos (show (1897 : Int32) ≤ nI i from nI_le (a := 1897) hi (by omega))]) (fun n i m hi => by rw [f_X11_thinks_L2, if_neg (show ¬ (1897 : Int32) ≤ nI i from nI_ge (b := 1897) hi (by decide)), chk_t (okI hi (by decide)), chk_t (okI hi (by decide)), lts, lts, clI (by omega), nI_1]) 1897 0 mj_fu m (by omega) (by unfold mj_fu; omega)
  have e1' : f_X11_thinks_L2 mj_fu 0 m = some m1 := e1
  refine ⟨mj_wrs (mj_wrs m1 1 8 0) 1 9 0, ?_, fun p p1 p2 => by rw [wr_row _ _ _ _ _ p1, wr_row _ _ _ _ _ p1, e2 p p2], fun s hs => ?_, fun s s8 s9 => by rw [wr_e (Or.inr s9), wr_e (Or.inr s8), e2 1 (by decide)], by rw [wr_e (Or.inr (by decide)), rs], rs _ _ _ _⟩
  · unfold f_X11_thinks
    rw [e1', b1s, lts, lts]
  · rw [wr_e (Or.inl (by decide)), wr_e (Or.inl (by decide)), e3, if_pos (by omega)]
theorem forgets_eq (m : mj_m) : ∃ m' : mj_m, f_X11_forgets m = some m' ∧ (∀ p, p ≠ 1 → m' p = m p) ∧ (∀ s, s < 1897 → m' 1 s = m 2 s) ∧ ∀ s, 1897 ≤ s → m' 1 s = m 1 s := by
  obtain ⟨m1, e1, e2, e3⟩ := cpyL (f := f_X11_forgets_L2) (a := 2) (b := 1) (N := 1897) (by decide) (by decide) (fun n i m hi hi2 => by rw [f_X11_forgets_L2, if_pos (show (1897 : Int32) ≤ nI i from nI_le (a := 1897) hi (by omega))]) (fun n i m hi => by rw [f_X11_forgets_L2, if_neg (show ¬ (1897 : Int32) ≤ nI i from nI_ge (b := 1897) hi (by decide)), chk_t (okI hi (by decide)), chk_t (okI hi (by decide)), lts, lts, clI (by omega), nI_1]) 1897 0 mj_fu m (by omega) (by unfold mj_fu; omega)
  have e1' : f_X11_forgets_L2 mj_fu 0 m = some m1 := e1
  refine ⟨m1, ?_, e2, fun s hs => by rw [e3, if_pos (by omega)], fun s hs => by rw [e3, if_neg (by omega)]⟩
  unfold f_X11_forgets
  rw [e1', b1s]
/-- everything at the receiver is taken -/
theorem takeL {pl : Nat → Int32} {pm : PM} {e u v : Nat} {T : TT} {x1 x3 : Int32} : ∀ (c i n n' : Nat) (l m : mj_m), m 1 18 = nI c → c ≤ 8 → i + c ≤ 19 → c < n → c < n' → I_link l (m 1) pl pm e u v T → ∃ l' m' : mj_m, f_X3_passTicks_L158 x1 1 x3 n (nI i) l = some l' ∧ f_X11_ticksTaking_L4 n' m = some m' ∧ I_link l' (m' 1) pl pm e u v T ∧ Fl l l' ∧ Fm m m' ∧ m' 1 11 = m 1 11 ∧ l' 17 = l 17 := by
  intro c
  induction c with
  | zero =>
    intro i n n' l m hc hc8 hi hn hn' h
    obtain ⟨n, rfl⟩ : ∃ k, n = k + 1 := ⟨n - 1, by omega⟩
    obtain ⟨n', rfl⟩ : ∃ k, n' = k + 1 := ⟨n' - 1, by omega⟩
    have hl : l 10 4 = nI 0 := by rw [h.2.1.2.2.2.2.2.1.1, hc]
    refine ⟨l, m, ?_, ?_, h, Fl.rf _, Fm.rf _, rfl, rfl⟩
    · rw [f_X3_passTicks_L158, if_neg one0, if_neg (show ¬ (20 : Int32) ≤ nI i from nI_ge (b := 20) (by omega) (by decide)), hl, if_pos (by decide)]
    · rw [f_X11_ticksTaking_L4, hc, if_pos (by decide)]
  | succ c ih =>
    intro i n n' l m hc hc8 hi hn hn' h
    obtain ⟨n, rfl⟩ : ∃ k, n = k + 1 := ⟨n - 1, by omega⟩
    obtain ⟨n', rfl⟩ : ∃ k, n' = k + 1 := ⟨n' - 1, by omega⟩
    have hl : l 10 4 = nI (c + 1) := by rw [h.2.1.2.2.2.2.2.1.1, hc]
    obtain ⟨r, l1, m1, a1, a2, a3, a4, a5, a6, a7⟩ := L_take h
    have c1 : m1 1 18 = nI c := by
      rcases a7 with ⟨z, -⟩ | ⟨d, hd, z1, z2⟩
      · exact absurd (hc.symm.trans z) (nI_ne0 (by omega) (by omega))
      · rw [hc] at z1
        have := (nI_eq (by omega) (by omega)).mp z1
        rw [z2, show d = c by omega]
    have l17 : l1 17 = l 17 := by
      unfold f_X6_handOver at a1
      rw [hl, if_neg (nI_ne0 (by omega) (by omega)), lts] at a1
      obtain ⟨lr, r1, r2, r3, r4⟩ := removeFirst_eq (b := 10) (c := c + 1) (d := 1) (m := l) hl (by omega) (by omega) (by omega)
      have r1' : f_X7_removeFirst 10 1 l = some lr := r1
      rw [r1', b1s, lts] at a1
      cases a1
      rw [wr_row _ _ _ _ _ (by decide), r2 17 (by omega)]
    obtain ⟨l', m', b1, b2, b3, b4, b5, b6, b7⟩ := ih (i + 1) n n' l1 m1 c1 (by omega) (by omega) (by omega) (by omega) a3
    refine ⟨l', m', ?_, ?_, b3, a4.tr b4, a5.tr b5, b6.trans a6, b7.trans l17⟩
    · rw [f_X3_passTicks_L158, if_neg one0, if_neg (show ¬ (20 : Int32) ≤ nI i from nI_ge (b := 20) (by omega) (by decide)), hl, if_neg (nI_nle (by omega) (by omega)), a1, b2s, lts, nI_1]
      exact b1
    · rw [f_X11_ticksTaking_L4, hc, if_neg (nI_nle (by omega) (by omega)), a2, b2s]
      exact b2
theorem tickT {pl : Nat → Int32} {pm : PM} {e u v T : Nat} {l m : mj_m} {x1 x3 : Int32} (h : K_ok pl pm e u v T l m) (hwd : Wd l) (he : e ≤ 20000) (hu : u + 50 < 2 ^ 28) (hv : v + 50 < 2 ^ 28) (hT : T + 1 ≤ 20000) : ∃ l' m' : mj_m, mj_b1 (tkC x1 1 x3 l) (fun m39 => f_X3_passTicks_L158 x1 1 x3 mj_fu 0 m39) = some l' ∧ f_X11_ticksTaking m = some m' ∧ K_ok pl pm e (u + 50) (v + 50) (T + 1) l' m' ∧ Fl l l' ∧ Fm m m' ∧ (l 17 6 = 6 → l' 17 6 = 6) := by
  obtain ⟨l1, m1, a1, a2, a3, a4, a5, a6, a7⟩ := tick1 (x1 := x1) (x2 := 1) (x3 := x3) h hwd he hu hv hT
  obtain ⟨c, hc, ec, cc⟩ := cn_i a3.1.2.1.2.2.2.2.2.1.2.1
  obtain ⟨l', m', b1, b2, b3, b4, b5, b6, b7⟩ := takeL (x1 := x1) (x3 := x3) (T := (T + 1, (40, 0), (40, 0))) c 0 mj_fu mj_fu l1 m1 ec hc (by omega) (by unfold mj_fu; omega) (by unfold mj_fu; omega) (I_lk0.l (T := (T + 1, (40, 0), (40, 0))) a3.1 a3.2.1 a3.2.2)
  refine ⟨l', m', by rw [a1, b1s]; exact b1, ?_, b3.c, a4.tr b4, a5.tr b5, fun z => by rw [b7]; exact a7 z⟩
  unfold f_X11_ticksTaking
  rw [a2, b1s, b2, b1s]
theorem freeH {l l' : mj_m} {m m' : mj_m} {pl : Nat → Int32} {pm : PM} {e u v : Nat} {T : TT} (h : I_link l (m 1) pl pm e u v T) (hl : Cp l l') (hn : ∀ s, s ≠ 8 → s ≠ 9 → m' 1 s = m 1 s) (h8 : m' 1 8 = 0) (h9 : m' 1 9 = 0) : I_link (mj_wrs (mj_wrs l' 2 8 0) 2 9 0) (m' 1) pl pm e u v T := by
  have h1 : I_link l' (m 1) pl pm e u v T := I_link_ext h hl (fun _ _ => rfl) (fun _ _ => rfl)
  obtain ⟨⟨g_set, g_rng, g_tick⟩, g_rec, ⟨g_mach, g_line, g_sent, g_pass, g_dir, g_rep, g_st⟩, g_led, g_dia, g_up, g_dn, g_plan⟩ := h1
  have hl : ∀ p, p ≠ 2 → mj_wrs (mj_wrs l' 2 8 0) 2 9 0 p = l' p := fun p hp => by rw [wr_row _ _ _ _ _ hp, wr_row _ _ _ _ _ hp]
  have hn : ∀ s, 11 ≤ s → m' 1 s = m 1 s := fun s hs => hn s (by omega) (by omega)
  have e2 : ∀ i, mj_wrs (mj_wrs l' 2 8 0) 2 9 0 2 i = if i = 8 ∨ i = 9 then 0 else l' 2 i := fun i => by
    by_cases z : i = 9
    · rw [z, rs, if_pos (Or.inr rfl)]
    · rw [wr_e (Or.inr z)]
      by_cases y : i = 8
      · rw [y, rs, if_pos (Or.inl rfl)]
      · rw [wr_e (Or.inr y), if_neg (by omega)]
  refine ⟨⟨?_, ?_, I_tick_cg g_tick (by rw [hl 1 (by omega)]) (hn 11 (by omega))⟩, I_rec_cg (I_rec_mono g_rec) (fun k _ _ => hl k (by omega)) (hn 38 (by omega)) (fun s _ _ => hn s (by omega)) (fun s _ _ => hn s (by omega)) (fun s _ _ => hn s (by omega)), ⟨I_mach_cg g_mach (fun _ _ => by rw [hl 17 (by omega)]) (fun s _ => hn s (by omega)), I_line_cg g_line (by rw [hl 18 (by omega)]) (hl 19 (by omega)) (hl 21 (by omega)) (hn 24 (by omega)) (hn 40 (by omega)) (fun s _ _ => hn s (by omega)), I_sent_cg g_sent (fun k _ _ => hl k (by omega)) (hn 22 (by omega)) (hn 24 (by omega)) (hn 25 (by omega)) (hn 40 (by omega)) (fun s _ _ => hn s (by omega)), I_pass_cg g_pass (by rw [hl 28 (by omega)]) (hl 29 (by omega)) (hn 29 (by omega)) (fun s _ _ => hn s (by omega)), I_dir_cg g_dir (fun _ _ => by rw [hl 17 (by omega)]) (fun s _ => hn s (by omega)), I_rep_cg g_rep (by rw [hl 17 (by omega)]) (hn 45 (by omega)) (hn 46 (by omega)) (hn 47 (by omega)), I_st_cg g_st (by rw [hl 17 (by omega)]) (by rw [hl 17 (by omega)]) (hn 31 (by omega)) (fun s _ _ => hn s (by omega))⟩, I_led_cg (I_led_mono g_led) (fun _ _ => by rw [hl 3 (by omega)]) (hl 4 (by omega)) (hl 46 (by omega)) (hn 11 (by omega)) (hn 19 (by omega)) (hn 24 (by omega)) (hn 25 (by omega)) (hn 40 (by omega)) (fun s _ _ => hn s (by omega)), I_dia_cg (I_dia_mono g_dia) (fun k _ _ => hl k (by omega)) (hn 33 (by omega)) (hn 34 (by omega)) (hn 48 (by omega)) (fun s _ _ => hn s (by omega)), I_up_cg g_up (fun k _ _ => hl k (by omega)) (hn 11 (by omega)) (hn 35 (by omega)) (hn 37 (by omega)) (hn 40 (by omega)) (hn 41 (by omega)) (hn 43 (by omega)) (fun s _ _ => hn s (by omega)) (fun s _ _ => hn s (by omega)), I_dn_cg g_dn (fun k _ _ => hl k (by omega)) (hn 11 (by omega)) (hn 36 (by omega)) (hn 42 (by omega)) (hn 44 (by omega)) (fun s _ _ => hn s (by omega)) (fun s _ _ => hn s (by omega)), I_plan_cg g_plan (fun k _ _ => hl k (by omega)) (hn 49 (by omega))⟩
  · refine set_iff.mpr ⟨?_, fun i hi => ?_⟩
    · rw [hl 1 (by decide), hn 12 (by decide)]
      exact g_set.1
    · rw [e2]
      by_cases z : i = 8 ∨ i = 9
      · rw [if_pos z]
        rcases z with rfl | rfl
        · rw [h8, show f_X11_firstOf (nI 8) = 0 by decide]
          rfl
        · rw [h9, show f_X11_firstOf (nI 9) = 0 by decide]
          rfl
      · rw [if_neg z, ‹∀ s, s ≠ 8 → s ≠ 9 → m' 1 s = m 1 s› i (by omega) (by omega)]
        exact (set_iff.mp g_set).2 i hi
  · refine rng_iff.mpr (fun i hi => ?_)
    rw [e2]
    by_cases z : i = 8 ∨ i = 9
    · rw [if_pos z]
      rcases z with rfl | rfl
      · exact ⟨by decide, by decide⟩
      · exact ⟨by decide, by decide⟩
    · rw [if_neg z]
      exact rng_iff.mp g_rng i hi
/-- nothing but what is of no account has changed: the thought link, the reference's own rows for it -/
theorem Inv_th {j : Nat} {M : mj_M} {t m' : mj_m} (h : Inv j M) (hw : Wd t) (hk : ∀ k, k ≠ 0 → k ≠ 1 → k ≠ 2 → k ≠ 3 → m' k = M 4 k) (h1 : ∀ s, s < 1897 → m' 1 s = M 4 1 s) (h9 : m' 0 9 = M 4 0 9) (h17 : m' 0 17 = M 4 0 17) (h18 : m' 0 18 = M 4 0 18) (h19 : m' 0 19 = M 4 0 19) (h21 : m' 0 21 = M 4 0 21) : Inv (j + 1) (va_up (va_up M 2 t) 4 m') := by
  obtain ⟨⟨c1, c2, c3⟩, hl, ⟨r1, r2, r3, r4, r5⟩, i1, i2⟩ := h
  have e0 : va_up (va_up M 2 t) 4 m' 0 = M 0 := rfl
  have e1 : va_up (va_up M 2 t) 4 m' 1 = M 1 := rfl
  have e3 : va_up (va_up M 2 t) 4 m' 3 = M 3 := rfl
  have e4 : va_up (va_up M 2 t) 4 m' 4 = m' := rfl
  refine ⟨⟨?_, ?_, ?_⟩, ?_, ⟨?_, ?_, ?_, ?_, ?_⟩, ?_, ?_⟩
  · rw [e4, hk 4 (by decide) (by decide) (by decide) (by decide)]
    exact c1
  · rw [e4, hk 7 (by decide) (by decide) (by decide) (by decide)]
    exact c2
  · intro β hβ
    rw [up_at, if_neg (by omega), up_at]
    by_cases z : β = 2
    · rw [if_pos z]
      exact hw
    · rw [if_neg z]
      exact c3 β hβ
  · rw [e0, e4, hk 8 (by decide) (by decide) (by decide) (by decide), h19, h1 11 (by decide)]
    exact I_link_mono (I_link_ext hl ⟨⟨fun _ _ => rfl, fun _ _ => rfl⟩, ⟨fun _ _ => rfl, fun _ _ => rfl, fun _ _ => rfl⟩, ⟨fun _ _ => rfl, fun _ _ => rfl, fun _ _ => rfl, fun _ _ => rfl⟩, ⟨fun _ _ => rfl, ⟨rfl, fun _ _ _ _ _ => rfl⟩, fun _ _ => rfl, fun _ _ => rfl⟩, ⟨fun _ _ _ => rfl, ⟨rfl, fun _ _ _ _ _ => rfl⟩, ⟨rfl, fun _ _ _ _ _ => rfl⟩, ⟨rfl, fun _ _ _ _ _ => rfl⟩⟩, ⟨fun _ _ _ => rfl, fun _ _ => rfl, fun _ _ => rfl, fun _ _ => rfl, fun _ _ => rfl⟩, ⟨fun _ _ _ => rfl, fun _ _ => rfl, fun _ _ => rfl, fun _ _ => rfl, fun _ _ => rfl⟩, ⟨fun _ _ => rfl, fun _ _ => rfl, fun _ _ => rfl⟩⟩ h1 (fun _ _ => rfl))
  · rw [e3, e4, h9]
    exact r1
  · rw [e4, h9]
    exact r2
  · intro i hi
    rw [e3, e4, hk 6 (by decide) (by decide) (by decide) (by decide)]
    rw [e4, h9] at hi
    exact r3 i hi
  · rw [e3, e4, h17]
    exact r4
  · rw [e3, e4, h18]
    exact r5
  · rw [e3, e4, h21]
    exact i1
  · rw [e3, e1, e4, hk 9 (by decide) (by decide) (by decide) (by decide)]
    rcases i2 with h | ⟨h, hh⟩
    · exact Or.inl h
    · exact Or.inr ⟨h, I_link_mono hh⟩
