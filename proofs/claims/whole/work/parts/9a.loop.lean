/-! the frames of a tick; what goes by a report -/
theorem I_lk0_mono {l : mj_m} {n pl : Nat → Int32} {pm : PM} {e e' u u' v v' T : Nat} (h : I_lk0 l n pl pm e u v T) (he : e ≤ e' := by omega) (hu : u ≤ u' := by omega) (hv : v ≤ v' := by omega) : I_lk0 l n pl pm e' u' v' T := by
  obtain ⟨h1, h2, h3, h4, h5, h6⟩ := h
  exact ⟨h1, I_rec_mono h2 hv, h3, I_led_mono h4 he hv, I_dia_mono h5 hu, h6⟩
theorem Nd.rf (n : Nat → Int32) : Nd n n := ⟨rfl, rfl, rfl, rfl, fun _ _ _ => rfl, fun _ _ _ => rfl⟩
theorem upLoop {pl : Nat → Int32} {pm : PM} {e u T : Nat} {W : Nat × Nat} {x1 x2 x3 : Int32} (he : e ≤ 20000) (hT : T ≤ 20000) : ∀ (c i n n' v : Nat) (l m : mj_m), m 1 41 = nI c → c ≤ 41 → i + c ≤ 47 → c < n → c < n' → v + c < 2 ^ 28 → Wd l → I_lk0 l (m 1) pl pm e u v T → I_up l (m 1) W → ∃ (l' m' : mj_m) (c' : Nat), f_X3_passTicks_L23 x1 x2 x3 n (nI i) l = some l' ∧ f_X11_ticks_L6 n' m = some m' ∧ I_lk0 l' (m' 1) pl pm e u (v + c) T ∧ I_up l' (m' 1) W ∧ Fl l l' ∧ Fm m m' ∧ (∀ k, 38 ≤ k → k ≤ 42 → l' k = l k) ∧ Nd (m 1) (m' 1) ∧ m' 1 41 = nI c' ∧ c' ≤ c ∧ (c' = 0 ∨ ¬ m' 1 635 ≤ m' 1 11) ∧ l' 17 = l 17 := by
  have stop : ∀ (c i n n' v : Nat) (l m : mj_m), m 1 41 = nI c → c ≤ 41 → i + c ≤ 47 → c < n → c < n' → I_lk0 l (m 1) pl pm e u v T → I_up l (m 1) W → (c = 0 ∨ ¬ m 1 635 ≤ m 1 11) → ∃ (l' m' : mj_m) (c' : Nat), f_X3_passTicks_L23 x1 x2 x3 n (nI i) l = some l' ∧ f_X11_ticks_L6 n' m = some m' ∧ I_lk0 l' (m' 1) pl pm e u (v + c) T ∧ I_up l' (m' 1) W ∧ Fl l l' ∧ Fm m m' ∧ (∀ k, 38 ≤ k → k ≤ 42 → l' k = l k) ∧ Nd (m 1) (m' 1) ∧ m' 1 41 = nI c' ∧ c' ≤ c ∧ (c' = 0 ∨ ¬ m' 1 635 ≤ m' 1 11) ∧ l' 17 = l 17 := by
    intro c i n n' v l m hc hc41 hi hn hn' h hu hno
    obtain ⟨n, rfl⟩ : ∃ k, n = k + 1 := ⟨n - 1, by omega⟩
    obtain ⟨n', rfl⟩ : ∃ k, n' = k + 1 := ⟨n' - 1, by omega⟩
    refine ⟨l, m, c, ?_, ?_, I_lk0_mono h, hu, Fl.rf _, Fm.rf _, fun _ _ _ => rfl, Nd.rf _, hc, Nat.le_refl _, hno, rfl⟩
    · rw [f_X3_passTicks_L23, if_neg (show ¬ (48 : Int32) ≤ nI i from nI_ge (b := 48) (by omega) (by decide)), lts, due_f (w := 33) (c := c) (by rw [hu.cn.1, hc]) ?_, if_pos rfl]
      rcases hno with z | z
      · exact Or.inl z
      · by_cases y : c = 0
        · exact Or.inl y
        · right
          have := (hu.1.1.2.2 0 (by rw [hc, clI (by omega)]; omega)).1
          rw [show (33 + 2 : Nat) = 35 from rfl] at this
          rw [show (33 + 2 : Nat) = 35 from rfl, this, h.1.2.2.1]
          exact z
    · rw [f_X11_ticks_L6, comes_no WA1 hc hc41 hno, b2s, if_pos rfl]
  intro c
  induction c with
  | zero =>
    intro i n n' v l m hc hc41 hi hn hn' hv hw h hu
    exact stop 0 i n n' v l m hc hc41 hi hn hn' h hu (Or.inl rfl)
  | succ c ih =>
    intro i n n' v l m hc hc41 hi hn hn' hv hw h hu
    by_cases hd : m 1 635 ≤ m 1 11
    · obtain ⟨l1, l2, m1, m2, a1, a2, a3, a4, a5, a6, a7, a8, a9, a10, a11, a12⟩ := arrU h hu he (by omega) hT hw hc (by omega) hd
      obtain ⟨n, rfl⟩ : ∃ k, n = k + 1 := ⟨n - 1, by omega⟩
      obtain ⟨n', rfl⟩ : ∃ k, n' = k + 1 := ⟨n' - 1, by omega⟩
      obtain ⟨l', m', c', b1, b2, b3, b4, b5, b6, b7, b8, b9, b10, b11, b12⟩ := ih (i + 1) n n' (v + 1) l2 m2 a11 (by omega) (by omega) (by omega) (by omega) (by omega) (hw.fl a7) a5 a6
      refine ⟨l', m', c', ?_, ?_, ?_, b4, a7.tr b5, a8.tr b6, fun k k1 k2 => by rw [b7 k k1 k2, a9 k k1 k2], a10.tr b8, b9, by omega, b11, b12.trans a12⟩
      · rw [f_X3_passTicks_L23, if_neg (show ¬ (48 : Int32) ≤ nI i from nI_ge (b := 48) (by omega) (by decide)), lts, due_t (w := 33) (c := c) (by rw [hu.cn.1, hc]) (by omega) ?_, if_neg one0, a1, b1s, a2, b2s, lts, nI_1]
        · exact b1
        · have := (hu.1.1.2.2 0 (by rw [hc, clI (by omega)]; omega)).1
          rw [show (33 + 2 : Nat) = 35 from rfl] at this
          rw [show (33 + 2 : Nat) = 35 from rfl, this, h.1.2.2.1]
          exact hd
      · rw [f_X11_ticks_L6, a3, b2s, if_neg one0, a4, b1s]
        exact b2
      · rw [show v + (c + 1) = v + 1 + c by omega]
        exact b3
    · exact stop (c + 1) i n n' v l m hc hc41 hi hn hn' h hu (Or.inr hd)
/-- the sender's numbers, marks and diary alone have changed -/
theorem snd_fin {l l' : mj_m} {n n' pl : Nat → Int32} {pm : PM} {e u v T : Nat} (h : I_lwc l n pl pm e u v T) (hl : ∀ k, k ≠ 5 ∧ k ≠ 6 ∧ k ≠ 17 ∧ k ≠ 27 → l' k = l k) (h5 : ∀ j, j ≠ 2 → l' 5 j = l 5 j) (hD : D_ok l' n') (hmach : I_mach l' n') (hdir : I_dir l' n') (hrep : I_rep l' n') (hst : I_st l' n') (hmk : ∀ i, i < mj_cl (n 25) → l' 27 i = n' (86 + i) ∧ rg 0 (n' (86 + i)) 1) (hn : ∀ s, s < 21 ∨ s = 22 ∨ s = 24 ∨ s = 25 ∨ s = 29 ∨ s = 33 ∨ (35 ≤ s ∧ s < 45 ∧ s ≠ 39) ∨ (48 ≤ s ∧ s < 86) ∨ (106 ≤ s ∧ s < 179) ∨ 419 ≤ s → n' s = n s) : I_lk0 l' n' pl pm e u v T := by
  obtain ⟨⟨g_set, g_rng, g_tick⟩, g_rec, ⟨g_mach, g_line, g_sent, g_pass, g_dir, g_rep⟩, g_led, g_dia, g_plan⟩ := h
  refine ⟨⟨I_set_cg g_set (by rw [hl 1 (by omega)]) (hl 2 (by omega)) (hn 12 (by omega)) (fun s _ => hn s (by omega)), I_rng_cg g_rng (hl 2 (by omega)), I_tick_cg g_tick (by rw [hl 1 (by omega)]) (hn 11 (by omega))⟩, I_rec_cg (I_rec_mono g_rec) (fun k _ _ => hl k (by omega)) (hn 38 (by omega)) (fun s _ _ => hn s (by omega)) (fun s _ _ => hn s (by omega)) (fun s _ _ => hn s (by omega)), ⟨hmach, I_line_cg g_line (by rw [hl 18 (by omega)]) (hl 19 (by omega)) (hl 21 (by omega)) (hn 24 (by omega)) (hn 40 (by omega)) (fun s _ _ => hn s (by omega)), ?_, I_pass_cg g_pass (by rw [hl 28 (by omega)]) (hl 29 (by omega)) (hn 29 (by omega)) (fun s _ _ => hn s (by omega)), hdir, hrep, hst⟩, I_led_cg (I_led_mono g_led) (fun _ _ => by rw [hl 3 (by omega)]) (hl 4 (by omega)) (hl 46 (by omega)) (hn 11 (by omega)) (hn 19 (by omega)) (hn 24 (by omega)) (hn 25 (by omega)) (hn 40 (by omega)) (fun s _ _ => hn s (by omega)), ?_, I_plan_cg g_plan (fun k _ _ => hl k (by omega)) (hn 49 (by omega))⟩
  · obtain ⟨s1, s2, s3⟩ := g_sent
    refine ⟨?_, ?_, fun i hi => ?_⟩
    · rw [hl 23 (by omega), hn 25 (by omega)]
      exact s1
    · rw [hn 25 (by omega)]
      exact s2
    · rw [hn 25 (by omega)] at hi
      obtain ⟨q1, q2, q3, q4, q5, q6⟩ := s3 i hi
      have hi20 : i < 20 := Nat.lt_of_lt_of_le hi s2.2
      rw [hl 24 (by omega), hl 25 (by omega), hl 26 (by omega), hn 22 (by omega), hn 25 (by omega), hn 40 (by omega), hn 24 (by omega), hn (66 + i) (by omega)]
      exact ⟨q1, q2, q3, q4, hmk i hi⟩
  · obtain ⟨-, ⟨d2, d3, d4⟩, d5, d6⟩ := g_dia
    refine ⟨hD, ⟨?_, ?_, fun i hi h6 => ?_⟩, ?_, fun q hq => ?_⟩
    · rw [h5 4 (by decide), hn 33 (by omega)]
      exact d2
    · rw [hn 33 (by omega)]
      exact d3
    · rw [hn 33 (by omega)] at hi
      rw [hl 7 (by omega), hn _ (by omega)]
      exact d4 i hi h6
    · rw [h5 5 (by decide), hn 48 (by omega)]
      exact d5
    · rw [hl 8 (by omega), hn _ (by omega)]
      exact d6 q hq
theorem nI_w (N : Nat) : nI N = nI (N + 2 ^ 32) := by
  apply Int32.toBitVec_inj.1
  show BitVec.ofNat 32 N = BitVec.ofNat 32 (N + 2 ^ 32)
  apply BitVec.eq_of_toNat_eq
  rw [BitVec.toNat_ofNat, BitVec.toNat_ofNat]
  omega
theorem num_eq {N q i : Nat} (hq : q ≤ 256) : (nI N - nI q + nI i) &&& 255 = nI ((N + 256 + i - q) % 256) := by
  rw [nI_w N, nI_sub (by omega), nI_add, show (255 : Int32) = nI (2 ^ 8 - 1) from rfl, fa_mask]
  congr 1
  omega
theorem far_eq {a b : Nat} (hb : b ≤ 256) : (nI a - nI b) &&& 255 = nI ((a + 256 - b) % 256) := by
  rw [nI_w a, nI_sub (by omega), show (255 : Int32) = nI (2 ^ 8 - 1) from rfl, fa_mask]
  congr 1
  omega
theorem sgm_L {x : Int32} {c : Nat} (hc : c < 20) : ∀ (k i n : Nat) (m : mj_m), i + k = c → k < n → m 1 25 = nI (c + 1) → ∃ m' : mj_m, f_X11_sentGo_L21 x n (nI i) m = some m' ∧ (∀ p, p ≠ 1 → m' p = m p) ∧ (∀ s, s < 86 + i ∨ 86 + c ≤ s → m' 1 s = m 1 s) ∧ ∀ s, i ≤ s → s < c → m' 1 (86 + s) = m 1 (86 + s + 1) := by
  intro k
  induction k with
  | zero =>
    intro i n m hi hn hm
    obtain ⟨n, rfl⟩ : ∃ n', n = n' + 1 := ⟨n - 1, by omega⟩
    refine ⟨m, ?_, fun _ _ => rfl, fun _ _ => rfl, fun s h1 h2 => by omega⟩
    rw [f_X11_sentGo_L21, hm, nI_pred, if_pos (nI_le (by omega) (by omega))]
  | succ k ih =>
    intro i n m hi hn hm
    obtain ⟨n, rfl⟩ : ∃ n', n = n' + 1 := ⟨n - 1, by omega⟩
    obtain ⟨m', e1, e2, e3, e4⟩ := ih (i + 1) n (mj_wrs m 1 (86 + i) (m 1 (86 + i + 1))) (by omega) (by omega) (by rw [wr_e (Or.inr (by omega)), hm])
    refine ⟨m', ?_, fun p hp => by rw [e2 p hp, wr_row _ _ _ _ _ hp], fun s hs => by rw [e3 s (by omega), wr_e (Or.inr (by omega))], fun s h1 h2 => ?_⟩
    · rw [f_X11_sentGo_L21, hm, nI_pred, if_neg (nI_ge (by omega) (by omega)), show (86 : Int32) + nI i = nI (86 + i) from nI_add 86 i, nI_1, chk_t (okI (by omega) (by decide)), chk_t (okI (by omega) (by decide)), clI (by omega), clI (by omega)]
      simp only [lts]
      rw [nI_1]
      exact e1
    · by_cases hs : s = i
      · subst hs
        rw [e3 _ (by omega), rs]
      · rw [e4 s (by omega) h2, wr_e (Or.inr (by omega))]
theorem sg_L {N p E x : Nat} (hN : N < 256) (hE : E ≤ 20000) (hp8 : p ≤ 8) : ∀ (d q n : Nat) (m : mj_m), d ≤ q → q ≤ 20 → d < n → m 1 22 = nI N → m 1 25 = nI q → m 1 24 = nI p → m 1 40 = nI E → p + q ≤ E → x = (N + 256 - q + d) % 256 → ∃ m' : mj_m, f_X11_sentGo_L0 (nI x) n m = some m' ∧ (∀ p, p ≠ 1 → m' p = m p) ∧ m' 1 25 = nI (q - d) ∧ (∀ i, i < q - d → m' 1 (66 + i) = m 1 (66 + i + d) ∧ m' 1 (86 + i) = m 1 (86 + i + d)) ∧ (∀ s, s ≠ 25 → s < 66 ∨ 105 < s → s < 1097 → m' 1 s = m 1 s) ∧ ∀ s, 1097 ≤ s → m' 1 s = rt3 2 (m 1) (E - p - q) (E - p - q + d) s := by
  intro d
  induction d with
  | zero =>
    intro q n m hd hq hn h22 h25 h24 h40 hpq hx
    obtain ⟨n, rfl⟩ : ∃ n', n = n' + 1 := ⟨n - 1, by omega⟩
    refine ⟨m, ?_, fun _ _ => rfl, by rw [h25]; rfl, fun i _ => ⟨rfl, rfl⟩, fun _ _ _ _ => rfl, fun s hs => ?_⟩
    · rw [f_X11_sentGo_L0, h25]
      by_cases z : q = 0
      · rw [z, if_pos (by decide)]
      · rw [if_neg (nI_nle (by omega) (by omega))]
        unfold f_X11_numberOf f_X11_round
        rw [lts, lts, h22, h25, show (0 : Int32) = nI 0 from rfl, num_eq (by omega), if_pos]
        congr 1
        omega
    · unfold rt3
      rw [if_neg (by omega)]
  | succ d ih =>
    intro q n m hd hq hn h22 h25 h24 h40 hpq hx
    obtain ⟨n, rfl⟩ : ∃ n', n = n' + 1 := ⟨n - 1, by omega⟩
    obtain ⟨c, rfl⟩ : ∃ c, q = c + 1 := ⟨q - 1, by omega⟩
    obtain ⟨m1, a1, a2, a3, a4⟩ := sgm_L (x := nI x) (c := c) (by omega) c 0 mj_fu m (by omega) (by unfold mj_fu; omega) h25
    have a1' : f_X11_sentGo_L21 (nI x) mj_fu 0 m = some m1 := a1
    have n1 : ∀ s, s < 86 ∨ 105 < s → m1 1 s = m 1 s := fun s hs => a3 s (by omega)
    obtain ⟨m2, b1, b2, b3⟩ := stands_eq (x := E - p - (c + 1)) (v := 2) (m := m1) (by omega)
    have n2 : ∀ s, s < 1097 → m2 1 s = m1 1 s := fun s hs => by
      rw [b3]
      unfold rt3
      rw [if_neg (by omega)]
    obtain ⟨m3, c1, c2, c3, c4, c5⟩ := takesFirst_eq (R := 66) (Q := 25) (c := c) (m := m2) (by decide) (by omega) (Or.inl (by decide)) (by rw [n2 25 (by decide), n1 25 (by omega), h25])
    have n3 : ∀ s, s ≠ 25 → s < 66 ∨ 105 < s → m3 1 s = m2 1 s := fun s h1 h2 => c4 s h1 (by omega)
    have k3 : ∀ s, s ≠ 25 → s < 66 ∨ 105 < s → s < 1097 → m3 1 s = m 1 s := fun s h1 h2 h3 => by rw [n3 s h1 h2, n2 s h3, n1 s (by omega)]
    obtain ⟨m', e1, e2, e3, e4, e5, e6⟩ := ih c n m3 (by omega) (by omega) (by omega) (by rw [k3 22 (by decide) (by omega) (by decide), h22]) c3 (by rw [k3 24 (by decide) (by omega) (by decide), h24]) (by rw [k3 40 (by decide) (by omega) (by decide), h40]) (by omega) (by rw [hx]; congr 1; omega)
    refine ⟨m', ?_, fun p hp => by rw [e2 p hp, c2 p hp, b2 p hp, a2 p hp], by rw [e3]; congr 1; omega, fun i hi => ⟨?_, ?_⟩, fun s h1 h2 h3 => by rw [e5 s h1 h2 h3, k3 s h1 h2 h3], fun s hs => ?_⟩
    · rw [f_X11_sentGo_L0, h25, if_neg (nI_nle (by omega) (by omega))]
      have en : f_X11_numberOf 0 m = nI ((N + 256 - (c + 1)) % 256) := by
        unfold f_X11_numberOf f_X11_round
        rw [lts, h22, h25, show (0 : Int32) = nI 0 from rfl, num_eq (by omega)]
      rw [lts, en, if_neg (fun z => by
        have := (nI_eq (by omega) (by omega)).mp z
        omega), a1', b1s]
      have ef : f_X11_firstSent m1 = nI (E - p - (c + 1)) := by
        unfold f_X11_firstSent
        rw [n1 40 (by omega), n1 24 (by omega), n1 25 (by omega), h40, h24, h25, nI_sub (by omega), nI_sub (by omega)]
      rw [lts, ef, b1, b1s, show (66 : Int32) = nI 66 from rfl, show (25 : Int32) = nI 25 from rfl, c1, b2s]
      exact e1
    · rw [(e4 i (by omega)).1]
      rw [show 66 + i + d = 66 + (i + d) by omega, c5 (i + d) (by omega), n2 _ (by omega), n1 _ (by omega), show 66 + (i + d) + 1 = 66 + i + (d + 1) by omega]
    · rw [(e4 i (by omega)).2, c4 _ (by omega) (by omega), n2 _ (by omega), show 86 + i + d = 86 + (i + d) by omega, a4 (i + d) (by omega) (by omega), show 86 + (i + d) + 1 = 86 + i + (d + 1) by omega]
    · rw [e6 s hs]
      have f3 : ∀ s, 1097 ≤ s → m3 1 s = rt3 2 (m 1) (E - p - (c + 1)) (E - p - (c + 1) + 1) s := fun s hs => by
        rw [n3 s (by omega) (by omega), b3]
        unfold rt3
        rw [n1 s (by omega)]
      have key : rt3 2 (m3 1) (E - p - c) (E - p - c + d) s = rt3 2 (fun s => rt3 2 (m 1) (E - p - (c + 1)) (E - p - (c + 1) + 1) s) (E - p - c) (E - p - c + d) s := by
        unfold rt3
        have := f3 s hs
        unfold rt3 at this
        rw [this]
      rw [key, show E - p - (c + 1) + 1 = E - p - c by omega, rt3_join (by omega) (by omega), show E - p - (c + 1) + (d + 1) = E - p - c + d by omega]
theorem lg_L {d c F : Nat} (hd : d ≤ c) (hc : c ≤ 20) : ∀ (k i n : Nat) (m : mj_m), i + k = d → k < n → m 23 4 = nI c → (∀ q, q < c → m 26 q = lnum (F + q)) → ∃ m' : mj_m, f_X2_letGo_L2 (nI d) n (nI i) m = some m' ∧ (∀ p, p ≠ 4 → m' p = m p) ∧ ∀ s, m' 4 s = st3 2 (m 4) (F + i) (F + d) s := by
  intro k
  induction k with
  | zero =>
    intro i n m hi hn hm hq
    obtain ⟨n, rfl⟩ : ∃ n', n = n' + 1 := ⟨n - 1, by omega⟩
    refine ⟨m, ?_, fun _ _ => rfl, fun s => ?_⟩
    · rw [f_X2_letGo_L2, if_pos (nI_le (by omega) (by omega))]
    · unfold st3
      rw [if_neg (by omega)]
  | succ k ih =>
    intro i n m hi hn hm hq
    obtain ⟨n, rfl⟩ : ∃ n', n = n' + 1 := ⟨n - 1, by omega⟩
    have hlt : ¬ nI d ≤ nI i := nI_ge (by omega) (by omega)
    have hlt2 : ¬ nI c ≤ nI i := nI_ge (by omega) (by omega)
    by_cases h100 : F + i < 100
    · have hx : m 26 i = nI (F + i) := (hq i (by omega)).trans (lnum_lt h100)
      obtain ⟨m', e1, e2, e3⟩ := ih (i + 1) n (mj_wrs m 4 ((F + i) * 7 + 6) 2) (by omega) (by omega) (by rw [wr_e (Or.inl (by omega)), hm]) (fun q h => by rw [wr_e (Or.inl (by omega)), hq q h])
      refine ⟨m', ?_, fun p hp => by rw [e2 p hp, wr_row _ _ _ _ _ hp], fun s => ?_⟩
      · rw [f_X2_letGo_L2, if_neg hlt, hm, if_neg hlt2, chk_t (okI (by omega) (by decide))]
        simp only [lts]
        rw [clI (by omega), hx, if_neg (nI_pos (by omega)), if_neg (show ¬ (100 : Int32) ≤ nI (F + i) from nI_ge (b := 100) h100 (by decide)), show nI (F + i) * 7 = nI ((F + i) * 7) from nI_mul _ 7, show nI ((F + i) * 7) + 6 = nI ((F + i) * 7 + 6) from nI_add _ 6, chk_t (okI (by omega) (by decide)), clI (by omega), nI_1]
        exact e1
      · rw [e3 s]
        unfold st3
        rw [wr_at]
        by_cases hs : s = (F + i) * 7 + 6
        · rw [if_pos (⟨rfl, hs⟩ : (4 : Nat) = 4 ∧ s = (F + i) * 7 + 6)]
          subst hs
          rw [if_pos (show F + i ≤ ((F + i) * 7 + 6) / 7 ∧ ((F + i) * 7 + 6) / 7 < F + d ∧ ((F + i) * 7 + 6) / 7 < 100 ∧ ((F + i) * 7 + 6) % 7 = 6 by omega)]
          split <;> rfl
        · rw [if_neg (show ¬ ((4 : Nat) = 4 ∧ s = (F + i) * 7 + 6) by omega)]
          by_cases hr : F + i ≤ s / 7 ∧ s / 7 < F + d ∧ s / 7 < 100 ∧ s % 7 = 6
          · rw [if_pos hr, if_pos (by omega)]
          · rw [if_neg hr, if_neg (by omega)]
    · have hx : m 26 i = -1 := (hq i (by omega)).trans (lnum_ge (by omega))
      obtain ⟨m', e1, e2, e3⟩ := ih (i + 1) n m (by omega) (by omega) hm hq
      refine ⟨m', ?_, e2, fun s => ?_⟩
      · rw [f_X2_letGo_L2, if_neg hlt, hm, if_neg hlt2, chk_t (okI (by omega) (by decide))]
        simp only [lts]
        rw [clI (by omega), hx, if_pos (by decide), nI_1]
        exact e1
      · rw [e3 s]
        unfold st3
        rw [if_neg (by omega), if_neg (by omega)]
