/-! plan -/
def gB (n : Nat) (l1 : Int32) (r : mj_m) : Option (Nat × mj_m) := if r 1 5 = 0 then some (41, r) else mj_b1 (f_X5_readLine r) (fun x => if x 1 3 = 0 then f_X5_readAll_L24 n (l1 + 1) x else some (55, x))
theorem gB_h {n q : Nat} {r r' : mj_m} (hq : q ≤ 24) (hr : f_X5_nextToken r = some r') : f_X5_readAll_L24 (n + 1) (nI q) r = gB n (nI q) r' := by
  rw [f_X5_readAll_L24, if_neg (show ¬ (24 : Int32) < nI q from nI_nlt (a := 24) (by omega) (by decide)), hr, b1s]
  unfold gB
  simp only [lts]
def PE (r r' m m' : mj_m) (x : Option (Nat × Int32 × mj_m)) : Prop := (∃ q, x = some (36, nI q, m') ∧ r' 1 3 = 0 ∧ r' 1 4 = -1 ∧ DR r' m' q ∧ FP r r' m m') ∨ (x = some (27, 0, m') ∧ EF r r' m m')
theorem stepE {c q : Nat} {r m : mj_m} (hc : c ≤ 400) (h : SR c r m q) (n n' : Nat) : (∃ (t : Nat) (r' m' : mj_m), gB (n + 1) (nI q) r = some (t, r') ∧ PE r r' m m' (f_X11_readPlan_L11 (n' + 1) (nI q) m)) ∨ ∃ r' m' : mj_m, gB (n + 1) (nI q) r = gB n (nI (q + 1)) r' ∧ f_X11_readPlan_L11 (n' + 1) (nI q) m = f_X11_readPlan_L11 n' (nI (q + 1)) m' ∧ SR c r' m' (q + 1) ∧ FP r r' m m' := by
  obtain ⟨h0, h6, ht⟩ := id h
  have hk : (r 1 5 = 0 ∧ m 0 12 = 0) ∨ (¬ r 1 5 = 0 ∧ ¬ m 0 12 = 0) := by
    rcases ht with z | ⟨a, b, -⟩ | ⟨a, b, -⟩ | ⟨a, b⟩ | ⟨a, b⟩
    · exact Or.inl z
    · exact Or.inr (by rw [a, b]; decide)
    · exact Or.inr (by rw [a, b]; decide)
    · exact Or.inr (by rw [a, b]; decide)
    · exact Or.inr (by rw [a, b]; decide)
  rw [f_X11_readPlan_L11]
  unfold gB
  rcases hk with ⟨k1, k2⟩ | ⟨k1, k2⟩
  · rw [if_pos k1, if_pos k2]
    exact Or.inl ⟨41, r, m, rfl, Or.inl ⟨q, rfl, h0.2.2.2.2.1, h0.2.2.2.2.2, h0.2.2.2.1, FP.ft (FT.rf _ _)⟩⟩
  · rw [if_neg k1, if_neg k2]
    rcases lineE hc h with ⟨r', m', e1, e2, e3⟩ | ⟨r1, r', m', e1, e2, e3, e4, e5, e6⟩
    · rw [e1, e2, b1s, b2s, if_neg e3.1, if_pos rfl]
      exact Or.inl ⟨55, r', m', rfl, Or.inr ⟨rfl, e3⟩⟩
    · have hq : q + 1 ≤ 24 := e5.1.2.2.2.1.2.1
      rw [e1, e4, b1s, b2s, if_pos e2, if_neg (by decide), lts, nI_1, gB_h hq e3]
      exact Or.inr ⟨r', m', rfl, rfl, e5, e6⟩
theorem PE.tr {r r' r'' m m' m'' : mj_m} {x : Option (Nat × Int32 × mj_m)} (h : FP r r' m m') (h' : PE r' r'' m' m'' x) : PE r r'' m m'' x := by
  rcases h' with ⟨q, a, b, c, d, e⟩ | ⟨a, b⟩
  · exact Or.inl ⟨q, a, b, c, d, h.tr e⟩
  · exact Or.inr ⟨a, EF.tr h b⟩
theorem loopE {c : Nat} (hc : c ≤ 400) : ∀ (k q n n' : Nat) (r m : mj_m), q + k = 24 → k < n → k < n' → SR c r m q → ∃ (t : Nat) (r' m' : mj_m), gB n (nI q) r = some (t, r') ∧ PE r r' m m' (f_X11_readPlan_L11 n' (nI q) m) := by
  intro k
  induction k with
  | zero =>
    intro q n n' r m hk hn hn' h
    obtain ⟨n, rfl⟩ : ∃ k, n = k + 1 := ⟨n - 1, by omega⟩
    obtain ⟨n', rfl⟩ : ∃ k, n' = k + 1 := ⟨n' - 1, by omega⟩
    rcases stepE hc h n n' with z | ⟨r', m', -, -, z, -⟩
    · exact z
    · have := z.1.2.2.2.1.2.1
      omega
  | succ k ih =>
    intro q n n' r m hk hn hn' h
    obtain ⟨n, rfl⟩ : ∃ k, n = k + 1 := ⟨n - 1, by omega⟩
    obtain ⟨n', rfl⟩ : ∃ k, n' = k + 1 := ⟨n' - 1, by omega⟩
    rcases stepE hc h n n' with z | ⟨r1, m1, e1, e2, e3, e4⟩
    · exact z
    · obtain ⟨t, r', m', f1, f2⟩ := ih (q + 1) n n' r1 m1 (by omega) (by omega) (by omega) e3
      exact ⟨t, r', m', by rw [e1, f1], by rw [e2]; exact PE.tr e4 f2⟩
theorem planY {l l' m m' : mj_m} {pl pl' : Nat → Int32} {pm pm' : PM} {e u v : Nat} {T : TT} (h : I_link l (m 1) pl pm e u v T) (hl' : ∀ p, p < 43 ∨ 45 < p → l' p = l p) (hn : ∀ s, s ≠ 49 → m' 1 s = m 1 s) (hp : I_plan l' (m' 1) pl' pm') : I_link l' (m' 1) pl' pm' e u v T := by
  have hl : ∀ p, (p < 43 ∨ 45 < p) → l' p = l p := hl'
  obtain ⟨⟨g_set, g_rng, g_tick⟩, g_rec, ⟨g_mach, g_line, g_sent, g_pass, g_dir, g_rep, g_st⟩, g_led, g_dia, g_up, g_dn, g_plan⟩ := h
  refine ⟨⟨I_set_cg g_set (by rw [hl 1 (by omega)]) (hl 2 (by omega)) (hn 12 (by omega)) (fun s _ => hn s (by omega)), I_rng_cg g_rng (hl 2 (by omega)), I_tick_cg g_tick (by rw [hl 1 (by omega)]) (hn 11 (by omega))⟩, I_rec_cg (I_rec_mono g_rec) (fun k _ _ => hl k (by omega)) (hn 38 (by omega)) (fun s _ _ => hn s (by omega)) (fun s _ _ => hn s (by omega)) (fun s _ _ => hn s (by omega)), ⟨I_mach_cg g_mach (fun _ _ => by rw [hl 17 (by omega)]) (fun s _ => hn s (by omega)), I_line_cg g_line (by rw [hl 18 (by omega)]) (hl 19 (by omega)) (hl 21 (by omega)) (hn 24 (by omega)) (hn 40 (by omega)) (fun s _ _ => hn s (by omega)), I_sent_cg g_sent (fun k _ _ => hl k (by omega)) (hn 22 (by omega)) (hn 24 (by omega)) (hn 25 (by omega)) (hn 40 (by omega)) (fun s _ _ => hn s (by omega)), I_pass_cg g_pass (by rw [hl 28 (by omega)]) (hl 29 (by omega)) (hn 29 (by omega)) (fun s _ _ => hn s (by omega)), I_dir_cg g_dir (fun _ _ => by rw [hl 17 (by omega)]) (fun s _ => hn s (by omega)), I_rep_cg g_rep (by rw [hl 17 (by omega)]) (hn 45 (by omega)) (hn 46 (by omega)) (hn 47 (by omega)), I_st_cg g_st (by rw [hl 17 (by omega)]) (by rw [hl 17 (by omega)]) (hn 31 (by omega)) (fun s _ _ => hn s (by omega))⟩, I_led_cg (I_led_mono g_led) (fun _ _ => by rw [hl 3 (by omega)]) (hl 4 (by omega)) (hl 46 (by omega)) (hn 11 (by omega)) (hn 19 (by omega)) (hn 24 (by omega)) (hn 25 (by omega)) (hn 40 (by omega)) (fun s _ _ => hn s (by omega)), I_dia_cg (I_dia_mono g_dia) (fun k _ _ => hl k (by omega)) (hn 33 (by omega)) (hn 34 (by omega)) (hn 48 (by omega)) (fun s _ _ => hn s (by omega)), I_up_cg g_up (fun k _ _ => hl k (by omega)) (hn 11 (by omega)) (hn 35 (by omega)) (hn 37 (by omega)) (hn 40 (by omega)) (hn 41 (by omega)) (hn 43 (by omega)) (fun s _ _ => hn s (by omega)) (fun s _ _ => hn s (by omega)), I_dn_cg g_dn (fun k _ _ => hl k (by omega)) (hn 11 (by omega)) (hn 36 (by omega)) (hn 42 (by omega)) (hn 44 (by omega)) (fun s _ _ => hn s (by omega)) (fun s _ _ => hn s (by omega)), ?_⟩
  exact hp
theorem Inv_pl {j : Nat} {M M' : mj_M} (h : Inv j M) (e1 : M' 1 = M 1) (e2 : M' 2 = M 2) (hL : I_link (M' 0) (M' 4 1) (M' 4 8) (M' 4 0 19, 0) (24 * j) (24 * j + 50 * mj_cl (M 4 1 11)) (50 * mj_cl (M 4 1 11)) (9999, (40, 0), (40, 0))) (h11 : M' 4 1 11 = M 4 1 11) (hF : Fl (M 0) (M' 0)) (hr : I_rd M') (h03 : M' 3 0 3 = M 3 0 3) (hk : ∀ k, k ≠ 0 → k ≠ 1 → k ≠ 8 → M' 4 k = M 4 k) (h21 : M' 4 0 21 = M 4 0 21) : Inv (j + 1) M' := by
  obtain ⟨⟨c1, c2, c3⟩, -, -, i1, i2⟩ := h
  refine ⟨⟨?_, ?_, ?_⟩, ?_, hr, ?_, ?_⟩
  · rw [hk 4 (by decide) (by decide) (by decide)]
    exact c1
  · rw [hk 7 (by decide) (by decide) (by decide)]
    exact c2
  · intro β hβ
    rcases (by omega : β = 0 ∨ β = 1 ∨ β = 2) with rfl | rfl | rfl
    · exact Wd.fl (c3 0 (by decide)) hF
    · rw [e1]
      exact c3 1 (by decide)
    · rw [e2]
      exact c3 2 (by decide)
  · rw [h11]
    exact I_link_mono hL
  · rw [h21, h03]
    exact i1
  · rw [e1, h03, hk 9 (by decide) (by decide) (by decide)]
    rcases i2 with h | ⟨h, hh⟩
    · exact Or.inl h
    · exact Or.inr ⟨h, I_link_mono hh⟩
theorem cp24 (o m : mj_m) (a b k j : Nat) : mj_cpo o m a b 0 0 24 k j = if k = b ∧ j < 24 then o a j else m k j := cpo_at o m a b 24 (by decide) k j
theorem cpy43 (o m : mj_m) : ∃ l : mj_m, f_X4_copyFrom 43 3 o m = some l ∧ (∀ p, p < 43 ∨ 45 < p → l p = m p) ∧ l 43 2 = o 3 2 ∧ l 43 3 = o 3 3 ∧ (∀ i, i < 24 → l 44 i = o 4 i) ∧ ∀ i, i < 24 → l 45 i = o 5 i := by
  have ck : mj_cok 0 0 24 24 24 = true := by decide
  refine ⟨mj_wrs (mj_wrs (mj_cpo o (mj_cpo o m 4 44 0 0 24) 5 45 0 0 24) 43 2 (o 3 2)) 43 3 (o 3 3), ?_, fun p hp => ?_, ?_, rs _ _ _ _, fun i hi => ?_, fun i hi => ?_⟩
  · unfold f_X4_copyFrom
    rw [chk_t ck, lts, chk_t ck, lts, lts, lts]
  · funext s
    rw [wr_e (Or.inl (by omega)), wr_e (Or.inl (by omega)), cp24, if_neg (fun z => by have := z.1; omega), cp24, if_neg (fun z => by have := z.1; omega)]
  · rw [wr_e (Or.inr (by decide)), rs]
  · rw [wr_e (Or.inl (by decide)), wr_e (Or.inl (by decide)), cp24, if_neg (fun z => by have := z.1; omega), cp24, if_pos ⟨rfl, hi⟩]
  · rw [wr_e (Or.inl (by decide)), wr_e (Or.inl (by decide)), cp24, if_pos ⟨rfl, hi⟩]
theorem c_plan : CL_plan Inv := by
  intro j M hj h
  obtain ⟨⟨c1, c2, c3⟩, hl, ⟨r1, r2, r3, r4, r5⟩, -⟩ := id h
  obtain ⟨c, hc, ec, cc⟩ := cn_i r2
  obtain ⟨R0, eR0⟩ : ∃ x, x = mj_wrs (mj_wrs (mj_wrs (mj_wrs (mj_wrs (M 3) 3 2 0) 3 3 0) 1 3 0) 1 4 (-1)) 1 7 0 := ⟨_, rfl⟩
  obtain ⟨N0, eN0⟩ : ∃ x, x = mj_wrs (mj_wrs (mj_wrs (mj_wrs (M 4) 0 0 0) 0 17 0) 0 18 (-1)) 0 10 0 := ⟨_, rfl⟩
  have R0r : ∀ k, k ≠ 1 → k ≠ 3 → R0 k = M 3 k := fun k k1 k3 => by rw [eR0, wr_row _ _ _ _ _ k1, wr_row _ _ _ _ _ k1, wr_row _ _ _ _ _ k1, wr_row _ _ _ _ _ k3, wr_row _ _ _ _ _ k3]
  have R0s : ∀ s, s ≠ 3 → s ≠ 4 → s ≠ 7 → R0 1 s = M 3 1 s := fun s s3 s4 s7 => by rw [eR0, wr_e (Or.inr s7), wr_e (Or.inr s4), wr_e (Or.inr s3), wr_e (Or.inl (by decide)), wr_e (Or.inl (by decide))]
  have R33 : R0 3 3 = 0 := by rw [eR0, wr_e (Or.inl (by decide)), wr_e (Or.inl (by decide)), wr_e (Or.inl (by decide)), rs]
  have N0r : ∀ k, k ≠ 0 → N0 k = M 4 k := fun k k0 => by rw [eN0, wr_row _ _ _ _ _ k0, wr_row _ _ _ _ _ k0, wr_row _ _ _ _ _ k0, wr_row _ _ _ _ _ k0]
  have N0s : ∀ s, s ≠ 0 → s ≠ 10 → s ≠ 17 → s ≠ 18 → N0 0 s = M 4 0 s := fun s s0 s10 s17 s18 => by rw [eN0, wr_e (Or.inr s10), wr_e (Or.inr s18), wr_e (Or.inr s17), wr_e (Or.inr s0)]
  have N17 : N0 0 17 = 0 := by rw [eN0, wr_e (Or.inr (by decide)), wr_e (Or.inr (by decide)), rs]
  have N18 : N0 0 18 = -1 := by rw [eN0, wr_e (Or.inr (by decide)), rs]
  have S : S0 c R0 N0 0 := by
    refine ⟨⟨by rw [R0s 1 (by decide) (by decide) (by decide), r1, ec], by rw [N0s 9 (by decide) (by decide) (by decide) (by decide), ec], fun i hi => ?_⟩, ?_, ⟨0, by omega, ?_, ?_⟩, ⟨?_, by decide, fun i hi => by omega⟩, ?_, ?_⟩
    · rw [R0r 2 (by decide) (by decide), N0r 6 (by decide)]
      exact r3 i (by omega)
    · rw [N0r 7 (by decide)]
      exact c2
    · rw [eR0, rs]
      rfl
    · rw [eN0, rs]
      rfl
    · rw [eR0, wr_e (Or.inl (by decide)), wr_e (Or.inl (by decide)), wr_e (Or.inl (by decide)), wr_e (Or.inr (by decide)), rs]
      rfl
    · rw [eR0, wr_e (Or.inr (by decide)), wr_e (Or.inr (by decide)), rs]
    · rw [eR0, wr_e (Or.inr (by decide)), rs]
  obtain ⟨Ra, Na, t1, t2, t3, t4⟩ := tokS hc S
  obtain ⟨t, Rb, Nb, g1, g2⟩ := loopE hc 24 0 19999 mj_fu Ra Na (by omega) (by omega) (by unfold mj_fu; omega) t3
  have f0 : FP R0 Ra N0 Na := FP.ft t4
  have eC : f_X5_readAll (M 3) = if mj_wrs Rb 1 1 0 1 3 = 0 then some (1, mj_wrs Rb 1 1 0) else some (0, mj_wrs Rb 1 1 0) := by
    have q1 : f_X5_readAll_L24 mj_fu 0 R0 = some (t, Rb) := (gB_h (n := 19999) (q := 0) (by decide) t1).trans g1
    have q2 : ∀ x : Option (Int32 × mj_m), (if t = 41 then x else if t = 55 then x else x) = x := fun x => by
      by_cases a : t = 41
      · rw [if_pos a]
      · rw [if_neg a]
        by_cases b : t = 55
        · rw [if_pos b]
        · rw [if_neg b]
    unfold f_X5_readAll f_X4_clear
    rw [lts, lts, lts, lts, lts, lts, ← eR0, q1, b2s, q2]
    unfold f_X5_readAll_J64
    rw [lts]
  have w13 : mj_wrs Rb 1 1 0 1 3 = Rb 1 3 := wr_e (Or.inr (by decide))
  have w14 : mj_wrs Rb 1 1 0 1 4 = Rb 1 4 := wr_e (Or.inr (by decide))
  rw [w13] at eC
  have eP : ∀ X, f_X11_readPlan_L11 mj_fu 0 Na = X → f_X11_readPlan (mj_wrs (mj_wrs (mj_wrs (M 4) 0 0 0) 0 17 0) 0 18 (-1)) = mj_b3 X (fun t10 x11 m12 => if t10 = 27 then (some ((-1), m12)) else (some (x11, m12))) := fun X hX => by
    unfold f_X11_readPlan
    rw [lts, ← eN0, t2, b1s, hX]
  rcases PE.tr f0 g2 with ⟨q, x1, x2, x3, x4, x5⟩ | ⟨x1, x2⟩
  · obtain ⟨d1, d2, d3⟩ := x4
    obtain ⟨p1, p2, p3, p4, p5⟩ := x5
    obtain ⟨l', y1, y2, y3, y4, y5, y6⟩ := cpy43 (mj_wrs Rb 1 1 0) (M 0)
    have w3 : mj_wrs Rb 1 1 0 3 = Rb 3 := wr_row _ _ _ _ _ (by decide)
    have w4 : mj_wrs Rb 1 1 0 4 = Rb 4 := wr_row _ _ _ _ _ (by decide)
    have w5 : mj_wrs Rb 1 1 0 5 = Rb 5 := wr_row _ _ _ _ _ (by decide)
    rw [w3, d1] at y3
    rw [w3, p2, R33] at y4
    rw [w4] at y5
    rw [w5] at y6
    obtain ⟨m1, z1, z2, z3, z4⟩ := l50 (N := 2 * q) (x := nI q) (by omega) (nI_mul 2 q) (2 * q) 0 mj_fu (mj_wrs Nb 0 9 0) (by omega) (by unfold mj_fu; omega)
    have z1' : f_X11_plan_L50 (nI q) mj_fu 0 (mj_wrs Nb 0 9 0) = some m1 := z1
    have q1 : ¬ nI q = -1 := fun w => absurd (show (0 : Int32) ≤ nI q from nI_pos' (by omega)) (by rw [w]; decide)
    obtain ⟨m2, em2⟩ : ∃ x, x = mj_wrs (mj_wrs m1 0 19 (nI q)) 1 49 0 := ⟨_, rfl⟩
    have m2r : ∀ k, k ≠ 0 → k ≠ 1 → k ≠ 8 → m2 k = M 4 k := fun k k0 k1 k8 => by rw [em2, wr_row _ _ _ _ _ k1, wr_row _ _ _ _ _ k0, z2 k k8, wr_row _ _ _ _ _ k0, p3 k k0 k8, N0r k k0]
    have m21 : ∀ s, s ≠ 49 → m2 1 s = M 4 1 s := fun s hs => by rw [em2, wr_e (Or.inr hs), wr_e (Or.inl (by decide)), z2 1 (by decide), wr_e (Or.inl (by decide)), p3 1 (by decide) (by decide), N0r 1 (by decide)]
    have m20 : ∀ s, s ≠ 9 → s ≠ 19 → m2 0 s = Nb 0 s := fun s s9 s19 => by rw [em2, wr_e (Or.inl (by decide)), wr_e (Or.inr s19), z2 0 (by decide), wr_e (Or.inr s9)]
    have m209 : m2 0 9 = 0 := by rw [em2, wr_e (Or.inl (by decide)), wr_e (Or.inr (by decide)), z2 0 (by decide), rs]
    have m28 : ∀ s, s < 2 * q → m2 8 s = Nb 8 (48 + s) := fun s hs => by rw [em2, wr_e (Or.inl (by decide)), wr_e (Or.inl (by decide)), z4 s (by omega) hs, wr_e (Or.inl (by decide))]
    refine ⟨nI q, va_up (va_up M 3 (mj_wrs Rb 1 1 0)) 0 l', m2, ?_, ?_, ?_⟩
    · unfold f_X10_plan
      rw [eC, if_pos x2, b2s, lts, if_neg one0, up_s, show va_up M 3 (mj_wrs Rb 1 1 0) 0 = M 0 from rfl, y1, b1s, lts, up_s, y3]
    · show f_X11_plan (M 4) = _
      unfold f_X11_plan
      rw [lts, lts, lts, eP _ x1, b3s, if_neg (by decide), b2s, lts, if_neg q1, z1', b1s, lts, lts, em2]
    · refine Inv_pl h rfl rfl ?_ ?_ ?_ ⟨?_, ?_, ?_, ?_, ?_⟩ ?_ m2r ?_
      · show I_link l' (m2 1) (m2 8) (m2 0 19, 0) _ _ _ _
        refine planY (l := M 0) (m := M 4) (m' := m2) hl y2 m21 ?_
        have m219 : m2 0 19 = nI q := by rw [em2, wr_e (Or.inl (by decide)), rs]
        have m149 : m2 1 49 = 0 := by rw [em2, rs]
        rw [m219]
        refine ⟨?_, y3, cn_mk d2 (by decide), ?_, fun i hi => ?_⟩
        · show l' 43 3 = m2 1 49 + 0
          rw [y4, m149]
          decide
        · rw [m149]
          exact cn_mk (c := 0) (by omega) (by rw [clI (by omega)]; omega)
        · have hi : i < mj_cl (nI q) := hi
          rw [clI (by omega)] at hi
          obtain ⟨v1, v2, v3⟩ := d3 i hi
          rw [y5 i (by omega), y6 i (by omega), m28 (2 * i) (by omega), m28 (2 * i + 1) (by omega)]
          exact ⟨v1, v2, v3⟩
      · exact m21 11 (by decide)
      · show Fl (M 0) l'
        refine ⟨?_, ?_, ?_, ?_⟩
        · rw [y2 33 (by omega)]
        · rw [y2 33 (by omega)]
        · rw [y2 38 (by omega)]
        · rw [y2 38 (by omega)]
      · show mj_wrs Rb 1 1 0 1 1 = m2 0 9
        rw [rs, m209]
      · show cn (m2 0 9) 400
        rw [m209]
        exact cn_mk (c := 0) (by omega) (by decide)
      · intro i hi
        have hi : i < mj_cl (m2 0 9) := hi
        rw [m209] at hi
        exact absurd hi (show ¬ i < mj_cl (nI 0) by rw [clI (by omega)]; omega)
      · show mj_wrs Rb 1 1 0 1 3 = m2 0 17
        rw [w13, x2, m20 17 (by decide) (by decide), p4 17 (by omega), N17]
      · show mj_wrs Rb 1 1 0 1 4 = m2 0 18
        rw [w14, x3, m20 18 (by decide) (by decide), p4 18 (by omega), N18]
      · show mj_wrs Rb 1 1 0 0 3 = M 3 0 3
        rw [wr_e (Or.inl (by decide)), p1, R0r 0 (by decide) (by decide)]
      · show m2 0 21 = M 4 0 21
        rw [m20 21 (by decide) (by decide), p4 21 (by omega), N0s 21 (by decide) (by decide) (by decide) (by decide)]
  · obtain ⟨v1, v2, v3, p1, p2, p3, p4, p5⟩ := x2
    obtain ⟨m2, em2⟩ : ∃ x, x = mj_wrs (mj_wrs (mj_wrs Nb 0 9 0) 0 17 (Nb 0 15)) 0 18 (Nb 0 16) := ⟨_, rfl⟩
    have m2r : ∀ k, k ≠ 0 → m2 k = Nb k := fun k k0 => by rw [em2, wr_row _ _ _ _ _ k0, wr_row _ _ _ _ _ k0, wr_row _ _ _ _ _ k0]
    have m20 : ∀ s, s ≠ 9 → s ≠ 17 → s ≠ 18 → m2 0 s = Nb 0 s := fun s s9 s17 s18 => by rw [em2, wr_e (Or.inr s18), wr_e (Or.inr s17), wr_e (Or.inr s9)]
    have m209 : m2 0 9 = 0 := by rw [em2, wr_e (Or.inr (by decide)), wr_e (Or.inr (by decide)), rs]
    have m217 : m2 0 17 = Nb 0 15 := by rw [em2, wr_e (Or.inr (by decide)), rs]
    have m218 : m2 0 18 = Nb 0 16 := by rw [em2, rs]
    have m19 : m2 0 19 = M 4 0 19 := by rw [m20 19 (by decide) (by decide) (by decide), p4 19 (by omega), N0s 19 (by decide) (by decide) (by decide) (by decide)]
    have m21 : m2 1 = M 4 1 := by rw [m2r 1 (by decide), p3 1 (by decide) (by decide), N0r 1 (by decide)]
    have m28 : ∀ s, s < 48 → m2 8 s = M 4 8 s := fun s hs => by rw [m2r 8 (by decide), p5 s hs, N0r 8 (by decide)]
    refine ⟨-1, va_up M 3 (mj_wrs Rb 1 1 0), m2, ?_, ?_, ?_⟩
    · unfold f_X10_plan
      rw [eC, if_neg v1, b2s, lts, if_pos rfl]
    · show f_X11_plan (M 4) = _
      unfold f_X11_plan
      have k15 : mj_wrs Nb 0 9 0 0 15 = Nb 0 15 := wr_e (Or.inr (by decide))
      have k16 : mj_wrs (mj_wrs Nb 0 9 0) 0 17 (Nb 0 15) 0 16 = Nb 0 16 := by rw [wr_e (Or.inr (by decide)), wr_e (Or.inr (by decide))]
      rw [lts, lts, lts, eP _ x1, b3s, if_pos rfl, b2s, lts, if_pos rfl, lts, k15, lts, k16, em2]
    · refine Inv_pl h rfl rfl ?_ ?_ ?_ ⟨?_, ?_, ?_, ?_, ?_⟩ ?_ (fun k k0 _ k8 => ?_) ?_
      · show I_link (M 0) (m2 1) (m2 8) (m2 0 19, 0) _ _ _ _
        refine planY (l := M 0) (m := M 4) (m' := m2) hl (fun _ _ => rfl) (fun s _ => by rw [m21]) ?_
        obtain ⟨-, -, -, -, -, -, -, i1, i2, i3, i4, i5⟩ := hl
        rw [m19, m21]
        refine ⟨i1, i2, i3, i4, fun i hi => ?_⟩
        have h24 : mj_cl (M 4 0 19) ≤ 24 := i3.2
        have hi : i < mj_cl (M 4 0 19) := hi
        rw [m28 (2 * i) (by omega), m28 (2 * i + 1) (by omega)]
        exact i5 i hi
      · show m2 1 11 = M 4 1 11
        rw [m21]
      · exact ⟨rfl, rfl, rfl, rfl⟩
      · show mj_wrs Rb 1 1 0 1 1 = m2 0 9
        rw [rs, m209]
      · show cn (m2 0 9) 400
        rw [m209]
        exact cn_mk (c := 0) (by omega) (by decide)
      · intro i hi
        have hi : i < mj_cl (m2 0 9) := hi
        rw [m209] at hi
        exact absurd hi (show ¬ i < mj_cl (nI 0) by rw [clI (by omega)]; omega)
      · show mj_wrs Rb 1 1 0 1 3 = m2 0 17
        rw [w13, m217, v2]
      · show mj_wrs Rb 1 1 0 1 4 = m2 0 18
        rw [w14, m218, v3]
      · show mj_wrs Rb 1 1 0 0 3 = M 3 0 3
        rw [wr_e (Or.inl (by decide)), p1, R0r 0 (by decide) (by decide)]
      · show m2 k = M 4 k
        rw [m2r k k0, p3 k k0 k8, N0r k k0]
      · show m2 0 21 = M 4 0 21
        rw [m20 21 (by decide) (by decide) (by decide), p4 21 (by omega), N0s 21 (by decide) (by decide) (by decide) (by decide)]
