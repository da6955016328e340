/-! a line is taken in -/
theorem ll_cn {l : mj_m} {n : Nat → Int32} {t v i : Nat} (h : I_ll l n t v i) : cn (n (1097 + 8 * i + 4)) v := by
  obtain ⟨-, -, -, -, -, -, -, -, -, h4, -⟩ := h
  exact h4
theorem taken_eq {l m : mj_m} {n0 : Nat → Int32} {e v o L : Nat} {line : Int32} (h : I_led l n0 e v) (he : e ≤ 20000) (hv : v < 2 ^ 28) (hov : o ≤ v) (h11 : m 1 11 = n0 11) (ht : l 1 0 = m 1 11) (ht2 : cn (m 1 11) 20000) (h19 : n0 19 = nI o) (k19 : m 1 19 = nI (o + 1)) (h24 : m 1 24 = n0 24) (h25 : m 1 25 = n0 25) (h40 : m 1 40 = n0 40) (hn : ∀ s, 1097 ≤ s → s ≤ 1896 → m 1 s = n0 s) (hL : L ≤ mj_cl (n0 40)) (hline : line = if L = 0 then -1 else lnum (L - 1)) : ∃ l' m' : mj_m, f_X2_noteTakenIn line l = some l' ∧ f_X11_takenOf (nI L - 1) m = some m' ∧ (∀ k, k ≠ 3 → k ≠ 4 → k ≠ 46 → l' k = l k) ∧ (∀ p, p ≠ 1 → m' p = m p) ∧ (∀ s, s < 1097 → m' 1 s = m 1 s) ∧ I_led l' (m' 1) e (v + 1) := by
  obtain ⟨d1, d2, d3, d4, d5, d6, d7⟩ := id h
  obtain ⟨E, hE, eE, cE⟩ := cn_i d2
  obtain ⟨t, ht3, et, ct⟩ := cn_i ht2
  obtain ⟨q, hq, eq, cq⟩ := cn_i d5
  rw [cE] at hL
  -- the ledger as it is, seen from the new row
  have same : ∀ l' : mj_m, (∀ k, l' k = l k) → I_led l' (m 1) e (v + 1) := fun l' hl' => by
    have g : I_led l (m 1) e v := by
      have o1 : mj_cl (m 1 19) = o + 1 := by rw [k19, clI (by omega)]
      have o0 : mj_cl (n0 19) = o := by rw [h19, clI (by omega)]
      unfold I_led
      rw [h40, h24, h25, h11]
      refine ⟨d1, d2, d3, d4, d5, fun i hi h1 => ?_, fun a b a1 a2 b1 b2 h1 h2 => ?_⟩
      · have z := d6 i hi h1
        unfold I_ll at z ⊢
        have ee (d : Nat) (hd : d ≤ 7) : m 1 (1097 + 8 * i + d) = n0 (1097 + 8 * i + d) := hn _ (by omega) (by omega)
        rw [hn (1097 + 8 * i) (by omega) (by omega), ee 1 (by decide), ee 2 (by decide), ee 3 (by decide), ee 4 (by decide), ee 5 (by decide), ee 6 (by decide), ee 7 (by decide), o1]
        obtain ⟨z0, z1, z2, z3, z4, z5, z6, z7, z8, z9, z10, z11⟩ := z
        refine ⟨z0, z1, z2, z3, z4, z5, z6, z7, z8, z9, z10, fun w => ?_⟩
        obtain ⟨w1, w2, w3, w4, w5, w6⟩ := z11 w
        rw [o0] at w6
        exact ⟨w1, w2, w3, w4, w5, by omega⟩
      · rw [hn _ (by omega) (by omega)] at h1 h2
        rw [hn _ (by omega) (by omega), hn _ (by omega) (by omega)]
        exact d7 a b a1 a2 b1 b2 h1 h2
    have : l' = l := funext hl'
    rw [this]
    exact I_led_mono g
  by_cases hz : 1 ≤ L ∧ L ≤ 100
  · obtain ⟨i, rfl⟩ : ∃ i, L = i + 1 := ⟨L - 1, by omega⟩
    have hi100 : i < 100 := by omega
    have hlin : line = nI i := by
      rw [hline, if_neg (by omega), show i + 1 - 1 = i by omega, lnum_lt hi100]
    have hhas : f_X2_has line l = 1 := by
      unfold f_X2_has
      rw [hlin, if_neg (nI_pos (by omega)), d4, cE, if_neg (show ¬ (100 : Int32) ≤ nI i from nI_ge (b := 100) hi100 (by decide))]
      by_cases z : E < 100
      · rw [if_pos z, eE, if_neg (nI_ge (by omega) (by omega))]
      · rw [if_neg z, if_neg (show ¬ (100 : Int32) ≤ nI i from nI_ge (b := 100) hi100 (by decide))]
    have zi := d6 i (by rw [cE]; omega) hi100
    have zi' := id zi
    obtain ⟨z0, z1, z2, z3, z4, z5, z6, z7, z8, z9, z10, z11⟩ := zi
    obtain ⟨tk, htk, etk, ctk⟩ := cn_i z9
    obtain ⟨cm, hcm, ecm, ccm⟩ := cn_i z7
    have ct0 : mj_cl (n0 11) = t := by rw [← h11, ct]
    have x7 : line * 7 = nI (7 * i) := by
      rw [hlin, show (7 : Int32) = nI 7 from rfl, nI_mul, Nat.mul_comm]
    have y (d : Nat) : nI (7 * i) + nI d = nI (7 * i + d) := nI_add _ _
    have yr : f_X11_ledgerAt (nI i) = nI (1097 + 8 * i) := by
      unfold f_X11_ledgerAt
      rw [show (8 : Int32) * nI i = nI (8 * i) from nI_mul 8 i]
      exact nI_add 1097 _
    have hn4 : m 1 (1097 + 8 * i + 4) = nI tk := by rw [hn _ (by omega) (by omega), etk]
    have hl4 : l 4 (7 * i + 4) = nI tk := by rw [z4, etk]
    by_cases h0 : tk = 0
    · -- first
      subst h0
      have e1 : f_X2_noteTakenIn line l = some (mj_wrs (mj_wrs (mj_wrs (mj_wrs l 4 (7 * i + 5) (nI t)) 46 i (nI q)) 3 4 (nI (q + 1))) 4 (7 * i + 4) (nI 1)) := by
        unfold f_X2_noteTakenIn
        rw [hhas]
        simp only [lts]
        rw [if_neg one0, x7, show nI (7 * i) + 4 = nI (7 * i + 4) from y 4, chk_t (okI (by omega) (by decide)), clI (by omega), hl4, if_pos (by decide), show nI (7 * i) + 5 = nI (7 * i + 5) from y 5, chk_t (okI (by omega) (by decide)), clI (by omega), hlin, chk_t (okI hi100 (by decide)), clI (by omega), ht, et]
        rw [wr_e (m := l) (Or.inl (by decide)), eq]
        unfold f_X2_noteTakenIn_J60
        simp only [lts]
        rw [show nI (7 * i) + 4 = nI (7 * i + 4) from y 4, chk_t (okI (by omega) (by decide)), chk_t (okI (by omega) (by decide)), clI (by omega)]
        simp (disch := omega) only [wr_e, eq, hl4]
        rw [nI_1, show nI 0 + 1 = nI 1 from rfl]
      have e2 : f_X11_takenOf (nI (i + 1) - 1) m = some (mj_wrs (mj_wrs (mj_wrs m 1 (1097 + 8 * i + 5) (nI (t + 1))) 1 (1097 + 8 * i + 7) (nI (o + 1))) 1 (1097 + 8 * i + 4) (nI 1)) := by
        unfold f_X11_takenOf
        rw [nI_pred, if_neg (nI_pos (by omega)), if_pos (show nI i < 100 from nI_lt (b := 100) hi100 (by decide)), yr]
        simp only [lts]
        rw [show nI (1097 + 8 * i) + 4 = nI (1097 + 8 * i + 4) from nI_add _ 4, chk_t (okI (by omega) (by decide)), clI (by omega), hn4, if_pos (by decide), show nI (1097 + 8 * i) + 5 = nI (1097 + 8 * i + 5) from nI_add _ 5, chk_t (okI (by omega) (by decide)), clI (by omega), show nI (1097 + 8 * i) + 7 = nI (1097 + 8 * i + 7) from nI_add _ 7, chk_t (okI (by omega) (by decide)), clI (by omega), wr_e (m := m) (Or.inr (by omega)), k19, et, nI_1, more_eq (by omega)]
        simp only [b1s]
        simp (disch := omega) only [wr_e, hn4]
        rw [show nI 0 + 1 = nI 1 from rfl]
      refine ⟨_, _, e1, e2, fun k k3 k4 k46 => ?_, fun p hp => ?_, fun s hs => ?_, ?_⟩
      · rw [wr_row _ _ _ _ _ k4, wr_row _ _ _ _ _ k3, wr_row _ _ _ _ _ k46, wr_row _ _ _ _ _ k4]
      · rw [wr_row _ _ _ _ _ hp, wr_row _ _ _ _ _ hp, wr_row _ _ _ _ _ hp]
      · rw [wr_e (Or.inr (by omega)), wr_e (Or.inr (by omega)), wr_e (Or.inr (by omega))]
      · have rn : ∀ s, s ≠ 1097 + 8 * i + 4 → s ≠ 1097 + 8 * i + 5 → s ≠ 1097 + 8 * i + 7 → mj_wrs (mj_wrs (mj_wrs m 1 (1097 + 8 * i + 5) (nI (t + 1))) 1 (1097 + 8 * i + 7) (nI (o + 1))) 1 (1097 + 8 * i + 4) (nI 1) 1 s = m 1 s := fun s s1 s2 s3 => by rw [wr_e (Or.inr s1), wr_e (Or.inr s3), wr_e (Or.inr s2)]
        have r4 : mj_wrs (mj_wrs (mj_wrs m 1 (1097 + 8 * i + 5) (nI (t + 1))) 1 (1097 + 8 * i + 7) (nI (o + 1))) 1 (1097 + 8 * i + 4) (nI 1) 1 (1097 + 8 * i + 4) = nI 1 := rs _ _ _ _
        have r5 : mj_wrs (mj_wrs (mj_wrs m 1 (1097 + 8 * i + 5) (nI (t + 1))) 1 (1097 + 8 * i + 7) (nI (o + 1))) 1 (1097 + 8 * i + 4) (nI 1) 1 (1097 + 8 * i + 5) = nI (t + 1) := by simp (disch := omega) only [wr_e, rs]
        have r7 : mj_wrs (mj_wrs (mj_wrs m 1 (1097 + 8 * i + 5) (nI (t + 1))) 1 (1097 + 8 * i + 7) (nI (o + 1))) 1 (1097 + 8 * i + 4) (nI 1) 1 (1097 + 8 * i + 7) = nI (o + 1) := by simp (disch := omega) only [wr_e, rs]
        have s4 : ∀ s, s ≠ 7 * i + 4 → s ≠ 7 * i + 5 → mj_wrs (mj_wrs (mj_wrs (mj_wrs l 4 (7 * i + 5) (nI t)) 46 i (nI q)) 3 4 (nI (q + 1))) 4 (7 * i + 4) (nI 1) 4 s = l 4 s := fun s s1 s2 => by rw [wr_e (Or.inr s1), wr_e (Or.inl (by decide)), wr_e (Or.inl (by decide)), wr_e (Or.inr s2)]
        have s44 : mj_wrs (mj_wrs (mj_wrs (mj_wrs l 4 (7 * i + 5) (nI t)) 46 i (nI q)) 3 4 (nI (q + 1))) 4 (7 * i + 4) (nI 1) 4 (7 * i + 4) = nI 1 := rs _ _ _ _
        have s45 : mj_wrs (mj_wrs (mj_wrs (mj_wrs l 4 (7 * i + 5) (nI t)) 46 i (nI q)) 3 4 (nI (q + 1))) 4 (7 * i + 4) (nI 1) 4 (7 * i + 5) = nI t := by simp (disch := omega) only [wr_e, rs]
        have s46 : ∀ b, b ≠ i → mj_wrs (mj_wrs (mj_wrs (mj_wrs l 4 (7 * i + 5) (nI t)) 46 i (nI q)) 3 4 (nI (q + 1))) 4 (7 * i + 4) (nI 1) 46 b = l 46 b := fun b hb => by simp (disch := omega) only [wr_e]
        have s46i : mj_wrs (mj_wrs (mj_wrs (mj_wrs l 4 (7 * i + 5) (nI t)) 46 i (nI q)) 3 4 (nI (q + 1))) 4 (7 * i + 4) (nI 1) 46 i = nI q := by simp (disch := omega) only [wr_e, rs]
        have s3 : ∀ j, j ≠ 4 → mj_wrs (mj_wrs (mj_wrs (mj_wrs l 4 (7 * i + 5) (nI t)) 46 i (nI q)) 3 4 (nI (q + 1))) 4 (7 * i + 4) (nI 1) 3 j = l 3 j := fun j hj => by simp (disch := omega) only [wr_e]
        have s34 : mj_wrs (mj_wrs (mj_wrs (mj_wrs l 4 (7 * i + 5) (nI t)) 46 i (nI q)) 3 4 (nI (q + 1))) 4 (7 * i + 4) (nI 1) 3 4 = nI (q + 1) := by simp (disch := omega) only [wr_e, rs]
        generalize mj_wrs (mj_wrs (mj_wrs m 1 (1097 + 8 * i + 5) (nI (t + 1))) 1 (1097 + 8 * i + 7) (nI (o + 1))) 1 (1097 + 8 * i + 4) (nI 1) = m' at *
        generalize mj_wrs (mj_wrs (mj_wrs (mj_wrs l 4 (7 * i + 5) (nI t)) 46 i (nI q)) 3 4 (nI (q + 1))) 4 (7 * i + 4) (nI 1) = l' at *
        have c40 : mj_cl (m' 1 40) = E := by rw [rn 40 (by omega) (by omega) (by omega), h40, cE]
        have c11 : mj_cl (m' 1 11) = t := by rw [rn 11 (by omega) (by omega) (by omega), ct]
        have c19 : mj_cl (m' 1 19) = o + 1 := by rw [rn 19 (by omega) (by omega) (by omega), k19, clI (by omega)]
        have c0 : mj_cl (n0 19) = o := by rw [h19, clI (by omega)]
        unfold I_led
        rw [c40, c11, s3 5 (by decide), s3 2 (by decide), s34, rn 40 (by omega) (by omega) (by omega), rn 24 (by omega) (by omega) (by omega), rn 25 (by omega) (by omega) (by omega), h40, h24, h25]
        rw [cE] at d3 d4
        refine ⟨d1, d2, d3, d4, cn_mk (by omega) (by omega), fun b hb hb1 => ?_, fun a b a1 a2 b1 b2 h1 h2 => ?_⟩
        · by_cases hbi : b = i
          · subst hbi
            unfold I_ll
            rw [s4 _ (by omega) (by omega), s4 _ (by omega) (by omega), s4 _ (by omega) (by omega), s4 _ (by omega) (by omega), s44, s45, s4 _ (by omega) (by omega), r4, r5, r7, s46i, s34, rn _ (by omega) (by omega) (by omega), rn _ (by omega) (by omega) (by omega), rn _ (by omega) (by omega) (by omega), rn _ (by omega) (by omega) (by omega), rn _ (by omega) (by omega) (by omega), hn _ (by omega) (by omega), hn _ (by omega) (by omega), hn _ (by omega) (by omega), hn _ (by omega) (by omega), hn _ (by omega) (by omega), c19, clI (show q < 2 ^ 31 by omega), clI (show q + 1 < 2 ^ 31 by omega), clI (show o + 1 < 2 ^ 31 by omega), clI (show t + 1 < 2 ^ 31 by omega)]
            rw [ct0] at z7
            refine ⟨z0, z1, z2, z3, rfl, by rw [nI_pred], z6, z7, cn_mono z8 (by omega), cn_mk (by omega) (by omega), fun z => absurd z (by decide), fun _ => ⟨cn_mk (by omega) (by omega), by have := z7.2; omega, cn_mk (by omega) (by omega), by omega, cn_mk (by omega) (by omega), by omega⟩⟩
          · have z := d6 b (by omega) hb1
            have z' := I_ll_mono z (Nat.le_refl _) (show v ≤ v + 1 by omega)
            rw [ct0] at z'
            unfold I_ll at z' ⊢
            rw [s4 _ (by omega) (by omega), s4 _ (by omega) (by omega), s4 _ (by omega) (by omega), s4 _ (by omega) (by omega), s4 _ (by omega) (by omega), s4 _ (by omega) (by omega), s4 _ (by omega) (by omega), s46 b hbi, s34, c19, clI (show q + 1 < 2 ^ 31 by omega)]
            simp (disch := omega) only [rn, hn]
            obtain ⟨w0, w1, w2, w3, w4, w5, w6, w7, w8, w9, w10, w11⟩ := z'
            refine ⟨w0, w1, w2, w3, w4, w5, w6, w7, w8, w9, w10, fun w => ?_⟩
            obtain ⟨v1, v2, v3, v4, v5, v6⟩ := w11 w
            rw [c0] at v6
            rw [cq] at v4
            exact ⟨v1, v2, v3, by omega, v5, by omega⟩
        · have old : ∀ b, b < E → b < 100 → b ≠ i → m' 1 (1097 + 8 * b + 4) ≠ 0 → mj_cl (l' 46 b) < q ∧ mj_cl (m' 1 (1097 + 8 * b + 7)) ≤ o ∧ n0 (1097 + 8 * b + 4) ≠ 0 := fun b b1 b2 b3 b4 => by
            rw [rn _ (by omega) (by omega) (by omega), hn _ (by omega) (by omega)] at b4
            obtain ⟨-, -, -, -, -, -, -, -, -, -, -, w11⟩ := d6 b (by omega) b2
            obtain ⟨v1, v2, v3, v4, v5, v6⟩ := w11 b4
            rw [s46 b b3, rn _ (by omega) (by omega) (by omega), hn _ (by omega) (by omega)]
            exact ⟨by omega, by omega, b4⟩
          by_cases hai : a = i
          · by_cases hbi : b = i
            · rw [hai, hbi]
              exact ⟨fun z => by omega, fun z => by omega⟩
            · obtain ⟨v1, v2, v3⟩ := old b b1 b2 hbi h2
              rw [hai, s46i, r7, clI (by omega), clI (by omega)]
              exact ⟨fun z => by omega, fun z => by omega⟩
          · obtain ⟨u1, u2, u3⟩ := old a a1 a2 hai h1
            by_cases hbi : b = i
            · rw [hbi, s46i, r7, clI (by omega), clI (by omega)]
              exact ⟨fun z => by omega, fun z => by omega⟩
            · obtain ⟨v1, v2, v3⟩ := old b b1 b2 hbi h2
              rw [s46 a hai, s46 b hbi]
              rw [rn _ (by omega) (by omega) (by omega), rn _ (by omega) (by omega) (by omega), hn _ (by omega) (by omega), hn _ (by omega) (by omega)]
              exact d7 a b (by omega) a2 (by omega) b2 u3 v3
    · -- again
      have e1 : f_X2_noteTakenIn line l = some (mj_wrs l 4 (7 * i + 4) (nI (tk + 1))) := by
        unfold f_X2_noteTakenIn
        rw [hhas]
        simp only [lts]
        rw [if_neg one0, x7, show nI (7 * i) + 4 = nI (7 * i + 4) from y 4, chk_t (okI (by omega) (by decide)), clI (by omega), hl4, if_neg (nI_ne0 (by omega) (by omega))]
        unfold f_X2_noteTakenIn_J60
        simp only [lts]
        rw [show nI (7 * i) + 4 = nI (7 * i + 4) from y 4, chk_t (okI (by omega) (by decide)), chk_t (okI (by omega) (by decide)), clI (by omega), hl4, nI_1]
      have e2 : f_X11_takenOf (nI (i + 1) - 1) m = some (mj_wrs m 1 (1097 + 8 * i + 4) (nI (tk + 1))) := by
        unfold f_X11_takenOf
        rw [nI_pred, if_neg (nI_pos (by omega)), if_pos (show nI i < 100 from nI_lt (b := 100) hi100 (by decide)), yr]
        simp only [lts]
        rw [show nI (1097 + 8 * i) + 4 = nI (1097 + 8 * i + 4) from nI_add _ 4, chk_t (okI (by omega) (by decide)), clI (by omega), hn4, if_neg (nI_ne0 (by omega) (by omega)), more_eq (by omega), hn4, nI_1]
        simp only [b1s]
      refine ⟨_, _, e1, e2, fun k k3 k4 k46 => wr_row _ _ _ _ _ k4, fun p hp => wr_row _ _ _ _ _ hp, fun s hs => wr_e (Or.inr (by omega)), ?_⟩
      have g := same l (fun _ => rfl)
      obtain ⟨g1, g2, g3, g4, g5, g6, g7⟩ := g
      have rn : ∀ s, s ≠ 1097 + 8 * i + 4 → mj_wrs m 1 (1097 + 8 * i + 4) (nI (tk + 1)) 1 s = m 1 s := fun s hs => wr_e (Or.inr hs)
      have r4 : mj_wrs m 1 (1097 + 8 * i + 4) (nI (tk + 1)) 1 (1097 + 8 * i + 4) = nI (tk + 1) := rs _ _ _ _
      have s4 : ∀ s, s ≠ 7 * i + 4 → mj_wrs l 4 (7 * i + 4) (nI (tk + 1)) 4 s = l 4 s := fun s hs => wr_e (Or.inr hs)
      have s44 : mj_wrs l 4 (7 * i + 4) (nI (tk + 1)) 4 (7 * i + 4) = nI (tk + 1) := rs _ _ _ _
      have sk : ∀ k, k ≠ 4 → mj_wrs l 4 (7 * i + 4) (nI (tk + 1)) k = l k := fun k hk => wr_row _ _ _ _ _ hk
      have nz : nI (tk + 1) ≠ 0 := nI_ne0 (by omega) (by omega)
      have nz' : m 1 (1097 + 8 * i + 4) ≠ 0 := by
        rw [hn4]
        exact nI_ne0 (by omega) (by omega)
      unfold I_led
      rw [rn 40 (by omega), rn 24 (by omega), rn 25 (by omega), rn 11 (by omega), sk 3 (by decide), sk 46 (by decide)]
      refine ⟨g1, g2, g3, g4, g5, fun b hb hb1 => ?_, fun a b a1 a2 b1 b2 h1 h2 => ?_⟩
      · have z := g6 b hb hb1
        unfold I_ll at z ⊢
        rw [sk 3 (by decide), sk 46 (by decide), rn 19 (by omega)]
        by_cases hbi : b = i
        · subst hbi
          obtain ⟨w0, w1, w2, w3, w4, w5, w6, w7, w8, w9, w10, w11⟩ := z
          rw [s44, r4]
          simp (disch := omega) only [rn, s4]
          exact ⟨w0, w1, w2, w3, trivial, w5, w6, w7, w8, cn_mk (by omega) (by omega), fun z => absurd z nz, fun _ => w11 nz'⟩
        · simp (disch := omega) only [rn, s4]
          exact z
      · have t4 : ∀ b, mj_wrs m 1 (1097 + 8 * i + 4) (nI (tk + 1)) 1 (1097 + 8 * b + 4) ≠ 0 → m 1 (1097 + 8 * b + 4) ≠ 0 := fun b hb => by
          by_cases z : b = i
          · rw [z]
            exact nz'
          · rw [rn _ (by omega)] at hb
            exact hb
        rw [rn _ (by omega), rn _ (by omega)]
        exact g7 a b a1 a2 b1 b2 (t4 a h1) (t4 b h2)
  · -- no line
    have hno : f_X2_has line l = 0 := by
      unfold f_X2_has
      rw [hline]
      by_cases z : L = 0
      · rw [if_pos z, if_pos (by decide)]
      · rw [if_neg z, lnum_ge (by omega), if_pos (by decide)]
    refine ⟨l, m, ?_, ?_, fun _ _ _ _ => rfl, fun _ _ => rfl, fun _ _ => rfl, same l (fun _ => rfl)⟩
    · unfold f_X2_noteTakenIn
      rw [hno]
      rfl
    · unfold f_X11_takenOf
      by_cases z : L = 0
      · rw [z, if_pos (by decide)]
      · rw [nI_p (by omega), if_neg (nI_pos (by omega)), if_neg (show ¬ nI (L - 1) < 100 from nI_nlt (b := 100) (by omega) (by omega))]
