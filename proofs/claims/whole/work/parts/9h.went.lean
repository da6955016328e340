/-! a frame goes: its line, its bytes -/
theorem went_eq {l m : mj_m} {e v x : Nat} (h : I_led l (m 1) e v) (he : e ≤ 20000) (hv : v < 2 ^ 28) (ht : l 1 0 = m 1 11) (ht2 : cn (m 1 11) 20000) (hx : x < mj_cl (m 1 40)) : ∃ l' m' : mj_m, f_X2_noteWent (lnum x) l = some l' ∧ f_X11_goesOf (nI x) m = some m' ∧ (∀ k, k ≠ 4 → l' k = l k) ∧ (∀ p, p ≠ 1 → m' p = m p) ∧ (∀ s, s < 1097 → m' 1 s = m 1 s) ∧ I_led l' (m' 1) e (v + 1) := by
  obtain ⟨d1, d2, d3, d4, d5, d6, d7⟩ := id h
  obtain ⟨E, hE, eE, cE⟩ := cn_i d2
  obtain ⟨t, ht3, et, ct⟩ := cn_i ht2
  rw [cE] at hx
  by_cases h100 : x < 100
  · have hhas : f_X2_has (nI x) l = 1 := by
      unfold f_X2_has
      rw [if_neg (nI_pos (by omega)), d4, cE, if_neg (show ¬ (100 : Int32) ≤ nI x from nI_ge (b := 100) h100 (by decide))]
      by_cases z : E < 100
      · rw [if_pos z, eE, if_neg (nI_ge (by omega) (by omega))]
      · rw [if_neg z, if_neg (show ¬ (100 : Int32) ≤ nI x from nI_ge (b := 100) h100 (by decide))]
    have zi := d6 x (by rw [cE]; omega) h100
    obtain ⟨z0, z1, z2, z3, z4, z5, z6, z7, z8, z9, z10, z11⟩ := id zi
    obtain ⟨w, hw, ew, cw⟩ := cn_i z8
    have x7 : nI x * 7 = nI (7 * x) := by
      rw [show (7 : Int32) = nI 7 from rfl, nI_mul, Nat.mul_comm]
    have yr : f_X11_ledgerAt (nI x) = nI (1097 + 8 * x) := by
      unfold f_X11_ledgerAt
      rw [show (8 : Int32) * nI x = nI (8 * x) from nI_mul 8 x]
      exact nI_add 1097 _
    have hl2 : l 4 (7 * x + 2) = nI w := by rw [z2, ew]
    -- both sides, whether it is the first time or not
    obtain ⟨l', e1, f1, f2, f3, f4, f5⟩ : ∃ l' : mj_m, f_X2_noteWent (nI x) l = some l' ∧ (∀ k, k ≠ 4 → l' k = l k) ∧ (∀ s, s ≠ 7 * x + 2 → s ≠ 7 * x + 3 → s ≠ 7 * x + 6 → l' 4 s = l 4 s) ∧ l' 4 (7 * x + 2) = nI (w + 1) ∧ l' 4 (7 * x + 3) = (if w = 0 then nI t else l 4 (7 * x + 3)) ∧ l' 4 (7 * x + 6) = 1 := by
      have J : ∀ y : mj_m, y 4 (7 * x + 2) = nI w → f_X2_noteWent_J40 (nI (7 * x)) y = some (mj_wrs (mj_wrs y 4 (7 * x + 2) (nI (w + 1))) 4 (7 * x + 6) 1) := fun y hy => by
        unfold f_X2_noteWent_J40
        rw [show nI (7 * x) + 2 = nI (7 * x + 2) from nI_add _ 2, chk_t (okI (by omega) (by decide)), chk_t (okI (by omega) (by decide)), clI (by omega), hy, nI_1, lts, show nI (7 * x) + 6 = nI (7 * x + 6) from nI_add _ 6, chk_t (okI (by omega) (by decide)), clI (by omega), lts]
      unfold f_X2_noteWent
      rw [hhas, lts, if_neg one0, lts, x7, show nI (7 * x) + 2 = nI (7 * x + 2) from nI_add _ 2, chk_t (okI (by omega) (by decide)), clI (by omega), hl2]
      by_cases w0 : w = 0
      · rw [if_pos (by rw [w0]; decide), show nI (7 * x) + 3 = nI (7 * x + 3) from nI_add _ 3, chk_t (okI (by omega) (by decide)), clI (by omega), lts, ht, et, J _ (by rw [wr_e (Or.inr (by omega)), hl2])]
        refine ⟨_, rfl, fun k hk => by simp (disch := omega) only [wr_row], fun s s1 s2 s3 => by simp (disch := omega) only [wr_e], by simp (disch := omega) only [wr_e, rs], ?_, rs _ _ _ _⟩
        rw [if_pos w0]
        simp (disch := omega) only [wr_e, rs]
      · rw [if_neg (nI_ne0 (by omega) (by omega)), J _ hl2]
        refine ⟨_, rfl, fun k hk => by simp (disch := omega) only [wr_row], fun s s1 s2 s3 => by simp (disch := omega) only [wr_e], by simp (disch := omega) only [wr_e, rs], ?_, rs _ _ _ _⟩
        rw [if_neg w0]
        simp (disch := omega) only [wr_e]
    obtain ⟨m', e2, g1, g2, g3, g4, g5⟩ : ∃ m' : mj_m, f_X11_goesOf (nI x) m = some m' ∧ (∀ p, p ≠ 1 → m' p = m p) ∧ (∀ s, s ≠ 1097 + 8 * x + 2 → s ≠ 1097 + 8 * x + 3 → s ≠ 1097 + 8 * x + 6 → m' 1 s = m 1 s) ∧ m' 1 (1097 + 8 * x + 2) = nI (w + 1) ∧ m' 1 (1097 + 8 * x + 3) = (if w = 0 then nI (t + 1) else m 1 (1097 + 8 * x + 3)) ∧ m' 1 (1097 + 8 * x + 6) = 1 := by
      have J : ∀ y : mj_m, y 1 (1097 + 8 * x + 2) = nI w → f_X11_goesOf_J41 (nI (1097 + 8 * x)) y = some (mj_wrs (mj_wrs y 1 (1097 + 8 * x + 2) (nI (w + 1))) 1 (1097 + 8 * x + 6) 1) := fun y hy => by
        unfold f_X11_goesOf_J41
        rw [show nI (1097 + 8 * x) + 2 = nI (1097 + 8 * x + 2) from nI_add _ 2, more_eq (by omega), hy, nI_1, b1s, show nI (1097 + 8 * x) + 6 = nI (1097 + 8 * x + 6) from nI_add _ 6, chk_t (okI (by omega) (by decide)), clI (by omega), lts]
      unfold f_X11_goesOf
      rw [if_pos (show nI x < 100 from nI_lt (b := 100) h100 (by decide)), lts, yr, show nI (1097 + 8 * x) + 2 = nI (1097 + 8 * x + 2) from nI_add _ 2, chk_t (okI (by omega) (by decide)), clI (by omega), ew]
      by_cases w0 : w = 0
      · rw [if_pos (by rw [w0]; decide), show nI (1097 + 8 * x) + 3 = nI (1097 + 8 * x + 3) from nI_add _ 3, chk_t (okI (by omega) (by decide)), clI (by omega), lts, et, nI_1, J _ (by rw [wr_e (Or.inr (by omega)), ew])]
        refine ⟨_, rfl, fun k hk => by simp (disch := omega) only [wr_row], fun s s1 s2 s3 => by simp (disch := omega) only [wr_e], by simp (disch := omega) only [wr_e, rs], ?_, rs _ _ _ _⟩
        rw [if_pos w0]
        simp (disch := omega) only [wr_e, rs]
      · rw [if_neg (nI_ne0 (by omega) (by omega)), J _ ew]
        refine ⟨_, rfl, fun k hk => by simp (disch := omega) only [wr_row], fun s s1 s2 s3 => by simp (disch := omega) only [wr_e], by simp (disch := omega) only [wr_e, rs], ?_, rs _ _ _ _⟩
        rw [if_neg w0]
        simp (disch := omega) only [wr_e]
    rw [lnum_lt h100]
    refine ⟨l', m', e1, e2, f1, g1, fun s hs => g2 s (by omega) (by omega) (by omega), ?_⟩
    unfold I_led
    rw [f1 3 (by decide), f1 46 (by decide), g2 40 (by omega) (by omega) (by omega), g2 24 (by omega) (by omega) (by omega), g2 25 (by omega) (by omega) (by omega), g2 11 (by omega) (by omega) (by omega)]
    refine ⟨d1, d2, d3, d4, cn_mono d5 (by omega), fun b hb hb1 => ?_, fun a b a1 a2 b1 b2 h1 h2 => ?_⟩
    · have z' := I_ll_mono (d6 b hb hb1) (Nat.le_refl _) (show v ≤ v + 1 by omega)
      unfold I_ll at z' ⊢
      rw [f1 3 (by decide), f1 46 (by decide), g2 19 (by omega) (by omega) (by omega)]
      by_cases hbx : b = x
      · subst hbx
        obtain ⟨w0, w1, w2, w3, w4, w5, w6, w7, w8, w9, w10, w11⟩ := z'
        rw [f3, f4, f5, g3, g4, g5]
        simp (disch := omega) only [f2, g2]
        refine ⟨w0, w1, trivial, ?_, w4, w5, trivial, w7, cn_mk (by omega) (by omega), w9, w10, w11⟩
        split
        · rw [nI_pred]
        · exact w3
      · simp (disch := omega) only [f2, g2]
        exact z'
    · rw [g2 _ (by omega) (by omega) (by omega)] at h1 h2
      rw [g2 _ (by omega) (by omega) (by omega), g2 _ (by omega) (by omega) (by omega)]
      exact d7 a b a1 a2 b1 b2 h1 h2
  · have hno : f_X2_has (lnum x) l = 0 := by
      unfold f_X2_has
      rw [lnum_ge (by omega), if_pos (by decide)]
    refine ⟨l, m, ?_, ?_, fun _ _ => rfl, fun _ _ => rfl, fun _ _ => rfl, I_led_mono h⟩
    · unfold f_X2_noteWent
      rw [hno, lts, if_pos rfl]
    · unfold f_X11_goesOf
      rw [if_neg (show ¬ nI x < 100 from nI_nlt (b := 100) (by omega) (by omega))]
theorem ush_k {W s : Nat} (hW : W < 2 ^ 31) {y : Int32} (hy : ((y.toUInt32 &&& Int32.toUInt32 31).toBitVec % 32).toNat = s) : mj_ush (nI W) y &&& 255 = nI (W / 2 ^ s % 256) := by
  unfold mj_ush
  rw [pk_ushrN (by omega) y s hy, show (255 : Int32) = nI (2 ^ 8 - 1) from rfl, fa_mask]
theorem wdig {kd n hi lo : Nat} (hk : kd < 3) (hn : n < 256) (hhi : hi < 256) (hlo : lo < 256) : (kd * 2 ^ 24 + n * 2 ^ 16 + hi * 2 ^ 8 + lo) / 2 ^ 24 % 256 = kd ∧ (kd * 2 ^ 24 + n * 2 ^ 16 + hi * 2 ^ 8 + lo) / 2 ^ 16 % 256 = n ∧ (kd * 2 ^ 24 + n * 2 ^ 16 + hi * 2 ^ 8 + lo) / 2 ^ 8 % 256 = hi ∧ (kd * 2 ^ 24 + n * 2 ^ 16 + hi * 2 ^ 8 + lo) / 2 ^ 0 % 256 = lo := by
  refine ⟨?_, ?_, ?_, ?_⟩
  · rw [show kd * 2 ^ 24 + n * 2 ^ 16 + hi * 2 ^ 8 + lo = (n * 2 ^ 16 + hi * 2 ^ 8 + lo) + 2 ^ 24 * kd by omega, Nat.add_mul_div_left _ _ (by decide), Nat.div_eq_of_lt (by omega)]
    omega
  · rw [show kd * 2 ^ 24 + n * 2 ^ 16 + hi * 2 ^ 8 + lo = (hi * 2 ^ 8 + lo) + 2 ^ 16 * (kd * 2 ^ 8 + n) by omega, Nat.add_mul_div_left _ _ (by decide), Nat.div_eq_of_lt (by omega)]
    omega
  · rw [show kd * 2 ^ 24 + n * 2 ^ 16 + hi * 2 ^ 8 + lo = lo + 2 ^ 8 * (kd * 2 ^ 16 + n * 2 ^ 8 + hi) by omega, Nat.add_mul_div_left _ _ (by decide), Nat.div_eq_of_lt (by omega)]
    omega
  · rw [Nat.pow_zero, Nat.div_one]
    omega
/-- what a going frame leaves as it is -/
def U_ok (l m l' m' : mj_m) : Prop := (∀ k, k ≠ 1 → k < 33 ∨ 37 < k → l' k = l k) ∧ l' 1 0 = l 1 0 ∧ (∀ j, j < 7 → l' 33 j = l 33 j) ∧ (∀ p, p ≠ 0 → p ≠ 1 → p ≠ 3 → m' p = m p) ∧ (∀ j, j ≠ 4 → m' 0 j = m 0 j) ∧ (∀ s, s ≠ 12 → s ≠ 41 → s ≠ 43 → s ≠ 35 → s ≠ 37 → s < 619 ∨ 627 ≤ s → s < 635 ∨ 922 ≤ s → m' 1 s = m 1 s) ∧ l' 1 1 = m' 1 12
theorem sendU {l m : mj_m} {kd n hi lo L : Nat} {word line a5 : Int32} (hwd : Wd l) (hs : I_set l (m 1)) (hr : I_rng l) (ht : l 1 0 = m 1 11) (ht2 : cn (m 1 11) 20000) (hup : I_up l (m 1) (39, 1)) (hk : kd < 3) (hn : n < 256) (hhi : hi < 256) (hlo : lo < 256) (hword : word = nI (kd * 2 ^ 24 + n * 2 ^ 16 + hi * 2 ^ 8 + lo)) (ha5 : a5 + 1 = nI L) (hL : L ≤ mj_cl (m 1 40)) (hE : mj_cl (m 1 40) ≤ 20000) (hline : line = if L = 0 then -1 else lnum (L - 1)) : ∃ l' m' : mj_m, f_X9_goes 33 word line l = some l' ∧ f_X11_goesFrame (nI kd) (nI n) (nI hi) (nI lo) a5 m = some m' ∧ U_ok l m l' m' ∧ I_up l' (m' 1) (40, 0) := by
  obtain ⟨W, hW⟩ : ∃ W, W = kd * 2 ^ 24 + n * 2 ^ 16 + hi * 2 ^ 8 + lo := ⟨_, rfl⟩
  have hW31 : W < 2 ^ 31 := by omega
  obtain ⟨w24, w16, w8, w0⟩ := wdig hk hn hhi hlo
  rw [← hW] at w24 w16 w8 w0
  obtain ⟨B, hB⟩ : ∃ B : Nat → Nat, B = fun k => if k = 0 then kd else if k = 1 then n else if k = 2 then hi else if k = 3 then lo else (85 + kd + n + hi + lo) % 256 := ⟨_, rfl⟩
  have B0 : B 0 = kd := by rw [hB]; rfl
  have B1 : B 1 = n := by rw [hB]; rfl
  have B2 : B 2 = hi := by rw [hB]; rfl
  have B3 : B 3 = lo := by rw [hB]; rfl
  have B4 : B 4 = (85 + kd + n + hi + lo) % 256 := by rw [hB]; rfl
  have k5 : ∀ k, k < 5 → k = 0 ∨ k = 1 ∨ k = 2 ∨ k = 3 ∨ k = 4 := fun k hk => by omega
  have esum : (nI kd + nI n + nI hi + nI lo + 85) &&& 255 = nI (B 4) := by
    rw [B4, nI_add, nI_add, nI_add, show nI (kd + n + hi + lo) + 85 = nI (kd + n + hi + lo + 85) from nI_add _ 85, show (255 : Int32) = nI (2 ^ 8 - 1) from rfl, fa_mask]
    congr 1
    omega
  have z0 : ∀ s, mj_wrs (mj_wrs (mj_wrs (mj_wrs (mj_wrs (mj_wrs m 0 4 (nI L)) 3 0 (nI kd)) 3 1 (nI n)) 3 2 (nI hi)) 3 3 (nI lo)) 3 4 (nI (B 4)) 1 s = m 1 s := fun s => by simp (disch := omega) only [wr_e]
  have z1 : mj_wrs (mj_wrs (mj_wrs (mj_wrs (mj_wrs (mj_wrs m 0 4 (nI L)) 3 0 (nI kd)) 3 1 (nI n)) 3 2 (nI hi)) 3 3 (nI lo)) 3 4 (nI (B 4)) 1 = m 1 := funext z0
  obtain ⟨l', m', e1, e2, g1, g2, g3, g4, g5, g6, g7, g8, g9, g10⟩ := goes_raw (a := 1) (C := 39) (l := l) (m := mj_wrs (mj_wrs (mj_wrs (mj_wrs (mj_wrs (mj_wrs m 0 4 (nI L)) 3 0 (nI kd)) 3 1 (nI n)) 3 2 (nI hi)) 3 3 (nI lo)) 3 4 (nI (B 4))) (word := word) (line := line) (B := fun k => nI (B k)) WA1 (by decide) hwd.1 hwd.2.1 (by rw [z1]; exact hs) hr (by rw [z1]; exact ht) (by rw [z1]; exact ht2) (by rw [z1]; exact hup.1) (fun k hk => by
      rw [hword, ← hW]
      rcases k5 k (by omega) with rfl | rfl | rfl | rfl | rfl
      · rw [ush_k hW31 (s := 24) (by decide), w24]
        show _ = nI (B 0)
        rw [B0]
      · rw [ush_k hW31 (s := 16) (by decide), w16]
        show _ = nI (B 1)
        rw [B1]
      · rw [ush_k hW31 (s := 8) (by decide), w8]
        show _ = nI (B 2)
        rw [B2]
      · rw [ush_k hW31 (s := 0) (by decide), w0]
        show _ = nI (B 3)
        rw [B3]
      · omega) (by
      show nI (B 4) = (85 + nI (B 0) + nI (B 1) + nI (B 2) + nI (B 3)) &&& 255
      rw [← esum, B0, B1, B2, B3]
      congr 1
      rw [show (85 : Int32) = nI 85 from rfl, nI_add, nI_add, nI_add, nI_add, nI_add, nI_add, nI_add, nI_add]
      congr 1
      omega) (fun k hk => by
      show rg 0 (nI (B k)) 255
      have : B k < 256 := by
        rcases k5 k hk with rfl | rfl | rfl | rfl | rfl
        · rw [B0]; omega
        · rw [B1]; omega
        · rw [B2]; omega
        · rw [B3]; omega
        · rw [B4]; omega
      exact ⟨nI_pos' (by omega), nI_le (b := 255) (by omega) (by decide)⟩) (fun k hk => by
      show _ = nI (B k)
      rcases k5 k hk with rfl | rfl | rfl | rfl | rfl
      · rw [B0]; simp (disch := omega) only [wr_e, rs]
      · rw [B1]; simp (disch := omega) only [wr_e, rs]
      · rw [B2]; simp (disch := omega) only [wr_e, rs]
      · rw [B3]; simp (disch := omega) only [wr_e, rs]
      · rw [rs])
  rw [z1] at g5
  have gs : ∀ s, s ≠ 12 → s ≠ 41 → s ≠ 43 → s ≠ 35 → s ≠ 37 → s < 619 ∨ 627 ≤ s → s < 635 ∨ 922 ≤ s → m' 1 s = m 1 s := fun s a b c d e f g => g5 s a b c d e (by omega) (by omega)
  refine ⟨l', m', e1, ?_, ⟨fun k k1 k2 => g1 k k1 (by omega), g2, g3, fun p p0 p1 p3 => ?_, fun j hj => ?_, gs, g6⟩, ⟨g7, ?_, fun i hj => ?_⟩⟩
  · unfold f_X11_goesFrame
    rw [lts, lts, lts, lts, lts, lts, lts, ha5, show f_X11_round (nI kd + nI n + nI hi + nI lo + 85) = nI (B 4) from esum, e2, b1s]
  · rw [g4 p p1 p3]
    simp (disch := omega) only [wr_row]
  · rw [g4 0 (by decide) (by decide)]
    simp (disch := omega) only [wr_e]
  · exact g9 rfl (by rw [z0]; exact hup.2.1)
  · rw [gs 40 (by decide) (by decide) (by decide) (by decide) (by decide) (by omega) (by omega)]
    rcases g10 rfl i hj with ⟨q1, q2, q3⟩ | ⟨q2, q3⟩
    · rw [z0] at q1 q2
      rw [q2, q3]
      exact hup.2.2 i q1
    · have q4 : mj_wrs (mj_wrs (mj_wrs (mj_wrs (mj_wrs (mj_wrs m 0 4 (nI L)) 3 0 (nI kd)) 3 1 (nI n)) 3 2 (nI hi)) 3 3 (nI lo)) 3 4 (nI (B 4)) 0 4 = nI L := by simp (disch := omega) only [wr_e, rs]
      rw [q2, q3, q4, hline, clI (by omega)]
      refine ⟨cn_mk hL (by omega), ?_⟩
      by_cases z : L = 0
      · rw [if_pos z, z, if_pos (by decide)]
      · rw [if_neg z, if_neg (nI_ne0 (by omega) (by omega))]
