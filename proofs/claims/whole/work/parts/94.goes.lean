/-! one goes -/
/-- steps that are no matter of the kernel's unfolding -/
theorem b1s {α γ : Type} (x : α) (k : α → Option γ) : mj_b1 (some x) k = k x := Eq.trans rfl rfl
theorem b2s {α β γ : Type} (x : α) (y : β) (k : α → β → Option γ) : mj_b2 (some (x, y)) k = k x y := Eq.trans rfl rfl
theorem b3s {α β δ γ : Type} (x : α) (y : β) (z : δ) (k : α → β → δ → Option γ) : mj_b3 (some (x, y, z)) k = k x y z := Eq.trans rfl rfl
theorem lts {α β : Type} (x : α) (k : α → β) : mj_let x k = k x := Eq.trans rfl rfl
theorem nI_all (x : Int32) : x = nI x.toBitVec.toNat := by
  apply Int32.toBitVec_inj.1
  show x.toBitVec = BitVec.ofNat 32 x.toBitVec.toNat
  simp
def F_ok (w fa fr we : Nat) (l m lX mX : mj_m) : Prop := (∀ k, k ≠ 1 → k < w ∨ w + 4 < k → lX k = l k) ∧ lX 1 0 = l 1 0 ∧ (∀ j, j < 7 → lX w j = l w j) ∧ lX w 10 = l w 10 ∧ lX (w + 3) = l (w + 3) ∧ (∀ p, p ≠ 1 → mX p = m p) ∧ (∀ s, s ≠ 12 → s ≠ fa → s ≠ we → s < fr ∨ fr + 8 ≤ s → mX 1 s = m 1 s) ∧ lX 1 1 = mX 1 12
def G_ok (a : Int32) (w wd on R G fa fr we : Nat) (l m l' m' : mj_m) (line : Int32) (C : Nat) : Prop := (∀ k, k ≠ 1 → k < w ∨ w + 4 < k → l' k = l k) ∧ l' 1 0 = l 1 0 ∧ (∀ j, j < 7 → l' w j = l w j) ∧ (∀ p, p ≠ 1 → p ≠ 3 → m' p = m p) ∧ (∀ s, s ≠ 12 → s ≠ on → s ≠ fa → s ≠ we → s ≠ 37 → s < fr ∨ fr + 8 ≤ s → s < R ∨ R + G * 41 ≤ s → m' 1 s = m 1 s) ∧ l' 1 1 = m' 1 12 ∧ I_way l' (m' 1) w wd on R G fa fr we (C + 1, 0) ∧ (a = 0 → m' 1 37 = m 1 37) ∧ (a = 1 → l 33 10 = m 1 37 → l' 33 10 = m' 1 37) ∧ (a = 1 → ∀ i, i < mj_cl (m' 1 41) → (i < mj_cl (m 1 41) ∧ m' 1 (635 + 7 * i + 6) = m 1 (635 + 7 * i + 6) ∧ l' 36 i = l 36 i) ∨ (m' 1 (635 + 7 * i + 6) = m 0 4 ∧ l' 36 i = line))
theorem I_way_mn {l : mj_m} {n : Nat → Int32} {w wd on R G fa fr we C : Nat} (h : I_way l n w wd on R G fa fr we (C, 1)) : I_way l n w wd on R G fa fr we (C + 1, 0) := by
  obtain ⟨⟨p1, p2, p3⟩, h2⟩ := h
  refine ⟨⟨p1, ⟨p2.1, Nat.le_succ_of_le p2.2⟩, fun i hi => ?_⟩, h2⟩
  obtain ⟨q1, q2, q3, q4⟩ := p3 i hi
  exact ⟨q1, q2, Nat.le_trans (Nat.le_succ _) q3, q4⟩
theorem G_lost {a : Int32} {w wd on R G fa fr we C : Nat} {l m lX mX : mj_m} {line : Int32} (hW : WA a w wd on R G fa fr we) (h : I_way lX (mX 1) w wd on R G fa fr we (C, 1)) (hF : F_ok w fa fr we l m lX mX) : ∃ m' : mj_m, (if a = 0 then some mX else f_X11_more 37 mX) = some m' ∧ G_ok a w wd on R G fa fr we l m (mj_wrs lX w 10 (lX w 10 + 1)) m' line C := by
  obtain ⟨f1, f2, f3, f4, f5, f6, f7, f8⟩ := hF
  have nb := hW.nb
  have hf := h.2.1
  have hwe := h.2.2
  have g1 : ∀ k, k ≠ 1 → k < w ∨ w + 4 < k → mj_wrs lX w 10 (lX w 10 + 1) k = l k := fun k h1 h2 => by rw [wr_row _ _ _ _ _ (by omega), f1 k h1 h2]
  have g2 : mj_wrs lX w 10 (lX w 10 + 1) 1 0 = l 1 0 := by rw [wr_e (Or.inl (by omega)), f2]
  have g3 : ∀ j, j < 7 → mj_wrs lX w 10 (lX w 10 + 1) w j = l w j := fun j hj => by rw [wr_e (Or.inr (by omega)), f3 j hj]
  have g4 : mj_wrs lX w 10 (lX w 10 + 1) 1 1 = mX 1 12 := by rw [wr_e (Or.inl (by omega)), f8]
  have g5 : mj_wrs lX w 10 (lX w 10 + 1) (w + 3) = l (w + 3) := by rw [wr_row _ _ _ _ _ (by omega), f5]
  have hw : I_way (mj_wrs lX w 10 (lX w 10 + 1)) (mX 1) w wd on R G fa fr we (C + 1, 0) := by
    refine I_way_mn (I_way_c2 hW h (wr_e (Or.inr (by decide))) (wr_row _ _ _ _ _ (by omega)) (wr_row _ _ _ _ _ (by omega)) rfl rfl (fun _ _ _ => rfl) ?_ ?_)
    · rw [wr_e (Or.inr (by decide)), wr_row _ _ _ _ _ (by omega)]
      exact hf
    · rw [wr_e (Or.inr (by decide))]
      exact hwe
  rcases hW with ⟨rfl, rfl, rfl, rfl, rfl, rfl, rfl, rfl, rfl⟩ | ⟨rfl, rfl, rfl, rfl, rfl, rfl, rfl, rfl, rfl⟩
  · rw [if_neg one0, show (37 : Int32) = nI 37 from rfl, more_eq (by decide)]
    have hn : ∀ s, s ≠ 37 → mj_wrs mX 1 37 (mX 1 37 + 1) 1 s = mX 1 s := fun s hs => wr_e (Or.inr hs)
    refine ⟨_, rfl, g1, g2, g3, fun p p1 p3 => by rw [wr_row _ _ _ _ _ p1, f6 p p1], fun s s1 s2 s3 s4 s5 s6 s7 => by rw [hn s s5, f7 s s1 s3 s4 s6], by rw [g4, hn 12 (by decide)], ?_, fun z => absurd z (by decide), fun _ z => ?_, fun _ i hi => ?_⟩
    · refine I_way_c2 WA1 hw rfl rfl rfl (hn _ (by decide)) (hn _ (by decide)) (fun s _ _ => hn s (by omega)) ?_ ?_
      · rw [hn 43 (by decide), show (fun i => mj_wrs mX 1 37 (mX 1 37 + 1) 1 (619 + i)) = fun i => mX 1 (619 + i) from funext (fun i => hn _ (by omega))]
        exact hw.2.1
      · rw [hn 35 (by decide)]
        exact hw.2.2
    · rw [rs, rs, f4, z, f7 37 (by decide) (by decide) (by decide) (by omega)]
    · rw [hn 41 (by decide), f7 41 (by decide) (by decide) (by decide) (by omega)] at hi
      exact Or.inl ⟨hi, by rw [hn _ (by omega), f7 _ (by omega) (by omega) (by omega) (by omega)], by rw [show (36 : Nat) = 33 + 3 from rfl, g5]⟩
  · rw [if_pos rfl]
    exact ⟨_, rfl, g1, g2, g3, fun p p1 p3 => f6 p p1, fun s s1 s2 s3 s4 s5 s6 s7 => f7 s s1 s3 s4 s6, g4, hw, fun _ => f7 37 (by decide) (by decide) (by decide) (by omega), fun z => absurd z (by decide), fun z => absurd z (by decide)⟩
theorem G_put {a : Int32} {w wd on R G fa fr we C c d : Nat} {l m lX mX l' m' : mj_m} {line : Int32} {B : Nat → Int32} (hW : WA a w wd on R G fa fr we) (hC : C ≤ 40) (h : I_way lX (mX 1) w wd on R G fa fr we (C, 1)) (hF : F_ok w fa fr we l m lX mX) (hc : mX 1 on = nI c) (hcC : c ≤ C) (hd : d ≤ mj_cl (mX 1 11) + 40) (hd2 : d < 2 ^ 31) (hBr : ∀ k, k < wd → rg 0 (B k) 255)
    (L1 : ∀ k, k ≠ 1 → k < w ∨ w + 3 < k → l' k = lX k) (L2 : l' 1 0 = lX 1 0) (L3 : ∀ j, j ≠ 7 → j ≠ 10 → l' w j = lX w j) (L4 : l' w 7 = nI (c + 1)) (L5 : ∀ j, l' (w + 2) j = if j = c then nI d else lX (w + 2) j) (L6 : ∀ j, l' (w + 3) j = if j = c then line else lX (w + 3) j) (L7 : ∀ k, k < wd → l' (w + 1) (5 * c + k) = B k) (L8 : ∀ j, j < 5 * c → l' (w + 1) j = lX (w + 1) j)
    (M1 : ∀ p, p ≠ 1 → p ≠ 3 → m' p = mX p) (M2 : m' 1 on = nI (c + 1)) (M3 : m' 1 (R + G * c) = nI d) (M4 : ∀ k, k < wd → m' 1 (R + G * c + 1 + k) = B k) (M5 : a = 1 → m' 1 (635 + 7 * c + 6) = mX 0 4) (M6 : ∀ s, s ≠ on → s ≠ 12 → s ≠ 37 → s < R + G * c ∨ R + G * (c + 1) ≤ s → m' 1 s = mX 1 s)
    (X1 : l' 1 1 = m' 1 12) (X2 : a = 0 → m' 1 37 = mX 1 37) (X3 : a = 1 → lX 33 10 = mX 1 37 → l' 33 10 = m' 1 37) : G_ok a w wd on R G fa fr we l m l' m' line C := by
  obtain ⟨f1, f2, f3, f4, f5, f6, f7, f8⟩ := hF
  have nb := hW.nb
  have hf := h.2.1
  have hwe := h.2.2
  have hG : R + G * (c + 1) ≤ R + G * 41 := Nat.add_le_add_left (Nat.mul_le_mul_left G (by omega)) R
  refine ⟨fun k h1 h2 => by rw [L1 k h1 (by omega), f1 k h1 h2], by rw [L2, f2], fun j hj => by rw [L3 j (by omega) (by omega), f3 j hj], fun p p1 p3 => by rw [M1 p p1 p3, f6 p p1], fun s s1 s2 s3 s4 s5 s6 s7 => by rw [M6 s s2 s1 s5 (by omega), f7 s s1 s3 s4 s6], X1, ?_, fun z => ?_, fun z y => ?_, fun z i hi => ?_⟩
  · refine way_new hW h hC hc hcC hd hd2 hBr L4 L5 L8 L7 M2 M3 M4 (M6 11 (by omega) (by omega) (by omega) (by omega)) (fun s s1 s2 => M6 s (by omega) (by omega) (by omega) (by omega)) ?_ ?_
    · rw [L3 8 (by decide) (by decide), L1 (w + 4) (by omega) (by omega), M6 fa (by rcases hW with ⟨rfl, rfl, rfl, rfl, rfl, rfl, rfl, rfl, rfl⟩ | ⟨rfl, rfl, rfl, rfl, rfl, rfl, rfl, rfl, rfl⟩ <;> decide) (by omega) (by omega) (by omega), show (fun i => m' 1 (fr + i)) = fun i => m' 1 (fr + i) from rfl]
      obtain ⟨q1, q2, q3⟩ := hf
      exact ⟨q1, q2, I_fate_cg q3 (fun i hi => M6 _ (by omega) (by omega) (by omega) (by have := q2.2; rcases hW with ⟨rfl, rfl, rfl, rfl, rfl, rfl, rfl, rfl, rfl⟩ | ⟨rfl, rfl, rfl, rfl, rfl, rfl, rfl, rfl, rfl⟩ <;> omega))⟩
    · rw [L3 9 (by decide) (by decide), M6 we (by omega) (by omega) (by omega) (by omega)]
      exact hwe
  · rw [X2 z, f7 37 (by omega) (by omega) (by omega) (by omega)]
  · refine X3 z ?_
    have e : w = 33 := by
      rcases hW with ⟨rfl, rfl, rfl, rfl, rfl, rfl, rfl, rfl, rfl⟩ | ⟨rfl, rfl, rfl, rfl, rfl, rfl, rfl, rfl, rfl⟩
      · rfl
      · exact absurd z (by decide)
    rw [e] at f4
    rw [f4, y, f7 37 (by omega) (by omega) (by omega) (by omega)]
  · rcases hW with ⟨rfl, rfl, rfl, rfl, rfl, rfl, rfl, rfl, rfl⟩ | ⟨rfl, rfl, rfl, rfl, rfl, rfl, rfl, rfl, rfl⟩
    · rw [M2, clI (by omega)] at hi
      have hm : m 1 41 = nI c := by rw [← f7 41 (by decide) (by decide) (by decide) (by omega), hc]
      by_cases hic : i = c
      · subst hic
        exact Or.inr ⟨by rw [M5 rfl, f6 0 (by decide)], by rw [show (36 : Nat) = 33 + 3 from rfl, L6, if_pos rfl]⟩
      · exact Or.inl ⟨by rw [hm, clI (by omega)]; omega, by rw [M6 _ (by omega) (by omega) (by omega) (by omega), f7 _ (by omega) (by omega) (by omega) (by omega)], by rw [show (36 : Nat) = 33 + 3 from rfl, L6, if_neg hic, f5]⟩
    · exact absurd z (by decide)
theorem goes_r {a : Int32} {w wd on R G fa fr we : Nat} {m : mj_m} (hW : WA a w wd on R G fa fr we) : f_X11_goes a m = mj_b2 (f_X11_isFated a (mj_wrs m 1 we (m 1 we + 1))) (fun r50 m51 => if r50 = 0 then mj_b2 (f_X11_draw 100 m51) (fun r54 m55 => f_X11_goes_J35 a r50 r54 m55) else f_X11_goes_J35 a r50 0 m51) := by
  unfold f_X11_goes f_X11_goes_J12
  rcases hW with ⟨rfl, rfl, rfl, rfl, rfl, rfl, rfl, rfl, rfl⟩ | ⟨rfl, rfl, rfl, rfl, rfl, rfl, rfl, rfl, rfl⟩
  · rw [if_neg one0, show (35 : Int32) = nI 35 from rfl, more_eq (by decide)]
    simp only [mj_b1]
  · rw [if_pos rfl, show (36 : Int32) = nI 36 from rfl, more_eq (by decide)]
    simp only [mj_b1]
theorem goes_c {w : Nat} {word line : Int32} {l : mj_m} : f_X9_goes w word line l = mj_b2 (f_X9_meetsFate w (mj_wrs l w 9 (l w 9 + 1))) (fun r2 m3 => if r2 = 0 then (mj_b2 (f_X0_draw 100 m3) (fun r6 m7 => if m7 2 8 ≤ r6 then (if m7 w 7 < 48 then (mj_b1 (f_X9_put w word line m7) (fun m12 => if m7 2 8 + (m12 2 9) ≤ r6 then (some m12) else (mj_let (mj_wrs m12 w 10 ((m12 w 10) + 1)) (fun m15 => mj_b2 (f_X0_draw (m15 w 1) m15) (fun r16 m17 => mj_let ((((m15 w 7) - 1) * 5) + r16) (fun x19 => mj_chk (mj_ok x19 240) (mj_chk (mj_ok x19 240) (mj_let (mj_wrs m17 (w + 1) (mj_cl x19) (((m17 (w + 1) (mj_cl x19)) + 1) &&& 255)) (fun m22 => some m22))))))))) else (some m7)) else (some (mj_wrs m7 w 10 ((m7 w 10) + 1))))) else (some (mj_wrs m3 w 10 ((m3 w 10) + 1)))) := by
  unfold f_X9_goes
  simp only [mj_let]
set_option maxHeartbeats 1000000 in
theorem goes_raw {a : Int32} {w wd on R G fa fr we C : Nat} {l m : mj_m} {word line : Int32} {B : Nat → Int32} (hW : WA a w wd on R G fa fr we) (hC : C ≤ 40) (hwd : l w 1 = nI wd) (hdl : l w 2 = nI (dlW a)) (hs : I_set l (m 1)) (hr : I_rng l) (ht : l 1 0 = m 1 11) (ht2 : cn (m 1 11) 20000) (h : I_way l (m 1) w wd on R G fa fr we (C, 1)) (hB : ∀ k, k < wd - 1 → mj_ush word (8 * (nI wd - 2 - nI k)) &&& 255 = B k) (hBc : B (wd - 1) = sumB B (wd - 1) &&& 255) (hBr : ∀ k, k < wd → rg 0 (B k) 255) (hb : ∀ k, k < wd → m 3 k = B k) : ∃ l' m' : mj_m, f_X9_goes w word line l = some l' ∧ f_X11_goes a m = some m' ∧ G_ok a w wd on R G fa fr we l m l' m' line C := by
  have nb := hW.nb
  obtain ⟨c, hc41, ec, cc⟩ := cn_i h.1.2.1.1
  have hcC : c ≤ C := by
    have := h.1.2.1.2
    rw [cc] at this
    exact this
  obtain ⟨t, ht3, et, ct⟩ := cn_i ht2
  -- went
  have h1 : I_way (mj_wrs l w 9 (l w 9 + 1)) (mj_wrs m 1 we (m 1 we + 1) 1) w wd on R G fa fr we (C, 1) := by
    refine I_way_c2 hW h (wr_e (Or.inr (by decide))) (wr_row _ _ _ _ _ (by omega)) (wr_row _ _ _ _ _ (by omega)) (wr_e (Or.inr (by omega))) (wr_e (Or.inr (by omega))) (fun s s1 s2 => wr_e (Or.inr (by omega))) ?_ ?_
    · rw [wr_e (Or.inr (by decide)), wr_e (Or.inr (by omega)), show (fun i => mj_wrs m 1 we (m 1 we + 1) 1 (fr + i)) = fun i => m 1 (fr + i) from funext (fun i => wr_e (Or.inr (by omega))), wr_row _ _ _ _ _ (by omega)]
      exact h.2.1
    · rw [rs, rs, h.2.2]
  have F1 : F_ok w fa fr we l m (mj_wrs l w 9 (l w 9 + 1)) (mj_wrs m 1 we (m 1 we + 1)) := ⟨fun k k1 k2 => wr_row _ _ _ _ _ (by omega), wr_e (Or.inl (by omega)), fun j hj => wr_e (Or.inr (by omega)), wr_e (Or.inr (by decide)), wr_row _ _ _ _ _ (by omega), fun p hp => wr_row _ _ _ _ _ hp, fun s s1 s2 s3 s4 => wr_e (Or.inr s3), by rw [wr_e (Or.inl (by omega)), wr_e (Or.inr (by omega))]; exact hs.1⟩
  rw [goes_c, goes_r hW]
  generalize hl1 : mj_wrs l w 9 (l w 9 + 1) = l1 at *
  generalize hm1 : mj_wrs m 1 we (m 1 we + 1) = m1 at *
  obtain ⟨cf, hcf8, ecf, ccf⟩ := cn_i h1.2.1.2.1
  have hfate := h1.2.1.2.2
  rw [ccf] at hfate
  rcases fated hW hcf8 (h1.2.1.1.trans ecf) h1.2.2 ecf hfate with ⟨a1, a2⟩ | ⟨l3, m3, c', a1, a2, a3, a4, a5, a6, a7, a8, a9, a10⟩
  · rw [a1, a2]
    simp only [b2s]
    rw [if_pos trivial, if_pos trivial]
    obtain ⟨f1, f2, f3, f4, f5, f6, f7, f8⟩ := id F1
    obtain ⟨q, hq, d1, d2⟩ := drw (l := l1) (m := m1) f8 (k := 100) (by decide) (by decide)
    rw [show (100 : Int32) = nI 100 from rfl, d1, d2]
    simp only [b2s]
    have F7 : F_ok w fa fr we l m (mj_wrs l1 1 1 (drX (m1 1 12))) (mj_wrs m1 1 12 (drX (m1 1 12))) := ⟨fun k k1 k2 => by rw [wr_row _ _ _ _ _ k1, f1 k k1 k2], by rw [wr_e (Or.inr (by decide)), f2], fun j hj => by rw [wr_e (Or.inl (by omega)), f3 j hj], by rw [wr_e (Or.inl (by omega)), f4], by rw [wr_row _ _ _ _ _ (by omega), f5], fun p hp => by rw [wr_row _ _ _ _ _ hp, f6 p hp], fun s s1 s2 s3 s4 => by rw [wr_e (Or.inr s1), f7 s s1 s2 s3 s4], by rw [rs, rs]⟩
    have h7 : I_way (mj_wrs l1 1 1 (drX (m1 1 12))) (mj_wrs m1 1 12 (drX (m1 1 12)) 1) w wd on R G fa fr we (C, 1) := by
      refine I_way_c2 hW h1 (wr_e (Or.inl (by omega))) (wr_row _ _ _ _ _ (by omega)) (wr_row _ _ _ _ _ (by omega)) (wr_e (Or.inr (by omega))) (wr_e (Or.inr (by omega))) (fun s s1 s2 => wr_e (Or.inr (by omega))) ?_ ?_
      · rw [wr_e (Or.inl (by omega)), wr_e (Or.inr (by omega)), show (fun i => mj_wrs m1 1 12 (drX (m1 1 12)) 1 (fr + i)) = fun i => m1 1 (fr + i) from funext (fun i => wr_e (Or.inr (by omega))), wr_row _ _ _ _ _ (by omega)]
        exact h1.2.1
      · rw [wr_e (Or.inl (by omega)), wr_e (Or.inr (by omega))]
        exact h1.2.2
    generalize mj_wrs l1 1 1 (drX (m1 1 12)) = l7 at *
    generalize mj_wrs m1 1 12 (drX (m1 1 12)) = m7 at *
    clear d1 d2 a1 a2 hfate
    obtain ⟨f1, f2, f3, f4, f5, f6, f7, f8⟩ := id F7
    have s8 : l7 2 8 = m7 1 8 := by rw [f1 2 (by decide) (by omega), f7 8 (by omega) (by omega) (by omega) (by omega)]; exact hs.2.2.2.2.2.2.2.2.2.1
    have s9 : l7 2 9 = m7 1 9 := by rw [f1 2 (by decide) (by omega), f7 9 (by omega) (by omega) (by omega) (by omega)]; exact hs.2.2.2.2.2.2.2.2.2.2.1
    have m7on : m7 1 on = nI c := by rw [f7 on (by omega) (by rcases hW with ⟨rfl, rfl, rfl, rfl, rfl, rfl, rfl, rfl, rfl⟩ | ⟨rfl, rfl, rfl, rfl, rfl, rfl, rfl, rfl, rfl⟩ <;> decide) (by omega) (by omega), ec]
    have l7w : l7 w 7 = nI c := by rw [h7.1.1, m7on]
    rw [s8]
    by_cases hx : m7 1 8 ≤ nI q
    · rw [if_pos hx, l7w, if_pos (show nI c < 48 from nI_lt (b := 48) (by omega) (by decide))]
      -- the delay
      have hdv : ∃ u, 1 ≤ u ∧ u ≤ 40 ∧ l 2 (dlW a) = nI u ∧ m 1 (dlW a) + 3 = nI u ∧ dlW a < 11 := by
        have hu6 := hr.2.2.2.2.2.2.1
        have hu7 := hr.2.2.2.2.2.2.2.1
        have e6 := hs.2.2.2.2.2.2.2.1
        have e7 := hs.2.2.2.2.2.2.2.2.1
        have aux : ∀ x : Int32, rg 1 x 40 → ∃ u : Nat, 1 ≤ u ∧ u ≤ 40 ∧ x = nI u := fun x hx => by
          obtain ⟨u, hu, rfl⟩ := in_lt (a := x) (b := 41) (by decide) (by have := hx.1; grind) (by have := hx.2; intro z; have : (41 : Int32) ≤ x := z; grind)
          refine ⟨u, ?_, by omega, rfl⟩
          have := hx.1
          rcases Nat.eq_zero_or_pos u with z | z
          · subst z
            exact absurd this (by decide)
          · exact z
        rcases hW with ⟨rfl, rfl, rfl, rfl, rfl, rfl, rfl, rfl, rfl⟩ | ⟨rfl, rfl, rfl, rfl, rfl, rfl, rfl, rfl, rfl⟩
        · obtain ⟨u, u1, u2, u3⟩ := aux _ hu6
          exact ⟨u, u1, u2, u3, by rw [← u3]; exact e6.symm, by decide⟩
        · obtain ⟨u, u1, u2, u3⟩ := aux _ hu7
          exact ⟨u, u1, u2, u3, by rw [← u3]; exact e7.symm, by decide⟩
      obtain ⟨u, u1, u2, u3, u4, u5⟩ := hdv
      have l10 : l7 1 0 = nI t := by rw [f2, ht, et]
      have l2d : l7 2 (dlW a) = nI u := by rw [f1 2 (by decide) (by omega), u3]
      have m711 : m7 1 11 = nI t := by rw [f7 11 (by omega) (by omega) (by omega) (by omega), et]
      have m7d : m7 1 (dlW a) + 3 = nI u := by rw [f7 (dlW a) (by omega) (by omega) (by omega) (by omega), u4]
      have m73 : m7 3 = m 3 := f6 3 (by decide)
      obtain ⟨l12, b1, b2, b3, b4, b5, b6, b7, b8⟩ := put_eq (w := w) (wd := wd) (c := c) (dl := dlW a) (word := word) (line := line) (B := B) (m := l7) (by omega) (by omega) (by omega) (by omega) hB hBc (by rw [f3 1 (by decide), hwd]) (by rw [f3 2 (by decide), hdl]) u5 l7w
      rw [l10, l2d, nI_add] at b5
      rw [b1]
      simp only [b1s]
      rw [b2 2 (by omega), s9]
      have hdd : t + u ≤ mj_cl (m7 1 11) + 40 := by
        rw [m711, clI (by omega)]
        omega
      by_cases hy : m7 1 8 + m7 1 9 ≤ nI q
      · rw [if_pos hy, J_put0 hx hy]
        obtain ⟨m', g1, g2, g3, g4, g5, g6, g7⟩ := gput_eq hW (by omega) m7on
        refine ⟨l12, m', rfl, g1, G_put (c := c) (d := t + u) (B := B) hW hC h7 F7 m7on hcC hdd (by omega) hBr (fun k k1 k2 => b2 k k2) (by rw [b2 1 (by omega)]) (fun j j1 _ => b3 j j1) b4 b5 b6 b7 b8 (fun p p1 _ => g2 p p1) g3 (by rw [g4, m711, m7d, nI_add]) (fun k hk => by rw [g5 k hk, m73, hb k hk]) g6 (fun s s1 _ _ s2 => g7 s s1 s2) ?_ (fun z => ?_) (fun z y => ?_)⟩
        · rw [b2 1 (by omega), g7 12 (by omega) (by omega)]
          exact f8
        · rw [g7 37 (by omega) (by omega)]
        · have e : w = 33 := by
            rcases hW with ⟨rfl, rfl, rfl, rfl, rfl, rfl, rfl, rfl, rfl⟩ | ⟨rfl, rfl, rfl, rfl, rfl, rfl, rfl, rfl, rfl⟩
            · rfl
            · exact absurd z (by decide)
          rw [e] at b3
          rw [b3 10 (by decide), g7 37 (by omega) (by omega)]
          exact y
      · rw [if_neg hy, J_put1 hx hy]
        simp only [lts]
        have w1 : mj_wrs l12 w 10 (l12 w 10 + 1) w 1 = nI wd := by rw [wr_e (Or.inr (by decide)), b3 1 (by decide), f3 1 (by decide), hwd]
        have w7 : mj_wrs l12 w 10 (l12 w 10 + 1) w 7 = nI (c + 1) := by rw [wr_e (Or.inr (by decide)), b4]
        -- the second draw, on both sides
        obtain ⟨m39, x0, x1, x2, x3, x4, x5⟩ : ∃ m39 : mj_m, (if a = 0 then f_X11_goes_J106 a 0 1 m7 else mj_b1 (f_X11_more 37 m7) (fun m => f_X11_goes_J106 a 0 1 m)) = f_X11_goes_J106 a 0 1 m39 ∧ (∀ p, p ≠ 1 → m39 p = m7 p) ∧ (∀ s, s ≠ 37 → m39 1 s = m7 1 s) ∧ (a = 0 → m39 1 37 = m7 1 37) ∧ (a = 1 → m39 1 37 = m7 1 37 + 1) ∧ m39 1 12 = m7 1 12 := by
          rcases hW with ⟨rfl, rfl, rfl, rfl, rfl, rfl, rfl, rfl, rfl⟩ | ⟨rfl, rfl, rfl, rfl, rfl, rfl, rfl, rfl, rfl⟩
          · rw [if_neg one0, show (37 : Int32) = nI 37 from rfl, more_eq (by decide)]
            simp only [b1s]
            exact ⟨_, rfl, fun p hp => wr_row _ _ _ _ _ hp, fun s hs => wr_e (Or.inr hs), fun z => absurd z (by decide), fun _ => rs _ _ _ _, wr_e (Or.inr (by decide))⟩
          · rw [if_pos rfl]
            exact ⟨_, rfl, fun _ _ => rfl, fun _ _ => rfl, fun _ => rfl, fun z => absurd z (by decide), rfl⟩
        rw [x0]
        obtain ⟨k, hk, d1, d2⟩ := drw (l := mj_wrs l12 w 10 (l12 w 10 + 1)) (m := m39) (by rw [wr_e (Or.inl (by omega)), b2 1 (by omega), x5]; exact f8) (k := wd) (by omega) (by omega)
        rw [w1, d1, w7]
        simp only [b2s]
        rw [nI_pred, show nI c * 5 = nI (5 * c) from by rw [show (5 : Int32) = nI 5 from rfl, nI_mul, Nat.mul_comm], nI_add, chk_t (okI (by omega) (by decide)), chk_t (okI (by omega) (by decide)), clI (by omega)]
        have hBk : mj_wrs (mj_wrs l12 w 10 (l12 w 10 + 1)) 1 1 (drX (m39 1 12)) (w + 1) (5 * c + k) = B k := by rw [wr_e (Or.inl (by omega)), wr_e (Or.inl (by omega)), b7 k hk]
        rw [hBk]
        have m393 : m39 3 k = B k := by rw [x1 3 (by decide), m73, hb k hk]
        have e106 : f_X11_goes_J106 a 0 1 m39 = f_X11_goes_J147 a (mj_wrs (mj_wrs m39 1 12 (drX (m39 1 12))) 3 k ((B k + 1) &&& 255)) := by
          unfold f_X11_goes_J106
          rw [if_pos rfl, if_neg one0, hW.by]
          simp only [lts]
          rw [d2]
          simp only [b2s]
          rw [chk_t (okI (by omega) (by decide)), chk_t (okI (by omega) (by decide)), clI (by omega), wr_row _ _ _ _ 3 (by decide), m393]
          rfl
        rw [e106]
        obtain ⟨m', g1, g2, g3, g4, g5, g6, g7⟩ := gput_eq (c := c) (m := mj_wrs (mj_wrs m39 1 12 (drX (m39 1 12))) 3 k ((B k + 1) &&& 255)) hW (by omega) (by rw [wr_e (Or.inl (by decide)), wr_e (Or.inr (by omega)), x2 on (by omega), m7on])
        have hr255 : ∀ x : Int32, rg 0 ((x + 1) &&& 255) 255 := fun x => by
          have hxn : ∃ q : Nat, x + 1 = nI q := ⟨_, nI_all _⟩
          obtain ⟨q, hq⟩ := hxn
          rw [hq, show (255 : Int32) = nI (2 ^ 8 - 1) from rfl, fa_mask]
          exact ⟨nI_pos' (by omega), nI_le (b := 255) (by omega) (by decide)⟩
        refine ⟨_, m', rfl, g1, G_put (c := c) (d := t + u) (B := fun j => if j = k then (B k + 1) &&& 255 else B j) hW hC h7 F7 m7on hcC hdd (by omega) (fun j hj => ?_) (fun p p1 p2 => ?_) ?_ (fun j j1 j2 => ?_) ?_ (fun j => ?_) (fun j => ?_) (fun j hj => ?_) (fun j hj => ?_) (fun p p1 p2 => ?_) g3 ?_ (fun j hj => ?_) (fun z => ?_) (fun s s1 s2 s3 s4 => ?_) ?_ (fun z => ?_) (fun z y => ?_)⟩
        · show rg 0 (if j = k then (B k + 1) &&& 255 else B j) 255
          split
          · exact hr255 _
          · exact hBr j hj
        · rw [wr_row _ _ _ _ _ (by omega), wr_row _ _ _ _ _ p1, wr_row _ _ _ _ _ (by omega), b2 p p2]
        · rw [wr_e (Or.inl (by omega)), wr_e (Or.inr (by decide)), wr_e (Or.inl (by omega)), b2 1 (by omega)]
        · rw [wr_e (Or.inl (by omega)), wr_e (Or.inl (by omega)), wr_e (Or.inr j2), b3 j j1]
        · rw [wr_e (Or.inl (by omega)), wr_e (Or.inl (by omega)), w7]
        · rw [wr_e (Or.inl (by omega)), wr_e (Or.inl (by omega)), wr_e (Or.inl (by omega)), b5]
        · rw [wr_e (Or.inl (by omega)), wr_e (Or.inl (by omega)), wr_e (Or.inl (by omega)), b6]
        · show _ = if j = k then (B k + 1) &&& 255 else B j
          by_cases z : j = k
          · rw [if_pos z, z, rs]
          · rw [if_neg z, wr_e (Or.inr (by omega)), wr_e (Or.inl (by omega)), wr_e (Or.inl (by omega)), b7 j hj]
        · rw [wr_e (Or.inr (by omega)), wr_e (Or.inl (by omega)), wr_e (Or.inl (by omega)), b8 j hj]
        · rw [g2 p p1, wr_row _ _ _ _ _ p2, wr_row _ _ _ _ _ p1, x1 p p1]
        · rw [g4]
          simp (disch := omega) only [wr_e, x2]
          rw [m711, m7d, nI_add]
        · show _ = if j = k then (B k + 1) &&& 255 else B j
          rw [g5 j hj]
          by_cases z : j = k
          · rw [if_pos z, z, rs]
          · rw [if_neg z, wr_e (Or.inr z), wr_row _ _ _ _ 3 (by decide), x1 3 (by decide), m73, hb j hj]
        · rw [g6 z, wr_e (Or.inl (by decide)), wr_e (Or.inl (by decide)), x1 0 (by decide)]
        · rw [g7 s s1 s4, wr_e (Or.inl (by decide)), wr_e (Or.inr s2), x2 s s3]
        · rw [wr_e (Or.inl (by omega)), rs, g7 12 (by omega) (by omega), wr_e (Or.inl (by decide)), rs]
        · rw [g7 37 (by omega) (by omega), wr_e (Or.inl (by decide)), wr_e (Or.inr (by decide)), x3 z]
        · have e : w = 33 := by
            rcases hW with ⟨rfl, rfl, rfl, rfl, rfl, rfl, rfl, rfl, rfl⟩ | ⟨rfl, rfl, rfl, rfl, rfl, rfl, rfl, rfl, rfl⟩
            · rfl
            · exact absurd z (by decide)
          subst e
          rw [wr_e (Or.inl (by decide)), wr_e (Or.inl (by decide)), rs, b3 10 (by decide), g7 37 (by omega) (by omega), wr_e (Or.inl (by decide)), wr_e (Or.inr (by decide)), x4 z, y]
    · rw [if_neg hx, J_lost0 hx]
      obtain ⟨m', e1, e2⟩ := G_lost (line := line) hW h7 F7
      exact ⟨_, m', rfl, e1, e2⟩
  · rw [a1, a2]
    simp only [b2s]
    rw [if_neg one0, if_neg one0, J_lost1]
    obtain ⟨f1, f2, f3, f4, f5, f6, f7, f8⟩ := id F1
    have h3 : I_way l3 (m3 1) w wd on R G fa fr we (C, 1) := by
      refine I_way_c2 hW h1 (a4 7 (by decide)) (a3 _ (by omega) (by omega)) (a3 _ (by omega) (by omega)) (a6 on (by rcases hW with ⟨rfl, rfl, rfl, rfl, rfl, rfl, rfl, rfl, rfl⟩ | ⟨rfl, rfl, rfl, rfl, rfl, rfl, rfl, rfl, rfl⟩ <;> decide) (by omega)) (a6 11 (by omega) (by omega)) (fun s s1 s2 => a6 s (by omega) (by rcases hW with ⟨rfl, rfl, rfl, rfl, rfl, rfl, rfl, rfl, rfl⟩ | ⟨rfl, rfl, rfl, rfl, rfl, rfl, rfl, rfl, rfl⟩ <;> omega)) ⟨by rw [a8, a9], by rw [a9]; exact cn_mk a7 (by decide), by rw [a9, clI (by omega)]; exact a10⟩ (by rw [a4 9 (by decide), a6 we (by omega) (by omega)]; exact h1.2.2)
    have F3 : F_ok w fa fr we l m l3 m3 := ⟨fun k k1 k2 => by rw [a3 k (by omega) (by omega), f1 k k1 k2], by rw [a3 1 (by omega) (by omega), f2], fun j hj => by rw [a4 j (by omega), f3 j hj], by rw [a4 10 (by decide), f4], by rw [a3 _ (by omega) (by omega), f5], fun p hp => by rw [a5 p hp, f6 p hp], fun s s1 s2 s3 s4 => by rw [a6 s s2 s4, f7 s s1 s2 s3 s4], by rw [a3 1 (by omega) (by omega), a6 12 (by omega) (by omega), f8]⟩
    obtain ⟨m', e1, e2⟩ := G_lost (line := line) hW h3 F3
    exact ⟨_, m', rfl, e1, e2⟩
