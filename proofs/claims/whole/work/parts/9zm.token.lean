/-! plan: one token -/
def TKN (r m : mj_m) : Prop := (r 1 5 = 0 ∧ m 0 12 = 0) ∨ (r 1 5 = 1 ∧ m 0 12 = 2 ∧ ∃ k : Nat, k ≤ 12 ∧ r 1 8 = nI k ∧ m 0 13 = wm (nI k)) ∨ (r 1 5 = 2 ∧ m 0 12 = 3 ∧ ∃ V : Nat, V < 10000 ∧ r 1 8 = nI V ∧ m 0 13 = nI V) ∨ (r 1 5 = 3 ∧ m 0 12 = 4) ∨ (r 1 5 = 4 ∧ m 0 12 = 1)
def FT (r r' m m' : mj_m) : Prop := (∀ k, k ≠ 1 → r' k = r k) ∧ (∀ s, s < 5 → r' 1 s = r 1 s) ∧ (∀ k, k ≠ 0 → m' k = m k) ∧ ∀ s, s < 10 ∨ 13 < s → m' 0 s = m 0 s
theorem FT.rf (r m : mj_m) : FT r r m m := ⟨fun _ _ => rfl, fun _ _ => rfl, fun _ _ => rfl, fun _ _ => rfl⟩
theorem FT.tr {r r' r'' m m' m'' : mj_m} (h : FT r r' m m') (h' : FT r' r'' m' m'') : FT r r'' m m'' := ⟨fun k a => (h'.1 k a).trans (h.1 k a), fun s a => (h'.2.1 s a).trans (h.2.1 s a), fun k a => (h'.2.2.1 k a).trans (h.2.2.1 k a), fun s a => (h'.2.2.2 s a).trans (h.2.2.2 s a)⟩
theorem FT.wr {r m : mj_m} {s : Nat} (hs : 5 ≤ s) (x : Int32) : FT r (mj_wrs r 1 s x) m m := ⟨fun k a => wr_row _ _ _ _ _ a, fun t ht => wr_e (Or.inr (by omega)), fun _ _ => rfl, fun _ _ => rfl⟩
theorem FT.wm {r m : mj_m} {s : Nat} (hs : 10 ≤ s) (hs' : s ≤ 13) (x : Int32) : FT r r m (mj_wrs m 0 s x) := ⟨fun _ _ => rfl, fun _ _ => rfl, fun k a => wr_row _ _ _ _ _ a, fun t ht => wr_e (Or.inr (by omega))⟩
theorem FT.rd {r r' m m' : mj_m} {c : Nat} (h : FT r r' m m') (hr : RDc r m c) : RDc r' m' c := hr.keep h.1 (h.2.1 1 (by decide)) h.2.2.1 (h.2.2.2 9 (by decide))
theorem let32 : f_X5_isLetter 32 = 0 := by decide
theorem letW {r m : mj_m} {c b : Nat} (hc : c ≤ 400) (h : RDc r m c) (hT : m 7 = tW7) (hb : b < c) (h6 : r 1 6 = nI b) (h7 : r 1 7 = nI b) (h10 : m 0 10 = nI (b + 1)) (h11 : m 0 11 = nI b) (h12 : m 0 12 = 1) (hx : ¬ f_X5_isLetter (m 6 b) = 0) : ∃ (r' m1 m' : mj_m) (a' : Nat) (w : Int32), f_X5_readWord r = some r' ∧ f_X11_reads_L90 mj_fu m = some m1 ∧ f_X11_wordAt (m1 0 11) (m1 0 10) m1 = some w ∧ m' = (if w = -1 then mj_wrs m1 0 13 w else mj_wrs (mj_wrs m1 0 13 w) 0 12 2) ∧ b ≤ a' ∧ a' ≤ c ∧ r' 1 6 = nI b ∧ m' 0 11 = nI b ∧ r' 1 7 = nI a' ∧ m' 0 10 = nI a' ∧ TKN r' m' ∧ FT r r' m m' := by
  have hch := (h.2.2 b (by omega)).1
  have e1 : ∀ n, f_X5_readWord_L0 (n + 1) r = f_X5_readWord_L0 n (mj_wrs r 1 7 (nI (b + 1))) := fun n => by
    rw [f_X5_readWord_L0, h.1, h7, if_neg (nI_ge (by omega) (by omega)), chk_t (okI (by omega) (by decide)), clI (by omega), hch, lts, if_neg hx, lts, nI_1]
  obtain ⟨r1, m1, a', b1, b2, b3, b4, b5, b6, b7, b8, b9, b10, b11, b12⟩ := letL hc (c - (b + 1)) (b + 1) 19999 mj_fu (mj_wrs r 1 7 (nI (b + 1))) m (by omega) (by omega) (by unfold mj_fu; omega) ((FT.wr (m := m) (by decide) (nI (b + 1))).rd h) (rs _ _ _ _) h10
  have f1 : FT r r1 m m1 := (FT.wr (m := m) (s := 7) (by decide) (nI (b + 1))).tr ⟨b8, fun s hs => b9 s (by omega), b10, fun s hs => b11 s (by omega)⟩
  obtain ⟨d, rfl⟩ : ∃ d, a' = b + d := ⟨a' - b, by omega⟩
  have g6 : r1 1 6 = nI b := by rw [b9 6 (by decide), wr_e (Or.inr (by decide)), h6]
  have g11 : m1 0 11 = nI b := by rw [b11 11 (by decide), h11]
  have g12 : m1 0 12 = 1 := by rw [b11 12 (by decide), h12]
  have t6 : m1 6 = m 6 := b10 6 (by decide)
  have hTK : TK m1 b d := ⟨by rw [b10 7 (by decide), hT], by omega, fun i hi z => by
    rw [t6] at z
    by_cases y : i = 0
    · rw [y, Nat.add_zero] at z
      rw [z] at hx
      exact hx let32
    · refine b12 (b + i) (by omega) (by omega) ?_
      rw [z]
      exact let32⟩
  obtain ⟨wa, wb⟩ := wAt hTK
  have eR : f_X5_readWord r = f_X5_readWord_J39 r1 := by
    unfold f_X5_readWord
    rw [show mj_fu = 19999 + 1 from rfl, e1, b1, b1s]
  rcases j39 b3 hc g6 b6 b5 with ⟨w, w1, w2, w3⟩ | ⟨w1, w3⟩
  · have n1 : ¬ wm (nI w) = -1 := (by decide +kernel : ∀ i : Fin 13, ¬ wm (nI i.1) = -1) ⟨w, w1⟩
    refine ⟨_, m1, _, b + d, wm (nI w), eR.trans w3, b2, by rw [g11, b7]; exact wb w w1 w2, rfl, by omega, by omega, ?_, ?_, ?_, ?_, ?_, ?_⟩
    · rw [wr_e (Or.inr (by decide)), wr_e (Or.inr (by decide)), wr_e (Or.inr (by decide)), g6]
    · rw [if_neg n1, wr_e (Or.inr (by decide)), wr_e (Or.inr (by decide)), g11]
    · rw [wr_e (Or.inr (by decide)), wr_e (Or.inr (by decide)), wr_e (Or.inr (by decide)), b6]
    · rw [if_neg n1, wr_e (Or.inr (by decide)), wr_e (Or.inr (by decide)), b7]
    · rw [if_neg n1]
      refine Or.inr (Or.inl ⟨?_, rs _ _ _ _, w, by omega, rs _ _ _ _, ?_⟩)
      · rw [wr_e (Or.inr (by decide)), rs]
      · rw [wr_e (Or.inr (by decide)), rs]
    · rw [if_neg n1]
      exact ((((f1.tr (FT.wr (by decide) _)).tr (FT.wr (by decide) _)).tr (FT.wr (by decide) _)).tr (FT.wm (by decide) (by decide) _)).tr (FT.wm (by decide) (by decide) _)
  · refine ⟨_, m1, _, b + d, -1, eR.trans w3, b2, by rw [g11, b7]; exact wa w1, rfl, by omega, by omega, ?_, ?_, ?_, ?_, ?_, ?_⟩
    · rw [wr_e (Or.inr (by decide)), g6]
    · rw [if_pos rfl, wr_e (Or.inr (by decide)), g11]
    · rw [wr_e (Or.inr (by decide)), b6]
    · rw [if_pos rfl, wr_e (Or.inr (by decide)), b7]
    · rw [if_pos rfl]
      exact Or.inr (Or.inr (Or.inr (Or.inr ⟨rs _ _ _ _, by rw [wr_e (Or.inr (by decide)), g12]⟩)))
    · rw [if_pos rfl]
      exact (f1.tr (FT.wr (by decide) _)).tr (FT.wm (by decide) (by decide) _)
theorem digW {r m : mj_m} {c b : Nat} (hc : c ≤ 400) (h : RDc r m c) (hb : b < c) (h6 : r 1 6 = nI b) (h7 : r 1 7 = nI b) (h10 : m 0 10 = nI (b + 1)) (h11 : m 0 11 = nI b) (h12 : m 0 12 = 1) (hx : ¬ f_X5_isDigit (m 6 b) = 0) : ∃ (r' m1 m' : mj_m) (a' : Nat), f_X5_readNumber r = some r' ∧ f_X11_reads_L166 mj_fu (mj_wrs m 0 13 (m 6 b - 48)) = some m1 ∧ m' = (if 5 ≤ m1 0 10 - m1 0 11 then m1 else mj_wrs m1 0 12 3) ∧ b ≤ a' ∧ a' ≤ c ∧ r' 1 6 = nI b ∧ m' 0 11 = nI b ∧ r' 1 7 = nI a' ∧ m' 0 10 = nI a' ∧ TKN r' m' ∧ FT r r' m m' := by
  have hch := (h.2.2 b (by omega)).1
  obtain ⟨g, hg, eg⟩ := dig_n hx
  obtain ⟨d1, d2⟩ := dig_v (V := 0) (by decide) hg
  rw [show 10 * 0 + g = g by omega, show nI 0 = 0 from rfl] at d1 d2
  have d2' : nI (48 + g) - 48 = nI g := by
    rw [← d2, show (10 : Int32) * 0 = 0 by decide, Int32.zero_add]
  have e1 : ∀ n, f_X5_readNumber_L5 (n + 1) (mj_wrs r 1 8 0) = f_X5_readNumber_L5 n (mj_wrs (mj_wrs (mj_wrs r 1 8 0) 1 8 (nI g)) 1 7 (nI (b + 1))) := fun n => by
    have k1 : mj_wrs r 1 8 0 1 1 = nI c := by rw [wr_e (Or.inr (by decide)), h.1]
    have k7 : mj_wrs r 1 8 0 1 7 = nI b := by rw [wr_e (Or.inr (by decide)), h7]
    have k2 : mj_wrs r 1 8 0 2 b = m 6 b := by rw [wr_e (Or.inl (by decide)), hch]
    have k8 : mj_wrs r 1 8 0 1 8 = 0 := rs _ _ _ _
    have k7' : mj_wrs (mj_wrs r 1 8 0) 1 8 (nI g) 1 7 = nI b := by rw [wr_e (Or.inr (by decide)), k7]
    rw [f_X5_readNumber_L5, k1, k7, if_neg (nI_ge (by omega) (by omega)), chk_t (okI (by omega) (by decide)), clI (by omega), k2, lts, if_neg hx, chk_t (okI (by omega) (by decide)), lts, k8, eg, d1, lts, k7', nI_1]
  have F0 : FT r (mj_wrs (mj_wrs (mj_wrs r 1 8 0) 1 8 (nI g)) 1 7 (nI (b + 1))) m (mj_wrs m 0 13 (m 6 b - 48)) := (((FT.wr (m := m) (by decide) _).tr (FT.wr (by decide) _)).tr (FT.wr (by decide) _)).tr (FT.wm (by decide) (by decide) _)
  obtain ⟨r1, m1, a', b1, b2, b3, b4, b5, b6, b7, b8, b9, b10, b11, b12⟩ := digL (f := b) hc (c - (b + 1)) (b + 1) 19999 mj_fu (mj_wrs (mj_wrs (mj_wrs r 1 8 0) 1 8 (nI g)) 1 7 (nI (b + 1))) (mj_wrs m 0 13 (m 6 b - 48)) (by omega) (by omega) (by unfold mj_fu; omega) (by omega) (F0.rd h) (rs _ _ _ _) (by rw [wr_e (Or.inr (by decide)), h10]) (fun _ => ⟨g, by rw [show b + 1 - b = 1 by omega]; omega, by rw [wr_e (Or.inr (by decide)), rs], by rw [rs, eg, d2']⟩)
  have f1 : FT r r1 m m1 := F0.tr ⟨b9, fun s hs => b10 s (by omega) (by omega), b11, fun s hs => b12 s (by omega) (by omega)⟩
  have g6 : r1 1 6 = nI b := by rw [b10 6 (by decide) (by decide), wr_e (Or.inr (by decide)), wr_e (Or.inr (by decide)), wr_e (Or.inr (by decide)), h6]
  have g11 : m1 0 11 = nI b := by rw [b12 11 (by decide) (by decide), wr_e (Or.inr (by decide)), h11]
  have g12 : m1 0 12 = 1 := by rw [b12 12 (by decide) (by decide), wr_e (Or.inr (by decide)), h12]
  have eR : f_X5_readNumber r = f_X5_readNumber_J71 r1 := by
    unfold f_X5_readNumber
    rw [lts, show mj_fu = 19999 + 1 from rfl, e1, b1, b1s]
  have s1 : r1 1 7 - r1 1 6 = nI (a' - b) := by rw [b6, g6, nI_sub (by omega)]
  have s2 : m1 0 10 - m1 0 11 = nI (a' - b) := by rw [b7, g11, nI_sub (by omega)]
  by_cases z : a' - b ≤ 4
  · have n1 : ¬ (5 : Int32) ≤ m1 0 10 - m1 0 11 := by
      rw [s2]
      exact nI_ge (b := 5) (by omega) (by decide)
    have n2 : ¬ (4 : Int32) < r1 1 7 - r1 1 6 := by
      rw [s1]
      exact nI_nlt (a := 4) (by omega) (by decide)
    have w3 : f_X5_readNumber_J71 r1 = some (mj_wrs r1 1 5 2) := by
      unfold f_X5_readNumber_J71
      rw [if_neg n2, lts]
    obtain ⟨V, v1, v2, v3⟩ := b8 z
    have hp : 10 ^ (a' - b) ≤ 10 ^ 4 := Nat.pow_le_pow_right (by decide) z
    refine ⟨_, m1, _, a', eR.trans w3, b2, rfl, by omega, by omega, ?_, ?_, ?_, ?_, ?_, ?_⟩
    · rw [wr_e (Or.inr (by decide)), g6]
    · rw [if_neg n1, wr_e (Or.inr (by decide)), g11]
    · rw [wr_e (Or.inr (by decide)), b6]
    · rw [if_neg n1, wr_e (Or.inr (by decide)), b7]
    · rw [if_neg n1]
      refine Or.inr (Or.inr (Or.inl ⟨rs _ _ _ _, rs _ _ _ _, V, Nat.lt_of_lt_of_le v1 hp, ?_, ?_⟩))
      · rw [wr_e (Or.inr (by decide)), v2]
      · rw [wr_e (Or.inr (by decide)), v3]
    · rw [if_neg n1]
      exact (f1.tr (FT.wr (by decide) _)).tr (FT.wm (by decide) (by decide) _)
  · have n1 : (5 : Int32) ≤ m1 0 10 - m1 0 11 := by
      rw [s2]
      exact nI_le (a := 5) (by omega) (by omega)
    have n2 : (4 : Int32) < r1 1 7 - r1 1 6 := by
      rw [s1]
      exact nI_lt (a := 4) (by omega) (by omega)
    have w3 : f_X5_readNumber_J71 r1 = some (mj_wrs r1 1 5 4) := by
      unfold f_X5_readNumber_J71
      rw [if_pos n2, lts]
    refine ⟨_, m1, _, a', eR.trans w3, b2, rfl, by omega, by omega, ?_, ?_, ?_, ?_, ?_, ?_⟩
    · rw [wr_e (Or.inr (by decide)), g6]
    · rw [if_pos n1, g11]
    · rw [wr_e (Or.inr (by decide)), b6]
    · rw [if_pos n1, b7]
    · rw [if_pos n1]
      exact Or.inr (Or.inr (Or.inr (Or.inr ⟨rs _ _ _ _, g12⟩)))
    · rw [if_pos n1]
      exact f1.tr (FT.wr (by decide) _)
theorem tokE {r m : mj_m} {c a : Nat} (hc : c ≤ 400) (h : RDc r m c) (hT : m 7 = tW7) (ha : a ≤ c) (h7 : r 1 7 = nI a) (h10 : m 0 10 = nI a) : ∃ (r' m' : mj_m) (b a' : Nat), f_X5_nextToken r = some r' ∧ f_X11_reads m = some m' ∧ b ≤ a' ∧ a' ≤ c ∧ r' 1 6 = nI b ∧ m' 0 11 = nI b ∧ r' 1 7 = nI a' ∧ m' 0 10 = nI a' ∧ TKN r' m' ∧ FT r r' m m' := by
  obtain ⟨r1, m1, b, b1, b2, b3, b4, b5, b6, b7, b8, b9, b10, b11⟩ := skipL hc (c - a) a mj_fu mj_fu (mj_wrs r 1 6 (r 1 7)) m (by omega) (by unfold mj_fu; omega) (by unfold mj_fu; omega) ((FT.wr (m := m) (by decide) (r 1 7)).rd h) (by rw [rs, h7]) h10
  have f1 : FT r r1 m m1 := (FT.wr (m := m) (s := 6) (by decide) (r 1 7)).tr ⟨b8, fun s hs => b9 s (by omega), b10, fun s hs => b11 s (by omega)⟩
  obtain ⟨r2, er2⟩ : ∃ r2, r2 = mj_wrs r1 1 7 (nI b) := ⟨_, rfl⟩
  obtain ⟨m2, em2⟩ : ∃ m2, m2 = mj_wrs (mj_wrs m1 0 11 (nI b)) 0 12 1 := ⟨_, rfl⟩
  have f2 : FT r r2 m m2 := by
    rw [er2, em2]
    exact ((f1.tr (FT.wr (by decide) _)).tr (FT.wm (by decide) (by decide) _)).tr (FT.wm (by decide) (by decide) _)
  have rd2 : RDc r2 m2 c := f2.rd h
  have k6 : r2 1 6 = nI b := by rw [er2, wr_e (Or.inr (by decide)), b6]
  have k7 : r2 1 7 = nI b := by rw [er2, rs]
  have k10 : m2 0 10 = nI b := by rw [em2, wr_e (Or.inr (by decide)), wr_e (Or.inr (by decide)), b7]
  have k11 : m2 0 11 = nI b := by rw [em2, wr_e (Or.inr (by decide)), rs]
  have k12 : m2 0 12 = 1 := by rw [em2, rs]
  have eC : f_X5_nextToken r = f_X5_nextToken_J47 r1 := by
    unfold f_X5_nextToken
    rw [lts, b1, b1s]
  have eC2 : f_X5_nextToken_J47 r1 = if nI b < nI c then mj_chk (mj_ok (nI b) 400) (if f_X5_isLetter (r2 2 (mj_cl (nI b))) = 0 then mj_chk (mj_ok (nI b) 400) (if f_X5_isDigit (r2 2 (mj_cl (nI b))) = 0 then mj_chk (mj_ok (nI b) 400) (if r2 2 (mj_cl (nI b)) = 59 then f_X5_nextToken_J138 3 r2 else f_X5_nextToken_J138 4 r2) else f_X5_readNumber r2) else f_X5_readWord r2) else some (mj_wrs r2 1 5 0) := by
    unfold f_X5_nextToken_J47
    rw [b6, ← er2, lts, k6, rd2.1]
    simp only [id1, lts]
  have eR : f_X11_reads m = mj_b1 (f_X11_raw (nI b) m2) (fun x => if x = -1 then some (mj_wrs m2 0 12 0) else if f_X11_isLetter x = 0 then (if f_X11_isDigit x = 0 then (if x = 59 then some (mj_wrs (mj_wrs m2 0 10 (nI (b + 1))) 0 12 4) else some (mj_wrs m2 0 10 (nI (b + 1)))) else mj_b1 (f_X11_reads_L166 mj_fu (mj_wrs (mj_wrs m2 0 10 (nI (b + 1))) 0 13 (x - 48))) (fun y => if 5 ≤ (y 0 10) - (y 0 11) then some y else some (mj_wrs y 0 12 3))) else mj_b1 (f_X11_reads_L90 mj_fu (mj_wrs m2 0 10 (nI (b + 1)))) (fun y => mj_b1 (f_X11_wordAt (y 0 11) (y 0 10) y) (fun w => if mj_wrs y 0 13 w 0 13 = -1 then some (mj_wrs y 0 13 w) else some (mj_wrs (mj_wrs y 0 13 w) 0 12 2)))) := by
    unfold f_X11_reads
    rw [b2, b1s, lts, b7, lts, ← em2, k10, nI_1]
    simp only [lts]
  rw [eC, eC2, eR, raw_eq rd2 hc b5, b1s]
  by_cases z : b = c
  · refine ⟨mj_wrs r2 1 5 0, mj_wrs m2 0 12 0, b, b, ?_, ?_, Nat.le_refl _, b5, ?_, ?_, ?_, ?_, Or.inl ⟨rs _ _ _ _, rs _ _ _ _⟩, (f2.tr (FT.wr (by decide) _)).tr (FT.wm (by decide) (by decide) _)⟩
    · rw [if_neg (nI_nlt (by omega) (by omega))]
    · rw [if_pos z, if_pos rfl]
    · rw [wr_e (Or.inr (by decide)), k6]
    · rw [wr_e (Or.inr (by decide)), k11]
    · rw [wr_e (Or.inr (by decide)), k7]
    · rw [wr_e (Or.inr (by decide)), k10]
  · have hb : b < c := by omega
    obtain ⟨hch, hrg⟩ := rd2.2.2 b hb
    have hm1 : ¬ m2 6 b = -1 := fun y => by
      rw [y] at hrg
      exact absurd hrg.1 (by decide)
    have f3 : FT r r2 m (mj_wrs m2 0 10 (nI (b + 1))) := f2.tr (FT.wm (by decide) (by decide) _)
    have q6 : mj_wrs m2 0 10 (nI (b + 1)) 6 b = m2 6 b := wr_e (Or.inl (by decide))
    have q11 : mj_wrs m2 0 10 (nI (b + 1)) 0 11 = nI b := by rw [wr_e (Or.inr (by decide)), k11]
    have q12 : mj_wrs m2 0 10 (nI (b + 1)) 0 12 = 1 := by rw [wr_e (Or.inr (by decide)), k12]
    rw [if_pos (nI_lt hb (by omega)), chk_t (okI (by omega) (by decide)), clI (by omega), hch, if_neg z, if_neg hm1, letter_eq]
    by_cases y : f_X5_isLetter (m2 6 b) = 0
    · rw [if_pos y, if_pos y, chk_t (okI (by omega) (by decide)), digit_eq]
      by_cases x : f_X5_isDigit (m2 6 b) = 0
      · rw [if_pos x, if_pos x, chk_t (okI (by omega) (by decide))]
        have k138 : ∀ s : Int32, f_X5_nextToken_J138 s r2 = some (mj_wrs (mj_wrs r2 1 5 s) 1 7 (nI (b + 1))) := fun s => by
          unfold f_X5_nextToken_J138
          rw [lts, lts, wr_e (Or.inr (by decide)), k7, nI_1]
        by_cases w : m2 6 b = 59
        · rw [if_pos w, if_pos w, k138]
          refine ⟨_, _, b, b + 1, rfl, rfl, by omega, by omega, ?_, ?_, rs _ _ _ _, ?_, Or.inr (Or.inr (Or.inr (Or.inl ⟨?_, rs _ _ _ _⟩))), ((f3.tr (FT.wr (by decide) _)).tr (FT.wr (by decide) _)).tr (FT.wm (by decide) (by decide) _)⟩
          · rw [wr_e (Or.inr (by decide)), wr_e (Or.inr (by decide)), k6]
          · rw [wr_e (Or.inr (by decide)), q11]
          · rw [wr_e (Or.inr (by decide)), rs]
          · rw [wr_e (Or.inr (by decide)), rs]
        · rw [if_neg w, if_neg w, k138]
          refine ⟨_, _, b, b + 1, rfl, rfl, by omega, by omega, ?_, q11, rs _ _ _ _, rs _ _ _ _, Or.inr (Or.inr (Or.inr (Or.inr ⟨?_, q12⟩))), (f3.tr (FT.wr (by decide) _)).tr (FT.wr (by decide) _)⟩
          · rw [wr_e (Or.inr (by decide)), wr_e (Or.inr (by decide)), k6]
          · rw [wr_e (Or.inr (by decide)), rs]
      · rw [if_neg x, if_neg x]
        obtain ⟨r', m3, m', a', g1, g2, g3, g4, g5, g6, g7, g8, g9, g10, g11⟩ := digW (m := mj_wrs m2 0 10 (nI (b + 1))) hc (f3.rd h) hb k6 k7 (rs _ _ _ _) q11 q12 (by rw [q6]; exact x)
        rw [q6] at g2
        refine ⟨r', m', b, a', g1, ?_, g4, g5, g6, g7, g8, g9, g10, f3.tr g11⟩
        rw [g2, b1s, g3]
        by_cases v : (5 : Int32) ≤ m3 0 10 - m3 0 11
        · rw [if_pos v, if_pos v]
        · rw [if_neg v, if_neg v]
    · rw [if_neg y, if_neg y]
      obtain ⟨r', m3, m', a', w, g1, g2, g3, g4, g5, g6, g7, g8, g9, g10, g11, g12⟩ := letW (m := mj_wrs m2 0 10 (nI (b + 1))) hc (f3.rd h) (by rw [wr_row _ _ _ _ _ (by decide), f2.2.2.1 7 (by decide), hT]) hb k6 k7 (rs _ _ _ _) q11 q12 (by rw [q6]; exact y)
      refine ⟨r', m', b, a', g1, ?_, g5, g6, g7, g8, g9, g10, g11, f3.tr g12⟩
      rw [g2, b1s, g3, b1s, rs, g4]
      by_cases v : w = -1
      · rw [if_pos v, if_pos v]
      · rw [if_neg v, if_neg v]
