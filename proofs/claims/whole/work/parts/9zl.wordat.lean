/-! plan: the words of the reference -/
def tW7 : Nat → Int32 := mj_pre lst_X11_init_q7 71
def WP (p j p' : Nat) : Prop := (∀ i, i < (wd j).length → tW7 (p + 1 + i) = (wd j).getD i 0 ∧ tW7 (p + 1 + i) ≠ 32) ∧ tW7 p' = 32 ∧ p' = p + 1 + (wd j).length ∧ p' < 71
def TK (m : mj_m) (f d : Nat) : Prop := m 7 = tW7 ∧ f + d ≤ 400 ∧ ∀ i, i < d → m 6 (f + i) ≠ 32
theorem w19 {m : mj_m} {f d p j p' : Nat} (h : TK m f d) (hW : WP p j p') (l3 : Int32) : ∀ (k i n : Nat), i + k = d → k < n → i ≤ (wd j).length → (∀ q, q < i → m 6 (f + q) = (wd j).getD q 0) → ∃ e, f_X11_wordAt_L19 (nI f) (nI (f + d)) l3 (nI p) n (nI i) m = some (nI e) ∧ e ≤ d ∧ e ≤ (wd j).length ∧ (∀ q, q < e → m 6 (f + q) = (wd j).getD q 0) ∧ (e < d → ¬ tW7 (p + 1 + e) = m 6 (f + e)) := by
  obtain ⟨t1, t2, t3⟩ := h
  obtain ⟨w1, w2, w3, w4⟩ := hW
  intro k
  induction k with
  | zero =>
    intro i n hi hn hl hq
    obtain ⟨n, rfl⟩ : ∃ k, n = k + 1 := ⟨n - 1, by omega⟩
    refine ⟨i, ?_, by omega, hl, hq, fun z => by omega⟩
    rw [f_X11_wordAt_L19, nI_add, if_pos (nI_le (by omega) (by omega))]
  | succ k ih =>
    intro i n hi hn hl hq
    obtain ⟨n, rfl⟩ : ∃ k, n = k + 1 := ⟨n - 1, by omega⟩
    have e : f_X11_wordAt_L19 (nI f) (nI (f + d)) l3 (nI p) (n + 1) (nI i) m = if tW7 (p + 1 + i) = m 6 (f + i) then f_X11_wordAt_L19 (nI f) (nI (f + d)) l3 (nI p) n (nI (i + 1)) m else some (nI i) := by
      rw [f_X11_wordAt_L19, nI_add, if_neg (nI_ge (by omega) (by omega)), nI_1 p, nI_add, chk_t (okI (by omega) (by decide)), chk_t (okI (by omega) (by decide)), clI (by omega), clI (by omega), t1, lts, nI_1]
    rw [e]
    by_cases z : tW7 (p + 1 + i) = m 6 (f + i)
    · rw [if_pos z]
      have hlt : i < (wd j).length := by
        refine Nat.lt_of_le_of_ne hl (fun y => t3 i (by omega) ?_)
        rw [← z, y, ← w3]
        exact w2
      exact ih (i + 1) n (by omega) (by omega) hlt (fun q hq1 => by
        by_cases y : q = i
        · rw [y, ← z, (w1 i hlt).1]
        · exact hq q (by omega))
    · rw [if_neg z]
      exact ⟨i, rfl, by omega, hl, hq, fun _ => z⟩
theorem w93 {m : mj_m} {p j p' : Nat} (h7 : m 7 = tW7) (hW : WP p j p') (l1 l2 l3 : Int32) : ∀ (k i n : Nat), i + k = (wd j).length → k < n → f_X11_wordAt_L93 l1 l2 l3 n (nI (p + 1 + i)) m = some (nI p') := by
  obtain ⟨w1, w2, w3, w4⟩ := hW
  intro k
  induction k with
  | zero =>
    intro i n hi hn
    obtain ⟨n, rfl⟩ : ∃ k, n = k + 1 := ⟨n - 1, by omega⟩
    have e : p + 1 + i = p' := by omega
    rw [f_X11_wordAt_L93, e, chk_t (okI (by omega) (by decide)), clI (by omega), h7, if_pos w2]
  | succ k ih =>
    intro i n hi hn
    obtain ⟨n, rfl⟩ : ∃ k, n = k + 1 := ⟨n - 1, by omega⟩
    rw [f_X11_wordAt_L93, chk_t (okI (by omega) (by decide)), clI (by omega), h7, if_neg (w1 i (by omega)).2, lts, nI_1]
    exact ih (i + 1) n (by omega) (by omega)
theorem w5 {m : mj_m} {f d p j p' : Nat} (h : TK m f d) (hW : WP p j p') (n : Nat) {l3 l3' : Int32} (hl : l3 + 1 = l3') : (mt (fun i => m 6 (f + i)) d j → f_X11_wordAt_L5 (nI f) (nI (f + d)) (n + 1) l3 (nI p) m = some (85, l3')) ∧ (¬ mt (fun i => m 6 (f + i)) d j → f_X11_wordAt_L5 (nI f) (nI (f + d)) (n + 1) l3 (nI p) m = f_X11_wordAt_L5 (nI f) (nI (f + d)) n l3' (nI p') m) := by
  obtain ⟨e, e1, e2, e3, e4, e5⟩ := w19 h hW l3' d 0 mj_fu (by omega) (by have := h.2.1; unfold mj_fu; omega) (by omega) (fun q hq => by omega)
  have e1' : f_X11_wordAt_L19 (nI f) (nI (f + d)) l3' (nI p) mj_fu 0 m = some (nI e) := e1
  have s := w93 h.1 hW (nI f) (nI (f + d)) l3' (wd j).length 0 mj_fu (by omega) (by have := hW.2.2; unfold mj_fu; omega)
  have s' : f_X11_wordAt_L93 (nI f) (nI (f + d)) l3' mj_fu (nI (p + 1)) m = some (nI p') := s
  obtain ⟨t1, t2, t3⟩ := h
  obtain ⟨w1, w2, w3, w4⟩ := hW
  rw [f_X11_wordAt_L5, if_neg (show ¬ (70 : Int32) ≤ nI p from nI_ge (b := 70) (by omega) (by decide)), lts, hl, e1', b1s, nI_add]
  by_cases z : e = d
  · rw [if_pos (show nI (f + e) = nI (f + d) by rw [z]), nI_1, nI_add, chk_t (okI (by omega) (by decide)), clI (by omega), t1, lts, s', b1s]
    by_cases y : (wd j).length = d
    · have q : mt (fun i => m 6 (f + i)) d j := ⟨y, fun i hi => e4 i (by omega)⟩
      refine ⟨fun _ => ?_, fun z => absurd q z⟩
      rw [if_pos (by rw [show p + 1 + e = p' by omega]; exact w2)]
    · refine ⟨fun z => absurd z.1 y, fun _ => ?_⟩
      rw [if_neg (w1 e (by omega)).2]
  · rw [if_neg (show ¬ nI (f + e) = nI (f + d) from fun w => by
      have := (nI_eq (by omega) (by omega)).mp w
      omega), lts, nI_1, s', b1s]
    refine ⟨fun y => ?_, fun _ => rfl⟩
    refine absurd ?_ (e5 (by omega))
    have y1 := y.1
    exact (w1 e (by omega)).1.trans (y.2 e (by omega)).symm
theorem WP_0 : WP 0 0 5 := ⟨by decide +kernel, by decide +kernel, by decide +kernel, by decide +kernel⟩
theorem WP_1 : WP 5 1 10 := ⟨by decide +kernel, by decide +kernel, by decide +kernel, by decide +kernel⟩
theorem WP_5 : WP 10 5 14 := ⟨by decide +kernel, by decide +kernel, by decide +kernel, by decide +kernel⟩
theorem WP_8 : WP 14 8 23 := ⟨by decide +kernel, by decide +kernel, by decide +kernel, by decide +kernel⟩
theorem WP_10 : WP 23 10 28 := ⟨by decide +kernel, by decide +kernel, by decide +kernel, by decide +kernel⟩
theorem WP_12 : WP 28 12 33 := ⟨by decide +kernel, by decide +kernel, by decide +kernel, by decide +kernel⟩
theorem WP_2 : WP 33 2 39 := ⟨by decide +kernel, by decide +kernel, by decide +kernel, by decide +kernel⟩
theorem WP_3 : WP 39 3 45 := ⟨by decide +kernel, by decide +kernel, by decide +kernel, by decide +kernel⟩
theorem WP_4 : WP 45 4 52 := ⟨by decide +kernel, by decide +kernel, by decide +kernel, by decide +kernel⟩
theorem WP_6 : WP 52 6 57 := ⟨by decide +kernel, by decide +kernel, by decide +kernel, by decide +kernel⟩
theorem WP_7 : WP 57 7 60 := ⟨by decide +kernel, by decide +kernel, by decide +kernel, by decide +kernel⟩
theorem WP_9 : WP 60 9 65 := ⟨by decide +kernel, by decide +kernel, by decide +kernel, by decide +kernel⟩
theorem WP_11 : WP 65 11 70 := ⟨by decide +kernel, by decide +kernel, by decide +kernel, by decide +kernel⟩
theorem wAt {m : mj_m} {f d : Nat} (h : TK m f d) : ((∀ w, w < 13 → ¬ mt (fun i => m 6 (f + i)) d w) → f_X11_wordAt (nI f) (nI (f + d)) m = some (-1)) ∧ ∀ w, w < 13 → mt (fun i => m 6 (f + i)) d w → f_X11_wordAt (nI f) (nI (f + d)) m = some (wm (nI w)) := by
  refine ⟨fun hn => ?_, fun w hw hm => ?_⟩
  · have e : f_X11_wordAt_L5 (nI f) (nI (f + d)) (19999 + 1) (-1) (nI 0) m = some (117, 0) := by
      refine ((w5 h WP_0 19999 (l3 := -1) (l3' := 0) (by decide)).2 (hn 0 (by decide))).trans ?_
      refine ((w5 h WP_1 19998 (l3 := 0) (l3' := 1) (by decide)).2 (hn 1 (by decide))).trans ?_
      refine ((w5 h WP_5 19997 (l3 := 1) (l3' := 2) (by decide)).2 (hn 5 (by decide))).trans ?_
      refine ((w5 h WP_8 19996 (l3 := 2) (l3' := 3) (by decide)).2 (hn 8 (by decide))).trans ?_
      refine ((w5 h WP_10 19995 (l3 := 3) (l3' := 4) (by decide)).2 (hn 10 (by decide))).trans ?_
      refine ((w5 h WP_12 19994 (l3 := 4) (l3' := 5) (by decide)).2 (hn 12 (by decide))).trans ?_
      refine ((w5 h WP_2 19993 (l3 := 5) (l3' := 6) (by decide)).2 (hn 2 (by decide))).trans ?_
      refine ((w5 h WP_3 19992 (l3 := 6) (l3' := 7) (by decide)).2 (hn 3 (by decide))).trans ?_
      refine ((w5 h WP_4 19991 (l3 := 7) (l3' := 8) (by decide)).2 (hn 4 (by decide))).trans ?_
      refine ((w5 h WP_6 19990 (l3 := 8) (l3' := 9) (by decide)).2 (hn 6 (by decide))).trans ?_
      refine ((w5 h WP_7 19989 (l3 := 9) (l3' := 10) (by decide)).2 (hn 7 (by decide))).trans ?_
      refine ((w5 h WP_9 19988 (l3 := 10) (l3' := 11) (by decide)).2 (hn 9 (by decide))).trans ?_
      refine ((w5 h WP_11 19987 (l3 := 11) (l3' := 12) (by decide)).2 (hn 11 (by decide))).trans ?_
      rw [show (19987 : Nat) = 19986 + 1 from rfl, f_X11_wordAt_L5, if_pos (by decide)]
    unfold f_X11_wordAt
    rw [show mj_fu = 19999 + 1 from rfl, show (0 : Int32) = nI 0 from rfl, e, b2s, if_neg (by decide)]
  · have no : ∀ v, v < 13 → v ≠ w → ¬ mt (fun i => m 6 (f + i)) d v := fun v h1 h2 h3 => h2 (mt_u h1 hw h3 hm)
    have e : f_X11_wordAt_L5 (nI f) (nI (f + d)) (19999 + 1) (-1) (nI 0) m = some (85, wm (nI w)) := by
      rcases (by omega : w = 0 ∨ w = 1 ∨ w = 2 ∨ w = 3 ∨ w = 4 ∨ w = 5 ∨ w = 6 ∨ w = 7 ∨ w = 8 ∨ w = 9 ∨ w = 10 ∨ w = 11 ∨ w = 12) with rfl | rfl | rfl | rfl | rfl | rfl | rfl | rfl | rfl | rfl | rfl | rfl | rfl
      · exact ((w5 h WP_0 19999 (l3 := -1) (l3' := 0) (by decide)).1 hm).trans (by decide +kernel)
      · refine ((w5 h WP_0 19999 (l3 := -1) (l3' := 0) (by decide)).2 (no 0 (by decide) (by decide))).trans ?_
        exact ((w5 h WP_1 19998 (l3 := 0) (l3' := 1) (by decide)).1 hm).trans (by decide +kernel)
      · refine ((w5 h WP_0 19999 (l3 := -1) (l3' := 0) (by decide)).2 (no 0 (by decide) (by decide))).trans ?_
        refine ((w5 h WP_1 19998 (l3 := 0) (l3' := 1) (by decide)).2 (no 1 (by decide) (by decide))).trans ?_
        refine ((w5 h WP_5 19997 (l3 := 1) (l3' := 2) (by decide)).2 (no 5 (by decide) (by decide))).trans ?_
        refine ((w5 h WP_8 19996 (l3 := 2) (l3' := 3) (by decide)).2 (no 8 (by decide) (by decide))).trans ?_
        refine ((w5 h WP_10 19995 (l3 := 3) (l3' := 4) (by decide)).2 (no 10 (by decide) (by decide))).trans ?_
        refine ((w5 h WP_12 19994 (l3 := 4) (l3' := 5) (by decide)).2 (no 12 (by decide) (by decide))).trans ?_
        exact ((w5 h WP_2 19993 (l3 := 5) (l3' := 6) (by decide)).1 hm).trans (by decide +kernel)
      · refine ((w5 h WP_0 19999 (l3 := -1) (l3' := 0) (by decide)).2 (no 0 (by decide) (by decide))).trans ?_
        refine ((w5 h WP_1 19998 (l3 := 0) (l3' := 1) (by decide)).2 (no 1 (by decide) (by decide))).trans ?_
        refine ((w5 h WP_5 19997 (l3 := 1) (l3' := 2) (by decide)).2 (no 5 (by decide) (by decide))).trans ?_
        refine ((w5 h WP_8 19996 (l3 := 2) (l3' := 3) (by decide)).2 (no 8 (by decide) (by decide))).trans ?_
        refine ((w5 h WP_10 19995 (l3 := 3) (l3' := 4) (by decide)).2 (no 10 (by decide) (by decide))).trans ?_
        refine ((w5 h WP_12 19994 (l3 := 4) (l3' := 5) (by decide)).2 (no 12 (by decide) (by decide))).trans ?_
        refine ((w5 h WP_2 19993 (l3 := 5) (l3' := 6) (by decide)).2 (no 2 (by decide) (by decide))).trans ?_
        exact ((w5 h WP_3 19992 (l3 := 6) (l3' := 7) (by decide)).1 hm).trans (by decide +kernel)
      · refine ((w5 h WP_0 19999 (l3 := -1) (l3' := 0) (by decide)).2 (no 0 (by decide) (by decide))).trans ?_
        refine ((w5 h WP_1 19998 (l3 := 0) (l3' := 1) (by decide)).2 (no 1 (by decide) (by decide))).trans ?_
        refine ((w5 h WP_5 19997 (l3 := 1) (l3' := 2) (by decide)).2 (no 5 (by decide) (by decide))).trans ?_
        refine ((w5 h WP_8 19996 (l3 := 2) (l3' := 3) (by decide)).2 (no 8 (by decide) (by decide))).trans ?_
        refine ((w5 h WP_10 19995 (l3 := 3) (l3' := 4) (by decide)).2 (no 10 (by decide) (by decide))).trans ?_
        refine ((w5 h WP_12 19994 (l3 := 4) (l3' := 5) (by decide)).2 (no 12 (by decide) (by decide))).trans ?_
        refine ((w5 h WP_2 19993 (l3 := 5) (l3' := 6) (by decide)).2 (no 2 (by decide) (by decide))).trans ?_
        refine ((w5 h WP_3 19992 (l3 := 6) (l3' := 7) (by decide)).2 (no 3 (by decide) (by decide))).trans ?_
        exact ((w5 h WP_4 19991 (l3 := 7) (l3' := 8) (by decide)).1 hm).trans (by decide +kernel)
      · refine ((w5 h WP_0 19999 (l3 := -1) (l3' := 0) (by decide)).2 (no 0 (by decide) (by decide))).trans ?_
        refine ((w5 h WP_1 19998 (l3 := 0) (l3' := 1) (by decide)).2 (no 1 (by decide) (by decide))).trans ?_
        exact ((w5 h WP_5 19997 (l3 := 1) (l3' := 2) (by decide)).1 hm).trans (by decide +kernel)
      · refine ((w5 h WP_0 19999 (l3 := -1) (l3' := 0) (by decide)).2 (no 0 (by decide) (by decide))).trans ?_
        refine ((w5 h WP_1 19998 (l3 := 0) (l3' := 1) (by decide)).2 (no 1 (by decide) (by decide))).trans ?_
        refine ((w5 h WP_5 19997 (l3 := 1) (l3' := 2) (by decide)).2 (no 5 (by decide) (by decide))).trans ?_
        refine ((w5 h WP_8 19996 (l3 := 2) (l3' := 3) (by decide)).2 (no 8 (by decide) (by decide))).trans ?_
        refine ((w5 h WP_10 19995 (l3 := 3) (l3' := 4) (by decide)).2 (no 10 (by decide) (by decide))).trans ?_
        refine ((w5 h WP_12 19994 (l3 := 4) (l3' := 5) (by decide)).2 (no 12 (by decide) (by decide))).trans ?_
        refine ((w5 h WP_2 19993 (l3 := 5) (l3' := 6) (by decide)).2 (no 2 (by decide) (by decide))).trans ?_
        refine ((w5 h WP_3 19992 (l3 := 6) (l3' := 7) (by decide)).2 (no 3 (by decide) (by decide))).trans ?_
        refine ((w5 h WP_4 19991 (l3 := 7) (l3' := 8) (by decide)).2 (no 4 (by decide) (by decide))).trans ?_
        exact ((w5 h WP_6 19990 (l3 := 8) (l3' := 9) (by decide)).1 hm).trans (by decide +kernel)
      · refine ((w5 h WP_0 19999 (l3 := -1) (l3' := 0) (by decide)).2 (no 0 (by decide) (by decide))).trans ?_
        refine ((w5 h WP_1 19998 (l3 := 0) (l3' := 1) (by decide)).2 (no 1 (by decide) (by decide))).trans ?_
        refine ((w5 h WP_5 19997 (l3 := 1) (l3' := 2) (by decide)).2 (no 5 (by decide) (by decide))).trans ?_
        refine ((w5 h WP_8 19996 (l3 := 2) (l3' := 3) (by decide)).2 (no 8 (by decide) (by decide))).trans ?_
        refine ((w5 h WP_10 19995 (l3 := 3) (l3' := 4) (by decide)).2 (no 10 (by decide) (by decide))).trans ?_
        refine ((w5 h WP_12 19994 (l3 := 4) (l3' := 5) (by decide)).2 (no 12 (by decide) (by decide))).trans ?_
        refine ((w5 h WP_2 19993 (l3 := 5) (l3' := 6) (by decide)).2 (no 2 (by decide) (by decide))).trans ?_
        refine ((w5 h WP_3 19992 (l3 := 6) (l3' := 7) (by decide)).2 (no 3 (by decide) (by decide))).trans ?_
        refine ((w5 h WP_4 19991 (l3 := 7) (l3' := 8) (by decide)).2 (no 4 (by decide) (by decide))).trans ?_
        refine ((w5 h WP_6 19990 (l3 := 8) (l3' := 9) (by decide)).2 (no 6 (by decide) (by decide))).trans ?_
        exact ((w5 h WP_7 19989 (l3 := 9) (l3' := 10) (by decide)).1 hm).trans (by decide +kernel)
      · refine ((w5 h WP_0 19999 (l3 := -1) (l3' := 0) (by decide)).2 (no 0 (by decide) (by decide))).trans ?_
        refine ((w5 h WP_1 19998 (l3 := 0) (l3' := 1) (by decide)).2 (no 1 (by decide) (by decide))).trans ?_
        refine ((w5 h WP_5 19997 (l3 := 1) (l3' := 2) (by decide)).2 (no 5 (by decide) (by decide))).trans ?_
        exact ((w5 h WP_8 19996 (l3 := 2) (l3' := 3) (by decide)).1 hm).trans (by decide +kernel)
      · refine ((w5 h WP_0 19999 (l3 := -1) (l3' := 0) (by decide)).2 (no 0 (by decide) (by decide))).trans ?_
        refine ((w5 h WP_1 19998 (l3 := 0) (l3' := 1) (by decide)).2 (no 1 (by decide) (by decide))).trans ?_
        refine ((w5 h WP_5 19997 (l3 := 1) (l3' := 2) (by decide)).2 (no 5 (by decide) (by decide))).trans ?_
        refine ((w5 h WP_8 19996 (l3 := 2) (l3' := 3) (by decide)).2 (no 8 (by decide) (by decide))).trans ?_
        refine ((w5 h WP_10 19995 (l3 := 3) (l3' := 4) (by decide)).2 (no 10 (by decide) (by decide))).trans ?_
        refine ((w5 h WP_12 19994 (l3 := 4) (l3' := 5) (by decide)).2 (no 12 (by decide) (by decide))).trans ?_
        refine ((w5 h WP_2 19993 (l3 := 5) (l3' := 6) (by decide)).2 (no 2 (by decide) (by decide))).trans ?_
        refine ((w5 h WP_3 19992 (l3 := 6) (l3' := 7) (by decide)).2 (no 3 (by decide) (by decide))).trans ?_
        refine ((w5 h WP_4 19991 (l3 := 7) (l3' := 8) (by decide)).2 (no 4 (by decide) (by decide))).trans ?_
        refine ((w5 h WP_6 19990 (l3 := 8) (l3' := 9) (by decide)).2 (no 6 (by decide) (by decide))).trans ?_
        refine ((w5 h WP_7 19989 (l3 := 9) (l3' := 10) (by decide)).2 (no 7 (by decide) (by decide))).trans ?_
        exact ((w5 h WP_9 19988 (l3 := 10) (l3' := 11) (by decide)).1 hm).trans (by decide +kernel)
      · refine ((w5 h WP_0 19999 (l3 := -1) (l3' := 0) (by decide)).2 (no 0 (by decide) (by decide))).trans ?_
        refine ((w5 h WP_1 19998 (l3 := 0) (l3' := 1) (by decide)).2 (no 1 (by decide) (by decide))).trans ?_
        refine ((w5 h WP_5 19997 (l3 := 1) (l3' := 2) (by decide)).2 (no 5 (by decide) (by decide))).trans ?_
        refine ((w5 h WP_8 19996 (l3 := 2) (l3' := 3) (by decide)).2 (no 8 (by decide) (by decide))).trans ?_
        exact ((w5 h WP_10 19995 (l3 := 3) (l3' := 4) (by decide)).1 hm).trans (by decide +kernel)
      · refine ((w5 h WP_0 19999 (l3 := -1) (l3' := 0) (by decide)).2 (no 0 (by decide) (by decide))).trans ?_
        refine ((w5 h WP_1 19998 (l3 := 0) (l3' := 1) (by decide)).2 (no 1 (by decide) (by decide))).trans ?_
        refine ((w5 h WP_5 19997 (l3 := 1) (l3' := 2) (by decide)).2 (no 5 (by decide) (by decide))).trans ?_
        refine ((w5 h WP_8 19996 (l3 := 2) (l3' := 3) (by decide)).2 (no 8 (by decide) (by decide))).trans ?_
        refine ((w5 h WP_10 19995 (l3 := 3) (l3' := 4) (by decide)).2 (no 10 (by decide) (by decide))).trans ?_
        refine ((w5 h WP_12 19994 (l3 := 4) (l3' := 5) (by decide)).2 (no 12 (by decide) (by decide))).trans ?_
        refine ((w5 h WP_2 19993 (l3 := 5) (l3' := 6) (by decide)).2 (no 2 (by decide) (by decide))).trans ?_
        refine ((w5 h WP_3 19992 (l3 := 6) (l3' := 7) (by decide)).2 (no 3 (by decide) (by decide))).trans ?_
        refine ((w5 h WP_4 19991 (l3 := 7) (l3' := 8) (by decide)).2 (no 4 (by decide) (by decide))).trans ?_
        refine ((w5 h WP_6 19990 (l3 := 8) (l3' := 9) (by decide)).2 (no 6 (by decide) (by decide))).trans ?_
        refine ((w5 h WP_7 19989 (l3 := 9) (l3' := 10) (by decide)).2 (no 7 (by decide) (by decide))).trans ?_
        refine ((w5 h WP_9 19988 (l3 := 10) (l3' := 11) (by decide)).2 (no 9 (by decide) (by decide))).trans ?_
        exact ((w5 h WP_11 19987 (l3 := 11) (l3' := 12) (by decide)).1 hm).trans (by decide +kernel)
      · refine ((w5 h WP_0 19999 (l3 := -1) (l3' := 0) (by decide)).2 (no 0 (by decide) (by decide))).trans ?_
        refine ((w5 h WP_1 19998 (l3 := 0) (l3' := 1) (by decide)).2 (no 1 (by decide) (by decide))).trans ?_
        refine ((w5 h WP_5 19997 (l3 := 1) (l3' := 2) (by decide)).2 (no 5 (by decide) (by decide))).trans ?_
        refine ((w5 h WP_8 19996 (l3 := 2) (l3' := 3) (by decide)).2 (no 8 (by decide) (by decide))).trans ?_
        refine ((w5 h WP_10 19995 (l3 := 3) (l3' := 4) (by decide)).2 (no 10 (by decide) (by decide))).trans ?_
        exact ((w5 h WP_12 19994 (l3 := 4) (l3' := 5) (by decide)).1 hm).trans (by decide +kernel)
    unfold f_X11_wordAt
    rw [show mj_fu = 19999 + 1 from rfl, show (0 : Int32) = nI 0 from rfl, e, b2s, if_pos rfl]
