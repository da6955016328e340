/-! one goes: draws, bytes -/
theorem ush_n (x : Int32) : ∃ q, q < 2 ^ 24 ∧ mj_ush x 8 = nI q := by
  have e := pk_ushr x 8 8 (by decide)
  refine ⟨(mj_ush x 8).toBitVec.toNat, ?_, ?_⟩
  · unfold mj_ush
    rw [e]
    have := x.toBitVec.isLt
    omega
  · apply Int32.toBitVec_inj.1
    show (mj_ush x 8).toBitVec = BitVec.ofNat 32 _
    simp
def drX (x : Int32) : Int32 := 1664525 * x + 1013904223
theorem drw {l m : mj_m} (h : l 1 1 = m 1 12) {k : Nat} (h0 : 0 < k) (hk : k < 100000) : ∃ q, q < k ∧ f_X0_draw (nI k) l = some (nI q, mj_wrs l 1 1 (drX (m 1 12))) ∧ f_X11_draw (nI k) m = some (nI q, mj_wrs m 1 12 (drX (m 1 12))) := by
  obtain ⟨q, hq, eq⟩ := ush_n (drX (m 1 12))
  have hb : (!(nI k == 0)) = true := by
    have := nI_ne0 h0 (show k < 2 ^ 31 by omega)
    simp [this]
  have hr : mj_rem (nI q) (nI k) = nI (q % k) := pk_rem (by omega) h0 (by omega)
  refine ⟨q % k, Nat.mod_lt _ h0, ?_, ?_⟩
  · unfold f_X0_draw
    simp only [mj_let]
    rw [if_neg (nI_nle h0 (by omega)), chk_t hb, rs, h, show m 1 12 * 1664525 + 1013904223 = drX (m 1 12) from by unfold drX; rw [Int32.mul_comm], eq, hr]
  · unfold f_X11_draw
    simp only [mj_let]
    rw [chk_t hb, rs, show 1664525 * m 1 12 + 1013904223 = drX (m 1 12) from rfl, eq, hr]
def sumB (B : Nat → Int32) : Nat → Int32
  | 0 => 85
  | k + 1 => sumB B k + B k
theorem put_L {w wd c : Nat} {word line : Int32} {B : Nat → Int32} (h5 : wd ≤ 5) (h3 : 3 ≤ wd) (hc : c ≤ 41) (hB : ∀ k, k < wd - 1 → mj_ush word (8 * (nI wd - 2 - nI k)) &&& 255 = B k) : ∀ (k i n : Nat) (m : mj_m), i + k = wd - 1 → k < n → m w 1 = nI wd → ∃ m' : mj_m, f_X9_put_L14 w word line (nI (5 * c)) n (sumB B i) (nI i) m = some (sumB B (wd - 1), m') ∧ (∀ p, p ≠ w + 1 → m' p = m p) ∧ ∀ j, m' (w + 1) j = if 5 * c + i ≤ j ∧ j < 5 * c + (wd - 1) then B (j - 5 * c) else m (w + 1) j := by
  intro k
  induction k with
  | zero =>
    intro i n m hi hn hm
    obtain ⟨n, rfl⟩ : ∃ n', n = n' + 1 := ⟨n - 1, by omega⟩
    refine ⟨m, ?_, fun _ _ => rfl, fun j => ?_⟩
    · rw [f_X9_put_L14, hm, nI_p (by omega), if_pos (nI_le (by omega) (by omega)), show i = wd - 1 by omega]
    · rw [if_neg (by omega)]
  | succ k ih =>
    intro i n m hi hn hm
    obtain ⟨n, rfl⟩ : ∃ n', n = n' + 1 := ⟨n - 1, by omega⟩
    obtain ⟨m', e1, e2, e3⟩ := ih (i + 1) n (mj_wrs m (w + 1) (5 * c + i) (B i)) (by omega) (by omega) (by rw [wr_e (Or.inl (by omega)), hm])
    refine ⟨m', ?_, fun p hp => by rw [e2 p hp, wr_row _ _ _ _ _ hp], fun j => ?_⟩
    · rw [f_X9_put_L14, hm, nI_p (by omega), if_neg (nI_ge (by omega) (by omega)), hB i (by omega), nI_add]
      simp only [mj_let]
      rw [chk_t (okI (by omega) (by decide)), clI (by omega), nI_1]
      exact e1
    · rw [e3 j]
      by_cases h : j = 5 * c + i
      · rw [if_neg (by omega), if_pos (by omega), h, rs, show 5 * c + i - 5 * c = i by omega]
      · by_cases h2 : 5 * c + (i + 1) ≤ j ∧ j < 5 * c + (wd - 1)
        · rw [if_pos h2, if_pos (by omega)]
        · rw [if_neg h2, if_neg (by omega), wr_e (Or.inr h)]
theorem put_eq {w wd c dl : Nat} {word line : Int32} {B : Nat → Int32} {m : mj_m} (hw : 33 ≤ w) (h5 : wd ≤ 5) (h3 : 3 ≤ wd) (hc : c ≤ 40) (hB : ∀ k, k < wd - 1 → mj_ush word (8 * (nI wd - 2 - nI k)) &&& 255 = B k) (hBc : B (wd - 1) = sumB B (wd - 1) &&& 255) (hwd : m w 1 = nI wd) (hdl : m w 2 = nI dl) (hd : dl < 11) (h7 : m w 7 = nI c) : ∃ m' : mj_m, f_X9_put w word line m = some m' ∧ (∀ k, k < w ∨ w + 3 < k → m' k = m k) ∧ (∀ j, j ≠ 7 → m' w j = m w j) ∧ m' w 7 = nI (c + 1) ∧ (∀ j, m' (w + 2) j = if j = c then m 1 0 + m 2 dl else m (w + 2) j) ∧ (∀ j, m' (w + 3) j = if j = c then line else m (w + 3) j) ∧ (∀ k, k < wd → m' (w + 1) (5 * c + k) = B k) ∧ (∀ j, j < 5 * c → m' (w + 1) j = m (w + 1) j) := by
  obtain ⟨m1, e1, e2, e3⟩ := put_L (c := c) (line := line) h5 h3 (by omega) hB (wd - 1) 0 mj_fu m (by omega) (by unfold mj_fu; omega) hwd
  have e1' : f_X9_put_L14 w word line (nI (5 * c)) mj_fu 85 0 m = some (sumB B (wd - 1), m1) := e1
  have ew : m1 w = m w := e2 w (by omega)
  refine ⟨mj_wrs (mj_wrs (mj_wrs (mj_wrs m1 (w + 1) (5 * c + (wd - 1)) (B (wd - 1))) (w + 2) c (m 1 0 + m 2 dl)) (w + 3) c line) w 7 (nI (c + 1)), ?_, fun k hk => ?_, fun j hj => ?_, by rw [rs], fun j => ?_, fun j => ?_, fun k hk => ?_, fun j hj => ?_⟩
  · unfold f_X9_put
    rw [h7, show nI c * 5 = nI (5 * c) from by rw [show (5 : Int32) = nI 5 from rfl, nI_mul, Nat.mul_comm]]
    simp only [mj_let]
    rw [e1']
    simp only [mj_b2]
    rw [ew, hwd, nI_add, nI_p (by omega), show 5 * c + wd - 1 = 5 * c + (wd - 1) by omega, chk_t (okI (by omega) (by decide)), clI (by omega), ← hBc]
    have z2 : mj_wrs m1 (w + 1) (5 * c + (wd - 1)) (B (wd - 1)) w 2 = nI dl := by rw [wr_e (Or.inl (by omega)), ew, hdl]
    have z7 : mj_wrs m1 (w + 1) (5 * c + (wd - 1)) (B (wd - 1)) w 7 = nI c := by rw [wr_e (Or.inl (by omega)), ew, h7]
    rw [z2, z7, chk_t (okI hd (by decide)), chk_t (okI (by omega) (by decide)), clI (by omega), clI (by omega)]
    simp (disch := omega) only [wr_e, e2, h7]
    rw [chk_t (okI (by omega) (by decide)), clI (by omega), nI_1]
  · rw [wr_row _ _ _ _ _ (by omega), wr_row _ _ _ _ _ (by omega), wr_row _ _ _ _ _ (by omega), wr_row _ _ _ _ _ (by omega), e2 k (by omega)]
  · rw [wr_e (Or.inr hj), wr_e (Or.inl (by omega)), wr_e (Or.inl (by omega)), wr_e (Or.inl (by omega)), ew]
  · rw [wr_e (Or.inl (by omega)), wr_e (Or.inl (by omega))]
    by_cases h : j = c
    · rw [if_pos h, h, rs]
    · rw [if_neg h, wr_e (Or.inr h), wr_e (Or.inl (by omega)), e2 _ (by omega)]
  · rw [wr_e (Or.inl (by omega))]
    by_cases h : j = c
    · rw [if_pos h, h, rs]
    · rw [if_neg h, wr_e (Or.inr h), wr_e (Or.inl (by omega)), wr_e (Or.inl (by omega)), e2 _ (by omega)]
  · rw [wr_e (Or.inl (by omega)), wr_e (Or.inl (by omega)), wr_e (Or.inl (by omega))]
    by_cases h : k = wd - 1
    · rw [h, rs]
    · rw [wr_e (Or.inr (by omega)), e3, if_pos (by omega), show 5 * c + k - 5 * c = k by omega]
  · rw [wr_e (Or.inl (by omega)), wr_e (Or.inl (by omega)), wr_e (Or.inl (by omega)), wr_e (Or.inr (by omega)), e3, if_neg (by omega)]
theorem gp_L {a : Int32} {w wd on R G fa fr we P : Nat} (hW : WA a w wd on R G fa fr we) (hP : P + 1 + wd < 1897) : ∀ (k i n : Nat) (m : mj_m), i + k = wd → k < n → ∃ m' : mj_m, f_X11_goes_L192 a (nI P) n (nI i) m = some m' ∧ (∀ p, p ≠ 1 → m' p = m p) ∧ ∀ s, m' 1 s = if P + 1 + i ≤ s ∧ s < P + 1 + wd then m 3 (s - (P + 1)) else m 1 s := by
  have nb := hW.nb
  intro k
  induction k with
  | zero =>
    intro i n m hi hn
    obtain ⟨n, rfl⟩ : ∃ n', n = n' + 1 := ⟨n - 1, by omega⟩
    refine ⟨m, ?_, fun _ _ => rfl, fun s => ?_⟩
    · rw [f_X11_goes_L192, hW.by]
      simp only [mj_let]
      rw [if_pos (nI_le (by omega) (by omega))]
    · rw [if_neg (by omega)]
  | succ k ih =>
    intro i n m hi hn
    obtain ⟨n, rfl⟩ : ∃ n', n = n' + 1 := ⟨n - 1, by omega⟩
    obtain ⟨m', e1, e2, e3⟩ := ih (i + 1) n (mj_wrs m 1 (P + 1 + i) (m 3 i)) (by omega) (by omega)
    refine ⟨m', ?_, fun p hp => by rw [e2 p hp, wr_row _ _ _ _ _ hp], fun s => ?_⟩
    · rw [f_X11_goes_L192, hW.by]
      simp only [mj_let]
      rw [if_neg (nI_ge (by omega) (by omega)), chk_t (okI (by omega) (by decide)), nI_1, nI_add, chk_t (okI (by omega) (by decide)), clI (by omega), clI (by omega), nI_1]
      exact e1
    · rw [e3 s, wr_row _ _ _ _ 3 (by decide)]
      by_cases h : s = P + 1 + i
      · rw [if_neg (by omega), if_pos (by omega), h, rs, show P + 1 + i - (P + 1) = i by omega]
      · by_cases h2 : P + 1 + (i + 1) ≤ s ∧ s < P + 1 + wd
        · rw [if_pos h2, if_pos (by omega)]
        · rw [if_neg h2, if_neg (by omega), wr_e (Or.inr h)]
def dlW (a : Int32) : Nat := if a = 1 then 6 else 7
theorem gput_eq {a : Int32} {w wd on R G fa fr we c : Nat} {m : mj_m} (hW : WA a w wd on R G fa fr we) (hc : c ≤ 40) (hm : m 1 on = nI c) : ∃ m' : mj_m, f_X11_goes_J147 a m = some m' ∧ (∀ p, p ≠ 1 → m' p = m p) ∧ m' 1 on = nI (c + 1) ∧ m' 1 (R + G * c) = m 1 11 + (m 1 (dlW a) + 3) ∧ (∀ k, k < wd → m' 1 (R + G * c + 1 + k) = m 3 k) ∧ (a = 1 → m' 1 (635 + 7 * c + 6) = m 0 4) ∧ ∀ s, s ≠ on → s < R + G * c ∨ R + G * (c + 1) ≤ s → m' 1 s = m 1 s := by
  have nb := hW.nb
  have hb : R + G * c + 1 + wd < 1897 := by rcases hW with ⟨rfl, rfl, rfl, rfl, rfl, rfl, rfl, rfl, rfl⟩ | ⟨rfl, rfl, rfl, rfl, rfl, rfl, rfl, rfl, rfl⟩ <;> omega
  obtain ⟨m1, e1, e2, e3⟩ := gp_L (P := R + G * c) hW hb wd 0 mj_fu (mj_wrs m 1 (R + G * c) (m 1 11 + (m 1 (dlW a) + 3))) (by omega) (by unfold mj_fu; omega)
  have e1' : f_X11_goes_L192 a (nI (R + G * c)) mj_fu 0 (mj_wrs m 1 (R + G * c) (m 1 11 + (m 1 (dlW a) + 3))) = some m1 := e1
  have es : ∀ s, s < R + G * c ∨ R + G * c + 1 + wd ≤ s → m1 1 s = m 1 s := fun s hs => by rw [e3, if_neg (by omega), wr_e (Or.inr (by omega))]
  have eon : m1 1 on = nI c := by rw [es on (by omega), hm]
  have e0 : m1 0 = m 0 := by rw [e2 0 (by decide), wr_row _ _ _ _ _ (by decide)]
  have eP : m1 1 (R + G * c) = m 1 11 + (m 1 (dlW a) + 3) := by rw [e3, if_neg (by omega), rs]
  have eB : ∀ k, k < wd → m1 1 (R + G * c + 1 + k) = m 3 k := fun k hk => by rw [e3, if_pos (by omega), show R + G * c + 1 + k - (R + G * c + 1) = k by omega, wr_row _ _ _ _ _ (by decide)]
  have ep : ∀ p, p ≠ 1 → m1 p = m p := fun p hp => by rw [e2 p hp, wr_row _ _ _ _ _ hp]
  unfold f_X11_goes_J147
  simp only [mj_let]
  rw [hW.mn, hm, hW.at]
  rcases hW with ⟨rfl, rfl, rfl, rfl, rfl, rfl, rfl, rfl, rfl⟩ | ⟨rfl, rfl, rfl, rfl, rfl, rfl, rfl, rfl, rfl⟩
  · rw [if_neg one0]
    unfold f_X11_goes_J184
    rw [set6]
    simp only [mj_b1, mj_let]
    rw [chk_t (okI (by omega) (by decide)), clI (by omega), show (mj_wrs m 1 (635 + 7 * c) (m 1 11 + (m 1 6 + 3))) = mj_wrs m 1 (635 + 7 * c) (m 1 11 + (m 1 (dlW 1) + 3)) from rfl, e1']
    simp only
    rw [if_neg one0, nI_1, show nI (635 + 7 * c + 1) + 5 = nI (635 + 7 * c + 6) from nI_add _ 5, chk_t (okI (by omega) (by decide)), clI (by omega)]
    unfold f_X11_goes_J246
    rw [if_neg one0, show (41 : Int32) = nI 41 from rfl, more_eq (by decide), wr_e (Or.inr (by omega)), eon, nI_1, e0]
    refine ⟨_, rfl, fun p hp => by rw [wr_row _ _ _ _ _ hp, wr_row _ _ _ _ _ hp, ep p hp], by rw [rs], by rw [wr_e (Or.inr (by omega)), wr_e (Or.inr (by omega)), eP], fun k hk => by rw [wr_e (Or.inr (by omega)), wr_e (Or.inr (by omega)), eB k hk], fun _ => by rw [wr_e (Or.inr (by omega)), rs], fun s h1 h2 => by rw [wr_e (Or.inr h1), wr_e (Or.inr (by omega)), es s (by omega)]⟩
  · rw [if_pos rfl]
    unfold f_X11_goes_J184
    rw [set7]
    simp only [mj_b1, mj_let]
    rw [chk_t (okI (by omega) (by decide)), clI (by omega), show (mj_wrs m 1 (929 + 4 * c) (m 1 11 + (m 1 7 + 3))) = mj_wrs m 1 (929 + 4 * c) (m 1 11 + (m 1 (dlW 0) + 3)) from rfl, e1']
    simp only
    rw [if_pos trivial]
    unfold f_X11_goes_J246
    rw [if_pos rfl, show (42 : Int32) = nI 42 from rfl, more_eq (by decide), eon, nI_1]
    refine ⟨_, rfl, fun p hp => by rw [wr_row _ _ _ _ _ hp, ep p hp], by rw [rs], by rw [wr_e (Or.inr (by omega)), eP], fun k hk => by rw [wr_e (Or.inr (by omega)), eB k hk], fun z => absurd z (by decide), fun s h1 h2 => by rw [wr_e (Or.inr h1), es s (by omega)]⟩
/-- what becomes of the reference's bytes -/
theorem J_lost1 {a x : Int32} {m : mj_m} : f_X11_goes_J35 a 1 x m = if a = 0 then some m else f_X11_more 37 m := by
  unfold f_X11_goes_J35 f_X11_goes_J51 f_X11_goes_J56 f_X11_goes_J84 f_X11_goes_J85 f_X11_goes_J100 f_X11_goes_J106
  rw [if_neg one0, if_neg one0, if_neg one0, if_neg one0]
  by_cases h : a = 0
  · rw [if_pos h, if_pos h]
  · rw [if_neg h, if_neg h]
    cases f_X11_more 37 m <;> rfl
theorem J_lost0 {a x : Int32} {m : mj_m} (hx : ¬ m 1 8 ≤ x) : f_X11_goes_J35 a 0 x m = if a = 0 then some m else f_X11_more 37 m := by
  unfold f_X11_goes_J35 f_X11_goes_J51 f_X11_goes_J56 f_X11_goes_J84 f_X11_goes_J85 f_X11_goes_J100 f_X11_goes_J106
  rw [if_pos rfl, if_neg hx, if_neg one0, if_neg one0, if_neg one0]
  by_cases h : a = 0
  · rw [if_pos h, if_pos h]
  · rw [if_neg h, if_neg h]
    cases f_X11_more 37 m <;> rfl
theorem J_put0 {a x : Int32} {m : mj_m} (hx : m 1 8 ≤ x) (hy : m 1 8 + m 1 9 ≤ x) : f_X11_goes_J35 a 0 x m = f_X11_goes_J147 a m := by
  unfold f_X11_goes_J35 f_X11_goes_J56 f_X11_goes_J84 f_X11_goes_J85 f_X11_goes_J106
  rw [if_pos rfl, if_pos hx, if_pos rfl, if_pos hy, if_pos rfl, if_pos rfl, if_pos rfl]
  by_cases h : a = 0
  · rw [if_pos h]
  · rw [if_neg h, if_pos rfl]
theorem J_put1 {a x : Int32} {m : mj_m} (hx : m 1 8 ≤ x) (hy : ¬ m 1 8 + m 1 9 ≤ x) : f_X11_goes_J35 a 0 x m = if a = 0 then f_X11_goes_J106 a 0 1 m else mj_b1 (f_X11_more 37 m) (fun m => f_X11_goes_J106 a 0 1 m) := by
  unfold f_X11_goes_J35 f_X11_goes_J56 f_X11_goes_J85 f_X11_goes_J100
  rw [if_pos rfl, if_pos hx, if_pos rfl, if_neg hy, if_pos rfl, if_neg one0]
theorem I_way_c2 {a : Int32} {l l' : mj_m} {n n' : Nat → Int32} {w wd on R G fa fr we : Nat} {W : Nat × Nat} (hW : WA a w wd on R G fa fr we) (h : I_way l n w wd on R G fa fr we W) (h7 : l' w 7 = l w 7) (h1 : l' (w + 1) = l (w + 1)) (h2 : l' (w + 2) = l (w + 2)) (hon : n' on = n on) (h11 : n' 11 = n 11) (hr : ∀ s, R ≤ s → s < R + G * 41 → n' s = n s) (hf : l' w 8 = n' fa ∧ cn (n' fa) 8 ∧ I_fate (l' (w + 4)) (fun i => n' (fr + i)) (mj_cl (n' fa))) (hwe : l' w 9 = n' we) : I_way l' n' w wd on R G fa fr we W := by
  obtain ⟨⟨p1, p2, p3⟩, -, -⟩ := h
  refine ⟨⟨?_, ?_, fun i hi => ?_⟩, hf, hwe⟩
  · rw [h7, hon]
    exact p1
  · rw [hon]
    exact p2
  · rw [hon] at hi ⊢
    have hi41 : i < 41 := Nat.lt_of_lt_of_le hi p2.1.2
    obtain ⟨q1, q2, q3, q4⟩ := p3 i hi
    rw [h11, h1, h2]
    rcases hW with ⟨rfl, rfl, rfl, rfl, rfl, rfl, rfl, rfl, rfl⟩ | ⟨rfl, rfl, rfl, rfl, rfl, rfl, rfl, rfl, rfl⟩
    all_goals
      rw [hr _ (by omega) (by omega)]
      refine ⟨q1, q2, q3, fun k hk => ?_⟩
      rw [hr _ (by omega) (by omega)]
      exact q4 k hk
/-- one more on the way -/
theorem way_new {a : Int32} {l l' : mj_m} {n n' : Nat → Int32} {w wd on R G fa fr we c C d : Nat} {B : Nat → Int32} (hW : WA a w wd on R G fa fr we) (h : I_way l n w wd on R G fa fr we (C, 1)) (hC : C ≤ 40) (hc : n on = nI c) (hcC : c ≤ C) (hd : d ≤ mj_cl (n 11) + 40) (hd2 : d < 2 ^ 31) (hBr : ∀ k, k < wd → rg 0 (B k) 255) (l7 : l' w 7 = nI (c + 1)) (l2 : ∀ j, l' (w + 2) j = if j = c then nI d else l (w + 2) j) (l1 : ∀ j, j < 5 * c → l' (w + 1) j = l (w + 1) j) (lB : ∀ k, k < wd → l' (w + 1) (5 * c + k) = B k) (non : n' on = nI (c + 1)) (nD : n' (R + G * c) = nI d) (nB : ∀ k, k < wd → n' (R + G * c + 1 + k) = B k) (n11 : n' 11 = n 11) (n1 : ∀ s, R ≤ s → s < R + G * c → n' s = n s) (hf : l' w 8 = n' fa ∧ cn (n' fa) 8 ∧ I_fate (l' (w + 4)) (fun i => n' (fr + i)) (mj_cl (n' fa))) (hwe : l' w 9 = n' we) : I_way l' n' w wd on R G fa fr we (C + 1, 0) := by
  obtain ⟨⟨p1, p2, p3⟩, -, -⟩ := h
  refine ⟨⟨by rw [l7, non], ⟨by rw [non]; exact cn_mk (by omega) (by decide), by rw [non, clI (by omega)]; show c + 1 ≤ C + 1; omega⟩, fun j hj => ?_⟩, hf, hwe⟩
  rw [non, clI (by omega)] at hj ⊢
  rw [n11]
  by_cases hjc : j = c
  · subst hjc
    rw [l2, if_pos rfl, nD]
    refine ⟨rfl, ⟨by rw [clI hd2], by rw [clI hd2]; exact hd⟩, ?_, fun k hk => ?_⟩
    · rw [clI hd2]
      show d + (j + 1 - 1 - j) + 0 ≤ _
      omega
    · rw [lB k hk, nB k hk]
      exact ⟨rfl, hBr k hk⟩
  · obtain ⟨q1, q2, q3, q4⟩ := p3 j (by rw [hc, clI (by omega)]; omega)
    rw [hc, clI (by omega)] at q3
    have q3' : mj_cl (n (R + G * j)) + (c - 1 - j) + 1 ≤ mj_cl (n 11) + 40 := q3
    have hs : R + G * j + wd < R + G * c ∧ G * j + G ≤ G * c := by
      rcases hW with ⟨rfl, rfl, rfl, rfl, rfl, rfl, rfl, rfl, rfl⟩ | ⟨rfl, rfl, rfl, rfl, rfl, rfl, rfl, rfl, rfl⟩ <;> omega
    have h5 : wd ≤ 5 := hW.nb.2.2.2.2.2.2.1
    rw [l2, if_neg hjc, n1 _ (by omega) (by omega)]
    refine ⟨q1, q2, ?_, fun k hk => ?_⟩
    · show _ + (c + 1 - 1 - j) + 0 ≤ _
      omega
    · rw [l1 _ (by omega), n1 _ (by omega) (by omega)]
      exact q4 k hk
