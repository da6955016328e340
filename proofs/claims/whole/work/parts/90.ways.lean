/-! ways: one is taken off -/
theorem rs (m : mj_m) (k j : Nat) (x : Int32) : mj_wrs m k j x k j = x := by rw [wr_at, if_pos ⟨rfl, rfl⟩]
theorem cpg (m : mj_m) (a d e c : Nat) (hd : d < 2 ^ 31) (he : e < 2 ^ 31) (hc : c < 2 ^ 31) (k j : Nat) : mj_cpw m a a (nI d) (nI e) (nI c) k j = if k = a ∧ e ≤ j ∧ j < e + c then m a (d + (j - e)) else m k j := by
  unfold mj_cpw va_up va_cpy
  rw [clI hd, clI he, clI hc]
  by_cases h : k = a
  · subst h
    simp
  · simp [h]
theorem cokg {d e c N : Nat} (h : d + c ≤ N) (h2 : e + c ≤ N) (hN : N ≤ 1000) : mj_cok (nI d) (nI e) (nI c) N N = true := by
  simp only [mj_cok, Bool.and_eq_true, decide_eq_true_eq, nI_toInt (show d < 2 ^ 31 by omega), nI_toInt (show c < 2 ^ 31 by omega), nI_toInt (show e < 2 ^ 31 by omega)]
  omega
theorem nI_p {c : Nat} (h : 0 < c) : nI c - 1 = nI (c - 1) := by
  obtain ⟨c', rfl⟩ : ∃ c', c = c' + 1 := ⟨c - 1, by omega⟩
  exact nI_pred c'
theorem has_t {w c i : Nat} {m : mj_m} (hc : m w 7 = nI c) (hc41 : c ≤ 41) (hi : i < c) : f_X9_has w (nI i) m = 1 := by
  unfold f_X9_has
  rw [if_neg (nI_pos (by omega)), hc, if_neg (nI_ge hi (by omega)), if_neg (show ¬ (48 : Int32) ≤ nI i from nI_ge (b := 48) (by omega) (by decide))]
theorem has_f {w c : Nat} {x : Int32} {m : mj_m} (hc : m w 7 = nI c) (hx : x < 0 ∨ nI c ≤ x) : f_X9_has w x m = 0 := by
  unfold f_X9_has
  rw [hc]
  by_cases h : x < 0
  · rw [if_pos h]
  · rw [if_neg h, if_pos (hx.resolve_left h)]
theorem takeOff_eq {w c i : Nat} {m : mj_m} (hc : m w 7 = nI c) (hc41 : c ≤ 41) (hi : i < c) : ∃ m' : mj_m, f_X9_takeOff w (nI i) m = some (1, m') ∧ (∀ k, k < w ∨ w + 3 < k → m' k = m k) ∧ (∀ j, j ≠ 7 → m' w j = m w j) ∧ m' w 7 = nI (c - 1) ∧ (∀ q, q = 2 ∨ q = 3 → ∀ j, j < c - 1 → m' (w + q) j = m (w + q) (if j < i then j else j + 1)) ∧ (∀ j, j < 5 * (c - 1) → m' (w + 1) j = m (w + 1) (if j < 5 * i then j else j + 5)) := by
  have hd : i + 1 < 2 ^ 31 := by omega
  have he : i < 2 ^ 31 := by omega
  have hf : c - 1 - i < 2 ^ 31 := by omega
  have hd5 : (i + 1) * 5 < 2 ^ 31 := by omega
  have he5 : i * 5 < 2 ^ 31 := by omega
  have hf5 : (c - 1 - i) * 5 < 2 ^ 31 := by omega
  refine ⟨mj_cpw (mj_cpw (mj_cpw (mj_wrs m w 7 (nI (c - 1))) (w + 2) (w + 2) (nI (i + 1)) (nI i) (nI (c - 1 - i))) (w + 3) (w + 3) (nI (i + 1)) (nI i) (nI (c - 1 - i))) (w + 1) (w + 1) (nI ((i + 1) * 5)) (nI (i * 5)) (nI ((c - 1 - i) * 5)), ?_, fun k hk => ?_, fun j hj => ?_, ?_, fun q hq j hj => ?_, fun j hj => ?_⟩
  · unfold f_X9_takeOff
    rw [has_t hc hc41 hi]
    simp only [mj_let]
    rw [if_neg one0, hc, nI_p (by omega), rs, nI_sub (by omega), nI_1, chk_t (cokg (by omega) (by omega) (by decide)), chk_t (cokg (by omega) (by omega) (by decide)), show nI (i + 1) * 5 = nI ((i + 1) * 5) from nI_mul _ 5, show nI i * 5 = nI (i * 5) from nI_mul _ 5, show nI (c - 1 - i) * 5 = nI ((c - 1 - i) * 5) from nI_mul _ 5, chk_t (cokg (by omega) (by omega) (by decide))]
  · funext j
    rw [cpg _ _ _ _ _ hd5 he5 hf5, if_neg (by omega), cpg _ _ _ _ _ hd he hf, if_neg (by omega), cpg _ _ _ _ _ hd he hf, if_neg (by omega), wr_e (Or.inl (by omega))]
  · rw [cpg _ _ _ _ _ hd5 he5 hf5, if_neg (by omega), cpg _ _ _ _ _ hd he hf, if_neg (by omega), cpg _ _ _ _ _ hd he hf, if_neg (by omega), wr_e (Or.inr hj)]
  · rw [cpg _ _ _ _ _ hd5 he5 hf5, if_neg (by omega), cpg _ _ _ _ _ hd he hf, if_neg (by omega), cpg _ _ _ _ _ hd he hf, if_neg (by omega), rs]
  · rw [cpg _ _ _ _ _ hd5 he5 hf5, if_neg (by omega)]
    rcases hq with rfl | rfl
    · rw [cpg _ _ _ _ _ hd he hf, if_neg (by omega), cpg _ _ _ _ _ hd he hf]
      by_cases h : j < i
      · rw [if_neg (by omega), if_pos h, wr_e (Or.inl (by omega))]
      · rw [if_pos (by omega), if_neg h, wr_e (Or.inl (by omega)), show i + 1 + (j - i) = j + 1 by omega]
    · rw [cpg _ _ _ _ _ hd he hf]
      by_cases h : j < i
      · rw [if_neg (by omega), if_pos h, cpg _ _ _ _ _ hd he hf, if_neg (by omega), wr_e (Or.inl (by omega))]
      · rw [if_pos (by omega), if_neg h, cpg _ _ _ _ _ hd he hf, if_neg (by omega), wr_e (Or.inl (by omega)), show i + 1 + (j - i) = j + 1 by omega]
  · rw [cpg _ _ _ _ _ hd5 he5 hf5]
    by_cases h : j < 5 * i
    · rw [if_neg (by omega), if_pos h, cpg _ _ _ _ _ hd he hf, if_neg (by omega), cpg _ _ _ _ _ hd he hf, if_neg (by omega), wr_e (Or.inl (by omega))]
    · rw [if_pos (by omega), if_neg h, cpg _ _ _ _ _ hd he hf, if_neg (by omega), cpg _ _ _ _ _ hd he hf, if_neg (by omega), wr_e (Or.inl (by omega)), show (i + 1) * 5 + (j - i * 5) = j + 5 by omega]
def WA (a : Int32) (w wd on R G fa fr we : Nat) : Prop := (a = 1 ∧ w = 33 ∧ wd = 5 ∧ on = 41 ∧ R = 635 ∧ G = 7 ∧ fa = 43 ∧ fr = 619 ∧ we = 35) ∨ (a = 0 ∧ w = 38 ∧ wd = 3 ∧ on = 42 ∧ R = 929 ∧ G = 4 ∧ fa = 44 ∧ fr = 627 ∧ we = 36)
theorem WA1 : WA 1 33 5 41 635 7 43 619 35 := Or.inl ⟨rfl, rfl, rfl, rfl, rfl, rfl, rfl, rfl, rfl⟩
theorem WA0 : WA 0 38 3 42 929 4 44 627 36 := Or.inr ⟨rfl, rfl, rfl, rfl, rfl, rfl, rfl, rfl, rfl⟩
theorem WA.at {a : Int32} {w wd on R G fa fr we : Nat} (h : WA a w wd on R G fa fr we) (i : Nat) : f_X11_wayAt a (nI i) = nI (R + G * i) := by
  unfold f_X11_wayAt
  rcases h with ⟨rfl, rfl, rfl, rfl, rfl, rfl, rfl, rfl, rfl⟩ | ⟨rfl, rfl, rfl, rfl, rfl, rfl, rfl, rfl, rfl⟩
  · rw [if_neg one0, show (7 : Int32) * nI i = nI (7 * i) from nI_mul 7 i]
    exact nI_add 635 _
  · rw [if_pos rfl, show (4 : Int32) * nI i = nI (4 * i) from nI_mul 4 i]
    exact nI_add 929 _
theorem WA.lo {a : Int32} {w wd on R G fa fr we : Nat} (h : WA a w wd on R G fa fr we) : f_X11_wayLong a = nI G := by
  unfold f_X11_wayLong
  rcases h with ⟨rfl, rfl, rfl, rfl, rfl, rfl, rfl, rfl, rfl⟩ | ⟨rfl, rfl, rfl, rfl, rfl, rfl, rfl, rfl, rfl⟩
  · rw [if_neg one0]
    rfl
  · rw [if_pos rfl]
    rfl
theorem WA.by {a : Int32} {w wd on R G fa fr we : Nat} (h : WA a w wd on R G fa fr we) : f_X11_byteMany a = nI wd := by
  unfold f_X11_byteMany
  rcases h with ⟨rfl, rfl, rfl, rfl, rfl, rfl, rfl, rfl, rfl⟩ | ⟨rfl, rfl, rfl, rfl, rfl, rfl, rfl, rfl, rfl⟩
  · rw [if_neg one0]
    rfl
  · rw [if_pos rfl]
    rfl
theorem WA.mn {a : Int32} {w wd on R G fa fr we : Nat} (h : WA a w wd on R G fa fr we) (m : mj_m) : f_X11_wayMany a m = m 1 on := by
  unfold f_X11_wayMany
  rcases h with ⟨rfl, rfl, rfl, rfl, rfl, rfl, rfl, rfl, rfl⟩ | ⟨rfl, rfl, rfl, rfl, rfl, rfl, rfl, rfl, rfl⟩
  · rw [if_neg one0]
  · rw [if_pos rfl]
theorem WA.of {a : Int32} {w wd on R G fa fr we : Nat} (h : WA a w wd on R G fa fr we) : f_X3_wayOf a = w := by
  unfold f_X3_wayOf
  rcases h with ⟨rfl, rfl, rfl, rfl, rfl, rfl, rfl, rfl, rfl⟩ | ⟨rfl, rfl, rfl, rfl, rfl, rfl, rfl, rfl, rfl⟩
  · rw [if_neg one0]
  · rw [if_pos rfl]
theorem WA.nb {a : Int32} {w wd on R G fa fr we : Nat} (h : WA a w wd on R G fa fr we) : on < 45 ∧ 41 ≤ on ∧ 619 ≤ R ∧ R + G * 41 < 1897 ∧ G ≤ 7 ∧ wd < G ∧ wd ≤ 5 ∧ 3 ≤ wd ∧ fa < 45 ∧ 43 ≤ fa ∧ 619 ≤ fr ∧ fr + 8 ≤ 635 ∧ 35 ≤ we ∧ we < 37 ∧ 33 ≤ w ∧ w ≤ 38 := by
  rcases h with ⟨rfl, rfl, rfl, rfl, rfl, rfl, rfl, rfl, rfl⟩ | ⟨rfl, rfl, rfl, rfl, rfl, rfl, rfl, rfl, rfl⟩ <;> omega
theorem drops_L {a : Int32} {w wd on R G fa fr we : Nat} (hW : WA a w wd on R G fa fr we) {c : Nat} (hc : c ≤ 40) : ∀ (k x n : Nat) (m : mj_m), x + k = R + G * c → k < n → R ≤ x → ∃ m' : mj_m, f_X11_drops_L16 a (nI c) n (nI x) m = some m' ∧ (∀ p, p ≠ 1 → m' p = m p) ∧ (∀ s, s < x ∨ R + G * c ≤ s → m' 1 s = m 1 s) ∧ ∀ s, x ≤ s → s < R + G * c → m' 1 s = m 1 (s + G) := by
  have hb : R + G * c + G < 1897 ∧ G ≤ 7 ∧ 0 < G := by
    rcases hW with ⟨rfl, rfl, rfl, rfl, rfl, rfl, rfl, rfl, rfl⟩ | ⟨rfl, rfl, rfl, rfl, rfl, rfl, rfl, rfl, rfl⟩ <;> omega
  have hat := hW.at c
  have hlo := hW.lo
  generalize R + G * c = E at *
  intro k
  induction k with
  | zero =>
    intro x n m hx hn hR
    obtain ⟨n, rfl⟩ : ∃ n', n = n' + 1 := ⟨n - 1, by omega⟩
    refine ⟨m, ?_, fun _ _ => rfl, fun _ _ => rfl, fun s h1 h2 => by omega⟩
    rw [f_X11_drops_L16, hat]
    simp only [mj_let]
    rw [if_pos (nI_le (by omega) (by omega))]
  | succ k ih =>
    intro x n m hx hn hR
    obtain ⟨n, rfl⟩ : ∃ n', n = n' + 1 := ⟨n - 1, by omega⟩
    obtain ⟨m', e1, e2, e3, e4⟩ := ih (x + 1) n (mj_wrs m 1 x (m 1 (x + G))) (by omega) (by omega) (by omega)
    refine ⟨m', ?_, fun p hp => ?_, fun s hs => ?_, fun s h1 h2 => ?_⟩
    · rw [f_X11_drops_L16, hat]
      simp only [mj_let]
      rw [if_neg (nI_ge (by omega) (by omega)), hlo, nI_add, chk_t (okI (by omega) (by decide)), chk_t (okI (by omega) (by decide)), clI (by omega), clI (by omega), nI_1]
      exact e1
    · rw [e2 p hp, wr_row _ _ _ _ _ hp]
    · rw [e3 s (by omega), wr_e (Or.inr (by omega))]
    · by_cases hs : s = x
      · subst hs
        rw [e3 _ (by omega), rs]
      · rw [e4 s (by omega) h2, wr_e (Or.inr (by omega))]
theorem drops_eq {a : Int32} {w wd on R G fa fr we c i : Nat} {m : mj_m} (hW : WA a w wd on R G fa fr we) (hc : c ≤ 40) (hi : i ≤ c) (hm : m 1 on = nI (c + 1)) : ∃ m' : mj_m, f_X11_drops a (nI i) m = some m' ∧ (∀ p, p ≠ 1 → m' p = m p) ∧ m' 1 on = nI c ∧ (∀ s, s ≠ on → s < R + G * i ∨ R + G * c ≤ s → m' 1 s = m 1 s) ∧ ∀ s, R + G * i ≤ s → s < R + G * c → m' 1 s = m 1 (s + G) := by
  obtain ⟨m', e1, e2, e3, e4⟩ := drops_L hW hc (G * (c - i)) (R + G * i) mj_fu m (by rw [Nat.add_assoc, ← Nat.mul_add, show i + (c - i) = c by omega]) (by
    have : G * (c - i) ≤ 7 * 40 := Nat.mul_le_mul hW.nb.2.2.2.2.1 (by omega)
    unfold mj_fu
    omega) (by omega)
  have nb := hW.nb
  refine ⟨mj_wrs m' 1 on (nI c), ?_, fun p hp => ?_, by rw [rs], fun s h1 h2 => ?_, fun s h1 h2 => ?_⟩
  · unfold f_X11_drops
    rw [hW.mn, hm]
    simp only [mj_let]
    rw [nI_pred, hW.at, e1]
    simp only [mj_b1]
    rcases hW with ⟨rfl, rfl, rfl, rfl, rfl, rfl, rfl, rfl, rfl⟩ | ⟨rfl, rfl, rfl, rfl, rfl, rfl, rfl, rfl, rfl⟩
    · rw [if_neg one0]
    · rw [if_pos rfl]
  · rw [wr_row _ _ _ _ _ hp, e2 p hp]
  · rw [wr_e (Or.inr h1), e3 s h2]
  · rw [wr_e (Or.inr (by omega)), e4 s h1 h2]
theorem I_fate_cg {f g g' : Nat → Int32} {c : Nat} (h : I_fate f g c) (hg : ∀ i, i < c → g' i = g i) : I_fate f g' c := by
  obtain ⟨f1, f2, f3, f4⟩ := h
  refine ⟨fun i hi => ?_, fun i hi => ?_, f3, fun i k hi hk => ?_⟩
  · obtain ⟨k, hk, hh⟩ := f1 i hi
    exact ⟨k, hk, hh.trans (hg k hk).symm⟩
  · obtain ⟨k, hk, hh⟩ := f2 i hi
    exact ⟨k, hk, (hg i hi).trans hh⟩
  · rw [hg i hi, hg k hk]
    exact f4 i k hi hk
/-- the way as it is when one is off -/
theorem way_drop {a : Int32} {l l' : mj_m} {n n' : Nat → Int32} {w wd on R G fa fr we c i : Nat} {W : Nat × Nat} (hW : WA a w wd on R G fa fr we) (h : I_way l n w wd on R G fa fr we W) (hc : n on = nI (c + 1)) (hc40 : c ≤ 40) (hi : i ≤ c) (l7 : l' w 7 = nI c) (lw : ∀ j, j ≠ 7 → l' w j = l w j) (l2 : ∀ j, j < c → l' (w + 2) j = l (w + 2) (if j < i then j else j + 1)) (l1 : ∀ j, j < 5 * c → l' (w + 1) j = l (w + 1) (if j < 5 * i then j else j + 5)) (l4 : l' (w + 4) = l (w + 4)) (non : n' on = nI c) (n1 : ∀ s, s ≠ on → (s = 11 ∨ (35 ≤ s ∧ s ≤ 44 ∧ s ≠ 38 ∧ s ≠ 39) ∨ (619 ≤ s ∧ s < 1097)) → s < R + G * i ∨ R + G * c ≤ s → n' s = n s) (n2 : ∀ s, R + G * i ≤ s → s < R + G * c → n' s = n (s + G)) : I_way l' n' w wd on R G fa fr we W := by
  obtain ⟨⟨p1, ⟨p2, p2c⟩, p3⟩, ⟨p4, p5, p6⟩, p7⟩ := h
  rw [hc, clI (by omega)] at p2c
  have p3' : ∀ i, i < c + 1 → l (w + 2) i = n (R + G * i) ∧ cn (n (R + G * i)) (mj_cl (n 11) + 40) ∧ mj_cl (n (R + G * i)) + (c + 1 - 1 - i) + W.2 ≤ mj_cl (n 11) + 40 ∧ ∀ k, k < wd → l (w + 1) (5 * i + k) = n (R + G * i + 1 + k) ∧ rg 0 (n (R + G * i + 1 + k)) 255 := by
    intro i hi
    have := p3 i (by rw [hc, clI (by omega)]; exact hi)
    rw [hc, clI (by omega)] at this
    exact this
  clear p3
  rcases hW with ⟨rfl, rfl, rfl, rfl, rfl, rfl, rfl, rfl, rfl⟩ | ⟨rfl, rfl, rfl, rfl, rfl, rfl, rfl, rfl, rfl⟩
  all_goals
    have e11 := n1 11 (by omega) (by omega) (by omega)
    refine ⟨⟨by rw [l7, non], ⟨by rw [non]; exact cn_mk (by omega) (by decide), by rw [non, clI (by omega)]; omega⟩, fun j hj => ?_⟩, ⟨?_, ?_, ?_⟩, ?_⟩
    · rw [non, clI (by omega)] at hj ⊢
      rw [e11]
      by_cases hji : j < i
      · obtain ⟨q1, q2, q3, q4⟩ := p3' j (by omega)
        rw [l2 j hj, if_pos hji, n1 _ (by omega) (by omega) (by omega)]
        refine ⟨q1, q2, by omega, fun k hk => ?_⟩
        rw [l1 _ (by omega), if_pos (by omega), n1 _ (by omega) (by omega) (by omega)]
        exact q4 k hk
      · obtain ⟨q1, q2, q3, q4⟩ := p3' (j + 1) (by omega)
        rw [l2 j hj, if_neg hji, n2 _ (by omega) (by omega)]
        refine ⟨q1, q2, ?_, fun k hk => ?_⟩
        · rw [Nat.mul_add, Nat.mul_one, ← Nat.add_assoc] at q3
          omega
        · have q := q4 k hk
          rw [l1 _ (by omega), if_neg (by omega), n2 _ (by omega) (by omega)]
          rw [show 5 * (j + 1) + k = 5 * j + k + 5 by omega] at q
          first
            | (rw [show 635 + 7 * (j + 1) + 1 + k = 635 + 7 * j + 1 + k + 7 by omega] at q; exact q)
            | (rw [show 929 + 4 * (j + 1) + 1 + k = 929 + 4 * j + 1 + k + 4 by omega] at q; exact q)
    · rw [lw 8 (by decide), n1 _ (by omega) (by omega) (by omega)]
      exact p4
    · rw [n1 _ (by omega) (by omega) (by omega)]
      exact p5
    · rw [l4, n1 _ (by omega) (by omega) (by omega)]
      exact I_fate_cg p6 (fun i hi => n1 _ (by omega) (by have := p5.2; omega) (by have := p5.2; omega))
    · rw [lw 9 (by decide), n1 _ (by omega) (by omega) (by omega)]
      exact p7
theorem up_drop {l l' : mj_m} {n n' : Nat → Int32} {c i : Nat} {W : Nat × Nat} (h : I_up l n W) (hc : n 41 = nI (c + 1)) (hc40 : c ≤ 40) (hi : i ≤ c) (l7 : l' 33 7 = nI c) (lw : ∀ j, j ≠ 7 → l' 33 j = l 33 j) (l2 : ∀ q, q = 2 ∨ q = 3 → ∀ j, j < c → l' (33 + q) j = l (33 + q) (if j < i then j else j + 1)) (l1 : ∀ j, j < 5 * c → l' (33 + 1) j = l (33 + 1) (if j < 5 * i then j else j + 5)) (l4 : l' (33 + 4) = l (33 + 4)) (non : n' 41 = nI c) (n1 : ∀ s, s ≠ 41 → (s = 11 ∨ (35 ≤ s ∧ s ≤ 44 ∧ s ≠ 38 ∧ s ≠ 39) ∨ (619 ≤ s ∧ s < 1097)) → s < 635 + 7 * i ∨ 635 + 7 * c ≤ s → n' s = n s) (n2 : ∀ s, 635 + 7 * i ≤ s → s < 635 + 7 * c → n' s = n (s + 7)) : I_up l' n' W := by
  obtain ⟨h1, h2, h3⟩ := h
  refine ⟨way_drop WA1 h1 hc hc40 hi l7 lw (l2 2 (Or.inl rfl)) l1 l4 non n1 n2, ?_, fun j hj => ?_⟩
  · rw [lw 10 (by decide), n1 37 (by decide) (by omega) (by omega)]
    exact h2
  · rw [non, clI (by omega)] at hj
    rw [n1 40 (by decide) (by omega) (by omega), l2 3 (Or.inr rfl) j hj]
    by_cases hji : j < i
    · rw [if_pos hji, n1 _ (by omega) (by omega) (by omega)]
      exact h3 j (by rw [hc, clI (by omega)]; omega)
    · rw [if_neg hji, n2 _ (by omega) (by omega)]
      have := h3 (j + 1) (by rw [hc, clI (by omega)]; omega)
      rw [show 635 + 7 * (j + 1) + 6 = 635 + 7 * j + 6 + 7 by omega] at this
      exact this
theorem I_up.cn {l : mj_m} {n : Nat → Int32} {W : Nat × Nat} (h : I_up l n W) : l 33 7 = n 41 ∧ cn (n 41) 41 ∧ mj_cl (n 41) ≤ W.1 := ⟨h.1.1.1, h.1.1.2.1.1, h.1.1.2.1.2⟩
theorem I_dn.cn {l : mj_m} {n : Nat → Int32} {W : Nat × Nat} (h : I_dn l n W) : l 38 7 = n 42 ∧ cn (n 42) 41 ∧ mj_cl (n 42) ≤ W.1 := ⟨h.1.1, h.1.2.1.1, h.1.2.1.2⟩
