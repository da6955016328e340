/-! send -/
theorem isl_L {y : Int32} {P : Nat} (hP : 1097 ≤ P) (hP2 : P + 8 ≤ 1897) : ∀ (k i n : Nat) (m : mj_m), i + k = 8 → k < n → ∃ m' : mj_m, f_X11_isLedgered_L26 y (nI P) n (nI i) m = some m' ∧ (∀ p, p ≠ 1 → m' p = m p) ∧ ∀ s, m' 1 s = if P + i ≤ s ∧ s < P + 8 then 0 else m 1 s := by
  intro k
  induction k with
  | zero =>
    intro i n m hi hn
    obtain ⟨n, rfl⟩ : ∃ k, n = k + 1 := ⟨n - 1, by omega⟩
    refine ⟨m, ?_, fun _ _ => rfl, fun s => by rw [if_neg (by omega)]⟩
    rw [f_X11_isLedgered_L26, if_pos (show (8 : Int32) ≤ nI i from nI_le (a := 8) (by omega) (by omega))]
  | succ k ih =>
    intro i n m hi hn
    obtain ⟨n, rfl⟩ : ∃ k, n = k + 1 := ⟨n - 1, by omega⟩
    obtain ⟨m', e1, e2, e3⟩ := ih (i + 1) n (mj_wrs m 1 (P + i) 0) (by omega) (by omega)
    refine ⟨m', ?_, fun p hp => by rw [e2 p hp, wr_row _ _ _ _ _ hp], fun s => ?_⟩
    · rw [f_X11_isLedgered_L26, if_neg (show ¬ (8 : Int32) ≤ nI i from nI_ge (b := 8) (by omega) (by decide)), nI_add, chk_t (okI (by omega) (by decide)), clI (by omega), lts, lts, nI_1]
      exact e1
    · rw [e3]
      by_cases z : s = P + i
      · rw [if_neg (by omega), if_pos (by omega), z, rs]
      · by_cases y : P + (i + 1) ≤ s ∧ s < P + 8
        · rw [if_pos y, if_pos (by omega)]
        · rw [if_neg y, if_neg (by omega), wr_e (Or.inr z)]
/-- a line of the ledger is begun -/
theorem open_pair {l m : mj_m} {n0 : Nat → Int32} {e v : Nat} {x : Int32} (h : I_led l n0 e v) (hq : ∀ s, s ≠ 24 → s < 58 ∨ 65 < s → m 1 s = n0 s) (he : e ≤ 20000) (ht : l 1 0 = m 1 11) (ht2 : cn (m 1 11) 20000) (hcap : mj_cl (n0 24) + 1 + mj_cl (n0 25) ≤ mj_cl (n0 40) + 1) : ∃ l' m' : mj_m, f_X2_open x l = some (lnum (mj_cl (m 1 40)), l') ∧ f_X11_isLedgered x m = some m' ∧ (∀ k, k ≠ 3 → k ≠ 4 → l' k = l k) ∧ (∀ p, p ≠ 1 → m' p = m p) ∧ (∀ s, s ≠ 40 → s < 1097 → m' 1 s = m 1 s) ∧ m' 1 40 = nI (mj_cl (m 1 40) + 1) ∧ (∀ n' : Nat → Int32, (∀ s, s ≠ 24 → n' s = m' 1 s) → mj_cl (n' 24) = mj_cl (n0 24) + 1 → I_led l' n' (e + 1) v) := by
  obtain ⟨d1, d2, d3, d4, d5, d6, d7⟩ := id h
  obtain ⟨E, hE, eE, cE⟩ := cn_i d2
  obtain ⟨t, ht3, et, ct⟩ := cn_i ht2
  rw [hq 40 (by decide) (by omega), cE]
  rw [cE] at hcap
  have ct0 : mj_cl (n0 11) = t := by rw [← hq 11 (by decide) (by omega)]; exact ct
  have eE' : m 1 40 = nI E := by rw [hq 40 (by decide) (by omega), eE]
  by_cases h100 : E < 100
  · have l32 : l 3 2 = nI E := by rw [d4, cE, if_pos h100, eE]
    have c1 : f_X2_open x l = some (nI E, mj_wrs (mj_wrs (mj_wrs (mj_wrs (mj_wrs (mj_wrs (mj_wrs (mj_wrs (mj_wrs l 3 5 (nI (E + 1))) 4 (7 * E) x) 4 (7 * E + 1) (nI t)) 4 (7 * E + 2) 0) 4 (7 * E + 3) (-1)) 4 (7 * E + 4) 0) 4 (7 * E + 5) (-1)) 4 (7 * E + 6) 0) 3 2 (nI (E + 1))) := by
      unfold f_X2_open
      rw [d1, eE, nI_1, lts, wr_e (m := l) (Or.inr (by decide)), l32, if_pos (show nI E < 100 from nI_lt (b := 100) h100 (by decide)), lts, show nI E * 7 = nI (7 * E) from by rw [show (7 : Int32) = nI 7 from rfl, nI_mul, Nat.mul_comm], Int32.add_zero, chk_t (okI (by omega) (by decide)), clI (by omega), lts]
      rw [show nI (7 * E) + 1 = nI (7 * E + 1) from nI_1 _, show nI (7 * E) + 2 = nI (7 * E + 2) from nI_add _ 2, show nI (7 * E) + 3 = nI (7 * E + 3) from nI_add _ 3, show nI (7 * E) + 4 = nI (7 * E + 4) from nI_add _ 4, show nI (7 * E) + 5 = nI (7 * E + 5) from nI_add _ 5, show nI (7 * E) + 6 = nI (7 * E + 6) from nI_add _ 6]
      rw [chk_t (okI (by omega) (by decide)), clI (by omega), lts, wr_e (Or.inl (by decide)), wr_e (Or.inl (by decide)), ht, et]
      rw [chk_t (okI (by omega) (by decide)), clI (by omega), lts, chk_t (okI (by omega) (by decide)), clI (by omega), lts, chk_t (okI (by omega) (by decide)), clI (by omega), lts, chk_t (okI (by omega) (by decide)), clI (by omega), lts, chk_t (okI (by omega) (by decide)), clI (by omega), lts]
      simp (disch := omega) only [wr_e, l32, lts, rs]
      rw [nI_1, nI_pred]
    have hat : f_X11_ledgerAt (m 1 40) = nI (1097 + 8 * E) := by
      unfold f_X11_ledgerAt
      rw [eE', show (8 : Int32) * nI E = nI (8 * E) from nI_mul 8 E]
      exact nI_add 1097 _
    obtain ⟨m1, a1, a2, a3⟩ := isl_L (y := x) (P := 1097 + 8 * E) (by omega) (by omega) 8 0 mj_fu m (by omega) (by unfold mj_fu; omega)
    have a1' : f_X11_isLedgered_L26 x (nI (1097 + 8 * E)) mj_fu 0 m = some m1 := a1
    have m1s : ∀ s, s < 1097 + 8 * E ∨ 1097 + 8 * E + 8 ≤ s → m1 1 s = m 1 s := fun s hs => by rw [a3, if_neg (by omega)]
    have c2 : f_X11_isLedgered x m = some (mj_wrs (mj_wrs (mj_wrs m1 1 (1097 + 8 * E) x) 1 (1097 + 8 * E + 1) (nI t)) 1 40 (nI (E + 1))) := by
      unfold f_X11_isLedgered
      rw [if_neg (by rw [eE']; exact nI_ge (b := 100) h100 (by decide)), lts, hat, a1', b1s, Int32.add_zero, chk_t (okI (by omega) (by decide)), clI (by omega), lts, nI_1, chk_t (okI (by omega) (by decide)), clI (by omega), lts, wr_e (m := m1) (Or.inr (by omega)), m1s 11 (by omega), et, show (40 : Int32) = nI 40 from rfl, more_eq (by decide), wr_e (Or.inr (by omega)), wr_e (Or.inr (by omega)), m1s 40 (by omega), eE', nI_1, b1s]
    rw [lnum_lt h100]
    have L3 : ∀ j, j ≠ 2 → j ≠ 5 → mj_wrs (mj_wrs (mj_wrs (mj_wrs (mj_wrs (mj_wrs (mj_wrs (mj_wrs (mj_wrs l 3 5 (nI (E + 1))) 4 (7 * E) x) 4 (7 * E + 1) (nI t)) 4 (7 * E + 2) 0) 4 (7 * E + 3) (-1)) 4 (7 * E + 4) 0) 4 (7 * E + 5) (-1)) 4 (7 * E + 6) 0) 3 2 (nI (E + 1)) 3 j = l 3 j := fun j a b => by simp (disch := omega) only [wr_e]
    have L32 : mj_wrs (mj_wrs (mj_wrs (mj_wrs (mj_wrs (mj_wrs (mj_wrs (mj_wrs (mj_wrs l 3 5 (nI (E + 1))) 4 (7 * E) x) 4 (7 * E + 1) (nI t)) 4 (7 * E + 2) 0) 4 (7 * E + 3) (-1)) 4 (7 * E + 4) 0) 4 (7 * E + 5) (-1)) 4 (7 * E + 6) 0) 3 2 (nI (E + 1)) 3 2 = nI (E + 1) := rs _ _ _ _
    have L35 : mj_wrs (mj_wrs (mj_wrs (mj_wrs (mj_wrs (mj_wrs (mj_wrs (mj_wrs (mj_wrs l 3 5 (nI (E + 1))) 4 (7 * E) x) 4 (7 * E + 1) (nI t)) 4 (7 * E + 2) 0) 4 (7 * E + 3) (-1)) 4 (7 * E + 4) 0) 4 (7 * E + 5) (-1)) 4 (7 * E + 6) 0) 3 2 (nI (E + 1)) 3 5 = nI (E + 1) := by simp (disch := omega) only [wr_e, rs]
    have Lk : ∀ k, k ≠ 3 → k ≠ 4 → mj_wrs (mj_wrs (mj_wrs (mj_wrs (mj_wrs (mj_wrs (mj_wrs (mj_wrs (mj_wrs l 3 5 (nI (E + 1))) 4 (7 * E) x) 4 (7 * E + 1) (nI t)) 4 (7 * E + 2) 0) 4 (7 * E + 3) (-1)) 4 (7 * E + 4) 0) 4 (7 * E + 5) (-1)) 4 (7 * E + 6) 0) 3 2 (nI (E + 1)) k = l k := fun k a b => by simp (disch := omega) only [wr_row]
    have L4 : ∀ s, s < 7 * E ∨ 7 * E + 6 < s → mj_wrs (mj_wrs (mj_wrs (mj_wrs (mj_wrs (mj_wrs (mj_wrs (mj_wrs (mj_wrs l 3 5 (nI (E + 1))) 4 (7 * E) x) 4 (7 * E + 1) (nI t)) 4 (7 * E + 2) 0) 4 (7 * E + 3) (-1)) 4 (7 * E + 4) 0) 4 (7 * E + 5) (-1)) 4 (7 * E + 6) 0) 3 2 (nI (E + 1)) 4 s = l 4 s := fun s hs => by simp (disch := omega) only [wr_e]
    have L40 : mj_wrs (mj_wrs (mj_wrs (mj_wrs (mj_wrs (mj_wrs (mj_wrs (mj_wrs (mj_wrs l 3 5 (nI (E + 1))) 4 (7 * E) x) 4 (7 * E + 1) (nI t)) 4 (7 * E + 2) 0) 4 (7 * E + 3) (-1)) 4 (7 * E + 4) 0) 4 (7 * E + 5) (-1)) 4 (7 * E + 6) 0) 3 2 (nI (E + 1)) 4 (7 * E) = x := by simp (disch := omega) only [wr_e, rs]
    have L41 : mj_wrs (mj_wrs (mj_wrs (mj_wrs (mj_wrs (mj_wrs (mj_wrs (mj_wrs (mj_wrs l 3 5 (nI (E + 1))) 4 (7 * E) x) 4 (7 * E + 1) (nI t)) 4 (7 * E + 2) 0) 4 (7 * E + 3) (-1)) 4 (7 * E + 4) 0) 4 (7 * E + 5) (-1)) 4 (7 * E + 6) 0) 3 2 (nI (E + 1)) 4 (7 * E + 1) = nI t := by simp (disch := omega) only [wr_e, rs]
    have L42 : mj_wrs (mj_wrs (mj_wrs (mj_wrs (mj_wrs (mj_wrs (mj_wrs (mj_wrs (mj_wrs l 3 5 (nI (E + 1))) 4 (7 * E) x) 4 (7 * E + 1) (nI t)) 4 (7 * E + 2) 0) 4 (7 * E + 3) (-1)) 4 (7 * E + 4) 0) 4 (7 * E + 5) (-1)) 4 (7 * E + 6) 0) 3 2 (nI (E + 1)) 4 (7 * E + 2) = 0 := by simp (disch := omega) only [wr_e, rs]
    have L43 : mj_wrs (mj_wrs (mj_wrs (mj_wrs (mj_wrs (mj_wrs (mj_wrs (mj_wrs (mj_wrs l 3 5 (nI (E + 1))) 4 (7 * E) x) 4 (7 * E + 1) (nI t)) 4 (7 * E + 2) 0) 4 (7 * E + 3) (-1)) 4 (7 * E + 4) 0) 4 (7 * E + 5) (-1)) 4 (7 * E + 6) 0) 3 2 (nI (E + 1)) 4 (7 * E + 3) = -1 := by simp (disch := omega) only [wr_e, rs]
    have L44 : mj_wrs (mj_wrs (mj_wrs (mj_wrs (mj_wrs (mj_wrs (mj_wrs (mj_wrs (mj_wrs l 3 5 (nI (E + 1))) 4 (7 * E) x) 4 (7 * E + 1) (nI t)) 4 (7 * E + 2) 0) 4 (7 * E + 3) (-1)) 4 (7 * E + 4) 0) 4 (7 * E + 5) (-1)) 4 (7 * E + 6) 0) 3 2 (nI (E + 1)) 4 (7 * E + 4) = 0 := by simp (disch := omega) only [wr_e, rs]
    have L45 : mj_wrs (mj_wrs (mj_wrs (mj_wrs (mj_wrs (mj_wrs (mj_wrs (mj_wrs (mj_wrs l 3 5 (nI (E + 1))) 4 (7 * E) x) 4 (7 * E + 1) (nI t)) 4 (7 * E + 2) 0) 4 (7 * E + 3) (-1)) 4 (7 * E + 4) 0) 4 (7 * E + 5) (-1)) 4 (7 * E + 6) 0) 3 2 (nI (E + 1)) 4 (7 * E + 5) = -1 := by simp (disch := omega) only [wr_e, rs]
    have L46 : mj_wrs (mj_wrs (mj_wrs (mj_wrs (mj_wrs (mj_wrs (mj_wrs (mj_wrs (mj_wrs l 3 5 (nI (E + 1))) 4 (7 * E) x) 4 (7 * E + 1) (nI t)) 4 (7 * E + 2) 0) 4 (7 * E + 3) (-1)) 4 (7 * E + 4) 0) 4 (7 * E + 5) (-1)) 4 (7 * E + 6) 0) 3 2 (nI (E + 1)) 4 (7 * E + 6) = 0 := by simp (disch := omega) only [wr_e, rs]
    have R : ∀ s, s ≠ 40 → (s < 1097 + 8 * E ∨ 1097 + 8 * E + 8 ≤ s) → mj_wrs (mj_wrs (mj_wrs m1 1 (1097 + 8 * E) x) 1 (1097 + 8 * E + 1) (nI t)) 1 40 (nI (E + 1)) 1 s = m 1 s := fun s a b => by rw [wr_e (Or.inr a), wr_e (Or.inr (by omega)), wr_e (Or.inr (by omega)), m1s s b]
    have R40 : mj_wrs (mj_wrs (mj_wrs m1 1 (1097 + 8 * E) x) 1 (1097 + 8 * E + 1) (nI t)) 1 40 (nI (E + 1)) 1 40 = nI (E + 1) := rs _ _ _ _
    have R0 : mj_wrs (mj_wrs (mj_wrs m1 1 (1097 + 8 * E) x) 1 (1097 + 8 * E + 1) (nI t)) 1 40 (nI (E + 1)) 1 (1097 + 8 * E) = x := by simp (disch := omega) only [wr_e, rs]
    have R1 : mj_wrs (mj_wrs (mj_wrs m1 1 (1097 + 8 * E) x) 1 (1097 + 8 * E + 1) (nI t)) 1 40 (nI (E + 1)) 1 (1097 + 8 * E + 1) = nI t := by simp (disch := omega) only [wr_e, rs]
    have Rd : ∀ d, 2 ≤ d → d < 8 → mj_wrs (mj_wrs (mj_wrs m1 1 (1097 + 8 * E) x) 1 (1097 + 8 * E + 1) (nI t)) 1 40 (nI (E + 1)) 1 (1097 + 8 * E + d) = 0 := fun d a b => by rw [wr_e (Or.inr (by omega)), wr_e (Or.inr (by omega)), wr_e (Or.inr (by omega)), a3, if_pos (by omega)]
    have Rp : ∀ p, p ≠ 1 → mj_wrs (mj_wrs (mj_wrs m1 1 (1097 + 8 * E) x) 1 (1097 + 8 * E + 1) (nI t)) 1 40 (nI (E + 1)) p = m p := fun p hp => by simp (disch := omega) only [wr_row, a2]
    generalize mj_wrs (mj_wrs (mj_wrs (mj_wrs (mj_wrs (mj_wrs (mj_wrs (mj_wrs (mj_wrs l 3 5 (nI (E + 1))) 4 (7 * E) x) 4 (7 * E + 1) (nI t)) 4 (7 * E + 2) 0) 4 (7 * E + 3) (-1)) 4 (7 * E + 4) 0) 4 (7 * E + 5) (-1)) 4 (7 * E + 6) 0) 3 2 (nI (E + 1)) = l' at *
    generalize mj_wrs (mj_wrs (mj_wrs m1 1 (1097 + 8 * E) x) 1 (1097 + 8 * E + 1) (nI t)) 1 40 (nI (E + 1)) = m' at *
    refine ⟨l', m', c1, c2, Lk, Rp, fun s a b => R s a (by omega), R40, fun n' hn' h24 => ?_⟩
    have n40 : n' 40 = nI (E + 1) := by rw [hn' 40 (by decide), R40]
    have c40 : mj_cl (n' 40) = E + 1 := by rw [n40, clI (by omega)]
    have c11 : mj_cl (n' 11) = t := by rw [hn' 11 (by decide), R 11 (by decide) (by omega), ct]
    unfold I_led
    rw [c40, c11, L35, L32, L3 4 (by decide) (by decide), n40, h24, hn' 25 (by decide), R 25 (by decide) (by omega), hq 25 (by decide) (by omega)]
    refine ⟨rfl, cn_mk (by omega) (by omega), by omega, ?_, d5, fun i hi h1 => ?_, fun a b a1 a2 b1 b2 h1 h2 => ?_⟩
    · by_cases z : E + 1 < 100
      · rw [if_pos z]
      · rw [if_neg z, show E + 1 = 100 by omega]
        rfl
    · unfold I_ll
      by_cases z : i = E
      · subst z
        rw [hn' _ (by omega), hn' _ (by omega), hn' _ (by omega), hn' _ (by omega), hn' _ (by omega), hn' _ (by omega), hn' _ (by omega), R0, R1, Rd 2 (by decide) (by decide), Rd 3 (by decide) (by decide), Rd 4 (by decide) (by decide), Rd 5 (by decide) (by decide), Rd 6 (by decide) (by decide), L40, L41, L42, L43, L44, L45, L46]
        exact ⟨rfl, rfl, rfl, by decide, rfl, by decide, rfl, cn_mk (by omega) (by omega), cn0 _, cn0 _, fun _ => rfl, fun y => absurd rfl y⟩
      · have z' := d6 i (by rw [cE]; omega) h1
        unfold I_ll at z'
        rw [ct0] at z'
        rw [L4 _ (by omega), L4 _ (by omega), L4 _ (by omega), L4 _ (by omega), L4 _ (by omega), L4 _ (by omega), L4 _ (by omega), Lk 46 (by decide) (by decide), L3 4 (by decide) (by decide), hn' 19 (by decide), R 19 (by decide) (by omega), hq 19 (by decide) (by omega)]
        simp (disch := omega) only [hn', R, hq]
        exact z'
    · have ra : ∀ a, a < E + 1 → a < 100 → n' (1097 + 8 * a + 4) ≠ 0 → a < E := fun a a1 a2 y => by
        rcases Nat.lt_or_ge a E with q | q
        · exact q
        · exfalso
          refine y ?_
          rw [show a = E by omega, hn' _ (by omega), Rd 4 (by decide) (by decide)]
      have aE := ra a a1 a2 h1
      have bE := ra b b1 b2 h2
      rw [hn' _ (by omega), R _ (by omega) (by omega), hq _ (by omega) (by omega)] at h1 h2
      rw [Lk 46 (by decide) (by decide), hn' _ (by omega), hn' _ (by omega), R _ (by omega) (by omega), R _ (by omega) (by omega), hq _ (by omega) (by omega), hq _ (by omega) (by omega)]
      exact d7 a b (by rw [cE]; exact aE) a2 (by rw [cE]; exact bE) b2 h1 h2
  · have l32 : l 3 2 = 100 := by rw [d4, cE, if_neg h100]
    rw [lnum_ge (by omega)]
    refine ⟨mj_wrs l 3 5 (nI (E + 1)), mj_wrs m 1 40 (nI (E + 1)), ?_, ?_, fun k a b => wr_row _ _ _ _ _ a, fun p hp => wr_row _ _ _ _ _ hp, fun s a b => wr_e (Or.inr a), rs _ _ _ _, fun n' hn' h24 => ?_⟩
    · unfold f_X2_open
      rw [d1, eE, nI_1, lts, wr_e (Or.inr (by decide)), l32, if_neg (by decide)]
    · unfold f_X11_isLedgered
      rw [if_pos (by rw [eE']; exact nI_le (a := 100) (by omega) (by omega)), show (40 : Int32) = nI 40 from rfl, more_eq (by decide), eE', nI_1, b1s]
    · have hn : ∀ s, s ≠ 24 → s ≠ 40 → (s < 58 ∨ 65 < s) → n' s = n0 s := fun s a b c => by rw [hn' s a, wr_e (Or.inr b), hq s a c]
      have n40 : n' 40 = nI (E + 1) := by rw [hn' 40 (by decide), rs]
      have c40 : mj_cl (n' 40) = E + 1 := by rw [n40, clI (by omega)]
      unfold I_led
      rw [c40, n40, h24, hn 25 (by decide) (by decide) (by omega), hn 11 (by decide) (by decide) (by omega), rs, wr_e (Or.inr (by decide)), wr_e (Or.inr (by decide)), l32, wr_row _ _ _ _ 46 (by decide)]
      refine ⟨rfl, cn_mk (by omega) (by omega), by omega, by rw [if_neg (by omega)], d5, fun i hi h1 => ?_, fun a b a1 a2 b1 b2 h1 h2 => ?_⟩
      · have z' := d6 i (by rw [cE]; omega) h1
        unfold I_ll at z' ⊢
        rw [wr_row _ _ _ _ 4 (by decide), wr_row _ _ _ _ 46 (by decide), wr_e (Or.inr (by decide)), hn 19 (by decide) (by decide) (by omega)]
        simp (disch := omega) only [hn]
        exact z'
      · rw [hn _ (by omega) (by omega) (by omega)] at h1 h2
        rw [hn _ (by omega) (by omega) (by omega), hn _ (by omega) (by omega) (by omega)]
        exact d7 a b (by rw [cE]; omega) a2 (by rw [cE]; omega) b2 h1 h2
