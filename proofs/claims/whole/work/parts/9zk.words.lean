/-! plan: the words -/
def wd (c : Nat) : List Int32 := (mj_ss c).2.2.2
def mt (x : Nat → Int32) (d c : Nat) : Prop := (wd c).length = d ∧ ∀ i, i < d → x i = (wd c).getD i 0
theorem wd_len' : ∀ j : Fin 13, (wd j.1).length ≤ 10 := by decide +kernel
theorem wd_inj' : ∀ i j : Fin 13, wd i.1 = wd j.1 → i = j := by decide +kernel
theorem pw' : ∀ j : Fin 13, f_X5_planWord (nI j.1) = j.1 := by decide +kernel
theorem mt_u {x : Nat → Int32} {d i j : Nat} (hi : i < 13) (hj : j < 13) (h1 : mt x d i) (h2 : mt x d j) : i = j := by
  have e : wd i = wd j := List.ext_getElem (h1.1.trans h2.1.symm) (fun n a b => by
    rw [List.getElem_eq_getD (h := a) 0, List.getElem_eq_getD (h := b) 0, ← h1.2 n (by have := h1.1; omega), ← h2.2 n (by have := h1.1; omega)])
  have := wd_inj' ⟨i, hi⟩ ⟨j, hj⟩ e
  exact congrArg Fin.val this
theorem tokL {r m : mj_m} {c f d j : Nat} (h : RDc r m c) (hc : c ≤ 400) (h6 : r 1 6 = nI f) (hd : f + d ≤ c) (hj : j < 13) (hl : (wd j).length = d) : ∀ (k i n : Nat), i + k = d → k < n → ∃ q, f_X5_isTokenText_L20 j n (nI i) r = some q ∧ ((q = 55 ∧ ∀ p, i ≤ p → p < d → m 6 (f + p) = (wd j).getD p 0) ∨ (q = 47 ∧ ¬ ∀ p, i ≤ p → p < d → m 6 (f + p) = (wd j).getD p 0)) := by
  have sln : mj_sln j = nI d := by
    rw [← hl]
    rfl
  intro k
  induction k with
  | zero =>
    intro i n hi hn
    obtain ⟨n, rfl⟩ : ∃ k, n = k + 1 := ⟨n - 1, by omega⟩
    refine ⟨55, ?_, Or.inl ⟨rfl, fun p _ _ => by omega⟩⟩
    rw [f_X5_isTokenText_L20, chk_t (decide_eq_true (by omega)), sln, if_pos (nI_le (by omega) (by omega))]
  | succ k ih =>
    intro i n hi hn
    obtain ⟨n, rfl⟩ : ∃ k, n = k + 1 := ⟨n - 1, by omega⟩
    have es : mj_sch j (nI i) = (wd j).getD i 0 := by
      unfold mj_sch
      rw [clI (by omega)]
      rfl
    have e : f_X5_isTokenText_L20 j (n + 1) (nI i) r = if m 6 (f + i) = (wd j).getD i 0 then f_X5_isTokenText_L20 j n (nI (i + 1)) r else some 47 := by
      rw [f_X5_isTokenText_L20, chk_t (decide_eq_true (by omega)), sln, if_neg (nI_ge (by omega) (by omega)), h6, nI_add, chk_t (okI (by omega) (by decide)), chk_t (decide_eq_true (by omega)), chk_t (show mj_ok (nI i) (mj_ss j).2.2.2.length = true from okI (show i < (wd j).length by omega) (show (wd j).length ≤ 100000 by omega)), clI (by omega), (h.2.2 (f + i) (by omega)).1, lts, nI_1, es]
    rw [e]
    by_cases z : m 6 (f + i) = (wd j).getD i 0
    · rw [if_pos z]
      obtain ⟨q, q1, q2⟩ := ih (i + 1) n (by omega) (by omega)
      refine ⟨q, q1, ?_⟩
      rcases q2 with ⟨a, b⟩ | ⟨a, b⟩
      · refine Or.inl ⟨a, fun p h1 h2 => ?_⟩
        by_cases y : p = i
        · rw [y]
          exact z
        · exact b p (by omega) h2
      · exact Or.inr ⟨a, fun w => b (fun p h1 h2 => w p (by omega) h2)⟩
    · rw [if_neg z]
      exact ⟨47, rfl, Or.inr ⟨rfl, fun w => z (w i (Nat.le_refl _) (by omega))⟩⟩
theorem tok {r m : mj_m} {c f d j : Nat} (h : RDc r m c) (hc : c ≤ 400) (h6 : r 1 6 = nI f) (h7 : r 1 7 = nI (f + d)) (hd : f + d ≤ c) (hj : j < 13) : ∃ q : Int32, f_X5_isTokenText j r = some q ∧ ((q = 1 ∧ mt (fun i => m 6 (f + i)) d j) ∨ (q = 0 ∧ ¬ mt (fun i => m 6 (f + i)) d j)) := by
  unfold f_X5_isTokenText
  rw [chk_t (decide_eq_true (by omega)), h6, h7, nI_sub (by omega), show f + d - f = d by omega]
  have hw : (wd j).length ≤ 10 := wd_len' ⟨j, hj⟩
  by_cases hl : (wd j).length = d
  · rw [if_pos (show mj_sln j = nI d by rw [← hl]; rfl)]
    obtain ⟨q, q1, q2⟩ := tokL h hc h6 hd hj hl d 0 mj_fu (by omega) (by unfold mj_fu; omega)
    have q1' : f_X5_isTokenText_L20 j mj_fu 0 r = some q := q1
    rw [q1', b1s]
    rcases q2 with ⟨rfl, b⟩ | ⟨rfl, b⟩
    · exact ⟨1, rfl, Or.inl ⟨rfl, hl, fun i hi => b i (by omega) hi⟩⟩
    · exact ⟨0, rfl, Or.inr ⟨rfl, fun w => b (fun p _ h2 => w.2 p h2)⟩⟩
  · rw [if_neg (show ¬ mj_sln j = nI d from fun w => hl ((nI_eq (a := (wd j).length) (b := d) (by omega) (by omega)).mp w))]
    exact ⟨0, rfl, Or.inr ⟨rfl, fun w => hl w.1⟩⟩
theorem w46n {r m : mj_m} {c f d : Nat} (h : RDc r m c) (hc : c ≤ 400) (h6 : r 1 6 = nI f) (h7 : r 1 7 = nI (f + d)) (hd : f + d ≤ c) : ∀ (k i n : Nat), i + k = 13 → k < n → (∀ j, i ≤ j → j < 13 → ¬ mt (fun i => m 6 (f + i)) d j) → f_X5_readWord_L46 n (nI i) r = some r := by
  intro k
  induction k with
  | zero =>
    intro i n hi hn _
    obtain ⟨n, rfl⟩ : ∃ k, n = k + 1 := ⟨n - 1, by omega⟩
    rw [f_X5_readWord_L46, if_pos (show (13 : Int32) ≤ nI i from nI_le (a := 13) (by omega) (by omega))]
  | succ k ih =>
    intro i n hi hn hm
    obtain ⟨n, rfl⟩ : ∃ k, n = k + 1 := ⟨n - 1, by omega⟩
    have ep : f_X5_planWord (nI i) = i := pw' ⟨i, by omega⟩
    obtain ⟨q, q1, q2⟩ := tok h hc h6 h7 hd (show i < 13 by omega)
    rcases q2 with ⟨-, b⟩ | ⟨rfl, b⟩
    · exact absurd b (hm i (Nat.le_refl _) (by omega))
    · rw [f_X5_readWord_L46, if_neg (show ¬ (13 : Int32) ≤ nI i from nI_ge (b := 13) (by omega) (by decide)), lts, ep, q1, b1s, if_pos rfl, lts, nI_1]
      exact ih (i + 1) n (by omega) (by omega) (fun j h1 h2 => hm j (by omega) h2)
theorem w46y {r m : mj_m} {c f d w : Nat} (h : RDc r m c) (hc : c ≤ 400) (h6 : r 1 6 = nI f) (h7 : r 1 7 = nI (f + d)) (hd : f + d ≤ c) (hw : w < 13) (hm : mt (fun i => m 6 (f + i)) d w) : ∀ (k i n : Nat), i + k = w → 13 < n + i → f_X5_readWord_L46 n (nI i) r = some (mj_wrs (mj_wrs r 1 5 1) 1 8 (nI w)) := by
  intro k
  induction k with
  | zero =>
    intro i n hi hn
    obtain rfl : i = w := by omega
    obtain ⟨n, rfl⟩ : ∃ k, n = k + 1 := ⟨n - 1, by omega⟩
    have ep : f_X5_planWord (nI i) = i := pw' ⟨i, by omega⟩
    obtain ⟨q, q1, q2⟩ := tok h hc h6 h7 hd (show i < 13 by omega)
    rcases q2 with ⟨rfl, b⟩ | ⟨-, b⟩
    · rw [f_X5_readWord_L46, if_neg (show ¬ (13 : Int32) ≤ nI i from nI_ge (b := 13) (by omega) (by decide)), lts, ep, q1, b1s, if_neg one0, lts, lts, lts, nI_1]
      exact w46n (r := mj_wrs (mj_wrs r 1 5 1) 1 8 (nI i)) (m := m) (f := f) (d := d) (h.keep (fun k hk => by rw [wr_row _ _ _ _ _ hk, wr_row _ _ _ _ _ hk]) (by rw [wr_e (Or.inr (by decide)), wr_e (Or.inr (by decide))]) (fun _ _ => rfl) rfl) hc (by rw [wr_e (Or.inr (by decide)), wr_e (Or.inr (by decide)), h6]) (by rw [wr_e (Or.inr (by decide)), wr_e (Or.inr (by decide)), h7]) hd (12 - i) (i + 1) n (by omega) (by omega) (fun j h1 h2 hj => by
        have := mt_u h2 hw hj hm
        omega)
    · exact absurd hm b
  | succ k ih =>
    intro i n hi hn
    obtain ⟨n, rfl⟩ : ∃ k, n = k + 1 := ⟨n - 1, by omega⟩
    have ep : f_X5_planWord (nI i) = i := pw' ⟨i, by omega⟩
    obtain ⟨q, q1, q2⟩ := tok h hc h6 h7 hd (show i < 13 by omega)
    rcases q2 with ⟨-, b⟩ | ⟨rfl, b⟩
    · have := mt_u (show i < 13 by omega) hw b hm
      omega
    · rw [f_X5_readWord_L46, if_neg (show ¬ (13 : Int32) ≤ nI i from nI_ge (b := 13) (by omega) (by decide)), lts, ep, q1, b1s, if_pos rfl, lts, nI_1]
      exact ih (i + 1) n (by omega) (by omega)
theorem j39 {r m : mj_m} {c f d : Nat} (h : RDc r m c) (hc : c ≤ 400) (h6 : r 1 6 = nI f) (h7 : r 1 7 = nI (f + d)) (hd : f + d ≤ c) : (∃ w, w < 13 ∧ mt (fun i => m 6 (f + i)) d w ∧ f_X5_readWord_J39 r = some (mj_wrs (mj_wrs (mj_wrs r 1 5 4) 1 5 1) 1 8 (nI w))) ∨ ((∀ w, w < 13 → ¬ mt (fun i => m 6 (f + i)) d w) ∧ f_X5_readWord_J39 r = some (mj_wrs r 1 5 4)) := by
  have h' : RDc (mj_wrs r 1 5 4) m c := h.keep (fun k hk => wr_row _ _ _ _ _ hk) (wr_e (Or.inr (by decide))) (fun _ _ => rfl) rfl
  have h6' : mj_wrs r 1 5 4 1 6 = nI f := by rw [wr_e (Or.inr (by decide)), h6]
  have h7' : mj_wrs r 1 5 4 1 7 = nI (f + d) := by rw [wr_e (Or.inr (by decide)), h7]
  by_cases z : ∃ w, w < 13 ∧ mt (fun i => m 6 (f + i)) d w
  · obtain ⟨w, w1, w2⟩ := z
    refine Or.inl ⟨w, w1, w2, ?_⟩
    have e : f_X5_readWord_L46 mj_fu 0 (mj_wrs r 1 5 4) = some (mj_wrs (mj_wrs (mj_wrs r 1 5 4) 1 5 1) 1 8 (nI w)) := w46y h' hc h6' h7' hd w1 w2 w 0 mj_fu (by omega) (by unfold mj_fu; omega)
    unfold f_X5_readWord_J39
    rw [lts, e, b1s]
  · have z' : ∀ w, w < 13 → ¬ mt (fun i => m 6 (f + i)) d w := fun w w1 w2 => z ⟨w, w1, w2⟩
    refine Or.inr ⟨z', ?_⟩
    have e : f_X5_readWord_L46 mj_fu 0 (mj_wrs r 1 5 4) = some (mj_wrs r 1 5 4) := w46n h' hc h6' h7' hd 13 0 mj_fu (by omega) (by unfold mj_fu; omega) (fun j _ h2 => z' j h2)
    unfold f_X5_readWord_J39
    rw [lts, e, b1s]
