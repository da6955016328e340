/-! a light layer over the kit: values, shapes of places, memories; one judgement; a rule an instruction -/
abbrev mj_I : Type := ClassId × ClassId
abbrev mj_V : Type := Int32 ⊕ ((Nat × Nat) ⊕ Option Nat)
abbrev mj_r (q : Nat × Nat) : mj_V := .inr (.inl q)
abbrev mj_o (o : Option Nat) : mj_V := .inr (.inr o)
abbrev mj_S : Type := Nat ⊕ (Nat × List (Option (Nat × Nat)))
abbrev mj_m : Type := Nat → Nat → Int32
abbrev mj_M : Type := Nat → mj_m
abbrev mj_G : Type := (Nat × Nat → mj_S) × List (Nat × Nat)
def mj_cv (ad : Nat × Nat → Nat) : mj_V → Value
  | .inl x => .int x
  | .inr (.inl q) => .ref (ad q)
  | .inr (.inr o) => va_rf o
theorem mj_cv_cat (ad : Nat × Nat → Nat) (v : mj_V) : (mj_cv ad v).category = 1 := by
  rcases v with x | q | o
  · rfl
  · rfl
  · cases o <;> rfl
def mj_sv (ad : Nat × Nat → Nat) (f : Nat → Int32) (t : List (Option (Nat × Nat))) (j : Nat) : Value := match t[j]? with
  | some (some q) => .ref (ad q)
  | _ => .int (f j)
def mj_sl (ad : Nat × Nat → Nat) (f : Nat → Int32) (t : List (Option (Nat × Nat))) : List Value := (List.range t.length).map (mj_sv ad f t)
def mj_ce (cI : mj_I) (ad : Nat × Nat → Nat) (s : mj_S) (f : Nat → Int32) : va_E := match s with
  | .inl n => .inl (cI.1, n, .inl f)
  | .inr o => .inr (o.1, mj_sl ad f o.2)
def mj_w (cI : mj_I) (ad : Nat × Nat → Nat) (G : mj_G) (M : mj_M) : va_W := G.2.map (fun q => (ad q, mj_ce cI ad (G.1 q) (M q.1 q.2)))
def mj_wr (M : mj_M) (q : Nat × Nat) (f : Nat → Int32) : mj_M := va_up M q.1 (va_up (M q.1) q.2 f)
theorem mj_wr_same (M : mj_M) (q : Nat × Nat) (f : Nat → Int32) : mj_wr M q f q.1 q.2 = f := by simp [mj_wr, va_up]
theorem mj_wr_ne (M : mj_M) {q r : Nat × Nat} (f : Nat → Int32) (h : r ≠ q) : mj_wr M q f r.1 r.2 = M r.1 r.2 := by
  unfold mj_wr va_up
  by_cases h1 : r.1 = q.1
  · by_cases h2 : r.2 = q.2
    · exact absurd (Prod.ext h1 h2) h
    · simp [h1, h2]
  · simp [h1]
theorem mj_sl_get {ad : Nat × Nat → Nat} {f : Nat → Int32} {t : List (Option (Nat × Nat))} {j : Nat} {o : Option (Nat × Nat)} (h : t[j]? = some o) : (mj_sl ad f t)[j]? = some (mj_sv ad f t j) := by
  have hl : j < t.length := (List.getElem?_eq_some_iff.mp h).1
  simp [mj_sl, hl]
theorem mj_sl_len {ad : Nat × Nat → Nat} {f : Nat → Int32} {t : List (Option (Nat × Nat))} : (mj_sl ad f t).length = t.length := by simp [mj_sl]
theorem mj_sl_set {ad : Nat × Nat → Nat} {f : Nat → Int32} {t : List (Option (Nat × Nat))} {j : Nat} (x : Int32) (h : t[j]? = some none) : (mj_sl ad f t).set j (.int x) = mj_sl ad (upd f j x) t := by
  apply List.ext_getElem?
  intro i
  by_cases hi : i = j
  · subst hi
    rw [mj_sl_get h, List.getElem?_set_self (by rw [mj_sl_len]; exact (List.getElem?_eq_some_iff.mp h).1)]
    simp [mj_sv, h, upd]
  · rw [List.getElem?_set_ne (Ne.symm hi)]
    by_cases hl : i < t.length
    · have e : t[i]? = some t[i] := List.getElem?_eq_getElem hl
      rw [mj_sl_get e, mj_sl_get e]
      simp only [mj_sv, e]
      cases t[i] with
      | none => simp [upd, hi]
      | some q => rfl
    · rw [List.getElem?_eq_none (by rw [mj_sl_len]; omega), List.getElem?_eq_none (by rw [mj_sl_len]; omega)]
theorem mj_w_get {cI : mj_I} {ad : Nat × Nat → Nat} {G : mj_G} {M : mj_M} {X : va_W} {i : Nat} {q : Nat × Nat} (h : G.2[i]? = some q) : (mj_w cI ad G M ++ X)[i]? = some (ad q, mj_ce cI ad (G.1 q) (M q.1 q.2)) := by
  have hl : i < G.2.length := (List.getElem?_eq_some_iff.mp h).1
  rw [List.getElem?_append_left (by simp [mj_w, hl])]
  simp [mj_w, h]
theorem mj_w_set {cI : mj_I} {ad : Nat × Nat → Nat} {G : mj_G} {M : mj_M} {X : va_W} {A : Nat → Prop} {i : Nat} {q : Nat × Nat} (hD : va_D A (mj_w cI ad G M ++ X)) (h : G.2[i]? = some q) (f : Nat → Int32) : (mj_w cI ad G M ++ X).set i (ad q, mj_ce cI ad (G.1 q) f) = mj_w cI ad G (mj_wr M q f) ++ X := by
  have hl : i < G.2.length := (List.getElem?_eq_some_iff.mp h).1
  apply List.ext_getElem?
  intro k
  by_cases hk : k = i
  · subst hk
    rw [mj_w_get h, mj_wr_same, List.getElem?_set_self (by simp [mj_w]; omega)]
  · rw [List.getElem?_set_ne (Ne.symm hk)]
    by_cases hkl : k < G.2.length
    · have e : G.2[k]? = some G.2[k] := List.getElem?_eq_getElem hkl
      rw [mj_w_get e, mj_w_get e, mj_wr_ne]
      intro hq
      exact hk (hD.1 k i _ _ (mj_w_get e) (mj_w_get h) (by rw [hq]))
    · rw [List.getElem?_append_right (by simp [mj_w]; omega), List.getElem?_append_right (by simp [mj_w]; omega)]
      simp [mj_w]
/-! locals -/
def mj_lf (ad : Nat × Nat → Nat) (L : List (Option mj_V)) : List (Nat × Value) := (List.range L.length).filterMap (fun i => match L[i]? with
  | some (some v) => some (i, mj_cv ad v)
  | _ => none)
theorem mj_lf_mem {ad : Nat × Nat → Nat} {L : List (Option mj_V)} {i : Nat} {w : Value} : (i, w) ∈ mj_lf ad L ↔ ∃ v, L[i]? = some (some v) ∧ w = mj_cv ad v := by
  unfold mj_lf
  rw [List.mem_filterMap]
  constructor
  · rintro ⟨k, -, h⟩
    cases e : L[k]? with
    | none => simp [e] at h
    | some o =>
      cases o with
      | none => simp [e] at h
      | some v =>
        simp [e] at h
        obtain ⟨rfl, rfl⟩ := h
        exact ⟨v, e, rfl⟩
  · rintro ⟨v, h, rfl⟩
    refine ⟨i, List.mem_range.mpr (List.getElem?_eq_some_iff.mp h).1, ?_⟩
    simp [h]
def mj_lh (ad : Nat × Nat → Nat) (ls : Array Slot) (L : List (Option mj_V)) : Prop := lv_has ls L.length (mj_lf ad L)
theorem mj_lh_at {ad : Nat × Nat → Nat} {ls : Array Slot} {L : List (Option mj_V)} {i : Nat} {v : mj_V} (h : mj_lh ad ls L) (hi : L[i]? = some (some v)) : ls[i]? = some (.val (mj_cv ad v)) := h.2.2 (i, mj_cv ad v) (mj_lf_mem.mpr ⟨v, hi, rfl⟩)
theorem mj_lh_set {ad : Nat × Nat → Nat} {ls : Array Slot} {L : List (Option mj_V)} {i : Nat} {v : mj_V} (h : lv_has ls L.length ((i, mj_cv ad v) :: (mj_lf ad L).filter (fun q => !(q.1 == i) && !(q.1 + 1 == i && q.2.category == 2)))) : mj_lh ad ls (L.set i (some v)) := by
  refine ⟨by rw [List.length_set]; exact h.1, h.2.1, ?_⟩
  rintro ⟨k, w⟩ hq
  obtain ⟨u, hu, rfl⟩ := mj_lf_mem.mp hq
  by_cases hk : k = i
  · subst hk
    rw [List.getElem?_set] at hu
    simp only [if_true] at hu
    split at hu
    · cases hu
      exact h.2.2 _ List.mem_cons_self
    · cases hu
  · rw [List.getElem?_set_ne (Ne.symm hk)] at hu
    refine h.2.2 _ (List.mem_cons_of_mem _ (List.mem_filter.mpr ⟨mj_lf_mem.mpr ⟨u, hu, rfl⟩, ?_⟩))
    simp [hk, mj_cv_cat]
theorem mj_args_mem {ad : Nat × Nat → Nat} : ∀ (av : List mj_V) (k i : Nat) (v : mj_V), av[i]? = some v → (k + i, mj_cv ad v) ∈ lv_args k (av.map (mj_cv ad))
  | [], _, _, _, h => by simp at h
  | a :: av, k, 0, v, h => by
    simp at h
    subst h
    simp [lv_args]
  | a :: av, k, i + 1, v, h => by
    simp at h
    have := mj_args_mem (ad := ad) av (k + 1) i v h
    simp only [List.map_cons, lv_args, mj_cv_cat]
    rw [show k + (i + 1) = k + 1 + i by omega]
    exact List.mem_cons_of_mem _ this
theorem mj_sl_of (ad : Nat × Nat → Nat) : ∀ av : List mj_V, lg_sl (av.map (mj_cv ad)) = av.map (fun v => Slot.val (mj_cv ad v))
  | [] => rfl
  | a :: av => by
    have := mj_sl_of ad av
    unfold lg_sl at this ⊢
    simp only [List.map_cons, List.flatMap_cons, mj_cv_cat, this]
    simp
theorem mj_lh_entry {ad : Nat × Nat → Nat} (av : List mj_V) {n : Nat} (h : av.length ≤ n) : mj_lh ad ((lg_sl (av.map (mj_cv ad)) ++ List.replicate (n - (lg_sl (av.map (mj_cv ad))).length) Slot.unset).toArray) (av.map some ++ List.replicate (n - av.length) none) := by
  have hl : (lg_sl (av.map (mj_cv ad))).length = av.length := by rw [mj_sl_of]; simp
  have h0 := lv_entry (av.map (mj_cv ad)) (n := n) (by rw [hl]; exact h)
  refine ⟨by rw [h0.1]; simp; omega, h0.2.1, ?_⟩
  rintro ⟨k, w⟩ hq
  obtain ⟨u, hu, rfl⟩ := mj_lf_mem.mp hq
  have hu' : av[k]? = some u := by
    by_cases hk : k < av.length
    · rw [List.getElem?_append_left (by simp; exact hk)] at hu
      simpa using hu
    · rw [List.getElem?_append_right (by simp; omega), List.getElem?_replicate] at hu
      split at hu <;> cases hu
  have := mj_args_mem (ad := ad) av 0 k u hu'
  rw [Nat.zero_add] at this
  exact h0.2.2 _ this
