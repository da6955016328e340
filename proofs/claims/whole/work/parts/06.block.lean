/-! names for what is bound, checked, called; rules on one block -/
def mj_let {α β : Sort _} (x : α) (k : α → β) : β := k x
theorem mj_let_o {α β : Sort _} {x : α} {k : α → β} {r : β} (h : mj_let x k = r) : ∃ a, x = a ∧ k a = r := ⟨x, rfl, h⟩
def mj_chk {α : Type _} (b : Bool) (k : Option α) : Option α := if b = true then k else none
theorem mj_chk_o {α : Type _} {b : Bool} {k : Option α} {r : α} (h : mj_chk b k = some r) : b = true ∧ k = some r := by
  unfold mj_chk at h
  split at h
  · exact ⟨by assumption, h⟩
  · cases h
def mj_b1 {α γ : Type _} (x : Option α) (k : α → Option γ) : Option γ := match x with
  | some a => k a
  | none => none
def mj_b2 {α β γ : Type _} (x : Option (α × β)) (k : α → β → Option γ) : Option γ := match x with
  | some (a, b) => k a b
  | none => none
def mj_b3 {α β δ γ : Type _} (x : Option (α × β × δ)) (k : α → β → δ → Option γ) : Option γ := match x with
  | some (a, b, c) => k a b c
  | none => none
def mj_b4 {α β δ ε γ : Type _} (x : Option (α × β × δ × ε)) (k : α → β → δ → ε → Option γ) : Option γ := match x with
  | some (a, b, c, d) => k a b c d
  | none => none
def mj_b5 {α β δ ε ζ γ : Type _} (x : Option (α × β × δ × ε × ζ)) (k : α → β → δ → ε → ζ → Option γ) : Option γ := match x with
  | some (a, b, c, d, e) => k a b c d e
  | none => none
theorem mj_b1_o {α γ : Type _} {x : Option α} {k : α → Option γ} {r : γ} (h : mj_b1 x k = some r) : ∃ a, x = some a ∧ k a = some r := by
  cases x with
  | none => cases h
  | some a => exact ⟨a, rfl, h⟩
theorem mj_b2_o {α β γ : Type _} {x : Option (α × β)} {k : α → β → Option γ} {r : γ} (h : mj_b2 x k = some r) : ∃ a b, x = some (a, b) ∧ k a b = some r := by
  cases x with
  | none => cases h
  | some p => exact ⟨p.1, p.2, rfl, h⟩
theorem mj_b3_o {α β δ γ : Type _} {x : Option (α × β × δ)} {k : α → β → δ → Option γ} {r : γ} (h : mj_b3 x k = some r) : ∃ a b c, x = some (a, b, c) ∧ k a b c = some r := by
  cases x with
  | none => cases h
  | some p => exact ⟨p.1, p.2.1, p.2.2, rfl, h⟩
theorem mj_b4_o {α β δ ε γ : Type _} {x : Option (α × β × δ × ε)} {k : α → β → δ → ε → Option γ} {r : γ} (h : mj_b4 x k = some r) : ∃ a b c d, x = some (a, b, c, d) ∧ k a b c d = some r := by
  cases x with
  | none => cases h
  | some p => exact ⟨p.1, p.2.1, p.2.2.1, p.2.2.2, rfl, h⟩
theorem mj_b5_o {α β δ ε ζ γ : Type _} {x : Option (α × β × δ × ε × ζ)} {k : α → β → δ → ε → ζ → Option γ} {r : γ} (h : mj_b5 x k = some r) : ∃ a b c d e, x = some (a, b, c, d, e) ∧ k a b c d e = some r := by
  cases x with
  | none => cases h
  | some p => exact ⟨p.1, p.2.1, p.2.2.1, p.2.2.2.1, p.2.2.2.2, rfl, h⟩

def mj_p2 {α β : Type _} {γ : Sort _} (x : α × β) (k : α → β → γ) : γ := k x.1 x.2
theorem mj_p2_o {α β : Type _} {γ : Sort _} {x : α × β} {k : α → β → γ} {r : γ} (h : mj_p2 x k = r) : ∃ a b, x = (a, b) ∧ k a b = r := ⟨x.1, x.2, rfl, h⟩
theorem mj_if_t {c : Prop} [Decidable c] {α : Sort _} {a b r : α} (hc : c) (h : (if c then a else b) = r) : a = r := by rw [if_pos hc] at h; exact h
theorem mj_if_f {c : Prop} [Decidable c] {α : Sort _} {a b r : α} (hc : ¬ c) (h : (if c then a else b) = r) : b = r := by rw [if_neg hc] at h; exact h
theorem mj_bi (r : Option mj_V) : mj_bb (some .int) r := fun h => by cases h
theorem mj_bv (r : Option mj_V) : mj_bb none r := fun h => by cases h
theorem mj_b0 : mj_bb (some .boolean) (some (.inl 0)) := fun _ => Or.inl rfl
theorem mj_b1' : mj_bb (some .boolean) (some (.inl 1)) := fun _ => Or.inr rfl
theorem mj_nb {v : Int32} (h : mj_bb (some .boolean) (some (.inl v))) : narrow .boolean (.int v) = .int v := by
  rcases h rfl with h | h
  · cases h; rfl
  · cases h; rfl
def mj_isb (v : Int32) : Bool := v == 0 || v == 1
theorem mj_isb_b {v : Int32} (h : mj_isb v = true) : mj_bb (some .boolean) (some (.inl v)) := by
  simp only [mj_isb, Bool.or_eq_true, beq_iff_eq] at h
  rcases h with rfl | rfl
  · exact mj_b0
  · exact mj_b1'
theorem mj_fb {v : Int32} (h : mj_bb (some .boolean) (some (.inl v))) : fits .boolean (.int v) = true := by
  rcases h rfl with h | h
  · cases h; rfl
  · cases h; rfl
theorem mj_neL {x v : Int32} (k : Int) (hk : v.toInt = k) (h : ¬ x = v) : x.toInt ≠ k := fun e => h (Int32.toInt_inj.mp (e.trans hk.symm))
theorem mj_cln (n : Nat) (h : n < 2 ^ 31) : mj_cl (nI n) = n := nI_clamp h
theorem mj_okn (n N : Nat) (h : n < N) (hN : N < 2 ^ 31) : mj_ok (nI n) N = true := by
  simp only [mj_ok, Bool.and_eq_true, decide_eq_true_eq]
  rw [nI_toInt (by omega)]
  omega
theorem mj_self (M : mj_M) (β : Nat) : va_up M β (M β) = M := by
  funext b
  unfold va_up
  split
  · next h => rw [h]
  · rfl
theorem mj_up_same (M : mj_M) (β : Nat) (m : mj_m) : va_up M β m β = m := by simp [va_up]
theorem mj_up_ne (M : mj_M) {β γ : Nat} (m : mj_m) (h : γ ≠ β) : va_up M β m γ = M γ := by simp [va_up, h]
theorem mj_up_up (M : mj_M) (β : Nat) (m m' : mj_m) : va_up (va_up M β m) β m' = va_up M β m' := by
  funext b
  unfold va_up
  split <;> rfl
theorem mj_S1_self {y : MethodName} {cc : ByteArray} {nL : Nat} {ret : Option FieldType} {d : Nat} {G : mj_G} {av : List mj_V} {M : mj_M} {β : Nat} {r0 : Option mj_V} {M0 : mj_M} (h : mj_S1 y cc nL ret d G av (va_up M β (M β)) r0 M0) : mj_S1 y cc nL ret d G av M r0 M0 := by
  rw [mj_self] at h
  exact h
def mj_cpw (m : mj_m) (k0 k1 : Nat) (sp dp n : Int32) : mj_m := va_up m k1 (va_cpy (m k0) (m k1) (mj_cl sp) (mj_cl dp) (mj_cl n))
def mj_cpo (o m : mj_m) (k0 k1 : Nat) (sp dp n : Int32) : mj_m := va_up m k1 (va_cpy (o k0) (m k1) (mj_cl sp) (mj_cl dp) (mj_cl n))
section MJB
variable {κ : mj_K} {cc : ByteArray} {nL : Nat} {own : String} {Q : State → Prop} {pc : Nat} {L : List (Option mj_V)} {st : List mj_V} {M : mj_M} {β : Nat} {m m1 : mj_m}
theorem mj_nm {x a : Int32} (e : x = a) (k : mj_R κ Q pc L (.inl a :: st) M) : mj_R κ Q pc L (.inl x :: st) M := by
  subst e
  exact k
theorem mj_mm {M1 : mj_M} (e : M = M1) (k : mj_R κ Q pc L st M1) : mj_R κ Q pc L st M := by
  subst e
  exact k
theorem mj_bget {idx ci j k0 : Nat} {t : List (Option (Nat × Nat))} (C : mj_C κ cc nL own) (F : mj_fl own idx ci j) (hq : mj_at (mj_g κ) (β, k0) (.inr (ci, t))) (hj : t[j]? = some none) (hd : decode cc pc = .ok (.getfield idx, 3)) (k : mj_R κ Q (pc + 3) L (.inl (m k0 j) :: st) (va_up M β m)) : mj_R κ Q pc L (mj_r (β, k0) :: st) (va_up M β m) := by
  refine mj_get C F hq hj hd ?_
  show mj_R κ Q (pc + 3) L (.inl (va_up M β m β k0 j) :: st) (va_up M β m)
  rw [mj_up_same]
  exact k
theorem mj_getr {q r : Nat × Nat} {idx ci j : Nat} {t : List (Option (Nat × Nat))} (C : mj_C κ cc nL own) (F : mj_fl own idx ci j) (hq : mj_at (mj_g κ) q (.inr (ci, t))) (hj : t[j]? = some (some r)) (hd : decode cc pc = .ok (.getfield idx, 3)) (k : mj_R κ Q (pc + 3) L (mj_r r :: st) M) : mj_R κ Q pc L (mj_r q :: st) M := mj_get C F hq hj hd k
theorem mj_oget {γ : Nat} {o : mj_m} {idx ci j k0 : Nat} {t : List (Option (Nat × Nat))} (C : mj_C κ cc nL own) (hne : γ ≠ β) (ho : M γ = o) (F : mj_fl own idx ci j) (hq : mj_at (mj_g κ) (γ, k0) (.inr (ci, t))) (hj : t[j]? = some none) (hd : decode cc pc = .ok (.getfield idx, 3)) (k : mj_R κ Q (pc + 3) L (.inl (o k0 j) :: st) (va_up M β m)) : mj_R κ Q pc L (mj_r (γ, k0) :: st) (va_up M β m) := by
  refine mj_get C F hq hj hd ?_
  show mj_R κ Q (pc + 3) L (.inl (va_up M β m γ k0 j) :: st) (va_up M β m)
  rw [mj_up_ne _ _ hne, ho]
  exact k
theorem mj_bput {idx ci j k0 : Nat} {t : List (Option (Nat × Nat))} {x : Int32} {ty : FieldType} (C : mj_C κ cc nL own) (F : mj_fl own idx ci j) (F2 : mj_fp ci j ty) (hn : narrow ty (.int x) = .int x) (hf : fits ty (.int x) = true) (hq : mj_at (mj_g κ) (β, k0) (.inr (ci, t))) (hj : t[j]? = some none) (hd : decode cc pc = .ok (.putfield idx, 3)) (hm : mj_wrs m k0 j x = m1) (k : mj_R κ Q (pc + 3) L st (va_up M β m1)) : mj_R κ Q pc L (.inl x :: mj_r (β, k0) :: st) (va_up M β m) := by
  refine mj_put C F F2 hn hf hq hj hd ?_
  have e : mj_wr (va_up M β m) (β, k0) (upd (va_up M β m (β, k0).1 (β, k0).2) j x) = va_up M β m1 := by
    show va_up (va_up M β m) β (va_up (va_up M β m β) k0 (upd (va_up M β m β k0) j x)) = _
    rw [mj_up_same, mj_up_up, ← hm]
    rfl
  rw [e]
  exact k
theorem mj_bald {n k0 j : Nat} {i : Int32} (C : mj_C κ cc nL own) (hq : mj_at (mj_g κ) (β, k0) (.inl n)) (hin : mj_ok i n = true) (hj : mj_cl i = j) (hd : decode cc pc = .ok (.iaload, 1)) (k : mj_R κ Q (pc + 1) L (.inl (m k0 j) :: st) (va_up M β m)) : mj_R κ Q pc L (.inl i :: mj_r (β, k0) :: st) (va_up M β m) := by
  refine mj_ald C hq hin hd ?_
  show mj_R κ Q (pc + 1) L (.inl (va_up M β m β k0 (mj_cl i)) :: st) (va_up M β m)
  rw [mj_up_same, hj]
  exact k
theorem mj_bast {n k0 j : Nat} {i x : Int32} (C : mj_C κ cc nL own) (hq : mj_at (mj_g κ) (β, k0) (.inl n)) (hin : mj_ok i n = true) (hj : mj_cl i = j) (hd : decode cc pc = .ok (.iastore, 1)) (hm : mj_wrs m k0 j x = m1) (k : mj_R κ Q (pc + 1) L st (va_up M β m1)) : mj_R κ Q pc L (.inl x :: .inl i :: mj_r (β, k0) :: st) (va_up M β m) := by
  refine mj_ast C hq hin hd ?_
  have e : mj_wr (va_up M β m) (β, k0) (upd (va_up M β m (β, k0).1 (β, k0).2) (mj_cl i) x) = va_up M β m1 := by
    show va_up (va_up M β m) β (va_up (va_up M β m β) k0 (upd (va_up M β m β k0) (mj_cl i) x)) = _
    rw [mj_up_same, mj_up_up, ← hm, hj]
    rfl
  rw [e]
  exact k
theorem mj_bcopy {n0 n1 k0 k1 idx : Nat} {sp dp n : Int32} (C : mj_C κ cc nL own) (hlink : Cond.methodLink own idx arraycopyName ∈ mj_T) (hL : L.length = nL) (h0 : mj_at (mj_g κ) (β, k0) (.inl n0)) (h1 : mj_at (mj_g κ) (β, k1) (.inl n1)) (hok : mj_cok sp dp n n0 n1 = true) (hF : 1 ≤ (mj_room κ).frames ∧ 30 ≤ (mj_room κ).locals) (hst : st.length ≤ 8) (hd : decode cc pc = .ok (.invokestatic idx, 3)) (hm : mj_cpw m k0 k1 sp dp n = m1) (k : mj_R κ Q (pc + 3) L st (va_up M β m1)) : mj_R κ Q pc L (.inl n :: .inl dp :: mj_r (β, k1) :: .inl sp :: mj_r (β, k0) :: st) (va_up M β m) := by
  refine mj_acopy C hlink hL h0 h1 hok hF hst hd ?_
  have e : mj_wr (va_up M β m) (β, k1) (va_cpy (va_up M β m (β, k0).1 (β, k0).2) (va_up M β m (β, k1).1 (β, k1).2) (mj_cl sp) (mj_cl dp) (mj_cl n)) = va_up M β m1 := by
    show va_up (va_up M β m) β (va_up (va_up M β m β) k1 (va_cpy (va_up M β m β k0) (va_up M β m β k1) (mj_cl sp) (mj_cl dp) (mj_cl n))) = _
    rw [mj_up_same, mj_up_up, ← hm]
    rfl
  rw [e]
  exact k
theorem mj_ocopy {γ : Nat} {o : mj_m} {n0 n1 k0 k1 idx : Nat} {sp dp n : Int32} (C : mj_C κ cc nL own) (hne : γ ≠ β) (ho : M γ = o) (hlink : Cond.methodLink own idx arraycopyName ∈ mj_T) (hL : L.length = nL) (h0 : mj_at (mj_g κ) (γ, k0) (.inl n0)) (h1 : mj_at (mj_g κ) (β, k1) (.inl n1)) (hok : mj_cok sp dp n n0 n1 = true) (hF : 1 ≤ (mj_room κ).frames ∧ 30 ≤ (mj_room κ).locals) (hst : st.length ≤ 8) (hd : decode cc pc = .ok (.invokestatic idx, 3)) (hm : mj_cpo o m k0 k1 sp dp n = m1) (k : mj_R κ Q (pc + 3) L st (va_up M β m1)) : mj_R κ Q pc L (.inl n :: .inl dp :: mj_r (β, k1) :: .inl sp :: mj_r (γ, k0) :: st) (va_up M β m) := by
  refine mj_acopy C hlink hL h0 h1 hok hF hst hd ?_
  have e : mj_wr (va_up M β m) (β, k1) (va_cpy (va_up M β m (γ, k0).1 (γ, k0).2) (va_up M β m (β, k1).1 (β, k1).2) (mj_cl sp) (mj_cl dp) (mj_cl n)) = va_up M β m1 := by
    show va_up (va_up M β m) β (va_up (va_up M β m β) k1 (va_cpy (va_up M β m γ k0) (va_up M β m β k1) (mj_cl sp) (mj_cl dp) (mj_cl n))) = _
    rw [mj_up_same, mj_up_up, mj_up_ne _ _ hne, ho, ← hm]
    rfl
  rw [e]
  exact k
theorem mj_callV1 {y : MethodName} {cy : ByteArray} {nLy dy n idx : Nat} {ret : Option FieldType} {av : List mj_V} {v : mj_V} {M0 : mj_M} {q : Nat × Nat} {ci : Nat} {t : List (Option (Nat × Nat))} (C : mj_C κ cc nL own) (hlink : Cond.methodLink own idx y ∈ mj_T) (Kl : mj_lkV y cy nLy ret n) (hq : mj_at (mj_g κ) q (.inr (ci, t))) (hC : ∃ z : vw_C, vwCl[ci]? = some z ∧ z.1 = y.cls) (hL : L.length = nL) (S : mj_S1 y cy nLy ret dy (mj_g κ) (mj_r q :: av) M (some v) M0) (hF : mj_fits κ dy nLy) (hn : av.length = n) (hst : st.length ≤ 8) (hd : decode cc pc = .ok (.invokevirtual idx, 3)) (k : mj_bb ret (some v) → mj_R κ Q (pc + 3) L (v :: st) M0) : mj_R κ Q pc L (av.reverse ++ mj_r q :: st) M := mj_callV C hlink Kl hq hC hL S hF hn hst hd k
theorem mj_callV0 {y : MethodName} {cy : ByteArray} {nLy dy n idx : Nat} {ret : Option FieldType} {av : List mj_V} {M0 : mj_M} {q : Nat × Nat} {ci : Nat} {t : List (Option (Nat × Nat))} (C : mj_C κ cc nL own) (hlink : Cond.methodLink own idx y ∈ mj_T) (Kl : mj_lkV y cy nLy ret n) (hq : mj_at (mj_g κ) q (.inr (ci, t))) (hC : ∃ z : vw_C, vwCl[ci]? = some z ∧ z.1 = y.cls) (hL : L.length = nL) (S : mj_S1 y cy nLy ret dy (mj_g κ) (mj_r q :: av) M none M0) (hF : mj_fits κ dy nLy) (hn : av.length = n) (hst : st.length ≤ 8) (hd : decode cc pc = .ok (.invokevirtual idx, 3)) (k : mj_R κ Q (pc + 3) L st M0) : mj_R κ Q pc L (av.reverse ++ mj_r q :: st) M := mj_callV C hlink Kl hq hC hL S hF hn hst hd (fun _ => k)
theorem mj_callS1 {y : MethodName} {cy : ByteArray} {nLy dy n idx : Nat} {ret : Option FieldType} {av : List mj_V} {v : mj_V} {M0 : mj_M} (C : mj_C κ cc nL own) (hlink : Cond.methodLink own idx y ∈ mj_T) (Kl : mj_lkS y cy nLy ret n) (hL : L.length = nL) (S : mj_S1 y cy nLy ret dy (mj_g κ) av M (some v) M0) (hF : mj_fits κ dy nLy) (hn : av.length = n) (hst : st.length ≤ 8) (hd : decode cc pc = .ok (.invokestatic idx, 3)) (k : mj_bb ret (some v) → mj_R κ Q (pc + 3) L (v :: st) M0) : mj_R κ Q pc L (av.reverse ++ st) M := mj_callS C hlink Kl hL S hF hn hst hd k
theorem mj_callN1 {y : MethodName} {cy : ByteArray} {nLy dy n idx : Nat} {ret : Option FieldType} {av : List mj_V} {v : mj_V} {M0 : mj_M} {host : String} (C : mj_C κ cc nL own) (hlink : (own, idx, y, host) ∈ mj_mn) (Kl : mj_lkS y cy nLy ret n) (hL : L.length = nL) (S : mj_S1 y cy nLy ret dy (mj_g κ) av M (some v) M0) (hF : mj_fits κ dy nLy) (hn : av.length = n) (hst : st.length ≤ 8) (hd : decode cc pc = .ok (.invokestatic idx, 3)) (k : mj_bb ret (some v) → mj_R κ Q (pc + 3) L (v :: st) M0) : mj_R κ Q pc L (av.reverse ++ st) M := mj_callSN C hlink Kl hL S hF hn hst hd k
end MJB
def mj_fu : Nat := 20000
theorem mj_rmc {κ : mj_K} {d : Nat} (h : mj_dp κ d) (h1 : 1 ≤ d) : 1 ≤ (mj_room κ).frames ∧ 30 ≤ (mj_room κ).locals := by
  rw [h.1, h.2]
  omega
theorem mj_nz {x : Int32} (h : (!(x == 0)) = true) : ¬ x = 0 := by simpa using h
