/-! cells outside the memory, by their own addresses: what is being made, and the text -/
def mj_ky (κ : mj_K) (Y : va_W) (ce sl : Nat) : mj_K := (κ.1, κ.2.1, κ.2.2.1, κ.2.2.2.1, κ.2.2.2.2.1, κ.2.2.2.2.2.1 ++ Y, κ.2.2.2.2.2.2.1, ce, sl)
def mj_cI (κ : mj_K) : mj_I := κ.2.2.1
def mj_mn' (κ : mj_K) : String := κ.1.2.2.2.2.2.2.2.2.1.name
theorem mx_C {κ : mj_K} {cc : ByteArray} {nL : Nat} {own : String} {Y : va_W} {ce sl : Nat} (C : mj_C κ cc nL own) (h1 : ce ≤ (mj_room κ).cells) (h2 : sl ≤ (mj_room κ).slots) : mj_C (mj_ky κ Y ce sl) cc nL own := by
  obtain ⟨⟨p, l, e, R, s, m, args, below, meth, c⟩, D, cI, ad, G, X, A, ce0, sl0⟩ := κ
  obtain ⟨hx, hb, hml, hown, hts, hK, hA, hE, hlk, hcs⟩ := C
  exact ⟨hx, hb, hml, hown, hts, hK, hA, hE, hlk, h1, h2⟩
theorem mx_at {W X Y : va_W} {k : Nat} {q : Nat × va_E} (h : Y[k]? = some q) : (W ++ (X ++ Y))[W.length + (X.length + k)]? = some q := by
  rw [List.getElem?_append_right (by omega), List.getElem?_append_right (by omega)]
  rw [show W.length + (X.length + k) - W.length - X.length = k by omega]
  exact h
theorem mx_set {W X Y : va_W} {k : Nat} (q : Nat × va_E) : (W ++ (X ++ Y)).set (W.length + (X.length + k)) q = W ++ (X ++ Y.set k q) := by
  rw [List.set_append_right _ _ (by omega), List.set_append_right _ _ (by omega)]
  rw [show W.length + (X.length + k) - W.length - X.length = k by omega]
def mx_Pc (D : va_G) (cI : mj_I) (ad : Nat × Nat → Nat) (G : mj_G) (M : mj_M) (X Y : va_W) (sz : Nat) (av : List mj_V) : Array Value → State → Prop := va_Pc (av.map (mj_cv ad)) (fun U => U.heap.size = sz ∧ va_P D vwCl (mj_w cI ad G M ++ (X ++ Y)) U.heap ∧ va_K D vwCl [(cI.1, .int), (cI.2, .byte)] U ∧ va_D (fun _ => True) (mj_w cI ad G M ++ (X ++ Y)) ∧ mj_E ad (va_A (mj_w cI ad G M ++ (X ++ Y)) sz) U)
def mx_Qc (D : va_G) (cI : mj_I) (ad : Nat × Nat → Nat) (G : mj_G) (M : mj_M) (X : va_W) (A : Nat → Prop) (post : Option mj_V → va_W → Prop) : Array Value → State → Outcome → State → Prop := fun _ st o t => (∃ (r : Option mj_V) (Y' : va_W), o = .returned (r.map (mj_cv ad)) ∧ post r Y' ∧ va_P D vwCl (mj_w cI ad G M ++ (X ++ Y')) t.heap ∧ va_D A (mj_w cI ad G M ++ (X ++ Y'))) ∧ va_F A st t
def mx_rm (d mc ms : Nat) : Room := { frames := d, cells := mc, slots := ms, locals := 40 * d }
def mx_Sem (cI : mj_I) (y : MethodName) (cc : ByteArray) (nL : Nat) (ret : Option FieldType) (d mc ms : Nat) (av : List mj_V) (Y : va_W) (post : Option mj_V → va_W → Prop) : Prop :=
  ∀ (l : Launch) (D : va_G) (ad : Nat × Nat → Nat) (G : mj_G) (M : mj_M) (X : va_W) (sz : Nat), Met l y (Cond.code y cc nL ret :: mj_T) (mx_rm d mc ms) (mx_Pc D cI ad G M X Y sz av) (mx_Qc D cI ad G M X (va_A (mj_w cI ad G M ++ (X ++ Y)) sz) post) mc ms (va_A (mj_w cI ad G M ++ (X ++ Y)) sz)
def mx_F (κ : mj_K) (M : mj_M) (mc ms : Nat) (post : Option mj_V → va_W → Prop) : State → Prop := match κ with
  | ((_, _, _, _, s, _, args, below, _, _), (D, cI, ad, G, X, A, _, _)) => MQ below (mx_Qc D cI ad G M X A post) args s mc ms A
theorem mx_intro {cI : mj_I} {y : MethodName} {cc : ByteArray} {nL : Nat} {ret : Option FieldType} {d mc ms : Nat} {av : List mj_V} {Y : va_W} {post : Option mj_V → va_W → Prop} (hy : plainName y.cls = true) (hlen : av.length ≤ nL)
    (body : ∀ (κ : mj_K) (M : mj_M), mj_C κ cc nL y.cls → mj_cI κ = cI → mj_dp κ d → (mj_room κ).cells = mc → (mj_room κ).slots = ms → mj_rt κ = ret → mj_mn' κ = y.name → mj_R (mj_ky κ Y 0 0) (mx_F κ M mc ms post) 0 (av.map some ++ List.replicate (nL - av.length) none) [] M) : mx_Sem cI y cc nL ret d mc ms av Y post := by
  intro l D ad G M X sz
  refine Met.ofW (cc := cc) (maxL := nL) (ret := ret) hy rfl ?_
  intro p e s m args below meth c s₁ B hml hv
  obtain ⟨rfl, rfl, hP, hK, hD0, hE⟩ := hv
  have hD := hD0.self (sz := s.heap.size)
  have hts := atoms_spec (ws := Cond.code y cc nL ret :: mj_T) B.pre
  have hown : s.vm.findClass y.cls = some m.cls := findClass_of_methodNamed B.named
  rw [lg_entry_eq]
  exact body ((p, l, e, mx_rm d mc ms, s, m, _, below, meth, c), (D, cI, ad, G, X, va_A (mj_w cI ad G M ++ (X ++ Y)) s.heap.size, 0, 0)) M ⟨B.exec, B.bytes, hml, hown, fun w hw => hts w (List.mem_cons_of_mem _ hw), hK, fun q h => Or.inr h, hE, B.notSynchronized, Nat.zero_le _, Nat.zero_le _⟩ rfl ⟨rfl, rfl⟩ rfl rfl B.returns (name_of_methodNamed B.named B.method).1 s.heap [] _ hP hD va_S.rf (mj_lh_entry av hlen)
def mj_fr (ci j : Nat) (ty : FieldType) (fin : Bool) : Prop := ∀ (C : String) (T : u_T) (N : Nat), vwCl[ci]? = some (C, T, N) → (∃ ty0 : Nat → FieldType, (∀ k, k < N → parseFieldDescriptor (T k).2.2.1 = some (ty0 k)) ∧ ty0 j = ty) ∧ (∀ a, a < N → ∀ b, b < N → a ≠ b → (T a).2.1 ≠ (T b).2.1) ∧ (T j).2.2.2 = fin ∧ (fin = true → (T j).1 = C)
theorem mx_D {κ : mj_K} {cc : ByteArray} {nL : Nat} {own : String} {Y : va_W} {ce sl mc ms : Nat} (C : mj_C κ cc nL own) (hmc : (mj_room κ).cells = mc) (hms : (mj_room κ).slots = ms) (h1 : Nat.ble ce mc = true) (h2 : Nat.ble sl ms = true) : mj_C (mj_ky κ Y ce sl) cc nL own := mx_C C (by rw [hmc]; exact Nat.le_of_ble_eq_true h1) (by rw [hms]; exact Nat.le_of_ble_eq_true h2)
theorem mx_lc {κ : mj_K} {n mc : Nat} (h : (mj_room κ).cells = mc) (h2 : Nat.ble n mc = true) : n ≤ (mj_room κ).cells := by rw [h]; exact Nat.le_of_ble_eq_true h2
theorem mx_ls {κ : mj_K} {n ms : Nat} (h : (mj_room κ).slots = ms) (h2 : Nat.ble n ms = true) : n ≤ (mj_room κ).slots := by rw [h]; exact Nat.le_of_ble_eq_true h2
def mj_pre (l : List Int32) (k : Nat) : Nat → Int32 := fun j => if j < k then l.getD j 0 else 0
theorem mj_pre_0 (l : List Int32) : mj_pre l 0 = fun _ => 0 := by
  funext j
  simp [mj_pre]
theorem mj_pre_u {l : List Int32} {k : Nat} {i x : Int32} (hi : mj_cl i = k) (hx : l.getD k 0 = x) : upd (mj_pre l k) (mj_cl i) x = mj_pre l (k + 1) := by
  funext j
  unfold upd mj_pre
  rw [hi]
  by_cases h : j = k
  · subst h
    simp [← hx]
  · by_cases h2 : j < k
    · simp [h, h2, Nat.lt_succ_of_lt h2]
    · have h3 : ¬ j < k + 1 := by omega
      simp [h, h2, h3]
section MX
variable {κ : mj_K} {cc : ByteArray} {nL : Nat} {own : String} {Q : State → Prop} {pc : Nat} {L : List (Option mj_V)} {st : List mj_V} {M : mj_M} {Y : va_W} {ce sl k a : Nat}
theorem mx_aload_n {i : Fin 4} {x : Nat} (C : mj_C κ cc nL own) (hd : decode cc pc = .ok (.aload_n i, 1)) (hi : L[(i : Nat)]? = some (some (mj_o (some x)))) (k : mj_R κ Q (pc + 1) L (mj_o (some x) :: st) M) : mj_R κ Q pc L st M := by
  obtain ⟨⟨p, l, e, R, s, m, args, below, meth, c⟩, D, cI, ad, G, X, A, ce, sl⟩ := κ
  obtain ⟨hx, hb, hml, hown, hts, hK, hA, hE, hlk, hcs⟩ := C
  intro H locs ls hP hD hS hl
  exact lv_aload_n hx hb hd rfl (mj_lh_at hl hi) (k H locs ls hP hD hS hl)
theorem mx_aload {i : Nat} {x : Nat} (C : mj_C κ cc nL own) (hd : decode cc pc = .ok (.aload i, 2)) (hi : L[i]? = some (some (mj_o (some x)))) (k : mj_R κ Q (pc + 2) L (mj_o (some x) :: st) M) : mj_R κ Q pc L st M := by
  obtain ⟨⟨p, l, e, R, s, m, args, below, meth, c⟩, D, cI, ad, G, X, A, ce, sl⟩ := κ
  obtain ⟨hx, hb, hml, hown, hts, hK, hA, hE, hlk, hcs⟩ := C
  intro H locs ls hP hD hS hl
  exact lv_aload hx hb hd (mj_lh_at hl hi) (k H locs ls hP hD hS hl)
theorem mx_astore_n {i : Fin 4} {x : Nat} (C : mj_C κ cc nL own) (hd : decode cc pc = .ok (.astore_n i, 1)) {L2 : List (Option mj_V)} (hi : (i : Nat) < L.length) (hs : L.set (i : Nat) (some (mj_o (some x))) = L2) (k : mj_R κ Q (pc + 1) L2 st M) : mj_R κ Q pc L (mj_o (some x) :: st) M := by
  obtain ⟨⟨p, l, e, R, s, m, args, below, meth, c⟩, D, cI, ad, G, X, A, ce, sl⟩ := κ
  obtain ⟨hx, hb, hml, hown, hts, hK, hA, hE, hlk, hcs⟩ := C
  intro H locs ls hP hD hS hl
  exact lv_astore_n hx hb hd rfl hl hi rfl (fun ls' hl' => k H locs ls' hP hD hS (hs ▸ mj_lh_set (v := mj_o (some x)) hl'))
theorem mx_get {ci j idx : Nat} {fs : List Value} {v : Value} {w : mj_V} (C : mj_C κ cc nL own) (F : mj_fl own idx ci j) (hY : Y[k]? = some (a, .inr (ci, fs))) (hv : fs[j]? = some v) (hw : ∀ ad, mj_cv ad w = v) (hd : decode cc pc = .ok (.getfield idx, 3)) (kk : mj_R (mj_ky κ Y ce sl) Q (pc + 3) L (w :: st) M) : mj_R (mj_ky κ Y ce sl) Q pc L (mj_o (some a) :: st) M := by
  obtain ⟨⟨p, l, e, R, s, m, args, below, meth, c⟩, D, cI, ad, G, X, A, ce0, sl0⟩ := κ
  obtain ⟨hx, hb, hml, hown, hts, hK, hA, hE, hlk, hcs⟩ := C
  intro H locs ls hP hD hS hl
  obtain ⟨Cn, T, N, hc, hjN, hin, hlk⟩ := F
  refine va_get hx hb hts hin hown hK hP _ (mx_at hY) hc j hjN (hts _ hlk) (fun _ h => h) hv hd ?_
  rw [← hw ad]
  exact kk H locs ls hP hD hS hl
theorem mx_put {ci j idx : Nat} {fs : List Value} {v : Value} {w : mj_V} {ty : FieldType} {Y' : va_W} (C : mj_C κ cc nL own) (F : mj_fl own idx ci j) (F2 : mj_fr ci j ty false) (hY : Y[k]? = some (a, .inr (ci, fs))) (hw : ∀ ad, mj_cv ad w = v) (hn : narrow ty v = v) (hf : fits ty v = true) (hj : j < fs.length) (hd : decode cc pc = .ok (.putfield idx, 3)) (hs : Y.set k (a, .inr (ci, fs.set j v)) = Y') (kk : mj_R (mj_ky κ Y' ce sl) Q (pc + 3) L st M) : mj_R (mj_ky κ Y ce sl) Q pc L (w :: mj_o (some a) :: st) M := by
  obtain ⟨⟨p, l, e, R, s, m, args, below, meth, c⟩, D, cI, ad, G, X, A, ce0, sl0⟩ := κ
  obtain ⟨hx, hb, hml, hown, hts, hK, hA, hE, hlk, hcs⟩ := C
  intro H locs ls hP hD hS hl
  obtain ⟨Cn, T, N, hc, hjN, hin, hlk⟩ := F
  obtain ⟨⟨ty0, h0, h1⟩, h2, h3, -⟩ := F2 Cn T N hc
  show W p l e R s m args below meth c H locs ce sl Q (F0 m pc ls (mj_cv ad w :: .ref a :: st.map (mj_cv ad)))
  rw [hw ad]
  refine va_put hx hb hts hin ty0 h0 h2 hown hK hP hD hS _ (mx_at hY) hc j hjN (hts _ hlk) (fun _ h => h) h3 (by rw [h0 j hjN, h1]) hn hf hj hd (fun H1 locs1 hP1 hD1 hS1 => ?_)
  rw [mx_set, hs] at hP1 hD1
  exact kk H1 locs1 ls hP1 hD1 hS1 hl
theorem mx_putF {ci j idx : Nat} {fs : List Value} {v : Value} {w : mj_V} {ty : FieldType} {Y' : va_W} (C : mj_C κ cc nL own) (hin2 : mj_mn' κ = "<init>") (F : mj_fl own idx ci j) (hcn : ∃ z : vw_C, vwCl[ci]? = some z ∧ z.1 = own) (F2 : mj_fr ci j ty true) (hY : Y[k]? = some (a, .inr (ci, fs))) (hw : ∀ ad, mj_cv ad w = v) (hn : narrow ty v = v) (hf : fits ty v = true) (hj : j < fs.length) (hd : decode cc pc = .ok (.putfield idx, 3)) (hs : Y.set k (a, .inr (ci, fs.set j v)) = Y') (kk : mj_R (mj_ky κ Y' ce sl) Q (pc + 3) L st M) : mj_R (mj_ky κ Y ce sl) Q pc L (w :: mj_o (some a) :: st) M := by
  obtain ⟨⟨p, l, e, R, s, m, args, below, meth, c⟩, D, cI, ad, G, X, A, ce0, sl0⟩ := κ
  obtain ⟨hx, hb, hml, hown, hts, hK, hA, hE, hlk, hcs⟩ := C
  intro H locs ls hP hD hS hl
  obtain ⟨Cn, T, N, hc, hjN, hin, hlk⟩ := F
  obtain ⟨⟨ty0, h0, h1⟩, h2, h3, h4⟩ := F2 Cn T N hc
  obtain ⟨z, hz1, hz2⟩ := hcn
  rw [hc] at hz1
  cases hz1
  show W p l e R s m args below meth c H locs ce sl Q (F0 m pc ls (mj_cv ad w :: .ref a :: st.map (mj_cv ad)))
  rw [hw ad]
  refine va_putF hx hb hts hin ty0 h0 h2 hown hK hP hD hS _ (mx_at hY) hc j hjN (hts _ hlk) (fun _ h => h) h3 hin2 ((h4 rfl).trans hz2) (by rw [h0 j hjN, h1]) hn hf hj hd (fun H1 locs1 hP1 hD1 hS1 => ?_)
  rw [mx_set, hs] at hP1 hD1
  exact kk H1 locs1 ls hP1 hD1 hS1 hl
theorem mx_new {ci N idx : Nat} {Cn : String} {T : u_T} {fs : List Value} (ty : Nat → FieldType) (C : mj_C κ cc nL own) (hc : vwCl[ci]? = some (Cn, T, N)) (hin : ∀ w ∈ u_ws Cn T N, w ∈ mj_T) (hty : ∀ k, k < N → parseFieldDescriptor (T k).2.2.1 = some (ty k)) (h1 : Cond.classLink own idx Cn ∈ mj_T) (h2 : Cond.instantiable Cn N ∈ mj_T) (h3 : Cond.initialized Cn ∈ mj_T) (hfs : ∀ j, j < N → defaultValue (ty j) = vp_V fs j) (hce : ce + 1 ≤ (mj_room κ).cells) (hsl : sl + N ≤ (mj_room κ).slots) (hd : decode cc pc = .ok (.new idx, 3)) (kk : ∀ q : Nat, mj_R (mj_ky κ (Y ++ [(q, .inr (ci, fs))]) (ce + 1) (sl + N)) Q (pc + 3) L (mj_o (some q) :: st) M) : mj_R (mj_ky κ Y ce sl) Q pc L st M := by
  obtain ⟨⟨p, l, e, R, s, m, args, below, meth, c⟩, D, cI, ad, G, X, A, ce0, sl0⟩ := κ
  obtain ⟨hx, hb, hml, hown, hts, hK, hA, hE, hlk, hcs⟩ := C
  intro H locs ls hP hD hS hl
  refine va_new hx hb hts hin ty hty hown (hts _ h1) (hts _ h2) (hts _ h3) hK hP hD hS hA hc hfs hce hsl hd (fun q H1 hP1 hD1 hS1 => ?_)
  have e : (mj_w cI ad G M ++ (X ++ Y)) ++ [(q, .inr (ci, fs))] = mj_w cI ad G M ++ (X ++ (Y ++ [(q, .inr (ci, fs))])) := by simp
  rw [e] at hP1 hD1
  exact kk q H1 locs ls hP1 hD1 hS1 hl
theorem mx_newi {n : Int32} {N' : Nat} (C : mj_C κ cc nL own) (hw : Cond.arrayClass .int ∈ mj_T) (hn : ¬ n < 0) (hN : n.toNatClampNeg = N') (hb4 : N' * 4 ≤ 536870912) (hce : ce + 1 ≤ (mj_room κ).cells) (hsl : sl + N' ≤ (mj_room κ).slots) (hd : decode cc pc = .ok (.newarray .int, 2)) (kk : ∀ q : Nat, mj_R (mj_ky κ (Y ++ [(q, .inl ((mj_cI κ).1, N', .inl (fun _ => 0)))]) (ce + 1) (sl + N')) Q (pc + 2) L (mj_o (some q) :: st) M) : mj_R (mj_ky κ Y ce sl) Q pc L (.inl n :: st) M := by
  obtain ⟨⟨p, l, e, R, s, m, args, below, meth, c⟩, D, cI, ad, G, X, A, ce0, sl0⟩ := κ
  obtain ⟨hx, hb, hml, hown, hts, hK, hA, hE, hlk, hcs⟩ := C
  intro H locs ls hP hD hS hl
  refine va_newa (atype := .int) (ty := .int) (a0 := (N', .inl (fun _ => 0))) hx hb (hts _ hw) rfl hK hP hD hS hA (fun cA => rfl) hn hN hb4 hce hsl hd (fun q cA H1 hK1 hP1 hD1 hS1 => ?_)
  have e1 : cA = cI.1 := by
    have g1 : s.vm.findClass _ = some cA := (hK1.2 2 (cA, .int) rfl).2
    have g2 : s.vm.findClass _ = some cI.1 := (hK.2 0 (cI.1, .int) rfl).2
    exact Option.some.inj (g1.symm.trans g2)
  subst e1
  have e : (mj_w cI ad G M ++ (X ++ Y)) ++ [(q, .inl (cI.1, (N', .inl (fun _ => 0))))] = mj_w cI ad G M ++ (X ++ (Y ++ [(q, .inl (cI.1, (N', .inl (fun _ => 0))))])) := by simp
  rw [e] at hP1 hD1
  exact kk q H1 locs ls hP1 hD1 hS1 hl
theorem mx_newb {n : Int32} {N' : Nat} (C : mj_C κ cc nL own) (hw : Cond.arrayClass .byte ∈ mj_T) (hn : ¬ n < 0) (hN : n.toNatClampNeg = N') (hb4 : N' * 1 ≤ 536870912) (hce : ce + 1 ≤ (mj_room κ).cells) (hsl : sl + N' ≤ (mj_room κ).slots) (hd : decode cc pc = .ok (.newarray .byte, 2)) (kk : ∀ q : Nat, mj_R (mj_ky κ (Y ++ [(q, .inl ((mj_cI κ).2, N', .inl (fun _ => 0)))]) (ce + 1) (sl + N')) Q (pc + 2) L (mj_o (some q) :: st) M) : mj_R (mj_ky κ Y ce sl) Q pc L (.inl n :: st) M := by
  obtain ⟨⟨p, l, e, R, s, m, args, below, meth, c⟩, D, cI, ad, G, X, A, ce0, sl0⟩ := κ
  obtain ⟨hx, hb, hml, hown, hts, hK, hA, hE, hlk, hcs⟩ := C
  intro H locs ls hP hD hS hl
  refine va_newa (atype := .byte) (ty := .byte) (a0 := (N', .inl (fun _ => 0))) hx hb (hts _ hw) rfl hK hP hD hS hA (fun cA => rfl) hn hN hb4 hce hsl hd (fun q cA H1 hK1 hP1 hD1 hS1 => ?_)
  have e1 : cA = cI.2 := by
    have g1 : s.vm.findClass _ = some cA := (hK1.2 2 (cA, .byte) rfl).2
    have g2 : s.vm.findClass _ = some cI.2 := (hK.2 1 (cI.2, .byte) rfl).2
    exact Option.some.inj (g1.symm.trans g2)
  subst e1
  have e : (mj_w cI ad G M ++ (X ++ Y)) ++ [(q, .inl (cI.2, (N', .inl (fun _ => 0))))] = mj_w cI ad G M ++ (X ++ (Y ++ [(q, .inl (cI.2, (N', .inl (fun _ => 0))))])) := by simp
  rw [e] at hP1 hD1
  exact kk q H1 locs ls hP1 hD1 hS1 hl
theorem mx_ast {n : Nat} {f : Nat → Int32} {i x : Int32} {Y' : va_W} (C : mj_C κ cc nL own) (hY : Y[k]? = some (a, .inl ((mj_cI κ).1, n, .inl f))) (hin : mj_ok i n = true) (hd : decode cc pc = .ok (.iastore, 1)) (hs : Y.set k (a, .inl ((mj_cI κ).1, n, .inl (upd f (mj_cl i) x))) = Y') (kk : mj_R (mj_ky κ Y' ce sl) Q (pc + 1) L st M) : mj_R (mj_ky κ Y ce sl) Q pc L (.inl x :: .inl i :: mj_o (some a) :: st) M := by
  obtain ⟨⟨p, l, e, R, s, m, args, below, meth, c⟩, D, cI, ad, G, X, A, ce0, sl0⟩ := κ
  obtain ⟨hx, hb, hml, hown, hts, hK, hA, hE, hlk, hcs⟩ := C
  intro H locs ls hP hD hS hl
  refine va_iast hx hb hK hP hD hS _ 0 (mx_at hY) rfl (mj_ok_in hin) hd (fun H1 locs1 hP1 hD1 hS1 => ?_)
  rw [mx_set, show i.toNatClampNeg = mj_cl i from rfl, hs] at hP1 hD1
  exact kk H1 locs1 ls hP1 hD1 hS1 hl
theorem mx_astf {n : Nat} {f f' : Nat → Int32} {i x : Int32} {Y' : va_W} (C : mj_C κ cc nL own) (hY : Y[k]? = some (a, .inl ((mj_cI κ).1, n, .inl f))) (hin : mj_ok i n = true) (hu : upd f (mj_cl i) x = f') (hd : decode cc pc = .ok (.iastore, 1)) (hs : Y.set k (a, .inl ((mj_cI κ).1, n, .inl f')) = Y') (kk : mj_R (mj_ky κ Y' ce sl) Q (pc + 1) L st M) : mj_R (mj_ky κ Y ce sl) Q pc L (.inl x :: .inl i :: mj_o (some a) :: st) M := by
  subst hu
  exact mx_ast C hY hin hd hs kk
theorem mx_clone0 {idx : Nat} (C : mj_C κ cc nL own) (hL : L.length = nL) (h1 : Cond.methodLink own idx ⟨"[I", "clone", "()Ljava/lang/Object;"⟩ ∈ mj_T) (h2 : Cond.sameMethod "[I" "java/lang/Object" "clone" "()Ljava/lang/Object;" ∈ mj_T) (h3 : Cond.native ⟨"java/lang/Object", "clone", "()Ljava/lang/Object;"⟩ ∈ mj_T) (h4 : Cond.instanceMethod ⟨"java/lang/Object", "clone", "()Ljava/lang/Object;"⟩ ∈ mj_T) (h5 : Cond.selects "[I" ⟨"[I", "clone", "()Ljava/lang/Object;"⟩ ⟨"java/lang/Object", "clone", "()Ljava/lang/Object;"⟩ ∈ mj_T) (hF : 1 ≤ (mj_room κ).frames ∧ 30 ≤ (mj_room κ).locals) (hce : ce + 1 ≤ (mj_room κ).cells) (hsl : sl + 11 ≤ (mj_room κ).slots) (hst : st.length ≤ 8) (hd : decode cc pc = .ok (.invokevirtual idx, 3)) (kk : ∀ q : Nat, mj_R (mj_ky κ (Y ++ [(q, .inl ((mj_cI κ).1, 11, .inl (mj_sa 0)))]) (ce + 1) (sl + 11)) Q (pc + 3) L (mj_o (some q) :: st) M) : mj_R (mj_ky κ Y ce sl) Q pc L (mj_r (99, 0) :: st) M := by
  obtain ⟨⟨p, l, e, R, s, m, args, below, meth, c⟩, D, cI, ad, G, X, A, ce0, sl0⟩ := κ
  obtain ⟨hx, hb, hml, hown, hts, hK, hA, hE, hlk, hcs⟩ := C
  intro H locs ls hP hD hS hl
  have hP : va_P D vwCl (mj_w cI ad G M ++ (X ++ Y)) H := hP
  have hD : va_D A (mj_w cI ad G M ++ (X ++ Y)) := hD
  obtain ⟨cell, g1, g2, g3, g4, g5, g6⟩ := hE.2.2.2.2.2.2.1.kept hS.2.1
  have gI : s.vm.findClass _ = some cI.1 := (hK.2 0 (cI.1, .int) rfl).2
  have ec : cell.cls = cI.1 := Option.some.inj (g4.symm.trans gI)
  obtain ⟨c0, t0', f1, f2, f3⟩ := Cond.castable_spec (va_Nw.use (A := args) rfl hE.2.2.2.2.2.2.2)
  cases g4.symm.trans f1
  intro T hT Xs
  have hcellT : T.heap[ad (99, 0)]? = some cell := by rw [hT]; exact g1
  have hsz : cell.slots.size = 11 := by rw [g5]; exact arrV_size _ _ _
  obtain ⟨-, kA, hkA, comp, hkind⟩ := State.isArrayOf_alike Xs.warmed.alike g2
  obtain ⟨hns, kS, hkS, compS, hkindS⟩ := g2
  have hcellE : ({ cls := cell.cls, slots := cell.slots } : Cell) = vp_cell cI.1 (11, .inl (mj_sa 0)) := by
    rw [g5, ec]
    rfl
  obtain ⟨vm', X', st'⟩ := Xs.cloneArray hx hown (hts _ h1) (hts _ h2) (hts _ h3) (hts _ h4) (hts _ h5) (a := ad (99, 0)) (cell := cell) hcellT hns g3 g4 f2 f3
    (fun i v hv => by
      have hk' : T.vm.classes[cell.cls]? = some kA := hkA
      have hvi : ∃ x : Int32, v = .int x := by
        rw [g5] at hv
        by_cases hi : i < 11
        · rw [arrV_read _ _ hi] at hv
          exact ⟨_, (Option.some.inj hv).symm⟩
        · rw [Array.getElem?_eq_none (by rw [arrV_size]; omega)] at hv
          cases hv
      obtain ⟨x, rfl⟩ := hvi
      simp [State.fitsSlot, State.slotType?, hk', hkind, fits])
    (g := F0 m pc ls (.ref (ad (99, 0)) :: st.map (mj_cv ad))) rfl (hl.1.trans (hL.trans hml.symm)) rfl (by rw [hb]; exact hd) hF.1 (by rw [mj_cats]; have h2 : 30 ≤ R.locals := hF.2; show 2 * 0 + _ + 14 ≤ _; omega) hce (by rw [hsz]; exact hsl) (hloader := Vm.clonesLoader_of_array hkS hkindS)
  rw [hcellE, hsz] at X'
  generalize hH1 : H.push (vp_cell cI.1 (11, .inl (mj_sa 0))) = H1
  have z1 : H1.size = H.size + 1 := by rw [← hH1, Array.size_push]
  have e1 : H1[H.size]? = some (vp_cell cI.1 (11, .inl (mj_sa 0))) := by rw [← hH1, Array.getElem?_push_size]
  have o1 : ∀ q : Nat, q < H.size → H1[q]? = H[q]? := fun q hq => by rw [← hH1, Array.getElem?_push, if_neg (Nat.ne_of_lt hq)]
  have hk : ∀ (k : Nat) (y : Nat × va_E), (mj_w cI ad G M ++ (X ++ Y))[k]? = some y → H1[y.1]? = H[y.1]? := fun k y hy => o1 y.1 ((hP k y hy).lt)
  have hP1 := (hP.kept hk).app (w2 := [(H.size, .inl (cI.1, 11, .inl (mj_sa 0)))]) (fun k y hy => by
      have hz : k < 1 := (List.getElem?_eq_some_iff.mp hy).1
      rw [show k = 0 by omega] at hy
      cases hy
      exact e1)
  have hD1 := hD.push (e := .inl (cI.1, 11, .inl (mj_sa 0))) hP rfl (hA _ hS.1)
  have ea : (mj_w cI ad G M ++ (X ++ Y)) ++ [(H.size, .inl (cI.1, 11, .inl (mj_sa 0)))] = mj_w cI ad G M ++ (X ++ (Y ++ [(H.size, .inl (cI.1, 11, .inl (mj_sa 0)))])) := by simp
  rw [ea] at hP1 hD1
  obtain ⟨t, b1, b2⟩ := kk H.size H1 locs ls hP1 hD1 ⟨Nat.le_trans hS.1 (by omega), fun y h1 h2 => (o1 y (Nat.lt_of_lt_of_le h1 hS.1)).trans (hS.2.1 y h1 h2), hS.2.2⟩ hl
    ((T.setVm vm').pushCell (vp_cell cI.1 (11, .inl (mj_sa 0)))) (by rw [← hH1, ← hT]; rfl) X'
  refine ⟨t, st' t ?_, b2⟩
  rw [hcellE, hT]
  exact b1
theorem mx_cast {idx n : Nat} {f : Nat → Int32} (C : mj_C κ cc nL own) (hlink : Cond.classLink own idx "[I" ∈ mj_T) (hY : Y[k]? = some (a, .inl ((mj_cI κ).1, n, .inl f))) (hd : decode cc pc = .ok (.checkcast idx, 3)) (kk : mj_R (mj_ky κ Y ce sl) Q (pc + 3) L (mj_o (some a) :: st) M) : mj_R (mj_ky κ Y ce sl) Q pc L (mj_o (some a) :: st) M := by
  obtain ⟨⟨p, l, e, R, s, m, args, below, meth, c⟩, D, cI, ad, G, X, A, ce0, sl0⟩ := κ
  obtain ⟨hx, hb, hml, hown, hts, hK, hA, hE, hlk, hcs⟩ := C
  intro H locs ls hP hD hS hl
  exact va_castA hx hb hown (hts _ hlink) hP _ (mx_at hY) (hK.2 0 (cI.1, .int) rfl).2 hd (kk H locs ls hP hD hS hl)
theorem mx_vret {mc ms : Nat} {post : Option mj_V → va_W → Prop} (C : mj_C κ cc nL own) (hr : mj_rt κ = none) (h1 : ce ≤ mc) (h2 : sl ≤ ms) (hd : decode cc pc = .ok (.return_, 1)) (h : post none Y) : mj_R (mj_ky κ Y ce sl) (mx_F κ M mc ms post) pc L [] M := by
  obtain ⟨⟨p, l, e, R, s, m, args, below, meth, c⟩, D, cI, ad, G, X, A, ce0, sl0⟩ := κ
  obtain ⟨hx, hb, hml, hown, hts, hK, hA, hE, hlk, hcs⟩ := C
  intro H locs ls hP hD hS hl
  refine W.widen (k := mc) (n := ms) h1 h2 ?_
  exact W.vret hx hb hr (fun t ht hW => ⟨⟨none, Y, rfl, h, by rw [ht]; exact hP, hD⟩, hS.F ht⟩) hS.2.2 hd
theorem mx_objInit {idx : Nat} (C : mj_C κ cc nL own) (hlink : Cond.methodLink own idx Lib.objectInit ∈ mj_T) (hL : L.length = nL) (h1 : Cond.instanceMethod Lib.objectInit ∈ mj_T) (h2 : Cond.code Lib.objectInit ⟨#[0xb1]⟩ 1 none ∈ mj_T) (hF : 1 ≤ (mj_room κ).frames ∧ 30 ≤ (mj_room κ).locals) (hst : st.length ≤ 8) (hd : decode cc pc = .ok (.invokespecial idx, 3)) (kk : mj_R (mj_ky κ Y ce sl) Q (pc + 3) L st M) : mj_R (mj_ky κ Y ce sl) Q pc L (mj_o (some a) :: st) M := by
  obtain ⟨⟨p, l, e, R, s, m, args, below, meth, c⟩, D, cI, ad, G, X, A, ce0, sl0⟩ := κ
  obtain ⟨hx, hb, hml, hown, hts, hK, hA, hE, hlk, hcs⟩ := C
  intro H locs ls hP hD hS hl
  refine W.objInit hx hb hown (hts _ hlink) (hts _ h1) (hts _ h2) rfl (hl.1.trans (hL.trans hml.symm)) (a := a) (rest := st.map (mj_cv ad)) rfl hd hF.1 (by rw [mj_cats]; have h2 : 30 ≤ R.locals := hF.2; show 2 * 0 + _ + 12 ≤ _; omega) ?_
  exact kk H locs ls hP hD hS hl
theorem mx_after {p : Program} {l : Launch} {e : Env} {R : Room} {s : State} {m : MethodId} {args : Array Value} {below : List Frame} {meth : Method} {c : Code} {H : Heap} {locs : List Loc} {D : va_G} {cI : mj_I} {ad : Nat × Nat → Nat} {G : mj_G} {X : va_W} {A A1 free : Nat → Prop} {ce sl mc ms : Nat} {ls : Array Slot} {st0 rest : List Value} {b : Array Value} {post : Option mj_V → va_W → Prop} (hr : va_Run p l e R s m args below meth c H locs ce sl mc ms (F0 m pc ls st0) rest (mx_Qc D cI ad G M X A1 post b) free) (hS : va_S A s.heap H locs) (hA1 : ∀ q, A1 q → A q) (hf : ∀ q, free q → A q)
    (kk : ∀ (r : Option mj_V) (Y' : va_W) (H1 : Heap) (locs1 : List Loc), post r Y' → va_P D vwCl (mj_w cI ad G M ++ (X ++ Y')) H1 → va_D A (mj_w cI ad G M ++ (X ++ Y')) → va_S A s.heap H1 locs1 → W p l e R s m args below meth c H1 locs1 (ce + mc) (sl + ms) Q (F0 m (pc + 3) ls ((r.map (mj_cv ad)).toList ++ rest))) : W p l e R s m args below meth c H locs ce sl Q (F0 m pc ls st0) := by
  intro T hT X'
  obtain ⟨v, st₀, t, T', L, h0, X', hL, e1, e2, ⟨⟨r, M', hv, hp, hb, hd⟩, hz, hk⟩, st⟩ := hr T hT X'
  cases hv
  rw [h0] at hz hk
  obtain ⟨t2, a1, b1⟩ := kk r M' T'.heap (locs ++ L) hp (by rw [e1]; exact hb) (hd.weaken (fun _ _ _ z => hA1 _ z)) ⟨Nat.le_trans hS.1 (by rw [e1]; exact hz), fun q h1 h2 => by rw [e1, hk q (Nat.lt_of_lt_of_le h1 hS.1) (fun z => h2 (hA1 q z))]; exact hS.2.1 q h1 h2, fun q hq => by
    rcases List.mem_append.mp hq with h | h
    · exact hS.2.2 q h
    · exact hf _ (hL q h)⟩ T' rfl X'
  exact ⟨t2, st t2 a1, b1⟩
theorem mx_blind (D : va_G) (cI : mj_I) (ad : Nat × Nat → Nat) (G : mj_G) (M : mj_M) (X Y : va_W) (sz : Nat) (av : List mj_V) : FrameBlind (mx_Pc D cI ad G M X Y sz av) := by
  rintro b U g mk ⟨h1, h2, h3, h4, h5, h6⟩
  exact ⟨h1, h2, h3, va_K.moved (u := U) (U := U.calling g mk b) (Vm.Alike.refl U.vm) h4, h5, mj_E.same rfl rfl h6⟩
def mx_fits (κ : mj_K) (d nL ce sl mc ms : Nat) : Prop := (d + 1 ≤ (mj_room κ).frames ∧ 8 + (nL + 11) + 40 * d ≤ (mj_room κ).locals) ∧ ce + mc ≤ (mj_room κ).cells ∧ sl + ms ≤ (mj_room κ).slots
theorem mx_fit {d mc ms : Nat} (hR : mj_dp κ d) (hmc : (mj_room κ).cells = mc) (hms : (mj_room κ).slots = ms) {d1 n1 ce sl mc1 ms1 : Nat} (h1 : Nat.ble (d1 + 1) d = true) (h2 : Nat.ble n1 21 = true) (h3 : Nat.ble (ce + mc1) mc = true) (h4 : Nat.ble (sl + ms1) ms = true) : mx_fits κ d1 n1 ce sl mc1 ms1 := by
  have a1 := Nat.le_of_ble_eq_true h1
  have a2 := Nat.le_of_ble_eq_true h2
  have a3 := Nat.le_of_ble_eq_true h3
  have a4 := Nat.le_of_ble_eq_true h4
  unfold mx_fits
  rw [hR.1, hR.2, hmc, hms]
  omega
theorem mx_callI {y : MethodName} {cy : ByteArray} {nLy dy n idx mc ms : Nat} {av : List mj_V} {Y0 Yc : va_W} {post : Option mj_V → va_W → Prop} (C : mj_C κ cc nL own) (hlink : Cond.methodLink own idx y ∈ mj_T) (Kl : mj_lk y cy nLy none n) (hyn : y.name = "<init>") (hin2 : Cond.instanceMethod y ∈ mj_T) (hL : L.length = nL) (S : mx_Sem (mj_cI κ) y cy nLy none dy mc ms (mj_o (some a) :: av) Yc post) (hY : Y = Y0 ++ Yc) (hF : mx_fits κ dy nLy ce sl mc ms) (hn : av.length = n) (hst : st.length ≤ 8) (hd : decode cc pc = .ok (.invokespecial idx, 3)) (kk : ∀ (r : Option mj_V) (Y' : va_W), post r Y' → mj_R (mj_ky κ (Y0 ++ Y') (ce + mc) (sl + ms)) Q (pc + 3) L (r.toList ++ st) M) : mj_R (mj_ky κ Y ce sl) Q pc L (av.reverse ++ mj_o (some a) :: st) M := by
  subst hY
  obtain ⟨⟨p, l, e, R, s, m, args, below, meth, c⟩, D, cI, ad, G, X, A, ce0, sl0⟩ := κ
  obtain ⟨hx, hb, hml, hown, hts, hK, hA, hE, hlk, hcs⟩ := C
  intro H locs ls hP hD hS hl
  have hP : va_P D vwCl (mj_w cI ad G M ++ (X ++ (Y0 ++ Yc))) H := hP
  have hD : va_D A (mj_w cI ad G M ++ (X ++ (Y0 ++ Yc))) := hD
  rw [← List.append_assoc X] at hP hD
  have hAH : ∀ q : Nat, H.size ≤ q → A q := fun q h => hA q (Nat.le_trans hS.1 h)
  have hin := mj_A_in hD hAH
  have hM := S l D ad G M (X ++ Y0) H.size
  refine mx_after (va_runI (As := av.map (mj_cv ad)) (rest := st.map (mj_cv ad)) ⟨hx, hb, hml, hown, hts⟩ hM ⟨callB_of n hts (mj_wsIn Kl) rfl rfl rfl (hts _ Kl.2.1) (hts _ hlink) Kl.2.2 hF.1, hyn, hts _ hin2⟩ ⟨mx_blind D cI ad G M (X ++ Y0) Yc H.size (mj_o (some a) :: av), fun U hU hW => ⟨rfl, by rw [hU], by rw [hU]; exact hP, va_K.moved hW.alike hK, hD.weaken (fun _ _ _ _ => trivial), mj_E.go (by rw [hU]; exact hS) hW hin hE⟩⟩ rfl (by rw [List.length_map]; exact hn) (hl.1.trans hL) (by simp [mj_cv, mj_o, va_rf]; try rfl) (by rw [mj_cats]; show 2 * 0 + _ ≤ 8; omega) hd hF.2) hS hin hin (fun r Y' H1 locs1 hp hP1 hD1 hS1 => ?_)
  rw [mj_tol]
  rw [List.append_assoc X] at hP1 hD1
  exact kk r Y' hp H1 locs1 ls hP1 hD1 hS1 hl
theorem mx_callIN {y : MethodName} {cy : ByteArray} {nLy dy n idx mc ms : Nat} {av : List mj_V} {Y0 Yc : va_W} {host : String} {post : Option mj_V → va_W → Prop} (C : mj_C κ cc nL own) (hlink : (own, idx, y, host) ∈ mj_mn) (Kl : mj_lk y cy nLy none n) (hyn : y.name = "<init>") (hin2 : Cond.instanceMethod y ∈ mj_T) (hL : L.length = nL) (S : mx_Sem (mj_cI κ) y cy nLy none dy mc ms (mj_o (some a) :: av) Yc post) (hY : Y = Y0 ++ Yc) (hF : mx_fits κ dy nLy ce sl mc ms) (hn : av.length = n) (hst : st.length ≤ 8) (hd : decode cc pc = .ok (.invokespecial idx, 3)) (kk : ∀ (r : Option mj_V) (Y' : va_W), post r Y' → mj_R (mj_ky κ (Y0 ++ Y') (ce + mc) (sl + ms)) Q (pc + 3) L (r.toList ++ st) M) : mj_R (mj_ky κ Y ce sl) Q pc L (av.reverse ++ mj_o (some a) :: st) M := by
  subst hY
  obtain ⟨⟨p, l, e, R, s, m, args, below, meth, c⟩, D, cI, ad, G, X, A, ce0, sl0⟩ := κ
  obtain ⟨hx, hb, hml, hown, hts, hK, hA, hE, hlk, hcs⟩ := C
  intro H locs ls hP hD hS hl
  have hP : va_P D vwCl (mj_w cI ad G M ++ (X ++ (Y0 ++ Yc))) H := hP
  have hD : va_D A (mj_w cI ad G M ++ (X ++ (Y0 ++ Yc))) := hD
  rw [← List.append_assoc X] at hP hD
  have hAH : ∀ q : Nat, H.size ≤ q → A q := fun q h => hA q (Nat.le_trans hS.1 h)
  have hin := mj_A_in hD hAH
  have hM := S l D ad G M (X ++ Y0) H.size
  refine mx_after (va_runIN (As := av.map (mj_cv ad)) (rest := st.map (mj_cv ad)) ⟨hx, hb, hml, hown, hts⟩ hM ⟨va_cnB n hts (mj_wsIn Kl) rfl rfl rfl (hE.2.2.2.1 _ hlink) (hts _ Kl.2.1) Kl.2.2 hF.1, hyn, hts _ hin2⟩ ⟨mx_blind D cI ad G M (X ++ Y0) Yc H.size (mj_o (some a) :: av), fun U hU hW => ⟨rfl, by rw [hU], by rw [hU]; exact hP, va_K.moved hW.alike hK, hD.weaken (fun _ _ _ _ => trivial), mj_E.go (by rw [hU]; exact hS) hW hin hE⟩⟩ rfl (by rw [List.length_map]; exact hn) (hl.1.trans hL) (by simp [mj_cv, mj_o, va_rf]; try rfl) (by rw [mj_cats]; show 2 * 0 + _ ≤ 8; omega) hd hF.2) hS hin hin (fun r Y' H1 locs1 hp hP1 hD1 hS1 => ?_)
  rw [mj_tol]
  rw [List.append_assoc X] at hP1 hD1
  exact kk r Y' hp H1 locs1 ls hP1 hD1 hS1 hl
end MX
