section MJC
variable {κ : mj_K} {cc : ByteArray} {nL : Nat} {own : String} {Q : State → Prop} {pc : Nat} {L : List (Option mj_V)} {st : List mj_V} {M : mj_M}
theorem mj_cats (ad : Nat × Nat → Nat) : ∀ st : List mj_V, ((st.map (mj_cv ad)).map fun v => v.category).sum = st.length
  | [] => rfl
  | a :: st => by simp only [List.map_cons, List.sum_cons, mj_cats ad st, mj_cv_cat, List.length_cons]; omega
theorem mj_after {p : Program} {l : Launch} {e : Env} {R : Room} {s : State} {m : MethodId} {args : Array Value} {below : List Frame} {meth : Method} {c : Code} {H : Heap} {locs : List Loc} {D : va_G} {cI : mj_I} {ad : Nat × Nat → Nat} {G : mj_G} {X : va_W} {A A1 free : Nat → Prop} {ce sl : Nat} {ls : Array Slot} {st0 rest : List Value} {a : Array Value} {post : Option mj_V → mj_M → Prop} (hr : va_Run p l e R s m args below meth c H locs ce sl 0 0 (F0 m pc ls st0) rest (mj_Qc D cI ad G X A1 post a) free) (hS : va_S A s.heap H locs) (hA1 : ∀ q, A1 q → A q) (hf : ∀ q, free q → A q)
    (kk : ∀ (r : Option mj_V) (M' : mj_M) (H1 : Heap) (locs1 : List Loc), post r M' → va_P D vwCl (mj_w cI ad G M' ++ X) H1 → va_S A s.heap H1 locs1 → W p l e R s m args below meth c H1 locs1 ce sl Q (F0 m (pc + 3) ls ((r.map (mj_cv ad)).toList ++ rest))) : W p l e R s m args below meth c H locs ce sl Q (F0 m pc ls st0) := by
  intro T hT X'
  obtain ⟨v, st₀, t, T', L, h0, X', hL, e1, e2, ⟨⟨r, M', hv, hp, hb⟩, hz, hk⟩, st⟩ := hr T hT X'
  cases hv
  rw [h0] at hz hk
  obtain ⟨t2, a1, b1⟩ := kk r M' T'.heap (locs ++ L) hp (by rw [e1]; exact hb) ⟨Nat.le_trans hS.1 (by rw [e1]; exact hz), fun q h1 h2 => by rw [e1, hk q (Nat.lt_of_lt_of_le h1 hS.1) (fun z => h2 (hA1 q z))]; exact hS.2.1 q h1 h2, fun q hq => by
    rcases List.mem_append.mp hq with h | h
    · exact hS.2.2 q h
    · exact hf _ (hL q h)⟩ T' rfl X'
  exact ⟨t2, st t2 a1, b1⟩
def mj_bb (ret : Option FieldType) (r : Option mj_V) : Prop := ret = some .boolean → r = some (.inl 0) ∨ r = some (.inl 1)
def mj_S1 (y : MethodName) (cc : ByteArray) (nL : Nat) (ret : Option FieldType) (d : Nat) (G : mj_G) (av : List mj_V) (M : mj_M) (r0 : Option mj_V) (M0 : mj_M) : Prop := mj_Sem y cc nL ret d G av M (fun r M' => r = r0 ∧ M' = M0 ∧ mj_bb ret r0)
def mj_lk (y : MethodName) (cc : ByteArray) (nL : Nat) (ret : Option FieldType) (n : Nat) : Prop := Cond.code y cc nL ret ∈ mj_T ∧ Cond.initialized y.cls ∈ mj_T ∧ (y.cls ≠ "java/lang/invoke/MethodHandle" ∧ y.cls ≠ "java/lang/invoke/VarHandle" ∧ (parseMethodDescriptor y.desc).map (fun d => d.parameters.length) = some n)
def mj_lkV (y : MethodName) (cc : ByteArray) (nL : Nat) (ret : Option FieldType) (n : Nat) : Prop := mj_lk y cc nL ret n ∧ Cond.instanceMethod y ∈ mj_T ∧ Cond.selects y.cls y y ∈ mj_T
def mj_lkS (y : MethodName) (cc : ByteArray) (nL : Nat) (ret : Option FieldType) (n : Nat) : Prop := mj_lk y cc nL ret n ∧ Cond.static y ∈ mj_T
def mj_fits (κ : mj_K) (d nL : Nat) : Prop := d + 1 ≤ (mj_room κ).frames ∧ 8 + (nL + 11) + 40 * d ≤ (mj_room κ).locals
theorem mj_rmok {d : Nat} (h : mj_dp κ d) {d1 n1 : Nat} (h1 : d1 + 1 ≤ d) (h2 : n1 ≤ 21) : mj_fits κ d1 n1 := by
  unfold mj_fits
  rw [h.1, h.2]
  omega
theorem mj_blind (D : va_G) (cI : mj_I) (ad : Nat × Nat → Nat) (G : mj_G) (X : va_W) (sz : Nat) (av : List mj_V) (M : mj_M) : FrameBlind (mj_Pc D cI ad G X sz av M) := by
  rintro a U g mk ⟨h1, h2, h3, h4, h5, h6⟩
  exact ⟨h1, h2, h3, va_K.moved (u := U) (U := U.calling g mk a) (Vm.Alike.refl U.vm) h4, h5, mj_E.same rfl rfl h6⟩
theorem mj_tol (ad : Nat × Nat → Nat) (r : Option mj_V) (st : List mj_V) : (r.map (mj_cv ad)).toList ++ st.map (mj_cv ad) = (r.toList ++ st).map (mj_cv ad) := by cases r <;> simp
theorem mj_wsIn {y : MethodName} {cy : ByteArray} {nLy n : Nat} {ret : Option FieldType} (K : mj_lk y cy nLy ret n) : GoodIn mj_T (Cond.code y cy nLy ret :: mj_T) := mj_goodIn (fun w hw => by
  rcases List.mem_cons.mp hw with rfl | h
  · exact K.1
  · exact h)
theorem mj_callV {y : MethodName} {cy : ByteArray} {nLy dy n idx : Nat} {ret : Option FieldType} {av : List mj_V} {r0 : Option mj_V} {M0 : mj_M} {q : Nat × Nat} {ci : Nat} {t : List (Option (Nat × Nat))} (C : mj_C κ cc nL own) (hlink : Cond.methodLink own idx y ∈ mj_T) (Kl : mj_lkV y cy nLy ret n) (hq : mj_at (mj_g κ) q (.inr (ci, t))) (hC : ∃ z : vw_C, vwCl[ci]? = some z ∧ z.1 = y.cls) (hL : L.length = nL) (S : mj_S1 y cy nLy ret dy (mj_g κ) (mj_r q :: av) M r0 M0) (hF : mj_fits κ dy nLy) (hn : av.length = n) (hst : st.length ≤ 8) (hd : decode cc pc = .ok (.invokevirtual idx, 3)) (k : mj_bb ret r0 → mj_R κ Q (pc + 3) L (r0.toList ++ st) M0) : mj_R κ Q pc L (av.reverse ++ mj_r q :: st) M := by
  obtain ⟨⟨p, l, e, R, s, m, args, below, meth, c⟩, D, cI, ad, G, X, A, ce, sl⟩ := κ
  obtain ⟨hx, hb, hml, hown, hts, hK, hA, hE, hlk, hcs⟩ := C
  intro H locs ls hP hD hS hl
  obtain ⟨hq1, hq2⟩ := hq
  obtain ⟨i, hi⟩ := List.getElem?_of_mem hq1
  have hi : G.2[i]? = some q := hi
  have hq2 : G.1 q = .inr (ci, t) := hq2
  have he := mj_w_get (cI := cI) (ad := ad) (M := M) (X := X) hi
  rw [hq2] at he
  obtain ⟨z, hz1, hz2⟩ := hC
  have hrc : ∃ cellB : Cell, H[ad q]? = some cellB ∧ cellB.vm.isStatics = false ∧ s.vm.findClass y.cls = some cellB.cls := by
    rw [← hz2]
    exact va_recv hK hP hz1 he
  have hAH : ∀ q : Nat, H.size ≤ q → A q := fun q h => hA q (Nat.le_trans hS.1 h)
  have hin := mj_A_in hD hAH
  have hM := S l D cI ad X H.size
  refine mj_after (va_runV (As := av.map (mj_cv ad)) (rest := st.map (mj_cv ad)) ⟨hx, hb, hml, hown, hts⟩ hM ⟨callB_of n hts (mj_wsIn Kl.1) rfl rfl rfl (hts _ Kl.1.2.1) (hts _ hlink) Kl.1.2.2 hF, hts _ Kl.2.1, hts _ Kl.2.2⟩ ⟨mj_blind D cI ad G X H.size (mj_r q :: av) M, hrc, fun U hU hW => ⟨rfl, by rw [hU], by rw [hU]; exact hP, va_K.moved hW.alike hK, hD.weaken (fun _ _ _ _ => trivial), mj_E.go (by rw [hU]; exact hS) hW hin hE⟩⟩ rfl (by rw [List.length_map]; exact hn) (hl.1.trans hL) (by simp [mj_cv, mj_r]; try rfl) (by rw [mj_cats]; show 2 * 0 + _ ≤ 8; omega) hd ⟨hcs.1, hcs.2⟩) hS hin hin (fun r M' H1 locs1 hp hP1 hS1 => ?_)
  obtain ⟨rfl, rfl, hbb⟩ := hp
  rw [mj_tol]
  exact k hbb H1 locs1 ls hP1 (mj_D_same _ _ hD) hS1 hl
theorem mj_callS {y : MethodName} {cy : ByteArray} {nLy dy n idx : Nat} {ret : Option FieldType} {av : List mj_V} {r0 : Option mj_V} {M0 : mj_M} (C : mj_C κ cc nL own) (hlink : Cond.methodLink own idx y ∈ mj_T) (Kl : mj_lkS y cy nLy ret n) (hL : L.length = nL) (S : mj_S1 y cy nLy ret dy (mj_g κ) av M r0 M0) (hF : mj_fits κ dy nLy) (hn : av.length = n) (hst : st.length ≤ 8) (hd : decode cc pc = .ok (.invokestatic idx, 3)) (k : mj_bb ret r0 → mj_R κ Q (pc + 3) L (r0.toList ++ st) M0) : mj_R κ Q pc L (av.reverse ++ st) M := by
  obtain ⟨⟨p, l, e, R, s, m, args, below, meth, c⟩, D, cI, ad, G, X, A, ce, sl⟩ := κ
  obtain ⟨hx, hb, hml, hown, hts, hK, hA, hE, hlk, hcs⟩ := C
  intro H locs ls hP hD hS hl
  have hAH : ∀ q : Nat, H.size ≤ q → A q := fun q h => hA q (Nat.le_trans hS.1 h)
  have hin := mj_A_in hD hAH
  have hM := S l D cI ad X H.size
  refine mj_after (va_runS (As := av.map (mj_cv ad)) (rest := st.map (mj_cv ad)) ⟨hx, hb, hml, hown, hts⟩ hM ⟨callB_of n hts (mj_wsIn Kl.1) rfl rfl rfl (hts _ Kl.1.2.1) (hts _ hlink) Kl.1.2.2 hF, hts _ Kl.2⟩ ⟨mj_blind D cI ad G X H.size av M, fun U hU hW => ⟨rfl, by rw [hU], by rw [hU]; exact hP, va_K.moved hW.alike hK, hD.weaken (fun _ _ _ _ => trivial), mj_E.go (by rw [hU]; exact hS) hW hin hE⟩⟩ rfl (by rw [List.length_map]; exact hn) (hl.1.trans hL) (by simp [mj_cv, mj_r]; try rfl) (by rw [mj_cats]; show 2 * 0 + _ ≤ 8; omega) hd ⟨hcs.1, hcs.2⟩) hS hin hin (fun r M' H1 locs1 hp hP1 hS1 => ?_)
  obtain ⟨rfl, rfl, hbb⟩ := hp
  rw [mj_tol]
  exact k hbb H1 locs1 ls hP1 (mj_D_same _ _ hD) hS1 hl
theorem mj_callSN {y : MethodName} {cy : ByteArray} {nLy dy n idx : Nat} {ret : Option FieldType} {av : List mj_V} {r0 : Option mj_V} {M0 : mj_M} {host : String} (C : mj_C κ cc nL own) (hlink : (own, idx, y, host) ∈ mj_mn) (Kl : mj_lkS y cy nLy ret n) (hL : L.length = nL) (S : mj_S1 y cy nLy ret dy (mj_g κ) av M r0 M0) (hF : mj_fits κ dy nLy) (hn : av.length = n) (hst : st.length ≤ 8) (hd : decode cc pc = .ok (.invokestatic idx, 3)) (k : mj_bb ret r0 → mj_R κ Q (pc + 3) L (r0.toList ++ st) M0) : mj_R κ Q pc L (av.reverse ++ st) M := by
  obtain ⟨⟨p, l, e, R, s, m, args, below, meth, c⟩, D, cI, ad, G, X, A, ce, sl⟩ := κ
  obtain ⟨hx, hb, hml, hown, hts, hK, hA, hE, hlk, hcs⟩ := C
  intro H locs ls hP hD hS hl
  have hAH : ∀ q : Nat, H.size ≤ q → A q := fun q h => hA q (Nat.le_trans hS.1 h)
  have hin := mj_A_in hD hAH
  have hM := S l D cI ad X H.size
  refine mj_after (va_runSN (As := av.map (mj_cv ad)) (rest := st.map (mj_cv ad)) ⟨hx, hb, hml, hown, hts⟩ hM ⟨va_cnB n hts (mj_wsIn Kl.1) rfl rfl rfl (hE.2.2.2.1 _ hlink) (hts _ Kl.1.2.1) Kl.1.2.2 hF, hts _ Kl.2, trivial⟩ ⟨mj_blind D cI ad G X H.size av M, fun U hU hW => ⟨rfl, by rw [hU], by rw [hU]; exact hP, va_K.moved hW.alike hK, hD.weaken (fun _ _ _ _ => trivial), mj_E.go (by rw [hU]; exact hS) hW hin hE⟩⟩ rfl (by rw [List.length_map]; exact hn) (hl.1.trans hL) (by simp [mj_cv, mj_r]; try rfl) (by rw [mj_cats]; show 2 * 0 + _ ≤ 8; omega) hd ⟨hcs.1, hcs.2⟩) hS hin hin (fun r M' H1 locs1 hp hP1 hS1 => ?_)
  obtain ⟨rfl, rfl, hbb⟩ := hp
  rw [mj_tol]
  exact k hbb H1 locs1 ls hP1 (mj_D_same _ _ hD) hS1 hl
def mj_cok (sp dp n : Int32) (n0 n1 : Nat) : Bool := decide (0 ≤ sp.toInt) && decide (0 ≤ dp.toInt) && decide (0 ≤ n.toInt) && decide (sp.toInt + n.toInt ≤ n0) && decide (dp.toInt + n.toInt ≤ n1)
theorem mj_nn {x : Int32} (h : 0 ≤ x.toInt) : ¬ x < 0 ∧ x.toInt = (x.toNatClampNeg : Int) := by
  refine ⟨fun q => ?_, ?_⟩
  · have := Int32.lt_iff_toInt_lt.mp q
    simp at this
    omega
  · show x.toInt = ((x.toInt.toNat : Nat) : Int)
    omega
theorem mj_acopy {q0 q1 : Nat × Nat} {n0 n1 idx : Nat} {sp dp n : Int32} (C : mj_C κ cc nL own) (hlink : Cond.methodLink own idx arraycopyName ∈ mj_T) (hL : L.length = nL) (h0 : mj_at (mj_g κ) q0 (.inl n0)) (h1 : mj_at (mj_g κ) q1 (.inl n1)) (hok : mj_cok sp dp n n0 n1 = true) (hF : 1 ≤ (mj_room κ).frames ∧ 30 ≤ (mj_room κ).locals) (hst : st.length ≤ 8) (hd : decode cc pc = .ok (.invokestatic idx, 3)) (k : mj_R κ Q (pc + 3) L st (mj_wr M q1 (va_cpy (M q0.1 q0.2) (M q1.1 q1.2) (mj_cl sp) (mj_cl dp) (mj_cl n)))) : mj_R κ Q pc L (.inl n :: .inl dp :: mj_r q1 :: .inl sp :: mj_r q0 :: st) M := by
  obtain ⟨⟨p, l, e, R, s, m, args, below, meth, c⟩, D, cI, ad, G, X, A, ce, sl⟩ := κ
  obtain ⟨hx, hb, hml, hown, hts, hK, hA, hE, hlk, hcs⟩ := C
  intro H locs ls hP hD hS hl
  simp only [mj_cok, Bool.and_eq_true, decide_eq_true_eq] at hok
  obtain ⟨⟨⟨⟨a1, a2⟩, a3⟩, a4⟩, a5⟩ := hok
  have b1 := mj_nn a1
  have b2 := mj_nn a2
  have b3 := mj_nn a3
  obtain ⟨i0, hi0⟩ := List.getElem?_of_mem h0.1
  obtain ⟨i1, hi1⟩ := List.getElem?_of_mem h1.1
  have hi0 : G.2[i0]? = some q0 := hi0
  have hi1 : G.2[i1]? = some q1 := hi1
  have e0 := mj_w_get (cI := cI) (ad := ad) (M := M) (X := X) hi0
  have e1 := mj_w_get (cI := cI) (ad := ad) (M := M) (X := X) hi1
  have g0 : G.1 q0 = .inl n0 := h0.2
  have g1 : G.1 q1 = .inl n1 := h1.2
  rw [g0] at e0
  rw [g1] at e1
  have hset : (mj_w cI ad G M ++ X).set i1 (ad q1, .inl (cI.1, n1, .inl (va_cpy (M q0.1 q0.2) (M q1.1 q1.2) (mj_cl sp) (mj_cl dp) (mj_cl n)))) = mj_w cI ad G (mj_wr M q1 (va_cpy (M q0.1 q0.2) (M q1.1 q1.2) (mj_cl sp) (mj_cl dp) (mj_cl n))) ++ X := by
    rw [← mj_w_set hD hi1, g1]
    rfl
  refine va_copyi hx hb (hml.trans (hL.symm.trans hl.1.symm)) hown (hts _ hlink) (hts _ (mj_T_of 727 (by decide +kernel) rfl)) (hts _ (mj_T_of 726 (by decide +kernel) rfl)) (hts _ (mj_T_of 135 (by decide +kernel) rfl)) hK hP hD hS i0 i1 0 0 (ty := .int) e0 e1 rfl rfl rfl b1.1 b2.1 b3.1 (by omega) (by omega) (fun i _ => rfl) hF.1 (by rw [mj_cats]; have := hF.2; show _ + (7 + 11) ≤ R.locals; have h2 : 30 ≤ R.locals := hF.2; omega) hd (fun H1 locs1 hP1 hD1 hS1 => ?_)
  exact k H1 locs1 ls (by rw [← hset]; exact hP1) (by rw [← hset]; exact hD1) hS1 hl
theorem mj_imax {x y : Int32} {idx : Nat} (C : mj_C κ cc nL own) (hlink : Cond.methodLink own idx Lib.Math.max.name ∈ mj_T) (hL : L.length = nL) (hF : 1 ≤ (mj_room κ).frames ∧ 30 ≤ (mj_room κ).locals) (hst : st.length ≤ 8) (hd : decode cc pc = .ok (.invokestatic idx, 3)) (k : mj_R κ Q (pc + 3) L (.inl (if x < y then y else x) :: st) M) : mj_R κ Q pc L (.inl y :: .inl x :: st) M := by
  obtain ⟨⟨p, l, e, R, s, m, args, below, meth, c⟩, D, cI, ad, G, X, A, ce, sl⟩ := κ
  obtain ⟨hx, hb, hml, hown, hts, hK, hA, hE, hlk, hcs⟩ := C
  intro H locs ls hP hD hS hl
  exact va_mmax hx hb (hml.trans (hL.symm.trans hl.1.symm)) hown (hts _ hlink) (hts _ (mj_T_of 1148 (by decide +kernel) rfl)) (hts _ (mj_T_of 136 (by decide +kernel) rfl)) (hts _ (mj_T_of 1149 (by decide +kernel) rfl)) hF.1 (by rw [mj_cats]; have h2 : 30 ≤ R.locals := hF.2; omega) hcs.1 hcs.2 hd (k H locs ls hP hD hS hl)
theorem mj_imin {x y : Int32} {idx : Nat} (C : mj_C κ cc nL own) (hlink : Cond.methodLink own idx Lib.Math.min.name ∈ mj_T) (hL : L.length = nL) (hF : 1 ≤ (mj_room κ).frames ∧ 30 ≤ (mj_room κ).locals) (hst : st.length ≤ 8) (hd : decode cc pc = .ok (.invokestatic idx, 3)) (k : mj_R κ Q (pc + 3) L (.inl (if y < x then y else x) :: st) M) : mj_R κ Q pc L (.inl y :: .inl x :: st) M := by
  obtain ⟨⟨p, l, e, R, s, m, args, below, meth, c⟩, D, cI, ad, G, X, A, ce, sl⟩ := κ
  obtain ⟨hx, hb, hml, hown, hts, hK, hA, hE, hlk, hcs⟩ := C
  intro H locs ls hP hD hS hl
  exact va_mmin hx hb (hml.trans (hL.symm.trans hl.1.symm)) hown (hts _ hlink) (hts _ (mj_T_of 870 (by decide +kernel) rfl)) (hts _ (mj_T_of 136 (by decide +kernel) rfl)) (hts _ (mj_T_of 871 (by decide +kernel) rfl)) hF.1 (by rw [mj_cats]; have h2 : 30 ≤ R.locals := hF.2; omega) hcs.1 hcs.2 hd (k H locs ls hP hD hS hl)
theorem mj_gst {idx i : Nat} {host ref : String} (C : mj_C κ cc nL own) (hi : i < 5) (hlink : (own, idx, ref, (mj_sn i).2.1, (mj_sn i).2.2.1, host) ∈ mj_fn) (href : ref = (mj_sn i).1) (hd : decode cc pc = .ok (.getstatic idx, 3)) (k : mj_R κ Q (pc + 3) L (mj_r (99, i) :: st) M) : mj_R κ Q pc L st M := by
  obtain ⟨⟨p, l, e, R, s, m, args, below, meth, c⟩, D, cI, ad, G, X, A, ce, sl⟩ := κ
  obtain ⟨hx, hb, hml, hown, hts, hK, hA, hE, hlk, hcs⟩ := C
  intro H locs ls hP hD hS hl
  subst href
  exact va_getsN hx hb (hE.1 i hi).1 hS hown (va_Nw.use rfl (hE.2.2.1 _ hlink)) (fun _ h => h) hd (k H locs ls hP hD hS hl)
theorem mj_aldS {i : Nat} {x : Int32} (C : mj_C κ cc nL own) (hi : i < 5) (hty : (mj_sn i).2.2.2.1 = .int) (hin : mj_ok x (mj_sn i).2.2.2.2 = true) (hd : decode cc pc = .ok (.iaload, 1)) (k : mj_R κ Q (pc + 1) L (.inl (mj_sa i (mj_cl x)) :: st) M) : mj_R κ Q pc L (.inl x :: mj_r (99, i) :: st) M := by
  obtain ⟨⟨p, l, e, R, s, m, args, below, meth, c⟩, D, cI, ad, G, X, A, ce, sl⟩ := κ
  obtain ⟨hx, hb, hml, hown, hts, hK, hA, hE, hlk, hcs⟩ := C
  intro H locs ls hP hD hS hl
  obtain ⟨cell, g1, g2, g3, g4, g5, g6, g7⟩ := (hE.1 i hi).2.kept hS.2.1
  rw [hty] at g2
  have hv := mj_ok_in hin
  have hlt : x.toNatClampNeg < (mj_sn i).2.2.2.2 := Nat.not_le.mp fun q => hv (Or.inr q)
  exact W.iald hx hb g1 g2 g3 (fun q => q.elim (fun q => hv (Or.inl q)) (fun q => by omega)) (g6 _ hlt) rfl rfl hd (k H locs ls hP hD hS hl)
end MJC
