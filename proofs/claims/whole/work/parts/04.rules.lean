def mj_rem (x y : Int32) : Int32 := x - x / y * y
def mj_shl (x y : Int32) : Int32 := x <<< (y &&& 31)
def mj_shr (x y : Int32) : Int32 := x >>> (y &&& 31)
def mj_ush (x y : Int32) : Int32 := (x.toUInt32 >>> (y.toUInt32 &&& Int32.toUInt32 31)).toInt32
def mj_cl (x : Int32) : Nat := x.toNatClampNeg
def mj_ok (i : Int32) (n : Nat) : Bool := decide (0 ≤ i.toInt) && decide (i.toInt < n)
theorem mj_ok_in {i : Int32} {n : Nat} (h : mj_ok i n = true) : vp_in i n := by
  simp only [mj_ok, Bool.and_eq_true, decide_eq_true_eq] at h
  exact vp_in_iff.mpr h
def mj_wrs (m : mj_m) (k j : Nat) (x : Int32) : mj_m := va_up m k (upd (m k) j x)
section MJ
variable {κ : mj_K} {cc : ByteArray} {nL : Nat} {own : String} {Q : State → Prop} {pc : Nat} {L : List (Option mj_V)} {st : List mj_V} {M : mj_M}

theorem mj_iadd {x y : Int32} (C : mj_C κ cc nL own) (hd : decode cc pc = .ok (.iadd, 1)) (k : mj_R κ Q (pc + 1) L (.inl (x + y) :: st) M) : mj_R κ Q pc L (.inl y :: .inl x :: st) M := by
  obtain ⟨⟨p, l, e, R, s, m, args, below, meth, c⟩, D, cI, ad, G, X, A, ce, sl⟩ := κ
  obtain ⟨hx, hb, hml, hown, hts, hK, hA, hE, hlk, hcs⟩ := C
  intro H locs ls hP hD hS hl
  exact lv_iadd hx hb hd (k H locs ls hP hD hS hl)
theorem mj_isub {x y : Int32} (C : mj_C κ cc nL own) (hd : decode cc pc = .ok (.isub, 1)) (k : mj_R κ Q (pc + 1) L (.inl (x - y) :: st) M) : mj_R κ Q pc L (.inl y :: .inl x :: st) M := by
  obtain ⟨⟨p, l, e, R, s, m, args, below, meth, c⟩, D, cI, ad, G, X, A, ce, sl⟩ := κ
  obtain ⟨hx, hb, hml, hown, hts, hK, hA, hE, hlk, hcs⟩ := C
  intro H locs ls hP hD hS hl
  exact lv_isub hx hb hd (k H locs ls hP hD hS hl)
theorem mj_imul {x y : Int32} (C : mj_C κ cc nL own) (hd : decode cc pc = .ok (.imul, 1)) (k : mj_R κ Q (pc + 1) L (.inl (x * y) :: st) M) : mj_R κ Q pc L (.inl y :: .inl x :: st) M := by
  obtain ⟨⟨p, l, e, R, s, m, args, below, meth, c⟩, D, cI, ad, G, X, A, ce, sl⟩ := κ
  obtain ⟨hx, hb, hml, hown, hts, hK, hA, hE, hlk, hcs⟩ := C
  intro H locs ls hP hD hS hl
  exact lv_imul hx hb hd (k H locs ls hP hD hS hl)
theorem mj_iand {x y : Int32} (C : mj_C κ cc nL own) (hd : decode cc pc = .ok (.iand, 1)) (k : mj_R κ Q (pc + 1) L (.inl (x &&& y) :: st) M) : mj_R κ Q pc L (.inl y :: .inl x :: st) M := by
  obtain ⟨⟨p, l, e, R, s, m, args, below, meth, c⟩, D, cI, ad, G, X, A, ce, sl⟩ := κ
  obtain ⟨hx, hb, hml, hown, hts, hK, hA, hE, hlk, hcs⟩ := C
  intro H locs ls hP hD hS hl
  exact lv_iand hx hb hd (k H locs ls hP hD hS hl)
theorem mj_ior {x y : Int32} (C : mj_C κ cc nL own) (hd : decode cc pc = .ok (.ior, 1)) (k : mj_R κ Q (pc + 1) L (.inl (x ||| y) :: st) M) : mj_R κ Q pc L (.inl y :: .inl x :: st) M := by
  obtain ⟨⟨p, l, e, R, s, m, args, below, meth, c⟩, D, cI, ad, G, X, A, ce, sl⟩ := κ
  obtain ⟨hx, hb, hml, hown, hts, hK, hA, hE, hlk, hcs⟩ := C
  intro H locs ls hP hD hS hl
  exact lv_ior hx hb hd (k H locs ls hP hD hS hl)
theorem mj_ishl {x y : Int32} (C : mj_C κ cc nL own) (hd : decode cc pc = .ok (.ishl, 1)) (k : mj_R κ Q (pc + 1) L (.inl (mj_shl x y) :: st) M) : mj_R κ Q pc L (.inl y :: .inl x :: st) M := by
  obtain ⟨⟨p, l, e, R, s, m, args, below, meth, c⟩, D, cI, ad, G, X, A, ce, sl⟩ := κ
  obtain ⟨hx, hb, hml, hown, hts, hK, hA, hE, hlk, hcs⟩ := C
  intro H locs ls hP hD hS hl
  exact lv_ishl hx hb hd (k H locs ls hP hD hS hl)
theorem mj_ishr {x y : Int32} (C : mj_C κ cc nL own) (hd : decode cc pc = .ok (.ishr, 1)) (k : mj_R κ Q (pc + 1) L (.inl (mj_shr x y) :: st) M) : mj_R κ Q pc L (.inl y :: .inl x :: st) M := by
  obtain ⟨⟨p, l, e, R, s, m, args, below, meth, c⟩, D, cI, ad, G, X, A, ce, sl⟩ := κ
  obtain ⟨hx, hb, hml, hown, hts, hK, hA, hE, hlk, hcs⟩ := C
  intro H locs ls hP hD hS hl
  exact lv_ishr hx hb hd (k H locs ls hP hD hS hl)
theorem mj_iushr {x y : Int32} (C : mj_C κ cc nL own) (hd : decode cc pc = .ok (.iushr, 1)) (k : mj_R κ Q (pc + 1) L (.inl (mj_ush x y) :: st) M) : mj_R κ Q pc L (.inl y :: .inl x :: st) M := by
  obtain ⟨⟨p, l, e, R, s, m, args, below, meth, c⟩, D, cI, ad, G, X, A, ce, sl⟩ := κ
  obtain ⟨hx, hb, hml, hown, hts, hK, hA, hE, hlk, hcs⟩ := C
  intro H locs ls hP hD hS hl
  exact lv_iushr hx hb hd rfl (k H locs ls hP hD hS hl)
theorem mj_irem {x y : Int32} (C : mj_C κ cc nL own) (hd : decode cc pc = .ok (.irem, 1)) (h0 : ¬ y = 0) (k : mj_R κ Q (pc + 1) L (.inl (mj_rem x y) :: st) M) : mj_R κ Q pc L (.inl y :: .inl x :: st) M := by
  obtain ⟨⟨p, l, e, R, s, m, args, below, meth, c⟩, D, cI, ad, G, X, A, ce, sl⟩ := κ
  obtain ⟨hx, hb, hml, hown, hts, hK, hA, hE, hlk, hcs⟩ := C
  intro H locs ls hP hD hS hl
  exact lv_irem hx hb hd h0 (k H locs ls hP hD hS hl)
theorem mj_idiv {x y : Int32} (C : mj_C κ cc nL own) (hd : decode cc pc = .ok (.idiv, 1)) (h0 : ¬ y = 0) (k : mj_R κ Q (pc + 1) L (.inl (x / y) :: st) M) : mj_R κ Q pc L (.inl y :: .inl x :: st) M := by
  obtain ⟨⟨p, l, e, R, s, m, args, below, meth, c⟩, D, cI, ad, G, X, A, ce, sl⟩ := κ
  obtain ⟨hx, hb, hml, hown, hts, hK, hA, hE, hlk, hcs⟩ := C
  intro H locs ls hP hD hS hl
  exact lv_idiv hx hb hd h0 (k H locs ls hP hD hS hl)
theorem mj_iconst {n : Int} {v : Int32} (C : mj_C κ cc nL own) (hd : decode cc pc = .ok (.iconst n, 1)) (hv : Int32.ofInt n = v) (k : mj_R κ Q (pc + 1) L (.inl v :: st) M) : mj_R κ Q pc L st M := by
  obtain ⟨⟨p, l, e, R, s, m, args, below, meth, c⟩, D, cI, ad, G, X, A, ce, sl⟩ := κ
  obtain ⟨hx, hb, hml, hown, hts, hK, hA, hE, hlk, hcs⟩ := C
  intro H locs ls hP hD hS hl
  exact lv_iconst hx hb hd hv (k H locs ls hP hD hS hl)
theorem mj_bipush {n : Int} {v : Int32} (C : mj_C κ cc nL own) (hd : decode cc pc = .ok (.bipush n, 2)) (hv : (Int8.ofInt n).toInt32 = v) (k : mj_R κ Q (pc + 2) L (.inl v :: st) M) : mj_R κ Q pc L st M := by
  obtain ⟨⟨p, l, e, R, s, m, args, below, meth, c⟩, D, cI, ad, G, X, A, ce, sl⟩ := κ
  obtain ⟨hx, hb, hml, hown, hts, hK, hA, hE, hlk, hcs⟩ := C
  intro H locs ls hP hD hS hl
  exact lv_bipush hx hb hd hv (k H locs ls hP hD hS hl)
theorem mj_sipush {n : Int} {v : Int32} (C : mj_C κ cc nL own) (hd : decode cc pc = .ok (.sipush n, 3)) (hv : (Int16.ofInt n).toInt32 = v) (k : mj_R κ Q (pc + 3) L (.inl v :: st) M) : mj_R κ Q pc L st M := by
  obtain ⟨⟨p, l, e, R, s, m, args, below, meth, c⟩, D, cI, ad, G, X, A, ce, sl⟩ := κ
  obtain ⟨hx, hb, hml, hown, hts, hK, hA, hE, hlk, hcs⟩ := C
  intro H locs ls hP hD hS hl
  exact lv_sipush hx hb hd hv (k H locs ls hP hD hS hl)
theorem mj_ldcw {n : Nat} {v : Int32} (C : mj_C κ cc nL own) (hw : Cond.constant own n v ∈ mj_T) (hd : decode cc pc = .ok (.ldc_w n, 3)) (k : mj_R κ Q (pc + 3) L (.inl v :: st) M) : mj_R κ Q pc L st M := by
  obtain ⟨⟨p, l, e, R, s, m, args, below, meth, c⟩, D, cI, ad, G, X, A, ce, sl⟩ := κ
  obtain ⟨hx, hb, hml, hown, hts, hK, hA, hE, hlk, hcs⟩ := C
  intro H locs ls hP hD hS hl
  exact lv_ldcw hx hb hown (hts _ hw) hd (k H locs ls hP hD hS hl)
theorem mj_ldc {n : Nat} {v : Int32} (C : mj_C κ cc nL own) (hw : Cond.constant own n v ∈ mj_T) (hd : decode cc pc = .ok (.ldc n, 2)) (k : mj_R κ Q (pc + 2) L (.inl v :: st) M) : mj_R κ Q pc L st M := by
  obtain ⟨⟨p, l, e, R, s, m, args, below, meth, c⟩, D, cI, ad, G, X, A, ce, sl⟩ := κ
  obtain ⟨hx, hb, hml, hown, hts, hK, hA, hE, hlk, hcs⟩ := C
  intro H locs ls hP hD hS hl
  exact lv_ldc hx hb hown (hts _ hw) hd (k H locs ls hP hD hS hl)
theorem mj_iload_n {i : Fin 4} {x : Int32} (C : mj_C κ cc nL own) (hd : decode cc pc = .ok (.iload_n i, 1)) (hi : L[(i : Nat)]? = some (some (.inl x))) (k : mj_R κ Q (pc + 1) L (.inl x :: st) M) : mj_R κ Q pc L st M := by
  obtain ⟨⟨p, l, e, R, s, m, args, below, meth, c⟩, D, cI, ad, G, X, A, ce, sl⟩ := κ
  obtain ⟨hx, hb, hml, hown, hts, hK, hA, hE, hlk, hcs⟩ := C
  intro H locs ls hP hD hS hl
  exact lv_iload_n hx hb hd rfl (mj_lh_at hl hi) (k H locs ls hP hD hS hl)
theorem mj_iload {i : Nat} {x : Int32} (C : mj_C κ cc nL own) (hd : decode cc pc = .ok (.iload i, 2)) (hi : L[i]? = some (some (.inl x))) (k : mj_R κ Q (pc + 2) L (.inl x :: st) M) : mj_R κ Q pc L st M := by
  obtain ⟨⟨p, l, e, R, s, m, args, below, meth, c⟩, D, cI, ad, G, X, A, ce, sl⟩ := κ
  obtain ⟨hx, hb, hml, hown, hts, hK, hA, hE, hlk, hcs⟩ := C
  intro H locs ls hP hD hS hl
  exact lv_iload hx hb hd (mj_lh_at hl hi) (k H locs ls hP hD hS hl)
theorem mj_istore_n {i : Fin 4} {x : Int32} (C : mj_C κ cc nL own) (hd : decode cc pc = .ok (.istore_n i, 1)) {L2 : List (Option mj_V)} (hi : (i : Nat) < L.length) (hs : L.set (i : Nat) (some (.inl x)) = L2) (k : mj_R κ Q (pc + 1) L2 st M) : mj_R κ Q pc L (.inl x :: st) M := by
  obtain ⟨⟨p, l, e, R, s, m, args, below, meth, c⟩, D, cI, ad, G, X, A, ce, sl⟩ := κ
  obtain ⟨hx, hb, hml, hown, hts, hK, hA, hE, hlk, hcs⟩ := C
  intro H locs ls hP hD hS hl
  exact lv_istore_n hx hb hd rfl hl hi rfl (fun ls' hl' => k H locs ls' hP hD hS (hs ▸ mj_lh_set (v := .inl x) hl'))
theorem mj_istore {i : Nat} {x : Int32} (C : mj_C κ cc nL own) (hd : decode cc pc = .ok (.istore i, 2)) {L2 : List (Option mj_V)} (hi : i < L.length) (hs : L.set i (some (.inl x)) = L2) (k : mj_R κ Q (pc + 2) L2 st M) : mj_R κ Q pc L (.inl x :: st) M := by
  obtain ⟨⟨p, l, e, R, s, m, args, below, meth, c⟩, D, cI, ad, G, X, A, ce, sl⟩ := κ
  obtain ⟨hx, hb, hml, hown, hts, hK, hA, hE, hlk, hcs⟩ := C
  intro H locs ls hP hD hS hl
  exact lv_istore hx hb hd hl hi rfl (fun ls' hl' => k H locs ls' hP hD hS (hs ▸ mj_lh_set (v := .inl x) hl'))
theorem mj_aload_n {i : Fin 4} {x : Nat × Nat} (C : mj_C κ cc nL own) (hd : decode cc pc = .ok (.aload_n i, 1)) (hi : L[(i : Nat)]? = some (some (mj_r x))) (k : mj_R κ Q (pc + 1) L (mj_r x :: st) M) : mj_R κ Q pc L st M := by
  obtain ⟨⟨p, l, e, R, s, m, args, below, meth, c⟩, D, cI, ad, G, X, A, ce, sl⟩ := κ
  obtain ⟨hx, hb, hml, hown, hts, hK, hA, hE, hlk, hcs⟩ := C
  intro H locs ls hP hD hS hl
  exact lv_aload_n hx hb hd rfl (mj_lh_at hl hi) (k H locs ls hP hD hS hl)
theorem mj_aload {i : Nat} {x : Nat × Nat} (C : mj_C κ cc nL own) (hd : decode cc pc = .ok (.aload i, 2)) (hi : L[i]? = some (some (mj_r x))) (k : mj_R κ Q (pc + 2) L (mj_r x :: st) M) : mj_R κ Q pc L st M := by
  obtain ⟨⟨p, l, e, R, s, m, args, below, meth, c⟩, D, cI, ad, G, X, A, ce, sl⟩ := κ
  obtain ⟨hx, hb, hml, hown, hts, hK, hA, hE, hlk, hcs⟩ := C
  intro H locs ls hP hD hS hl
  exact lv_aload hx hb hd (mj_lh_at hl hi) (k H locs ls hP hD hS hl)
theorem mj_astore_n {i : Fin 4} {x : Nat × Nat} (C : mj_C κ cc nL own) (hd : decode cc pc = .ok (.astore_n i, 1)) {L2 : List (Option mj_V)} (hi : (i : Nat) < L.length) (hs : L.set (i : Nat) (some (mj_r x)) = L2) (k : mj_R κ Q (pc + 1) L2 st M) : mj_R κ Q pc L (mj_r x :: st) M := by
  obtain ⟨⟨p, l, e, R, s, m, args, below, meth, c⟩, D, cI, ad, G, X, A, ce, sl⟩ := κ
  obtain ⟨hx, hb, hml, hown, hts, hK, hA, hE, hlk, hcs⟩ := C
  intro H locs ls hP hD hS hl
  exact lv_astore_n hx hb hd rfl hl hi rfl (fun ls' hl' => k H locs ls' hP hD hS (hs ▸ mj_lh_set (v := mj_r x) hl'))
theorem mj_astore {i : Nat} {x : Nat × Nat} (C : mj_C κ cc nL own) (hd : decode cc pc = .ok (.astore i, 2)) {L2 : List (Option mj_V)} (hi : i < L.length) (hs : L.set i (some (mj_r x)) = L2) (k : mj_R κ Q (pc + 2) L2 st M) : mj_R κ Q pc L (mj_r x :: st) M := by
  obtain ⟨⟨p, l, e, R, s, m, args, below, meth, c⟩, D, cI, ad, G, X, A, ce, sl⟩ := κ
  obtain ⟨hx, hb, hml, hown, hts, hK, hA, hE, hlk, hcs⟩ := C
  intro H locs ls hP hD hS hl
  exact lv_astore hx hb hd hl hi rfl (fun ls' hl' => k H locs ls' hP hD hS (hs ▸ mj_lh_set (v := mj_r x) hl'))
theorem mj_iinc {i : Nat} {n : Int} {x v : Int32} (C : mj_C κ cc nL own) (hd : decode cc pc = .ok (.iinc i n, 3)) (hi : L[i]? = some (some (.inl x))) {L2 : List (Option mj_V)} (hv : x + Int32.ofInt n = v) (hs : L.set i (some (.inl v)) = L2) (k : mj_R κ Q (pc + 3) L2 st M) : mj_R κ Q pc L st M := by
  obtain ⟨⟨p, l, e, R, s, m, args, below, meth, c⟩, D, cI, ad, G, X, A, ce, sl⟩ := κ
  obtain ⟨hx, hb, hml, hown, hts, hK, hA, hE, hlk, hcs⟩ := C
  intro H locs ls hP hD hS hl
  obtain ⟨j, hj⟩ := List.getElem?_of_mem (mj_lf_mem (ad := ad).mpr ⟨_, hi, rfl⟩)
  exact lv_iinc hx hb hd hl hj hv (List.getElem?_eq_some_iff.mp hi).1 rfl (fun ls' hl' => k H locs ls' hP hD hS (hs ▸ mj_lh_set (v := .inl v) hl'))
theorem mj_dup {v : mj_V} (C : mj_C κ cc nL own) (hd : decode cc pc = .ok (.dup, 1)) (k : mj_R κ Q (pc + 1) L (v :: v :: st) M) : mj_R κ Q pc L (v :: st) M := by
  obtain ⟨⟨p, l, e, R, s, m, args, below, meth, c⟩, D, cI, ad, G, X, A, ce, sl⟩ := κ
  obtain ⟨hx, hb, hml, hown, hts, hK, hA, hE, hlk, hcs⟩ := C
  intro H locs ls hP hD hS hl
  exact lv_dup hx hb hd (mj_cv_cat ad v) (k H locs ls hP hD hS hl)
theorem mj_pop {v : mj_V} (C : mj_C κ cc nL own) (hd : decode cc pc = .ok (.pop, 1)) (k : mj_R κ Q (pc + 1) L st M) : mj_R κ Q pc L (v :: st) M := by
  obtain ⟨⟨p, l, e, R, s, m, args, below, meth, c⟩, D, cI, ad, G, X, A, ce, sl⟩ := κ
  obtain ⟨hx, hb, hml, hown, hts, hK, hA, hE, hlk, hcs⟩ := C
  intro H locs ls hP hD hS hl
  exact lv_pop hx hb hd (mj_cv_cat ad v) (k H locs ls hP hD hS hl)
theorem mj_dup2 {v w : mj_V} (C : mj_C κ cc nL own) (hd : decode cc pc = .ok (.dup2, 1)) (k : mj_R κ Q (pc + 1) L (v :: w :: v :: w :: st) M) : mj_R κ Q pc L (v :: w :: st) M := by
  obtain ⟨⟨p, l, e, R, s, m, args, below, meth, c⟩, D, cI, ad, G, X, A, ce, sl⟩ := κ
  obtain ⟨hx, hb, hml, hown, hts, hK, hA, hE, hlk, hcs⟩ := C
  intro H locs ls hP hD hS hl
  exact lv_dup2_11 hx hb hd (mj_cv_cat ad v) (mj_cv_cat ad w) (k H locs ls hP hD hS hl)
theorem mj_goto {off : Int} {tgt : Nat} (C : mj_C κ cc nL own) (hd : decode cc pc = .ok (.goto off, 3)) (ht : (pc : Int) + off = (tgt : Int)) (k : mj_R κ Q tgt L st M) : mj_R κ Q pc L st M := by
  obtain ⟨⟨p, l, e, R, s, m, args, below, meth, c⟩, D, cI, ad, G, X, A, ce, sl⟩ := κ
  obtain ⟨hx, hb, hml, hown, hts, hK, hA, hE, hlk, hcs⟩ := C
  intro H locs ls hP hD hS hl
  exact lv_goto hx hb hd ht (k H locs ls hP hD hS hl)
theorem mj_if_eq {x : Int32} {off : Int} {tgt : Nat} (C : mj_C κ cc nL own) (hd : decode cc pc = .ok (.ifCond .eq off, 3)) (ht : (pc : Int) + off = (tgt : Int)) (kt : x = 0 → mj_R κ Q tgt L st M) (kf : ¬ x = 0 → mj_R κ Q (pc + 3) L st M) : mj_R κ Q pc L (.inl x :: st) M := by
  obtain ⟨⟨p, l, e, R, s, m, args, below, meth, c⟩, D, cI, ad, G, X, A, ce, sl⟩ := κ
  obtain ⟨hx, hb, hml, hown, hts, hK, hA, hE, hlk, hcs⟩ := C
  intro H locs ls hP hD hS hl
  exact lv_if_eq hx hb hd ht (fun hc => kt hc H locs ls hP hD hS hl) (fun hc => kf hc H locs ls hP hD hS hl)
theorem mj_if_ne {x : Int32} {off : Int} {tgt : Nat} (C : mj_C κ cc nL own) (hd : decode cc pc = .ok (.ifCond .ne off, 3)) (ht : (pc : Int) + off = (tgt : Int)) (kt : ¬ x = 0 → mj_R κ Q tgt L st M) (kf : x = 0 → mj_R κ Q (pc + 3) L st M) : mj_R κ Q pc L (.inl x :: st) M := by
  obtain ⟨⟨p, l, e, R, s, m, args, below, meth, c⟩, D, cI, ad, G, X, A, ce, sl⟩ := κ
  obtain ⟨hx, hb, hml, hown, hts, hK, hA, hE, hlk, hcs⟩ := C
  intro H locs ls hP hD hS hl
  exact lv_if_ne hx hb hd ht (fun hc => kt hc H locs ls hP hD hS hl) (fun hc => kf hc H locs ls hP hD hS hl)
theorem mj_if_lt {x : Int32} {off : Int} {tgt : Nat} (C : mj_C κ cc nL own) (hd : decode cc pc = .ok (.ifCond .lt off, 3)) (ht : (pc : Int) + off = (tgt : Int)) (kt : x < 0 → mj_R κ Q tgt L st M) (kf : ¬ x < 0 → mj_R κ Q (pc + 3) L st M) : mj_R κ Q pc L (.inl x :: st) M := by
  obtain ⟨⟨p, l, e, R, s, m, args, below, meth, c⟩, D, cI, ad, G, X, A, ce, sl⟩ := κ
  obtain ⟨hx, hb, hml, hown, hts, hK, hA, hE, hlk, hcs⟩ := C
  intro H locs ls hP hD hS hl
  exact lv_if_lt hx hb hd ht (fun hc => kt hc H locs ls hP hD hS hl) (fun hc => kf hc H locs ls hP hD hS hl)
theorem mj_if_ge {x : Int32} {off : Int} {tgt : Nat} (C : mj_C κ cc nL own) (hd : decode cc pc = .ok (.ifCond .ge off, 3)) (ht : (pc : Int) + off = (tgt : Int)) (kt : 0 ≤ x → mj_R κ Q tgt L st M) (kf : ¬ 0 ≤ x → mj_R κ Q (pc + 3) L st M) : mj_R κ Q pc L (.inl x :: st) M := by
  obtain ⟨⟨p, l, e, R, s, m, args, below, meth, c⟩, D, cI, ad, G, X, A, ce, sl⟩ := κ
  obtain ⟨hx, hb, hml, hown, hts, hK, hA, hE, hlk, hcs⟩ := C
  intro H locs ls hP hD hS hl
  exact lv_if_ge hx hb hd ht (fun hc => kt hc H locs ls hP hD hS hl) (fun hc => kf hc H locs ls hP hD hS hl)
theorem mj_if_gt {x : Int32} {off : Int} {tgt : Nat} (C : mj_C κ cc nL own) (hd : decode cc pc = .ok (.ifCond .gt off, 3)) (ht : (pc : Int) + off = (tgt : Int)) (kt : 0 < x → mj_R κ Q tgt L st M) (kf : ¬ 0 < x → mj_R κ Q (pc + 3) L st M) : mj_R κ Q pc L (.inl x :: st) M := by
  obtain ⟨⟨p, l, e, R, s, m, args, below, meth, c⟩, D, cI, ad, G, X, A, ce, sl⟩ := κ
  obtain ⟨hx, hb, hml, hown, hts, hK, hA, hE, hlk, hcs⟩ := C
  intro H locs ls hP hD hS hl
  exact lv_if_gt hx hb hd ht (fun hc => kt hc H locs ls hP hD hS hl) (fun hc => kf hc H locs ls hP hD hS hl)
theorem mj_if_le {x : Int32} {off : Int} {tgt : Nat} (C : mj_C κ cc nL own) (hd : decode cc pc = .ok (.ifCond .le off, 3)) (ht : (pc : Int) + off = (tgt : Int)) (kt : x ≤ 0 → mj_R κ Q tgt L st M) (kf : ¬ x ≤ 0 → mj_R κ Q (pc + 3) L st M) : mj_R κ Q pc L (.inl x :: st) M := by
  obtain ⟨⟨p, l, e, R, s, m, args, below, meth, c⟩, D, cI, ad, G, X, A, ce, sl⟩ := κ
  obtain ⟨hx, hb, hml, hown, hts, hK, hA, hE, hlk, hcs⟩ := C
  intro H locs ls hP hD hS hl
  exact lv_if_le hx hb hd ht (fun hc => kt hc H locs ls hP hD hS hl) (fun hc => kf hc H locs ls hP hD hS hl)
theorem mj_icmp_eq {x y : Int32} {off : Int} {tgt : Nat} (C : mj_C κ cc nL own) (hd : decode cc pc = .ok (.if_icmp .eq off, 3)) (ht : (pc : Int) + off = (tgt : Int)) (kt : x = y → mj_R κ Q tgt L st M) (kf : ¬ x = y → mj_R κ Q (pc + 3) L st M) : mj_R κ Q pc L (.inl y :: .inl x :: st) M := by
  obtain ⟨⟨p, l, e, R, s, m, args, below, meth, c⟩, D, cI, ad, G, X, A, ce, sl⟩ := κ
  obtain ⟨hx, hb, hml, hown, hts, hK, hA, hE, hlk, hcs⟩ := C
  intro H locs ls hP hD hS hl
  exact lv_icmp_eq hx hb hd ht (fun hc => kt hc H locs ls hP hD hS hl) (fun hc => kf hc H locs ls hP hD hS hl)
theorem mj_icmp_ne {x y : Int32} {off : Int} {tgt : Nat} (C : mj_C κ cc nL own) (hd : decode cc pc = .ok (.if_icmp .ne off, 3)) (ht : (pc : Int) + off = (tgt : Int)) (kt : ¬ x = y → mj_R κ Q tgt L st M) (kf : x = y → mj_R κ Q (pc + 3) L st M) : mj_R κ Q pc L (.inl y :: .inl x :: st) M := by
  obtain ⟨⟨p, l, e, R, s, m, args, below, meth, c⟩, D, cI, ad, G, X, A, ce, sl⟩ := κ
  obtain ⟨hx, hb, hml, hown, hts, hK, hA, hE, hlk, hcs⟩ := C
  intro H locs ls hP hD hS hl
  exact lv_icmp_ne hx hb hd ht (fun hc => kt hc H locs ls hP hD hS hl) (fun hc => kf hc H locs ls hP hD hS hl)
theorem mj_icmp_lt {x y : Int32} {off : Int} {tgt : Nat} (C : mj_C κ cc nL own) (hd : decode cc pc = .ok (.if_icmp .lt off, 3)) (ht : (pc : Int) + off = (tgt : Int)) (kt : x < y → mj_R κ Q tgt L st M) (kf : ¬ x < y → mj_R κ Q (pc + 3) L st M) : mj_R κ Q pc L (.inl y :: .inl x :: st) M := by
  obtain ⟨⟨p, l, e, R, s, m, args, below, meth, c⟩, D, cI, ad, G, X, A, ce, sl⟩ := κ
  obtain ⟨hx, hb, hml, hown, hts, hK, hA, hE, hlk, hcs⟩ := C
  intro H locs ls hP hD hS hl
  exact lv_icmp_lt hx hb hd ht (fun hc => kt hc H locs ls hP hD hS hl) (fun hc => kf hc H locs ls hP hD hS hl)
theorem mj_icmp_ge {x y : Int32} {off : Int} {tgt : Nat} (C : mj_C κ cc nL own) (hd : decode cc pc = .ok (.if_icmp .ge off, 3)) (ht : (pc : Int) + off = (tgt : Int)) (kt : y ≤ x → mj_R κ Q tgt L st M) (kf : ¬ y ≤ x → mj_R κ Q (pc + 3) L st M) : mj_R κ Q pc L (.inl y :: .inl x :: st) M := by
  obtain ⟨⟨p, l, e, R, s, m, args, below, meth, c⟩, D, cI, ad, G, X, A, ce, sl⟩ := κ
  obtain ⟨hx, hb, hml, hown, hts, hK, hA, hE, hlk, hcs⟩ := C
  intro H locs ls hP hD hS hl
  exact lv_icmp_ge hx hb hd ht (fun hc => kt hc H locs ls hP hD hS hl) (fun hc => kf hc H locs ls hP hD hS hl)
theorem mj_icmp_gt {x y : Int32} {off : Int} {tgt : Nat} (C : mj_C κ cc nL own) (hd : decode cc pc = .ok (.if_icmp .gt off, 3)) (ht : (pc : Int) + off = (tgt : Int)) (kt : y < x → mj_R κ Q tgt L st M) (kf : ¬ y < x → mj_R κ Q (pc + 3) L st M) : mj_R κ Q pc L (.inl y :: .inl x :: st) M := by
  obtain ⟨⟨p, l, e, R, s, m, args, below, meth, c⟩, D, cI, ad, G, X, A, ce, sl⟩ := κ
  obtain ⟨hx, hb, hml, hown, hts, hK, hA, hE, hlk, hcs⟩ := C
  intro H locs ls hP hD hS hl
  exact lv_icmp_gt hx hb hd ht (fun hc => kt hc H locs ls hP hD hS hl) (fun hc => kf hc H locs ls hP hD hS hl)
theorem mj_icmp_le {x y : Int32} {off : Int} {tgt : Nat} (C : mj_C κ cc nL own) (hd : decode cc pc = .ok (.if_icmp .le off, 3)) (ht : (pc : Int) + off = (tgt : Int)) (kt : x ≤ y → mj_R κ Q tgt L st M) (kf : ¬ x ≤ y → mj_R κ Q (pc + 3) L st M) : mj_R κ Q pc L (.inl y :: .inl x :: st) M := by
  obtain ⟨⟨p, l, e, R, s, m, args, below, meth, c⟩, D, cI, ad, G, X, A, ce, sl⟩ := κ
  obtain ⟨hx, hb, hml, hown, hts, hK, hA, hE, hlk, hcs⟩ := C
  intro H locs ls hP hD hS hl
  exact lv_icmp_le hx hb hd ht (fun hc => kt hc H locs ls hP hD hS hl) (fun hc => kf hc H locs ls hP hD hS hl)
theorem mj_tin {dflt lo hi : Int} {offs : Array Int} {len : Nat} {x : Int32} {off : Int} {tgt : Nat} (C : mj_C κ cc nL own) (hd : decode cc pc = .ok (.tableswitch dflt lo hi offs, len)) (h1 : ¬ x.toInt < lo) (h2 : ¬ hi < x.toInt) (ho : offs[(x.toInt - lo).toNat]? = some off) (ht : (pc : Int) + off = (tgt : Int)) (k : mj_R κ Q tgt L st M) : mj_R κ Q pc L (.inl x :: st) M := by
  obtain ⟨⟨p, l, e, R, s, m, args, below, meth, c⟩, D, cI, ad, G, X, A, ce, sl⟩ := κ
  obtain ⟨hx, hb, hml, hown, hts, hK, hA, hE, hlk, hcs⟩ := C
  intro H locs ls hP hD hS hl
  exact lv_tableIn hx hb hd h1 h2 ho ht (k H locs ls hP hD hS hl)
theorem mj_tout {dflt lo hi : Int} {offs : Array Int} {len : Nat} {x : Int32} {tgt : Nat} (C : mj_C κ cc nL own) (hd : decode cc pc = .ok (.tableswitch dflt lo hi offs, len)) (h : x.toInt < lo ∨ hi < x.toInt) (ht : (pc : Int) + dflt = (tgt : Int)) (k : mj_R κ Q tgt L st M) : mj_R κ Q pc L (.inl x :: st) M := by
  obtain ⟨⟨p, l, e, R, s, m, args, below, meth, c⟩, D, cI, ad, G, X, A, ce, sl⟩ := κ
  obtain ⟨hx, hb, hml, hown, hts, hK, hA, hE, hlk, hcs⟩ := C
  intro H locs ls hP hD hS hl
  exact lv_tableOut hx hb hd h ht (k H locs ls hP hD hS hl)
theorem mj_lsw {dflt : Int} {ps : Array (Int × Int)} {len : Nat} {x : Int32} {off : Int} {tgt : Nat} (C : mj_C κ cc nL own) (hd : decode cc pc = .ok (.lookupswitch dflt ps, len)) (hp : (ps.toList.zip (ps.toList.drop 1)).all (fun (a, next) => a.1 < next.1) = true) (ho : Op.lookupswitch.offset ps.toList dflt x.toInt = off) (ht : (pc : Int) + off = (tgt : Int)) (k : mj_R κ Q tgt L st M) : mj_R κ Q pc L (.inl x :: st) M := by
  obtain ⟨⟨p, l, e, R, s, m, args, below, meth, c⟩, D, cI, ad, G, X, A, ce, sl⟩ := κ
  obtain ⟨hx, hb, hml, hown, hts, hK, hA, hE, hlk, hcs⟩ := C
  intro H locs ls hP hD hS hl
  exact lv_lookup hx hb hd hp ho ht (k H locs ls hP hD hS hl)

def mj_le : List (Option mj_V) → List (Option mj_V) → Prop
  | [], [] => True
  | none :: a, _ :: b => mj_le a b
  | some v :: a, w :: b => w = some v ∧ mj_le a b
  | _, _ => False
theorem mj_le_len : ∀ (a b : List (Option mj_V)), mj_le a b → a.length = b.length
  | [], [], _ => rfl
  | none :: a, _ :: b, h => by simp [mj_le_len a b h]
  | some v :: a, w :: b, h => by simp [mj_le_len a b h.2]
  | [], _ :: _, h => by simp [mj_le] at h
  | none :: _, [], h => by simp [mj_le] at h
  | some _ :: _, [], h => by simp [mj_le] at h
theorem mj_le_at : ∀ (a b : List (Option mj_V)), mj_le a b → ∀ (i : Nat) (v : mj_V), a[i]? = some (some v) → b[i]? = some (some v)
  | [], [], _, i, v, hi => by simp at hi
  | none :: a, w :: b, h, 0, v, hi => by simp at hi
  | none :: a, w :: b, h, i + 1, v, hi => by simpa using mj_le_at a b h i v (by simpa using hi)
  | some u :: a, w :: b, h, 0, v, hi => by
    simp at hi
    subst hi
    simp [h.1]
  | some u :: a, w :: b, h, i + 1, v, hi => by simpa using mj_le_at a b h.2 i v (by simpa using hi)
  | [], _ :: _, h, _, _, _ => by simp [mj_le] at h
  | none :: _, [], h, _, _, _ => by simp [mj_le] at h
  | some _ :: _, [], h, _, _, _ => by simp [mj_le] at h
theorem mj_sub {L' : List (Option mj_V)} (h : mj_le L' L) (k : mj_R κ Q pc L' st M) : mj_R κ Q pc L st M := by
  obtain ⟨⟨p, l, e, R, s, m, args, below, meth, c⟩, D, cI, ad, G, X, A, ce, sl⟩ := κ
  intro H locs ls hP hD hS hl
  refine k H locs ls hP hD hS ⟨by rw [mj_le_len _ _ h]; exact hl.1, hl.2.1, ?_⟩
  rintro ⟨i, w⟩ hq
  obtain ⟨v, hv, rfl⟩ := mj_lf_mem.mp hq
  exact hl.2.2 _ (mj_lf_mem.mpr ⟨v, mj_le_at _ _ h i v hv, rfl⟩)
/-- the link of a field: class ci, slot j -/
def mj_fl (own : String) (idx ci j : Nat) : Prop := ∃ (C : String) (T : u_T) (N : Nat), vwCl[ci]? = some (C, T, N) ∧ j < N ∧ (∀ w ∈ u_ws C T N, w ∈ mj_T) ∧ Cond.fieldLink own idx (T j).1 (T j).2.1 (T j).2.2.1 ∈ mj_T
def mj_fp (ci j : Nat) (ty : FieldType) : Prop := ∀ (C : String) (T : u_T) (N : Nat), vwCl[ci]? = some (C, T, N) → (∃ ty0 : Nat → FieldType, (∀ k, k < N → parseFieldDescriptor (T k).2.2.1 = some (ty0 k)) ∧ ty0 j = ty) ∧ (∀ a, a < N → ∀ b, b < N → a ≠ b → (T a).2.1 ≠ (T b).2.1) ∧ (T j).2.2.2 = false
theorem mj_get {q : Nat × Nat} {idx ci j : Nat} {t : List (Option (Nat × Nat))} {w : Option (Nat × Nat)} (C : mj_C κ cc nL own) (F : mj_fl own idx ci j) (hq : mj_at (mj_g κ) q (.inr (ci, t))) (hj : t[j]? = some w) (hd : decode cc pc = .ok (.getfield idx, 3)) (k : mj_R κ Q (pc + 3) L ((match w with | none => .inl (M q.1 q.2 j) | some r => mj_r r) :: st) M) : mj_R κ Q pc L (mj_r q :: st) M := by
  obtain ⟨⟨p, l, e, R, s, m, args, below, meth, c⟩, D, cI, ad, G, X, A, ce, sl⟩ := κ
  obtain ⟨hx, hb, hml, hown, hts, hK, hA, hE, hlk, hcs⟩ := C
  intro H locs ls hP hD hS hl
  obtain ⟨Cn, T, N, hc, hjN, hin, hlk⟩ := F
  obtain ⟨hq1, hq2⟩ := hq
  obtain ⟨i, hi⟩ := List.getElem?_of_mem hq1
  have hi : G.2[i]? = some q := hi
  have hq2 : G.1 q = .inr (ci, t) := hq2
  have he := mj_w_get (cI := cI) (ad := ad) (M := M) (X := X) hi
  rw [hq2] at he
  refine va_get hx hb hts hin hown hK hP i he hc j hjN (hts _ hlk) (fun _ h => h) (mj_sl_get hj) hd ?_
  cases w with
  | none =>
    have e : mj_sv ad (M q.1 q.2) t j = .int (M q.1 q.2 j) := by simp [mj_sv, hj]
    rw [e]
    exact k H locs ls hP hD hS hl
  | some r =>
    have e : mj_sv ad (M q.1 q.2) t j = .ref (ad r) := by simp [mj_sv, hj]
    rw [e]
    exact k H locs ls hP hD hS hl
theorem mj_put {q : Nat × Nat} {idx ci j : Nat} {t : List (Option (Nat × Nat))} {x : Int32} {ty : FieldType} (C : mj_C κ cc nL own) (F : mj_fl own idx ci j) (F2 : mj_fp ci j ty) (hn : narrow ty (.int x) = .int x) (hf : fits ty (.int x) = true) (hq : mj_at (mj_g κ) q (.inr (ci, t))) (hj : t[j]? = some none) (hd : decode cc pc = .ok (.putfield idx, 3)) (k : mj_R κ Q (pc + 3) L st (mj_wr M q (upd (M q.1 q.2) j x))) : mj_R κ Q pc L (.inl x :: mj_r q :: st) M := by
  obtain ⟨⟨p, l, e, R, s, m, args, below, meth, c⟩, D, cI, ad, G, X, A, ce, sl⟩ := κ
  obtain ⟨hx, hb, hml, hown, hts, hK, hA, hE, hlk, hcs⟩ := C
  intro H locs ls hP hD hS hl
  obtain ⟨Cn, T, N, hc, hjN, hin, hlk⟩ := F
  obtain ⟨⟨ty0, h0, h1⟩, h2, h3⟩ := F2 Cn T N hc
  obtain ⟨hq1, hq2⟩ := hq
  obtain ⟨i, hi⟩ := List.getElem?_of_mem hq1
  have hi : G.2[i]? = some q := hi
  have hq2 : G.1 q = .inr (ci, t) := hq2
  have he := mj_w_get (cI := cI) (ad := ad) (M := M) (X := X) hi
  rw [hq2] at he
  have hset : (mj_w cI ad G M ++ X).set i (ad q, .inr (ci, (mj_sl ad (M q.1 q.2) t).set j (.int x))) = mj_w cI ad G (mj_wr M q (upd (M q.1 q.2) j x)) ++ X := by
    rw [← mj_w_set hD hi, hq2, mj_sl_set x hj]
    rfl
  refine va_put hx hb hts hin ty0 h0 h2 hown hK hP hD hS i he hc j hjN (hts _ hlk) (fun _ h => h) h3 (by rw [h0 j hjN, h1]) hn hf (by rw [mj_sl_len]; exact (List.getElem?_eq_some_iff.mp hj).1) hd (fun H1 locs1 hP1 hD1 hS1 => ?_)
  exact k H1 locs1 ls (by rw [← hset]; exact hP1) (by rw [← hset]; exact hD1) hS1 hl
theorem mj_ald {q : Nat × Nat} {n : Nat} {i : Int32} (C : mj_C κ cc nL own) (hq : mj_at (mj_g κ) q (.inl n)) (hin : mj_ok i n = true) (hd : decode cc pc = .ok (.iaload, 1)) (k : mj_R κ Q (pc + 1) L (.inl (M q.1 q.2 (mj_cl i)) :: st) M) : mj_R κ Q pc L (.inl i :: mj_r q :: st) M := by
  obtain ⟨⟨p, l, e, R, s, m, args, below, meth, c⟩, D, cI, ad, G, X, A, ce, sl⟩ := κ
  obtain ⟨hx, hb, hml, hown, hts, hK, hA, hE, hlk, hcs⟩ := C
  intro H locs ls hP hD hS hl
  obtain ⟨hq1, hq2⟩ := hq
  obtain ⟨a, ha⟩ := List.getElem?_of_mem hq1
  have ha : G.2[a]? = some q := ha
  have hq2 : G.1 q = .inl n := hq2
  have he := mj_w_get (cI := cI) (ad := ad) (M := M) (X := X) ha
  rw [hq2] at he
  exact va_iald hx hb hK hP a 0 he rfl (mj_ok_in hin) hd (k H locs ls hP hD hS hl)
theorem mj_ast {q : Nat × Nat} {n : Nat} {i x : Int32} (C : mj_C κ cc nL own) (hq : mj_at (mj_g κ) q (.inl n)) (hin : mj_ok i n = true) (hd : decode cc pc = .ok (.iastore, 1)) (k : mj_R κ Q (pc + 1) L st (mj_wr M q (upd (M q.1 q.2) (mj_cl i) x))) : mj_R κ Q pc L (.inl x :: .inl i :: mj_r q :: st) M := by
  obtain ⟨⟨p, l, e, R, s, m, args, below, meth, c⟩, D, cI, ad, G, X, A, ce, sl⟩ := κ
  obtain ⟨hx, hb, hml, hown, hts, hK, hA, hE, hlk, hcs⟩ := C
  intro H locs ls hP hD hS hl
  obtain ⟨hq1, hq2⟩ := hq
  obtain ⟨a, ha⟩ := List.getElem?_of_mem hq1
  have ha : G.2[a]? = some q := ha
  have hq2 : G.1 q = .inl n := hq2
  have he := mj_w_get (cI := cI) (ad := ad) (M := M) (X := X) ha
  rw [hq2] at he
  have hset : (mj_w cI ad G M ++ X).set a (ad q, .inl (cI.1, n, .inl (upd (M q.1 q.2) (mj_cl i) x))) = mj_w cI ad G (mj_wr M q (upd (M q.1 q.2) (mj_cl i) x)) ++ X := by
    rw [← mj_w_set hD ha, hq2]
    rfl
  refine va_iast hx hb hK hP hD hS a 0 he rfl (mj_ok_in hin) hd (fun H1 locs1 hP1 hD1 hS1 => ?_)
  exact k H1 locs1 ls (by rw [← hset]; exact hP1) (by rw [← hset]; exact hD1) hS1 hl
theorem mj_vret {post : Option mj_V → mj_M → Prop} (C : mj_C κ cc nL own) (hr : mj_rt κ = none) (hd : decode cc pc = .ok (.return_, 1)) (h : post none M) : mj_R κ (mj_F κ post) pc L [] M := by
  obtain ⟨⟨p, l, e, R, s, m, args, below, meth, c⟩, D, cI, ad, G, X, A, ce, sl⟩ := κ
  obtain ⟨hx, hb, hml, hown, hts, hK, hA, hE, hlk, hcs⟩ := C
  intro H locs ls hP hD hS hl
  exact W.vret hx hb hr (fun t ht hW => ⟨⟨none, M, rfl, h, by rw [ht]; exact hP⟩, hS.F ht⟩) hS.2.2 hd
theorem mj_iret {post : Option mj_V → mj_M → Prop} {v : Int32} {ty : FieldType} (C : mj_C κ cc nL own) (hr : mj_rt κ = some ty) (hn : narrow ty (.int v) = .int v) (hd : decode cc pc = .ok (.ireturn, 1)) (h : post (some (.inl v)) M) : mj_R κ (mj_F κ post) pc L [.inl v] M := by
  obtain ⟨⟨p, l, e, R, s, m, args, below, meth, c⟩, D, cI, ad, G, X, A, ce, sl⟩ := κ
  obtain ⟨hx, hb, hml, hown, hts, hK, hA, hE, hlk, hcs⟩ := C
  intro H locs ls hP hD hS hl
  exact W.zret hx hb hr hn (fun t ht hW => ⟨⟨some (.inl v), M, rfl, h, by rw [ht]; exact hP⟩, hS.F ht⟩) hS.2.2 hd
theorem mj_aret {post : Option mj_V → mj_M → Prop} {v : Nat × Nat} {ty : String} (C : mj_C κ cc nL own) (hr : mj_rt κ = some (.object ty)) (hd : decode cc pc = .ok (.areturn, 1)) (h : post (some (mj_r v)) M) : mj_R κ (mj_F κ post) pc L [mj_r v] M := by
  obtain ⟨⟨p, l, e, R, s, m, args, below, meth, c⟩, D, cI, ad, G, X, A, ce, sl⟩ := κ
  obtain ⟨hx, hb, hml, hown, hts, hK, hA, hE, hlk, hcs⟩ := C
  intro H locs ls hP hD hS hl
  exact W.aret hx hb hr (Or.inl ⟨_, rfl⟩) (Or.inr ⟨_, rfl⟩) (fun t ht hW => ⟨⟨some (mj_r v), M, rfl, h, by rw [ht]; exact hP⟩, hS.F ht⟩) hS.2.2 hd
end MJ
