/-! the words, the room, what is outside the places: statics, texts, words of nest mates -/
/-- what the private members of AbstractStringBuilder come to at a StringBuilder: out of the tables at the law's start -/
def mj_xm : List MethodName := [yJ5_ensureCapacityInternal_d00df, yJ5_newCapacity_0f7a4, yJ5_putStringAt_47b60, yJ5_inflateIfNeededFor_a7421]
def mj_xs : List Cond := mj_xm.map (fun y => Cond.selects "java/lang/StringBuilder" y y)
theorem mj_xs_good : mj_xs.all goodWord = true := by decide +kernel
def mj_T : List Cond := mj_xs ++ lw_tbl.filter goodWord
theorem mj_T_of {w : Cond} (i : Nat) (h : lw_tbl[i]? = some w) (hg : goodWord w = true) : w ∈ mj_T := List.mem_append_right _ (List.mem_filter.mpr ⟨List.mem_of_getElem? h, hg⟩)
theorem mj_T_all {ws : List Cond} (ps : List Nat) (h : ws = ps.filterMap (fun i => lw_tbl[i]?)) (hg : ws.all goodWord = true) : ∀ w ∈ ws, w ∈ mj_T := by
  intro w hw
  refine List.mem_append_right _ (List.mem_filter.mpr ⟨?_, List.all_eq_true.mp hg w hw⟩)
  rw [h] at hw
  obtain ⟨i, -, hi⟩ := List.mem_filterMap.mp hw
  exact List.mem_of_getElem? hi
theorem mj_goodIn {ws : List Cond} (h : ∀ w ∈ ws, w ∈ mj_T) : GoodIn mj_T ws := fun w hw => ⟨h w hw, good_of_word ((List.mem_append.mp (h w hw)).elim (fun z => List.all_eq_true.mp mj_xs_good w z) (fun z => (List.mem_filter.mp z).2))⟩
def mj_rm (d : Nat) : Room := { frames := d, cells := 0, slots := 0, locals := 40 * d }
def mj_sn : Nat → String × String × String × FieldType × Nat
  | 0 => ("CommandLink", "SETTING_AT_FIRST", "[I", .int, 11)
  | 1 => ("CommandLink", "SETTING_LEAST", "[I", .int, 11)
  | 2 => ("CommandLink", "SETTING_MOST", "[I", .int, 11)
  | 3 => ("java/lang/Integer", "DigitTens", "[B", .byte, 100)
  | _ => ("java/lang/Integer", "DigitOnes", "[B", .byte, 100)
def mj_sa (k j : Nat) : Int32 := match k with
  | 0 => ([10, 3, 3, 3, 12, 0, 3, 3, 0, 0, 4] : List Int32).getD j 0
  | 1 => ([2, 0, 1, 1, 1, 0, 1, 1, 0, 0, 1] : List Int32).getD j 0
  | 2 => ([200, 8, 20, 9, 99, 1, 40, 40, 90, 90, 20] : List Int32).getD j 0
  | 3 => nI (48 + j / 10)
  | _ => nI (48 + j % 10)
def mj_sc : List (String × String × String × Int32) := [("java/lang/String", "COMPACT_STRINGS", "Z", 1), ("java/lang/StringUTF16", "$assertionsDisabled", "Z", 1), ("java/lang/StringUTF16", "HI_BYTE_SHIFT", "I", 0), ("java/lang/StringUTF16", "LO_BYTE_SHIFT", "I", 8)]
def mj_fn : List (String × Nat × String × String × String × String) := [("CommandLink$Common", 18, "CommandLink", "SETTING_AT_FIRST", "[I", "CommandLink"), ("CommandLink$Common", 32, "CommandLink", "SETTING_LEAST", "[I", "CommandLink"), ("CommandLink$Common", 35, "CommandLink", "SETTING_MOST", "[I", "CommandLink")]
def mj_mn : List (String × Nat × MethodName × String) := [("CommandLink", 11, ⟨"CommandLink$Link", "<init>", "()V"⟩, "CommandLink"), ("CommandLink$Link", 11, ⟨"CommandLink$Common", "<init>", "()V"⟩, "CommandLink"), ("CommandLink$Receiver", 30, ⟨"CommandLink$Row", "<init>", "()V"⟩, "CommandLink"), ("CommandLink$Sender", 11, ⟨"CommandLink$Row", "<init>", "()V"⟩, "CommandLink"), ("CommandLink$Link", 66, ⟨"CommandLink$Plan", "<init>", "()V"⟩, "CommandLink"), ("CommandLink", 28, ⟨"CommandLink$Reader", "<init>", "()V"⟩, "CommandLink"), ("CommandLink$Reader", 21, ⟨"CommandLink$Plan", "<init>", "()V"⟩, "CommandLink"), ("CommandLink$Common", 38, ⟨"CommandLink", "isWithin", "(III)Z"⟩, "CommandLink"), ("CommandLink$Sender", 68, ⟨"CommandLink", "isCommand", "(I)Z"⟩, "CommandLink"), ("CommandLink$Sender", 85, ⟨"CommandLink", "isWithin", "(III)Z"⟩, "CommandLink"), ("CommandLink$Sender", 89, ⟨"CommandLink", "isNumber", "(I)Z"⟩, "CommandLink"), ("CommandLink$Link", 71, ⟨"CommandLink", "isWithin", "(III)Z"⟩, "CommandLink"), ("CommandLink$Receiver", 85, ⟨"CommandLink", "isCommand", "(I)Z"⟩, "CommandLink"), ("CommandLink$Receiver", 109, ⟨"CommandLink", "far", "(II)I"⟩, "CommandLink"), ("CommandLink$Sender", 167, ⟨"CommandLink", "far", "(II)I"⟩, "CommandLink"), ("CommandLink$Way", 60, ⟨"CommandLink", "isWithin", "(III)Z"⟩, "CommandLink"), ("CommandLink$Reader", 67, ⟨"CommandLink", "isWithin", "(III)Z"⟩, "CommandLink"), ("CommandLink$Sender", 200, ⟨"CommandLink", "machineWord", "(I)Ljava/lang/String;"⟩, "CommandLink"), ("CommandLink$Row", 34, ⟨"CommandLink", "far", "(II)I"⟩, "CommandLink")]
def mj_st : List (String × Nat × String × List Int32) := [("CommandLink$Reader", 110, "send", [115, 101, 110, 100]), ("CommandLink$Reader", 112, "past", [112, 97, 115, 116]), ("CommandLink$Reader", 114, "start", [115, 116, 97, 114, 116]), ("CommandLink$Reader", 116, "check", [99, 104, 101, 99, 107]), ("CommandLink$Reader", 118, "unlock", [117, 110, 108, 111, 99, 107]), ("CommandLink$Reader", 120, "set", [115, 101, 116]), ("CommandLink$Reader", 122, "stop", [115, 116, 111, 112]), ("CommandLink$Reader", 124, "on", [111, 110]), ("CommandLink$Reader", 126, "renumber", [114, 101, 110, 117, 109, 98, 101, 114]), ("CommandLink$Reader", 128, "take", [116, 97, 107, 101]), ("CommandLink$Reader", 130, "tick", [116, 105, 99, 107]), ("CommandLink$Reader", 132, "lose", [108, 111, 115, 101]), ("CommandLink$Reader", 134, "drop", [100, 114, 111, 112]), ("CommandLink", 385, "ACTIVE", [65, 67, 84, 73, 86, 69]), ("CommandLink", 387, "RESENDS", [82, 69, 83, 69, 78, 68, 83]), ("CommandLink", 389, "WAITING", [87, 65, 73, 84, 73, 78, 71]), ("CommandLink", 391, "CHECKS", [67, 72, 69, 67, 75, 83]), ("CommandLink", 393, "DIRECTS", [68, 73, 82, 69, 67, 84, 83]), ("CommandLink", 395, "OFF", [79, 70, 70]), ("CommandLink$Sender", 207, " #", [32, 35]), ("CommandLink$Sender", 209, " HELD ", [32, 72, 69, 76, 68, 32]), ("CommandLink$Receiver", 118, "LOCKED", [76, 79, 67, 75, 69, 68]), ("CommandLink$Receiver", 120, "WAIT", [87, 65, 73, 84]), ("CommandLink$Receiver", 122, "OPEN", [79, 80, 69, 78]), ("CommandLink", 397, "LOCKED", [76, 79, 67, 75, 69, 68]), ("CommandLink", 399, "STEP", [83, 84, 69, 80]), ("CommandLink", 401, "NUMBER", [78, 85, 77, 66, 69, 82]), ("CommandLink", 403, "REPORT", [82, 69, 80, 79, 82, 84]), ("CommandLink", 405, "LIMIT", [76, 73, 77, 73, 84]), ("CommandLink", 407, "STOP", [83, 84, 79, 80]), ("CommandLink", 409, "", [])]
def mj_c0 (ad : Nat × Nat → Nat) (A : Nat → Prop) (U : State) (H : Heap) : Prop := ∃ cell : Cell, H[ad (99, 0)]? = some cell ∧ U.isArrayOf cell .int ∧ cell.vm ≠ .unknown ∧ U.vm.findClass "[I" = some cell.cls ∧ cell.slots = (arrV cell.cls 11 (fun j => .int (mj_sa 0 j))).slots ∧ ¬ A (ad (99, 0))
theorem mj_c0.moved {ad : Nat × Nat → Nat} {A : Nat → Prop} {u U : State} {H : Heap} (hvm : u.vm.Alike U.vm) (h : mj_c0 ad A u H) : mj_c0 ad A U H := by
  obtain ⟨cell, h1, h2, h3, h4, h5, h6⟩ := h
  exact ⟨cell, h1, State.isArrayOf_alike hvm h2, h3, by rw [hvm.findClass]; exact h4, h5, h6⟩
theorem mj_c0.kept {ad : Nat × Nat → Nat} {A : Nat → Prop} {U : State} {H H1 : Heap} (h : mj_c0 ad A U H) (hq : ∀ a : Nat, a < H.size → ¬ A a → H1[a]? = H[a]?) : mj_c0 ad A U H1 := by
  obtain ⟨cell, h1, h2, h3, h4, h5, h6⟩ := h
  exact ⟨cell, by rw [hq _ (Array.getElem?_eq_some_iff.mp h1).1 h6]; exact h1, h2, h3, h4, h5, h6⟩
theorem mj_c0.narrow {ad : Nat × Nat → Nat} {A B : Nat → Prop} {U : State} {H : Heap} (h : mj_c0 ad A U H) (hAB : ∀ q, B q → A q) : mj_c0 ad B U H := by
  obtain ⟨cell, h1, h2, h3, h4, h5, h6⟩ := h
  exact ⟨cell, h1, h2, h3, h4, h5, fun z => h6 (hAB _ z)⟩
def mj_E (ad : Nat × Nat → Nat) (A : Nat → Prop) (U : State) : Prop :=
  (∀ k, k < 5 → va_Z (mj_sn k).1 (mj_sn k).2.1 (mj_sn k).2.2.1 (.ref (ad (99, k))) A U U.heap ∧ va_T (mj_sn k).2.2.2.1 (ad (99, k)) (mj_sn k).2.2.2.2 (fun j => .int (mj_sa k j)) A U U.heap) ∧
  (∀ q ∈ mj_sc, va_Z q.1 q.2.1 q.2.2.1 (.int q.2.2.2) A U U.heap) ∧
  (∀ q ∈ mj_fn, va_Nw (.fieldLinkNest q.1 q.2.1 q.2.2.1 q.2.2.2.1 q.2.2.2.2.1 q.2.2.2.2.2) U) ∧
  (∀ q ∈ mj_mn, va_Nw (.methodLinkNest q.1 q.2.1 q.2.2.1 q.2.2.2) U) ∧
  (∀ (i : Nat) (q : String × Nat × String × List Int32), mj_st[i]? = some q → vk_R q.1 q.2.1 q.2.2.1 (ad (98, i)) U ∧ va_O "java/lang/String" (ad (98, i)) A U U.heap ∧ va_OF "java/lang/String" "coder" "B" (.int 0) (ad (98, i)) A U U.heap ∧ va_OF "java/lang/String" "value" "[B" (.ref (ad (97, i))) (ad (98, i)) A U U.heap ∧ va_T .byte (ad (97, i)) q.2.2.2.length (fun j => .int (q.2.2.2.getD j 0)) A U U.heap) ∧
  va_Zq "jdk/internal/util/Preconditions" "SIOOBE_FORMATTER" "Ljava/util/function/BiFunction;" A U U.heap ∧ mj_c0 ad A U U.heap ∧ va_Nw (.castable "[I" "java/lang/Cloneable") U
theorem mj_E.same {ad : Nat × Nat → Nat} {A : Nat → Prop} {u U : State} (hv : U.vm = u.vm) (hh : U.heap = u.heap) (h : mj_E ad A u) : mj_E ad A U := by
  obtain ⟨h1, h2, h3, h4, h5, h6, h7, h8⟩ := h
  have al : u.vm.Alike U.vm := by rw [hv]; exact Vm.Alike.refl u.vm
  refine ⟨fun k hk => ⟨?_, ?_⟩, fun q hq => ?_, fun q hq => ?_, fun q hq => ?_, fun i q hq => ⟨?_, ?_, ?_, ?_, ?_⟩, ?_, ?_, ?_⟩
  · rw [hh]; exact (h1 k hk).1.moved al
  · rw [hh]; exact (h1 k hk).2.moved al
  · rw [hh]; exact (h2 q hq).moved al
  · exact va_tabs rfl hv.symm (h3 q hq)
  · exact va_tabs rfl hv.symm (h4 q hq)
  · exact vk_R.same hv (h5 i q hq).1
  · rw [hh]; exact va_O.moved al (h5 i q hq).2.1
  · rw [hh]; exact va_OF.moved al (h5 i q hq).2.2.1
  · rw [hh]; exact va_OF.moved al (h5 i q hq).2.2.2.1
  · rw [hh]; exact va_T.moved al (h5 i q hq).2.2.2.2
  · rw [hh]; exact h6.moved al
  · rw [hh]; exact h7.moved al
  · exact va_tabs rfl hv.symm h8
theorem mj_E.go {ad : Nat × Nat → Nat} {A B : Nat → Prop} {s U : State} {locs : List Loc} (hS : va_S A s.heap U.heap locs) (hW : s.WarmedH U.vm) (hB : ∀ q, B q → A q) (h : mj_E ad A s) : mj_E ad B U := by
  obtain ⟨h1, h2, h3, h4, h5, h6, h7, h8⟩ := h
  have al : s.vm.Alike U.vm := hW.alike
  refine ⟨fun k hk => ⟨?_, ?_⟩, fun q hq => ?_, fun q hq => ?_, fun q hq => ?_, fun i q hq => ⟨?_, ?_, ?_, ?_, ?_⟩, ?_, ?_, ?_⟩
  · exact (((h1 k hk).1.kept hS.2.1).moved al).narrow hB
  · exact (((h1 k hk).2.kept hS.2.1).moved al).narrow hB
  · exact (((h2 q hq).kept hS.2.1).moved al).narrow hB
  · exact va_Nw.warmF hW (h3 q hq)
  · exact va_Nw.warmM hW (h4 q hq)
  · exact vk_R.warm hW (h5 i q hq).1
  · exact (va_O.moved al ((h5 i q hq).2.1.kept hS.2.1)).narrow hB
  · exact (va_OF.moved al ((h5 i q hq).2.2.1.kept hS.2.1)).narrow hB
  · exact (va_OF.moved al ((h5 i q hq).2.2.2.1.kept hS.2.1)).narrow hB
  · exact (va_T.moved al ((h5 i q hq).2.2.2.2.kept hS.2.1)).narrow hB
  · exact ((h6.kept hS.2.1).moved al).narrow hB
  · exact ((h7.kept hS.2.1).moved al).narrow hB
  · exact va_Nw.warmC hW h8
/-! contracts -/
def mj_Pc (D : va_G) (cI : mj_I) (ad : Nat × Nat → Nat) (G : mj_G) (X : va_W) (sz : Nat) (av : List mj_V) (M : mj_M) : Array Value → State → Prop := va_Pc (av.map (mj_cv ad)) (fun U => U.heap.size = sz ∧ va_P D vwCl (mj_w cI ad G M ++ X) U.heap ∧ va_K D vwCl [(cI.1, .int), (cI.2, .byte)] U ∧ va_D (fun _ => True) (mj_w cI ad G M ++ X) ∧ mj_E ad (va_A (mj_w cI ad G M ++ X) sz) U)
def mj_Qc (D : va_G) (cI : mj_I) (ad : Nat × Nat → Nat) (G : mj_G) (X : va_W) (A : Nat → Prop) (post : Option mj_V → mj_M → Prop) : Array Value → State → Outcome → State → Prop := fun _ st o t => (∃ (r : Option mj_V) (M' : mj_M), o = .returned (r.map (mj_cv ad)) ∧ post r M' ∧ va_P D vwCl (mj_w cI ad G M' ++ X) t.heap) ∧ va_F A st t
def mj_Sem (y : MethodName) (cc : ByteArray) (nL : Nat) (ret : Option FieldType) (d : Nat) (G : mj_G) (av : List mj_V) (M : mj_M) (post : Option mj_V → mj_M → Prop) : Prop :=
  ∀ (l : Launch) (D : va_G) (cI : mj_I) (ad : Nat × Nat → Nat) (X : va_W) (sz : Nat), Met l y (Cond.code y cc nL ret :: mj_T) (mj_rm d) (mj_Pc D cI ad G X sz av M) (mj_Qc D cI ad G X (va_A (mj_w cI ad G M ++ X) sz) post) 0 0 (va_A (mj_w cI ad G M ++ X) sz)
abbrev mj_K : Type := (Program × Launch × Env × Room × State × MethodId × Array Value × List Frame × Method × Code) × va_G × mj_I × (Nat × Nat → Nat) × mj_G × va_W × (Nat → Prop) × Nat × Nat
def mj_g (κ : mj_K) : mj_G := κ.2.2.2.2.1
def mj_room (κ : mj_K) : Room := κ.1.2.2.2.1
def mj_dp (κ : mj_K) (d : Nat) : Prop := (mj_room κ).frames = d ∧ (mj_room κ).locals = 40 * d
def mj_rt (κ : mj_K) : Option FieldType := κ.1.2.2.2.2.2.2.2.2.1.sig.returnType
def mj_C (κ : mj_K) (cc : ByteArray) (nL : Nat) (own : String) : Prop := match κ with
  | ((p, _, _, R, s, m, args, _, meth, c), (D, cI, ad, _, _, A, ce, sl)) => p.tables.exec = Jvm.exec ∧ c.code = cc ∧ c.maxLocals = nL ∧ s.vm.findClass own = some m.cls ∧ (∀ w ∈ mj_T, w.before args s = true) ∧ va_K D vwCl [(cI.1, .int), (cI.2, .byte)] s ∧ (∀ q : Nat, s.heap.size ≤ q → A q) ∧ mj_E ad A s ∧ meth.locks = false ∧ (ce ≤ R.cells ∧ sl ≤ R.slots)
def mj_R (κ : mj_K) (Q : State → Prop) (pc : Nat) (L : List (Option mj_V)) (st : List mj_V) (M : mj_M) : Prop := match κ with
  | ((p, l, e, R, s, m, args, below, meth, c), (D, cI, ad, G, X, A, ce, sl)) => ∀ (H : Heap) (locs : List Loc) (ls : Array Slot), va_P D vwCl (mj_w cI ad G M ++ X) H → va_D A (mj_w cI ad G M ++ X) → va_S A s.heap H locs → mj_lh ad ls L → W p l e R s m args below meth c H locs ce sl Q (F0 m pc ls (st.map (mj_cv ad)))
def mj_F (κ : mj_K) (post : Option mj_V → mj_M → Prop) : State → Prop := match κ with
  | ((_, _, _, _, s, _, args, below, _, _), (D, cI, ad, G, X, A, ce, sl)) => MQ below (mj_Qc D cI ad G X A post) args s ce sl A
def mj_at (G : mj_G) (q : Nat × Nat) (s : mj_S) : Prop := q ∈ G.2 ∧ G.1 q = s
theorem mj_A_same {cI : mj_I} {ad : Nat × Nat → Nat} {G : mj_G} {X : va_W} {sz : Nat} (M : mj_M) : va_A (mj_w cI ad G M ++ X) sz = va_A (mj_w cI ad G (fun _ _ _ => 0) ++ X) sz := by
  funext q
  unfold va_A
  apply propext
  have key : ∀ (M1 M2 : mj_M), (∃ (k : Nat) (e : va_E), (mj_w cI ad G M1 ++ X)[k]? = some (q, e)) → ∃ (k : Nat) (e : va_E), (mj_w cI ad G M2 ++ X)[k]? = some (q, e) := by
    rintro M1 M2 ⟨k, e, h⟩
    by_cases hk : k < G.2.length
    · have e1 : G.2[k]? = some G.2[k] := List.getElem?_eq_getElem hk
      rw [mj_w_get e1] at h
      cases h
      exact ⟨k, _, mj_w_get e1⟩
    · refine ⟨k, e, ?_⟩
      rw [List.getElem?_append_right (by simp [mj_w]; omega)] at h ⊢
      simpa [mj_w] using h
  exact or_congr ⟨key _ _, key _ _⟩ Iff.rfl
theorem mj_D_same {cI : mj_I} {ad : Nat × Nat → Nat} {G : mj_G} {X : va_W} {A : Nat → Prop} (M1 M2 : mj_M) (h : va_D A (mj_w cI ad G M1 ++ X)) : va_D A (mj_w cI ad G M2 ++ X) := by
  have key : ∀ (k : Nat) (x : Nat × va_E), (mj_w cI ad G M2 ++ X)[k]? = some x → ∃ x', (mj_w cI ad G M1 ++ X)[k]? = some x' ∧ x'.1 = x.1 := by
    intro k x hx
    by_cases hk : k < G.2.length
    · have e1 : G.2[k]? = some G.2[k] := List.getElem?_eq_getElem hk
      rw [mj_w_get e1] at hx
      cases hx
      exact ⟨_, mj_w_get e1, rfl⟩
    · refine ⟨x, ?_, rfl⟩
      rw [List.getElem?_append_right (by simp [mj_w]; omega)] at hx ⊢
      simpa [mj_w] using hx
  refine ⟨fun i j x y hx hy hxy => ?_, fun k x hx => ?_⟩
  · obtain ⟨x', a1, a2⟩ := key i x hx
    obtain ⟨y', b1, b2⟩ := key j y hy
    exact h.1 i j x' y' a1 b1 (by rw [a2, b2, hxy])
  · obtain ⟨x', a1, a2⟩ := key k x hx
    rw [← a2]
    exact h.2 k x' a1
theorem mj_A_in {ws : va_W} {A : Nat → Prop} {sz : Nat} (hD : va_D A ws) (hA : ∀ q : Nat, sz ≤ q → A q) : ∀ q, va_A ws sz q → A q := by
  rintro q (⟨k, e, h⟩ | h)
  · exact hD.2 k _ h
  · exact hA q h
theorem mj_intro {y : MethodName} {cc : ByteArray} {nL : Nat} {ret : Option FieldType} {d : Nat} {G : mj_G} {av : List mj_V} {M : mj_M} {post : Option mj_V → mj_M → Prop} (hy : plainName y.cls = true) (hlen : av.length ≤ nL)
    (body : ∀ κ : mj_K, mj_C κ cc nL y.cls → mj_g κ = G → mj_dp κ d → mj_rt κ = ret → mj_R κ (mj_F κ post) 0 (av.map some ++ List.replicate (nL - av.length) none) [] M) : mj_Sem y cc nL ret d G av M post := by
  intro l D cI ad X sz
  refine Met.ofW (cc := cc) (maxL := nL) (ret := ret) hy rfl ?_
  intro p e s m args below meth c s₁ B hml hv
  obtain ⟨rfl, rfl, hP, hK, hD0, hE⟩ := hv
  have hD := hD0.self (sz := s.heap.size)
  have hts := atoms_spec (ws := Cond.code y cc nL ret :: mj_T) B.pre
  have hown : s.vm.findClass y.cls = some m.cls := findClass_of_methodNamed B.named
  rw [lg_entry_eq]
  exact body ((p, l, e, mj_rm d, s, m, _, below, meth, c), (D, cI, ad, G, X, va_A (mj_w cI ad G M ++ X) s.heap.size, 0, 0)) ⟨B.exec, B.bytes, hml, hown, fun w hw => hts w (List.mem_cons_of_mem _ hw), hK, fun q h => Or.inr h, hE, B.notSynchronized, Nat.zero_le _, Nat.zero_le _⟩ rfl ⟨rfl, rfl⟩ B.returns s.heap [] _ hP hD va_S.rf (mj_lh_entry av hlen)
