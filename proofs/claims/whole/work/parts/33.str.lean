set_option maxRecDepth 20000 in
theorem lG_J0_38 : Cond.fieldLink RJ0 38 "java/lang/String" "COMPACT_STRINGS" "Z" ∈ mj_T := (mj_in4 157 rfl rfl)
set_option maxRecDepth 20000 in
theorem lG_J0_1053 : Cond.fieldLink RJ0 1053 "jdk/internal/util/Preconditions" "SIOOBE_FORMATTER" "Ljava/util/function/BiFunction;" ∈ mj_T := (mj_in4 172 rfl rfl)
set_option maxRecDepth 20000 in
theorem lG_J0_9 : Cond.fieldLink RJ0 9 "java/lang/String" "value" "[B" ∈ mj_T := (mj_in9 60 rfl rfl)
set_option maxRecDepth 20000 in
theorem lG_J0_15 : Cond.fieldLink RJ0 15 "java/lang/String" "coder" "B" ∈ mj_T := (mj_in9 61 rfl rfl)
set_option maxRecDepth 20000 in
theorem lM_J0_335 : Cond.methodLink RJ0 335 yJ0_coder_7d493 ∈ mj_T := (mj_in4 153 rfl rfl)
set_option maxRecDepth 20000 in
theorem lM_J0_492 : Cond.methodLink RJ0 492 yJ0_isLatin1_aae02 ∈ mj_T := (mj_in4 162 rfl rfl)
set_option maxRecDepth 20000 in
theorem lM_J0_495 : Cond.methodLink RJ0 495 yJ1_charAt_3b067 ∈ mj_T := (mj_in4 166 rfl rfl)
set_option maxRecDepth 20000 in
theorem lM_J1_9 : Cond.methodLink RJ1 9 yJ0_checkIndex_df160 ∈ mj_T := (mj_in4 169 rfl rfl)
set_option maxRecDepth 20000 in
theorem lM_J0_1059 : Cond.methodLink RJ0 1059 yJ3_checkIndex_8e157 ∈ mj_T := (mj_in4 174 rfl rfl)
set_option maxRecDepth 20000 in
theorem lk_J0_length_8abf5 : mj_lk yJ0_length_8abf5 cJ0_length_8abf5 1 (some .int) 0 := ⟨(mj_in4 152 rfl rfl), (mj_in1 14 rfl rfl), by decide, by decide, by decide⟩
set_option maxRecDepth 20000 in
theorem lV_J0_length_8abf5 : mj_lkV yJ0_length_8abf5 cJ0_length_8abf5 1 (some .int) 0 := ⟨lk_J0_length_8abf5, (mj_in4 150 rfl rfl), (mj_in4 151 rfl rfl)⟩
set_option maxRecDepth 20000 in
theorem lk_J0_charAt_5068e : mj_lk yJ0_charAt_5068e cJ0_charAt_5068e 2 (some .char) 1 := ⟨(mj_in4 161 rfl rfl), (mj_in1 14 rfl rfl), by decide, by decide, by decide⟩
set_option maxRecDepth 20000 in
theorem lV_J0_charAt_5068e : mj_lkV yJ0_charAt_5068e cJ0_charAt_5068e 2 (some .char) 1 := ⟨lk_J0_charAt_5068e, (mj_in4 159 rfl rfl), (mj_in4 160 rfl rfl)⟩
set_option maxRecDepth 20000 in
theorem lk_J0_coder_7d493 : mj_lk yJ0_coder_7d493 cJ0_coder_7d493 1 (some .byte) 0 := ⟨(mj_in4 156 rfl rfl), (mj_in1 14 rfl rfl), by decide, by decide, by decide⟩
set_option maxRecDepth 20000 in
theorem lV_J0_coder_7d493 : mj_lkV yJ0_coder_7d493 cJ0_coder_7d493 1 (some .byte) 0 := ⟨lk_J0_coder_7d493, (mj_in4 154 rfl rfl), (mj_in4 155 rfl rfl)⟩
set_option maxRecDepth 20000 in
theorem lk_J0_isLatin1_aae02 : mj_lk yJ0_isLatin1_aae02 cJ0_isLatin1_aae02 1 (some .boolean) 0 := ⟨(mj_in4 165 rfl rfl), (mj_in1 14 rfl rfl), by decide, by decide, by decide⟩
set_option maxRecDepth 20000 in
theorem lV_J0_isLatin1_aae02 : mj_lkV yJ0_isLatin1_aae02 cJ0_isLatin1_aae02 1 (some .boolean) 0 := ⟨lk_J0_isLatin1_aae02, (mj_in4 163 rfl rfl), (mj_in4 164 rfl rfl)⟩
set_option maxRecDepth 20000 in
theorem lk_J1_charAt_3b067 : mj_lk yJ1_charAt_3b067 cJ1_charAt_3b067 2 (some .char) 2 := ⟨(mj_in4 168 rfl rfl), (mj_in1 19 rfl rfl), by decide, by decide, by decide⟩
set_option maxRecDepth 20000 in
theorem lS_J1_charAt_3b067 : mj_lkS yJ1_charAt_3b067 cJ1_charAt_3b067 2 (some .char) 2 := ⟨lk_J1_charAt_3b067, (mj_in4 167 rfl rfl)⟩
set_option maxRecDepth 20000 in
theorem lk_J0_checkIndex_df160 : mj_lk yJ0_checkIndex_df160 cJ0_checkIndex_df160 2 none 2 := ⟨(mj_in4 171 rfl rfl), (mj_in1 14 rfl rfl), by decide, by decide, by decide⟩
set_option maxRecDepth 20000 in
theorem lS_J0_checkIndex_df160 : mj_lkS yJ0_checkIndex_df160 cJ0_checkIndex_df160 2 none 2 := ⟨lk_J0_checkIndex_df160, (mj_in4 170 rfl rfl)⟩
set_option maxRecDepth 20000 in
theorem lk_J3_checkIndex_8e157 : mj_lk yJ3_checkIndex_8e157 cJ3_checkIndex_8e157 3 (some .int) 3 := ⟨(mj_in4 176 rfl rfl), (mj_in1 20 rfl rfl), by decide, by decide, by decide⟩
set_option maxRecDepth 20000 in
theorem lS_J3_checkIndex_8e157 : mj_lkS yJ3_checkIndex_8e157 cJ3_checkIndex_8e157 3 (some .int) 3 := ⟨lk_J3_checkIndex_8e157, (mj_in4 175 rfl rfl)⟩
theorem dJ0_length_8abf5_0 : decode cJ0_length_8abf5 0 = .ok (.aload_n 0, 1) := by decide +kernel
theorem dJ0_length_8abf5_1 : decode cJ0_length_8abf5 1 = .ok (.getfield 9, 3) := by decide +kernel
theorem dJ0_length_8abf5_4 : decode cJ0_length_8abf5 4 = .ok (.arraylength, 1) := by decide +kernel
theorem dJ0_length_8abf5_5 : decode cJ0_length_8abf5 5 = .ok (.aload_n 0, 1) := by decide +kernel
theorem dJ0_length_8abf5_6 : decode cJ0_length_8abf5 6 = .ok (.invokevirtual 335, 3) := by decide +kernel
theorem dJ0_length_8abf5_9 : decode cJ0_length_8abf5 9 = .ok (.ishr, 1) := by decide +kernel
theorem dJ0_length_8abf5_10 : decode cJ0_length_8abf5 10 = .ok (.ireturn, 1) := by decide +kernel
theorem dJ0_charAt_5068e_0 : decode cJ0_charAt_5068e 0 = .ok (.aload_n 0, 1) := by decide +kernel
theorem dJ0_charAt_5068e_1 : decode cJ0_charAt_5068e 1 = .ok (.invokevirtual 492, 3) := by decide +kernel
theorem dJ0_charAt_5068e_4 : decode cJ0_charAt_5068e 4 = .ok (.ifCond .eq 12, 3) := by decide +kernel
theorem dJ0_charAt_5068e_7 : decode cJ0_charAt_5068e 7 = .ok (.aload_n 0, 1) := by decide +kernel
theorem dJ0_charAt_5068e_8 : decode cJ0_charAt_5068e 8 = .ok (.getfield 9, 3) := by decide +kernel
theorem dJ0_charAt_5068e_11 : decode cJ0_charAt_5068e 11 = .ok (.iload_n 1, 1) := by decide +kernel
theorem dJ0_charAt_5068e_12 : decode cJ0_charAt_5068e 12 = .ok (.invokestatic 495, 3) := by decide +kernel
theorem dJ0_charAt_5068e_15 : decode cJ0_charAt_5068e 15 = .ok (.ireturn, 1) := by decide +kernel
theorem dJ0_charAt_5068e_16 : decode cJ0_charAt_5068e 16 = .ok (.aload_n 0, 1) := by decide +kernel
theorem dJ0_charAt_5068e_17 : decode cJ0_charAt_5068e 17 = .ok (.getfield 9, 3) := by decide +kernel
theorem dJ0_charAt_5068e_20 : decode cJ0_charAt_5068e 20 = .ok (.iload_n 1, 1) := by decide +kernel
theorem dJ0_charAt_5068e_21 : decode cJ0_charAt_5068e 21 = .ok (.invokestatic 498, 3) := by decide +kernel
theorem dJ0_charAt_5068e_24 : decode cJ0_charAt_5068e 24 = .ok (.ireturn, 1) := by decide +kernel
theorem dJ0_coder_7d493_0 : decode cJ0_coder_7d493 0 = .ok (.getstatic 38, 3) := by decide +kernel
theorem dJ0_coder_7d493_3 : decode cJ0_coder_7d493 3 = .ok (.ifCond .eq 10, 3) := by decide +kernel
theorem dJ0_coder_7d493_6 : decode cJ0_coder_7d493 6 = .ok (.aload_n 0, 1) := by decide +kernel
theorem dJ0_coder_7d493_7 : decode cJ0_coder_7d493 7 = .ok (.getfield 15, 3) := by decide +kernel
theorem dJ0_coder_7d493_10 : decode cJ0_coder_7d493 10 = .ok (.goto 4, 3) := by decide +kernel
theorem dJ0_coder_7d493_13 : decode cJ0_coder_7d493 13 = .ok (.iconst 1, 1) := by decide +kernel
theorem dJ0_coder_7d493_14 : decode cJ0_coder_7d493 14 = .ok (.ireturn, 1) := by decide +kernel
theorem dJ0_isLatin1_aae02_0 : decode cJ0_isLatin1_aae02 0 = .ok (.getstatic 38, 3) := by decide +kernel
theorem dJ0_isLatin1_aae02_3 : decode cJ0_isLatin1_aae02 3 = .ok (.ifCond .eq 14, 3) := by decide +kernel
theorem dJ0_isLatin1_aae02_6 : decode cJ0_isLatin1_aae02 6 = .ok (.aload_n 0, 1) := by decide +kernel
theorem dJ0_isLatin1_aae02_7 : decode cJ0_isLatin1_aae02 7 = .ok (.getfield 15, 3) := by decide +kernel
theorem dJ0_isLatin1_aae02_10 : decode cJ0_isLatin1_aae02 10 = .ok (.ifCond .ne 7, 3) := by decide +kernel
theorem dJ0_isLatin1_aae02_13 : decode cJ0_isLatin1_aae02 13 = .ok (.iconst 1, 1) := by decide +kernel
theorem dJ0_isLatin1_aae02_14 : decode cJ0_isLatin1_aae02 14 = .ok (.goto 4, 3) := by decide +kernel
theorem dJ0_isLatin1_aae02_17 : decode cJ0_isLatin1_aae02 17 = .ok (.iconst 0, 1) := by decide +kernel
theorem dJ0_isLatin1_aae02_18 : decode cJ0_isLatin1_aae02 18 = .ok (.ireturn, 1) := by decide +kernel
theorem dJ1_charAt_3b067_0 : decode cJ1_charAt_3b067 0 = .ok (.iload_n 1, 1) := by decide +kernel
theorem dJ1_charAt_3b067_1 : decode cJ1_charAt_3b067 1 = .ok (.aload_n 0, 1) := by decide +kernel
theorem dJ1_charAt_3b067_2 : decode cJ1_charAt_3b067 2 = .ok (.arraylength, 1) := by decide +kernel
theorem dJ1_charAt_3b067_3 : decode cJ1_charAt_3b067 3 = .ok (.invokestatic 9, 3) := by decide +kernel
theorem dJ1_charAt_3b067_6 : decode cJ1_charAt_3b067 6 = .ok (.aload_n 0, 1) := by decide +kernel
theorem dJ1_charAt_3b067_7 : decode cJ1_charAt_3b067 7 = .ok (.iload_n 1, 1) := by decide +kernel
theorem dJ1_charAt_3b067_8 : decode cJ1_charAt_3b067 8 = .ok (.baload, 1) := by decide +kernel
theorem dJ1_charAt_3b067_9 : decode cJ1_charAt_3b067 9 = .ok (.sipush 255, 3) := by decide +kernel
theorem dJ1_charAt_3b067_12 : decode cJ1_charAt_3b067 12 = .ok (.iand, 1) := by decide +kernel
theorem dJ1_charAt_3b067_13 : decode cJ1_charAt_3b067 13 = .ok (.i2c, 1) := by decide +kernel
theorem dJ1_charAt_3b067_14 : decode cJ1_charAt_3b067 14 = .ok (.ireturn, 1) := by decide +kernel
theorem dJ0_checkIndex_df160_0 : decode cJ0_checkIndex_df160 0 = .ok (.iload_n 0, 1) := by decide +kernel
theorem dJ0_checkIndex_df160_1 : decode cJ0_checkIndex_df160 1 = .ok (.iload_n 1, 1) := by decide +kernel
theorem dJ0_checkIndex_df160_2 : decode cJ0_checkIndex_df160 2 = .ok (.getstatic 1053, 3) := by decide +kernel
theorem dJ0_checkIndex_df160_5 : decode cJ0_checkIndex_df160 5 = .ok (.invokestatic 1059, 3) := by decide +kernel
theorem dJ0_checkIndex_df160_8 : decode cJ0_checkIndex_df160 8 = .ok (.pop, 1) := by decide +kernel
theorem dJ0_checkIndex_df160_9 : decode cJ0_checkIndex_df160 9 = .ok (.return_, 1) := by decide +kernel
theorem dJ3_checkIndex_8e157_0 : decode cJ3_checkIndex_8e157 0 = .ok (.iload_n 0, 1) := by decide +kernel
theorem dJ3_checkIndex_8e157_1 : decode cJ3_checkIndex_8e157 1 = .ok (.ifCond .lt 8, 3) := by decide +kernel
theorem dJ3_checkIndex_8e157_4 : decode cJ3_checkIndex_8e157 4 = .ok (.iload_n 0, 1) := by decide +kernel
theorem dJ3_checkIndex_8e157_5 : decode cJ3_checkIndex_8e157 5 = .ok (.iload_n 1, 1) := by decide +kernel
theorem dJ3_checkIndex_8e157_6 : decode cJ3_checkIndex_8e157 6 = .ok (.if_icmp .lt 10, 3) := by decide +kernel
theorem dJ3_checkIndex_8e157_9 : decode cJ3_checkIndex_8e157 9 = .ok (.aload_n 2, 1) := by decide +kernel
theorem dJ3_checkIndex_8e157_10 : decode cJ3_checkIndex_8e157 10 = .ok (.iload_n 0, 1) := by decide +kernel
theorem dJ3_checkIndex_8e157_11 : decode cJ3_checkIndex_8e157 11 = .ok (.iload_n 1, 1) := by decide +kernel
theorem dJ3_checkIndex_8e157_12 : decode cJ3_checkIndex_8e157 12 = .ok (.invokestatic 95, 3) := by decide +kernel
theorem dJ3_checkIndex_8e157_15 : decode cJ3_checkIndex_8e157 15 = .ok (.athrow, 1) := by decide +kernel
theorem dJ3_checkIndex_8e157_16 : decode cJ3_checkIndex_8e157 16 = .ok (.iload_n 0, 1) := by decide +kernel
theorem dJ3_checkIndex_8e157_17 : decode cJ3_checkIndex_8e157 17 = .ok (.ireturn, 1) := by decide +kernel
def mj_ss (i : Nat) : String × Nat × String × List Int32 := mj_st.getD i ("", 0, "", [])
def mj_sln (i : Nat) : Int32 := nI (mj_ss i).2.2.2.length
def mj_sch (i : Nat) (k : Int32) : Int32 := (mj_ss i).2.2.2.getD (mj_cl k) 0
theorem mj_ss_at {i : Nat} (h : i < 31) : mj_st[i]? = some (mj_ss i) := by
  have hl : mj_st.length = 31 := by decide
  unfold mj_ss
  rw [List.getD_eq_getElem?_getD, List.getElem?_eq_getElem (by omega)]
  rfl
theorem mj_ss_ch : ∀ q ∈ mj_st, q.2.2.2.length < 60 ∧ ∀ x ∈ q.2.2.2, (((x &&& 255).toUInt32 % 65536).toInt32 = x ∧ narrow .char (.int x) = .int x) := by decide
section MJS
variable {κ : mj_K} {cc : ByteArray} {nL : Nat} {own : String} {Q : State → Prop} {pc : Nat} {L : List (Option mj_V)} {st : List mj_V} {M : mj_M} {i : Nat}
theorem mj_ldcS {idx : Nat} {tx : String} {bs : List Int32} (C : mj_C κ cc nL own) (hi : mj_st[i]? = some (own, idx, tx, bs)) (hd : decode cc pc = .ok (.ldc idx, 2)) (k : mj_R κ Q (pc + 2) L (mj_r (98, i) :: st) M) : mj_R κ Q pc L st M := by
  obtain ⟨⟨p, l, e, R, s, m, args, below, meth, c⟩, D, cI, ad, G, X, A, ce, sl⟩ := κ
  obtain ⟨hx, hb, hml, hown, hts, hK, hA, hE, hlk, hcs⟩ := C
  intro H locs ls hP hD hS hl
  exact va_ldcS hx hb hown (hE.2.2.2.2.1 i _ hi).1 hd (k H locs ls hP hD hS hl)
theorem mj_sgv {idx : Nat} (C : mj_C κ cc nL own) (hi : i < 31) (hlink : Cond.fieldLink own idx "java/lang/String" "value" "[B" ∈ mj_T) (hd : decode cc pc = .ok (.getfield idx, 3)) (k : mj_R κ Q (pc + 3) L (mj_r (97, i) :: st) M) : mj_R κ Q pc L (mj_r (98, i) :: st) M := by
  obtain ⟨⟨p, l, e, R, s, m, args, below, meth, c⟩, D, cI, ad, G, X, A, ce, sl⟩ := κ
  obtain ⟨hx, hb, hml, hown, hts, hK, hA, hE, hlk, hcs⟩ := C
  intro H locs ls hP hD hS hl
  exact vk_getf hx hb (hE.2.2.2.2.1 i _ (mj_ss_at hi)).2.2.2.1 hS hown (hts _ hlink) (fun _ h => h) hd (k H locs ls hP hD hS hl)
theorem mj_sgc {idx : Nat} (C : mj_C κ cc nL own) (hi : i < 31) (hlink : Cond.fieldLink own idx "java/lang/String" "coder" "B" ∈ mj_T) (hd : decode cc pc = .ok (.getfield idx, 3)) (k : mj_R κ Q (pc + 3) L (.inl 0 :: st) M) : mj_R κ Q pc L (mj_r (98, i) :: st) M := by
  obtain ⟨⟨p, l, e, R, s, m, args, below, meth, c⟩, D, cI, ad, G, X, A, ce, sl⟩ := κ
  obtain ⟨hx, hb, hml, hown, hts, hK, hA, hE, hlk, hcs⟩ := C
  intro H locs ls hP hD hS hl
  exact vk_getf hx hb (hE.2.2.2.2.1 i _ (mj_ss_at hi)).2.2.1 hS hown (hts _ hlink) (fun _ h => h) hd (k H locs ls hP hD hS hl)
theorem mj_salen (C : mj_C κ cc nL own) (hi : i < 31) (hd : decode cc pc = .ok (.arraylength, 1)) (k : mj_R κ Q (pc + 1) L (.inl (mj_sln i) :: st) M) : mj_R κ Q pc L (mj_r (97, i) :: st) M := by
  obtain ⟨⟨p, l, e, R, s, m, args, below, meth, c⟩, D, cI, ad, G, X, A, ce, sl⟩ := κ
  obtain ⟨hx, hb, hml, hown, hts, hK, hA, hE, hlk, hcs⟩ := C
  intro H locs ls hP hD hS hl
  obtain ⟨cell, g1, g2, g3, g4, g5, g6, g7⟩ := (hE.2.2.2.2.1 i _ (mj_ss_at hi)).2.2.2.2.kept hS.2.1
  exact W.alen hx hb g1 g2 g5 rfl rfl hd (k H locs ls hP hD hS hl)
theorem mj_sbald {x : Int32} (C : mj_C κ cc nL own) (hi : i < 31) (hin : mj_ok x (mj_ss i).2.2.2.length = true) (hd : decode cc pc = .ok (.baload, 1)) (k : mj_R κ Q (pc + 1) L (.inl (mj_sch i x) :: st) M) : mj_R κ Q pc L (.inl x :: mj_r (97, i) :: st) M := by
  obtain ⟨⟨p, l, e, R, s, m, args, below, meth, c⟩, D, cI, ad, G, X, A, ce, sl⟩ := κ
  obtain ⟨hx, hb, hml, hown, hts, hK, hA, hE, hlk, hcs⟩ := C
  intro H locs ls hP hD hS hl
  obtain ⟨cell, g1, g2, g3, g4, g5, g6, g7⟩ := (hE.2.2.2.2.1 i _ (mj_ss_at hi)).2.2.2.2.kept hS.2.1
  have hv := mj_ok_in hin
  have hlt : x.toNatClampNeg < (mj_ss i).2.2.2.length := Nat.not_le.mp fun q => hv (Or.inr q)
  exact W.bald hx hb g1 g2 g3 (fun q => q.elim (fun q => hv (Or.inl q)) (fun q => by omega)) (g6 _ hlt) rfl rfl hd (k H locs ls hP hD hS hl)
theorem mj_gsc {idx : Nat} {q : String × String × String × Int32} (C : mj_C κ cc nL own) (hq : q ∈ mj_sc) (hlink : Cond.fieldLink own idx q.1 q.2.1 q.2.2.1 ∈ mj_T) (hd : decode cc pc = .ok (.getstatic idx, 3)) (k : mj_R κ Q (pc + 3) L (.inl q.2.2.2 :: st) M) : mj_R κ Q pc L st M := by
  obtain ⟨⟨p, l, e, R, s, m, args, below, meth, c⟩, D, cI, ad, G, X, A, ce, sl⟩ := κ
  obtain ⟨hx, hb, hml, hown, hts, hK, hA, hE, hlk, hcs⟩ := C
  intro H locs ls hP hD hS hl
  exact va_gets hx hb (hE.2.1 q hq) hS hown (hts _ hlink) (fun _ h => h) hd (k H locs ls hP hD hS hl)
theorem mj_i2c {x v : Int32} (C : mj_C κ cc nL own) (hd : decode cc pc = .ok (.i2c, 1)) (hv : (x.toUInt32 % 65536).toInt32 = v) (k : mj_R κ Q (pc + 1) L (.inl v :: st) M) : mj_R κ Q pc L (.inl x :: st) M := by
  obtain ⟨⟨p, l, e, R, s, m, args, below, meth, c⟩, D, cI, ad, G, X, A, ce, sl⟩ := κ
  obtain ⟨hx, hb, hml, hown, hts, hK, hA, hE, hlk, hcs⟩ := C
  intro H locs ls hP hD hS hl
  exact lv_i2c hx hb hd hv (k H locs ls hP hD hS hl)
theorem mj_callVs {y : MethodName} {cy : ByteArray} {nLy dy n idx : Nat} {ret : Option FieldType} {av : List mj_V} {v : mj_V} {M0 : mj_M} (C : mj_C κ cc nL own) (hlink : Cond.methodLink own idx y ∈ mj_T) (Kl : mj_lkV y cy nLy ret n) (hi : i < 31) (hC : y.cls = "java/lang/String") (hL : L.length = nL) (S : mj_S1 y cy nLy ret dy (mj_g κ) (mj_r (98, i) :: av) M (some v) M0) (hF : mj_fits κ dy nLy) (hn : av.length = n) (hst : st.length ≤ 8) (hd : decode cc pc = .ok (.invokevirtual idx, 3)) (k : mj_bb ret (some v) → mj_R κ Q (pc + 3) L (v :: st) M0) : mj_R κ Q pc L (av.reverse ++ mj_r (98, i) :: st) M := by
  obtain ⟨⟨p, l, e, R, s, m, args, below, meth, c⟩, D, cI, ad, G, X, A, ce, sl⟩ := κ
  obtain ⟨hx, hb, hml, hown, hts, hK, hA, hE, hlk, hcs⟩ := C
  intro H locs ls hP hD hS hl
  have hrc : ∃ cellB : Cell, H[ad (98, i)]? = some cellB ∧ cellB.vm.isStatics = false ∧ s.vm.findClass y.cls = some cellB.cls := by
    rw [hC]
    obtain ⟨cell, h1, h2, h3, -⟩ := (hE.2.2.2.2.1 i _ (mj_ss_at hi)).2.1.kept hS.2.1
    exact ⟨cell, h1, h2, h3⟩
  have hAH : ∀ q : Nat, H.size ≤ q → A q := fun q h => hA q (Nat.le_trans hS.1 h)
  have hin := mj_A_in hD hAH
  have hM := S l D cI ad X H.size
  refine mj_after (va_runV (As := av.map (mj_cv ad)) (rest := st.map (mj_cv ad)) ⟨hx, hb, hml, hown, hts⟩ hM ⟨callB_of n hts (mj_wsIn Kl.1) rfl rfl rfl (hts _ Kl.1.2.1) (hts _ hlink) Kl.1.2.2 hF, hts _ Kl.2.1, hts _ Kl.2.2⟩ ⟨mj_blind D cI ad G X H.size (mj_r (98, i) :: av) M, hrc, fun U hU hW => ⟨rfl, by rw [hU], by rw [hU]; exact hP, va_K.moved hW.alike hK, hD.weaken (fun _ _ _ _ => trivial), mj_E.go (by rw [hU]; exact hS) hW hin hE⟩⟩ rfl (by rw [List.length_map]; exact hn) (hl.1.trans hL) (by simp [mj_cv, mj_r]; try rfl) (by rw [mj_cats]; show 2 * 0 + _ ≤ 8; omega) hd ⟨hcs.1, hcs.2⟩) hS hin hin (fun r M' H1 locs1 hp hP1 hS1 => ?_)
  obtain ⟨rfl, rfl, hbb⟩ := hp
  rw [mj_tol]
  exact k hbb H1 locs1 ls hP1 (mj_D_same _ _ hD) hS1 hl
end MJS
theorem C_sCoder {G : mj_G} {M : mj_M} {i : Nat} (hi : i < 31) : mj_S1 yJ0_coder_7d493 cJ0_coder_7d493 1 (some .byte) 0 G [mj_r (98, i)] M (some (.inl 0)) M := by
  refine mj_intro (by decide) (Nat.le_of_ble_eq_true rfl) ?_
  intro κ C hG hR hT
  have C : mj_C κ cJ0_coder_7d493 1 RJ0 := C
  show mj_R κ (mj_F κ _) 0 [some (mj_r (98, i))] [] M
  refine mj_gsc (q := ("java/lang/String", "COMPACT_STRINGS", "Z", 1)) C (List.mem_of_getElem? (i := 0) rfl) lG_J0_38 dJ0_coder_7d493_0 ?_
  refine mj_if_eq (tgt := 13) C dJ0_coder_7d493_3 (by decide) (fun c => absurd c (by decide)) (fun c => ?_)
  refine mj_aload_n C dJ0_coder_7d493_6 rfl ?_
  refine mj_sgc C hi lG_J0_15 dJ0_coder_7d493_7 ?_
  refine mj_goto (tgt := 14) C dJ0_coder_7d493_10 (by decide) ?_
  exact mj_iret C hT rfl dJ0_coder_7d493_14 ⟨rfl, rfl, fun h => by cases h⟩
theorem C_sLat {G : mj_G} {M : mj_M} {i : Nat} (hi : i < 31) : mj_S1 yJ0_isLatin1_aae02 cJ0_isLatin1_aae02 1 (some .boolean) 0 G [mj_r (98, i)] M (some (.inl 1)) M := by
  refine mj_intro (by decide) (Nat.le_of_ble_eq_true rfl) ?_
  intro κ C hG hR hT
  have C : mj_C κ cJ0_isLatin1_aae02 1 RJ0 := C
  show mj_R κ (mj_F κ _) 0 [some (mj_r (98, i))] [] M
  refine mj_gsc (q := ("java/lang/String", "COMPACT_STRINGS", "Z", 1)) C (List.mem_of_getElem? (i := 0) rfl) lG_J0_38 dJ0_isLatin1_aae02_0 ?_
  refine mj_if_eq (tgt := 17) C dJ0_isLatin1_aae02_3 (by decide) (fun c => absurd c (by decide)) (fun c => ?_)
  refine mj_aload_n C dJ0_isLatin1_aae02_6 rfl ?_
  refine mj_sgc C hi lG_J0_15 dJ0_isLatin1_aae02_7 ?_
  refine mj_if_ne (tgt := 17) C dJ0_isLatin1_aae02_10 (by decide) (fun c => absurd rfl c) (fun c => ?_)
  refine mj_iconst (v := 1) C dJ0_isLatin1_aae02_13 (by decide) ?_
  refine mj_goto (tgt := 18) C dJ0_isLatin1_aae02_14 (by decide) ?_
  exact mj_iret C hT rfl dJ0_isLatin1_aae02_18 ⟨rfl, rfl, mj_b1'⟩
theorem mj_shr0 (x : Int32) : mj_shr x 0 = x := by
  unfold mj_shr
  rw [show (0 : Int32) &&& 31 = 0 by decide]
  simp
theorem C_sLen {G : mj_G} {M : mj_M} {i : Nat} (hi : i < 31) : mj_S1 yJ0_length_8abf5 cJ0_length_8abf5 1 (some .int) 1 G [mj_r (98, i)] M (some (.inl (mj_sln i))) M := by
  refine mj_intro (by decide) (Nat.le_of_ble_eq_true rfl) ?_
  intro κ C hG hR hT
  subst hG
  have C : mj_C κ cJ0_length_8abf5 1 RJ0 := C
  show mj_R κ (mj_F κ _) 0 [some (mj_r (98, i))] [] M
  refine mj_aload_n C dJ0_length_8abf5_0 rfl ?_
  refine mj_sgv C hi lG_J0_9 dJ0_length_8abf5_1 ?_
  refine mj_salen C hi dJ0_length_8abf5_4 ?_
  refine mj_aload_n C dJ0_length_8abf5_5 rfl ?_
  refine mj_callVs (av := []) C lM_J0_335 lV_J0_coder_7d493 hi rfl rfl (C_sCoder hi) (mj_rmok hR (by decide) (by decide)) rfl (Nat.le_of_ble_eq_true rfl) dJ0_length_8abf5_6 (fun hb => ?_)
  refine mj_ishr C dJ0_length_8abf5_9 ?_
  rw [mj_shr0]
  exact mj_iret C hT (vp_nar_int _) dJ0_length_8abf5_10 ⟨rfl, rfl, mj_bi _⟩
/-! the check of an index: what the formatter is, nobody asks -/
theorem mj_wsame {p : Program} {l : Launch} {e : Env} {R : Room} {s : State} {m : MethodId} {args : Array Value} {below : List Frame} {meth : Method} {c : Code} {H : Heap} {locs : List Loc} {A : Nat → Prop} {ce sl pc : Nat} {Q : State → Prop} {ls : Array Slot} {st0 rest : List Value} {w : Value} (hr : va_Run p l e R s m args below meth c H locs ce sl 0 0 (F0 m pc ls st0) rest (fun st o t => o = .returned (some w) ∧ t.heap = st.heap) (fun _ => False)) (hS : va_S A s.heap H locs)
    (kk : ∀ locs1 : List Loc, va_S A s.heap H locs1 → W p l e R s m args below meth c H locs1 ce sl Q (F0 m (pc + 3) ls (w :: rest))) : W p l e R s m args below meth c H locs ce sl Q (F0 m pc ls st0) := by
  intro T hT X'
  obtain ⟨v, st₀, t, T', L, h0, X', hL, e1, e2, ⟨hv, hh⟩, st⟩ := hr T hT X'
  cases hv
  obtain ⟨t2, a1, b1⟩ := kk (locs ++ L) ⟨hS.1, hS.2.1, fun q hq => by
    rcases List.mem_append.mp hq with h | h
    · exact hS.2.2 q h
    · exact (hL q h).elim⟩ T' (by rw [e1, hh, h0]) X'
  exact ⟨t2, st t2 a1, b1⟩
theorem C_pck (l : Launch) {i n : Int32} {v : Value} (hv : v = .null ∨ ∃ t, v = .ref t) (h0 : ¬ i < 0) (h1 : i < n) : Met l yJ3_checkIndex_8e157 (Cond.code yJ3_checkIndex_8e157 cJ3_checkIndex_8e157 3 (some .int) :: mj_T) (mj_rm 0) (fun a _ => a = #[.int i, .int n, v]) (fun _ st o t => o = .returned (some (.int i)) ∧ t.heap = st.heap) 0 0 (fun _ => False) := by
  refine Met.ofW (cc := cJ3_checkIndex_8e157) (maxL := 3) (ret := some .int) (by decide) rfl ?_
  intro p e s m args below meth c s₁ B hml hv'
  subst hv'
  have hx := B.exec
  have hb := B.bytes
  have hr := B.returns
  have hc1 : v.category = 1 := by rcases hv with rfl | ⟨t, rfl⟩ <;> rfl
  have hl := lv_entry ([.int i, .int n, v]) (n := 3) (by rcases hv with rfl | ⟨t, rfl⟩ <;> exact Nat.le_of_ble_eq_true rfl)
  rw [show (#[Value.int i, Value.int n, v] : Array Value) = [Value.int i, Value.int n, v].toArray from rfl, lg_entry_eq]
  generalize (lg_sl ([.int i, .int n, v]) ++ List.replicate (3 - (lg_sl ([.int i, .int n, v])).length) Slot.unset).toArray = ls at hl ⊢
  have e0 : ls[0]? = some (.val (.int i)) := hl.2.2 (0, .int i) (by simp [lv_args])
  have e1 : ls[1]? = some (.val (.int n)) := hl.2.2 (1, .int n) (by simp [lv_args, Value.category])
  refine lv_iload_n hx hb dJ3_checkIndex_8e157_0 rfl e0 ?_
  refine lv_if_lt (tgt := 9) hx hb dJ3_checkIndex_8e157_1 (by decide) (fun c => absurd c h0) (fun c => ?_)
  refine lv_iload_n hx hb dJ3_checkIndex_8e157_4 rfl e0 ?_
  refine lv_iload_n hx hb dJ3_checkIndex_8e157_5 rfl e1 ?_
  refine lv_icmp_lt (tgt := 16) hx hb dJ3_checkIndex_8e157_6 (by decide) (fun c => ?_) (fun c => absurd h1 c)
  refine lv_iload_n hx hb dJ3_checkIndex_8e157_16 rfl e0 ?_
  exact W.iret hx hb hr (fun t ht hW => ⟨rfl, ht⟩) (fun q h => by cases h) dJ3_checkIndex_8e157_17
theorem C_chk {G : mj_G} {M : mj_M} {i n : Int32} (h0 : ¬ i < 0) (h1 : i < n) : mj_S1 yJ0_checkIndex_df160 cJ0_checkIndex_df160 2 none 1 G [.inl i, .inl n] M none M := by
  refine mj_intro (by decide) (Nat.le_of_ble_eq_true rfl) ?_
  intro κ C hG hR hT
  subst hG
  have C : mj_C κ cJ0_checkIndex_df160 2 RJ0 := C
  show mj_R κ (mj_F κ _) 0 [some (.inl i), some (.inl n)] [] M
  refine mj_iload_n C dJ0_checkIndex_df160_0 rfl ?_
  refine mj_iload_n C dJ0_checkIndex_df160_1 rfl ?_
  obtain ⟨⟨p, l, e, R, s, m, args, below, meth, c⟩, D, cI, ad, G, X, A, ce, sl⟩ := κ
  have hfr : 0 + 1 ≤ R.frames := by have : R.frames = 1 := hR.1; omega
  have hlo : 8 + (3 + 11) + 40 * 0 ≤ R.locals := by have : R.locals = 40 * 1 := hR.2; omega
  obtain ⟨hx, hb, hml, hown, hts, hK, hA, hE, hlk, hcs⟩ := C
  intro H locs ls hP hD hS hl
  obtain ⟨v, hv, hZ⟩ : ∃ v : Value, (v = .null ∨ ∃ t, v = .ref t) ∧ va_Z "jdk/internal/util/Preconditions" "SIOOBE_FORMATTER" "Ljava/util/function/BiFunction;" v A s s.heap := by
    rcases hE.2.2.2.2.2.1 with h | ⟨t, h⟩
    · exact ⟨_, Or.inl rfl, h⟩
    · exact ⟨_, Or.inr ⟨t, rfl⟩, h⟩
  refine va_gets hx hb hZ hS hown (hts _ lG_J0_1053) (fun _ h => h) dJ0_checkIndex_df160_2 ?_
  refine mj_wsame (A := A) (va_runS (As := [.int i, .int n, v]) (rest := []) ⟨hx, hb, hml, hown, hts⟩ (C_pck l hv h0 h1) ⟨callB_of 3 hts (mj_wsIn lk_J3_checkIndex_8e157) rfl rfl rfl (hts _ lk_J3_checkIndex_8e157.2.1) (hts _ lM_J0_1059) lk_J3_checkIndex_8e157.2.2 ⟨hfr, hlo⟩, hts _ lS_J3_checkIndex_8e157.2⟩ ⟨fun a U g mk q => q, fun U hU hW => rfl⟩ rfl rfl hl.1 rfl (by simp) dJ0_checkIndex_df160_5 ⟨hcs.1, hcs.2⟩) hS (fun locs1 hS1 => ?_)
  refine lv_pop hx hb dJ0_checkIndex_df160_8 rfl ?_
  exact W.vret hx hb hT (fun t ht hW => ⟨⟨none, M, rfl, ⟨rfl, rfl, mj_bv _⟩, by rw [ht]; exact hP⟩, hS1.F ht⟩) hS1.2.2 dJ0_checkIndex_df160_9
theorem mj_okI {x : Int32} {n : Nat} (hn : n < 2 ^ 31) (h : mj_ok x n = true) : ¬ x < 0 ∧ x < nI n := by
  simp only [mj_ok, Bool.and_eq_true, decide_eq_true_eq] at h
  refine ⟨(mj_nn h.1).1, Int32.lt_iff_toInt_lt.mpr ?_⟩
  rw [nI_toInt hn]
  exact h.2
theorem mj_sch_ok {i : Nat} (hi : i < 31) {x : Int32} (h : mj_ok x (mj_ss i).2.2.2.length = true) : ((mj_sch i x &&& 255).toUInt32 % 65536).toInt32 = mj_sch i x ∧ narrow .char (.int (mj_sch i x)) = .int (mj_sch i x) := by
  have hm := List.mem_of_getElem? (mj_ss_at hi)
  refine (mj_ss_ch _ hm).2 _ ?_
  have hv := mj_ok_in h
  have hlt : mj_cl x < (mj_ss i).2.2.2.length := Nat.not_le.mp fun q => hv (Or.inr q)
  unfold mj_sch
  rw [List.getD_eq_getElem?_getD, List.getElem?_eq_getElem hlt]
  exact List.getElem_mem hlt
theorem mj_sln_lt {i : Nat} (hi : i < 31) : (mj_ss i).2.2.2.length < 60 := (mj_ss_ch _ (List.mem_of_getElem? (mj_ss_at hi))).1
theorem C_l1At {G : mj_G} {M : mj_M} {i : Nat} {x : Int32} (hi : i < 31) (hk : mj_ok x (mj_ss i).2.2.2.length = true) : mj_S1 yJ1_charAt_3b067 cJ1_charAt_3b067 2 (some .char) 2 G [mj_r (97, i), .inl x] M (some (.inl (mj_sch i x))) M := by
  refine mj_intro (by decide) (Nat.le_of_ble_eq_true rfl) ?_
  intro κ C hG hR hT
  subst hG
  have C : mj_C κ cJ1_charAt_3b067 2 RJ1 := C
  have hx := mj_okI (by have := mj_sln_lt hi; omega) hk
  have hc := mj_sch_ok hi hk
  show mj_R κ (mj_F κ _) 0 [some (mj_r (97, i)), some (.inl x)] [] M
  refine mj_iload_n C dJ1_charAt_3b067_0 rfl ?_
  refine mj_aload_n C dJ1_charAt_3b067_1 rfl ?_
  refine mj_salen C hi dJ1_charAt_3b067_2 ?_
  refine mj_callS (av := [.inl x, .inl (mj_sln i)]) C lM_J1_9 lS_J0_checkIndex_df160 rfl (C_chk hx.1 hx.2) (mj_rmok hR (by decide) (by decide)) rfl (Nat.le_of_ble_eq_true rfl) dJ1_charAt_3b067_3 (fun hb => ?_)
  refine mj_aload_n C dJ1_charAt_3b067_6 rfl ?_
  refine mj_iload_n C dJ1_charAt_3b067_7 rfl ?_
  refine mj_sbald C hi hk dJ1_charAt_3b067_8 ?_
  refine mj_sipush (v := 255) C dJ1_charAt_3b067_9 (by decide) ?_
  refine mj_iand C dJ1_charAt_3b067_12 ?_
  refine mj_i2c C dJ1_charAt_3b067_13 hc.1 ?_
  exact mj_iret C hT hc.2 dJ1_charAt_3b067_14 ⟨rfl, rfl, fun h => by cases h⟩
theorem C_sAt {G : mj_G} {M : mj_M} {i : Nat} {x : Int32} (hi : i < 31) (hk : mj_ok x (mj_ss i).2.2.2.length = true) : mj_S1 yJ0_charAt_5068e cJ0_charAt_5068e 2 (some .char) 3 G [mj_r (98, i), .inl x] M (some (.inl (mj_sch i x))) M := by
  refine mj_intro (by decide) (Nat.le_of_ble_eq_true rfl) ?_
  intro κ C hG hR hT
  subst hG
  have C : mj_C κ cJ0_charAt_5068e 2 RJ0 := C
  have hc := mj_sch_ok hi hk
  show mj_R κ (mj_F κ _) 0 [some (mj_r (98, i)), some (.inl x)] [] M
  refine mj_aload_n C dJ0_charAt_5068e_0 rfl ?_
  refine mj_callVs (av := []) C lM_J0_492 lV_J0_isLatin1_aae02 hi rfl rfl (C_sLat hi) (mj_rmok hR (by decide) (by decide)) rfl (Nat.le_of_ble_eq_true rfl) dJ0_charAt_5068e_1 (fun hb => ?_)
  refine mj_if_eq (tgt := 16) C dJ0_charAt_5068e_4 (by decide) (fun c => absurd c (by decide)) (fun c => ?_)
  refine mj_aload_n C dJ0_charAt_5068e_7 rfl ?_
  refine mj_sgv C hi lG_J0_9 dJ0_charAt_5068e_8 ?_
  refine mj_iload_n C dJ0_charAt_5068e_11 rfl ?_
  refine mj_callS1 (av := [mj_r (97, i), .inl x]) C lM_J0_495 lS_J1_charAt_3b067 rfl (C_l1At hi hk) (mj_rmok hR (by decide) (by decide)) rfl (Nat.le_of_ble_eq_true rfl) dJ0_charAt_5068e_12 (fun hb => ?_)
  exact mj_iret C hT hc.2 dJ0_charAt_5068e_15 ⟨rfl, rfl, fun h => by cases h⟩

