set_option maxRecDepth 20000 in
theorem lM_J4_1 : Cond.methodLink RJ4 1 yJ5_init_d00df ∈ mj_T := (mj_in2 206 rfl rfl)
set_option maxRecDepth 20000 in
theorem lM_J5_3 : Cond.methodLink RJ5 3 Lib.objectInit ∈ mj_T := (mj_in2 209 rfl rfl)
set_option maxRecDepth 20000 in
theorem lM_J5_26 : Cond.methodLink RJ5 26 yJ2_newBytesFor_77867 ∈ mj_T := (mj_in2 212 rfl rfl)
set_option maxRecDepth 20000 in
theorem lM_J4_333 : Cond.methodLink RJ4 333 yJ5_setLength_d00df ∈ mj_T := (mj_in5 55 rfl rfl)
set_option maxRecDepth 20000 in
theorem lM_J5_100 : Cond.methodLink RJ5 100 yJ5_ensureCapacityInternal_d00df ∈ mj_T := (mj_in5 58 rfl rfl)
set_option maxRecDepth 20000 in
theorem lM_J5_104 : Cond.methodLink RJ5 104 yJ5_newCapacity_0f7a4 ∈ mj_T := (mj_in5 62 rfl rfl)
set_option maxRecDepth 20000 in
theorem lM_J5_114 : Cond.methodLink RJ5 114 yJ8_newLength_cabcc ∈ mj_T := (mj_in5 66 rfl rfl)
set_option maxRecDepth 20000 in
theorem lM_J5_108 : Cond.methodLink RJ5 108 yJ7_copyOf_9075b ∈ mj_T := (mj_in5 77 rfl rfl)
set_option maxRecDepth 20000 in
theorem lM_J5_83 : Cond.methodLink RJ5 83 yJ5_isLatin1_aae02 ∈ mj_T := (mj_in5 87 rfl rfl)
set_option maxRecDepth 20000 in
theorem lM_J5_133 : Cond.methodLink RJ5 133 yJ1_fillNull_b72d1 ∈ mj_T := (mj_in5 92 rfl rfl)
set_option maxRecDepth 20000 in
theorem lM_J5_137 : Cond.methodLink RJ5 137 yJ2_fillNull_b72d1 ∈ mj_T := (mj_in5 101 rfl rfl)
set_option maxRecDepth 20000 in
theorem lM_J4_50 : Cond.methodLink RJ4 50 yJ5_append_3fe6f ∈ mj_T := (mj_in5 113 rfl rfl)
set_option maxRecDepth 20000 in
theorem lM_J5_191 : Cond.methodLink RJ5 191 yJ1_canEncode_fc78d ∈ mj_T := (mj_in5 116 rfl rfl)
set_option maxRecDepth 20000 in
theorem lM_J5_195 : Cond.methodLink RJ5 195 yJ5_inflate_da8c8 ∈ mj_T := (mj_in5 119 rfl rfl)
set_option maxRecDepth 20000 in
theorem lM_J5_125 : Cond.methodLink RJ5 125 yJ1_inflate_0e8fd ∈ mj_T := (mj_in5 123 rfl rfl)
set_option maxRecDepth 20000 in
theorem lM_J5_197 : Cond.methodLink RJ5 197 yJ2_putCharSB_b72d1 ∈ mj_T := (mj_in5 141 rfl rfl)
set_option maxRecDepth 20000 in
theorem lM_J4_53 : Cond.methodLink RJ4 53 yJ5_append_c97b9 ∈ mj_T := (mj_in5 148 rfl rfl)
set_option maxRecDepth 20000 in
theorem lM_J5_245 : Cond.methodLink RJ5 245 yJ6_stringSize_0f7a4 ∈ mj_T := (mj_in5 151 rfl rfl)
set_option maxRecDepth 20000 in
theorem lM_J5_248 : Cond.methodLink RJ5 248 yJ6_getChars_ba4f3 ∈ mj_T := (mj_in5 154 rfl rfl)
set_option maxRecDepth 20000 in
theorem lM_J5_251 : Cond.methodLink RJ5 251 yJ2_getChars_46870 ∈ mj_T := (mj_in5 161 rfl rfl)
set_option maxRecDepth 20000 in
theorem lM_J4_29 : Cond.methodLink RJ4 29 yJ5_append_cf1ce ∈ mj_T := (mj_in5 195 rfl rfl)
set_option maxRecDepth 20000 in
theorem lM_J5_204 : Cond.methodLink RJ5 204 yJ5_appendNull_278bc ∈ mj_T := (mj_in5 198 rfl rfl)
set_option maxRecDepth 20000 in
theorem lM_J5_226 : Cond.methodLink RJ5 226 yJ2_putCharsAt_cd4e5 ∈ mj_T := (mj_in5 202 rfl rfl)
set_option maxRecDepth 20000 in
theorem lM_J5_32 : Cond.methodLink RJ5 32 yJ0_length_8abf5 ∈ mj_T := (mj_in5 205 rfl rfl)
set_option maxRecDepth 20000 in
theorem lM_J5_208 : Cond.methodLink RJ5 208 yJ5_putStringAt_47b60 ∈ mj_T := (mj_in5 206 rfl rfl)
set_option maxRecDepth 20000 in
theorem lM_J5_397 : Cond.methodLink RJ5 397 yJ5_inflateIfNeededFor_a7421 ∈ mj_T := (mj_in5 210 rfl rfl)
set_option maxRecDepth 20000 in
theorem lM_J5_40 : Cond.methodLink RJ5 40 yJ0_coder_7d493 ∈ mj_T := (mj_in5 214 rfl rfl)
set_option maxRecDepth 20000 in
theorem lM_J5_399 : Cond.methodLink RJ5 399 yJ0_getBytes_840e7 ∈ mj_T := (mj_in5 215 rfl rfl)
set_option maxRecDepth 20000 in
theorem lM_J4_343 : Cond.methodLink RJ4 343 yJ5_length_8abf5 ∈ mj_T := (mj_in6 8 rfl rfl)
set_option maxRecDepth 20000 in
theorem lM_J4_329 : Cond.methodLink RJ4 329 yJ5_charAt_5068e ∈ mj_T := (mj_in6 15 rfl rfl)
set_option maxRecDepth 20000 in
theorem lM_J5_138 : Cond.methodLink RJ5 138 Lib.Math.min.name ∈ mj_T := (mj_in6 18 rfl rfl)
set_option maxRecDepth 20000 in
theorem lM_J5_144 : Cond.methodLink RJ5 144 yJ0_checkIndex_df160 ∈ mj_T := (mj_in6 19 rfl rfl)
set_option maxRecDepth 20000 in
theorem lM_J5_148 : Cond.methodLink RJ5 148 yJ2_getChar_3b067 ∈ mj_T := (mj_in6 20 rfl rfl)
set_option maxRecDepth 20000 in
theorem lF_J5_15 : mj_fl RJ5 15 0 0 := ⟨_, _, _, rfl, Nat.le_of_ble_eq_true rfl, inTJ4, (mj_in2 219 rfl rfl)⟩
set_option maxRecDepth 20000 in
theorem lF_J5_22 : mj_fl RJ5 22 0 1 := ⟨_, _, _, rfl, Nat.le_of_ble_eq_true rfl, inTJ4, (mj_in2 220 rfl rfl)⟩
set_option maxRecDepth 20000 in
theorem lF_J5_73 : mj_fl RJ5 73 0 2 := ⟨_, _, _, rfl, Nat.le_of_ble_eq_true rfl, inTJ4, (mj_in2 221 rfl rfl)⟩
set_option maxRecDepth 20000 in
theorem lF_J5_79 : mj_fl RJ5 79 0 3 := ⟨_, _, _, rfl, Nat.le_of_ble_eq_true rfl, inTJ4, (mj_in2 222 rfl rfl)⟩
set_option maxRecDepth 20000 in
theorem lG_J5_18 : Cond.fieldLink RJ5 18 "java/lang/String" "COMPACT_STRINGS" "Z" ∈ mj_T := (mj_in2 210 rfl rfl)
theorem fR_0_0 : mj_fr 0 0 (.array .byte) false := by
  intro C T N h
  cases h
  exact ⟨⟨tyJ4, tyJ4_ok, rfl⟩, nmJ4, rfl, fun h => by cases h⟩
theorem fR_0_1 : mj_fr 0 1 .byte false := by
  intro C T N h
  cases h
  exact ⟨⟨tyJ4, tyJ4_ok, rfl⟩, nmJ4, rfl, fun h => by cases h⟩
theorem fR_0_2 : mj_fr 0 2 .boolean false := by
  intro C T N h
  cases h
  exact ⟨⟨tyJ4, tyJ4_ok, rfl⟩, nmJ4, rfl, fun h => by cases h⟩
theorem fR_0_3 : mj_fr 0 3 .int false := by
  intro C T N h
  cases h
  exact ⟨⟨tyJ4, tyJ4_ok, rfl⟩, nmJ4, rfl, fun h => by cases h⟩
set_option maxRecDepth 20000 in
theorem lk_J5_init_d00df : mj_lk yJ5_init_d00df cJ5_init_d00df 2 none 1 := ⟨(mj_in2 208 rfl rfl), (mj_in1 12 rfl rfl), by decide, by decide, by decide⟩
theorem dJ5_init_d00df_0 : decode cJ5_init_d00df 0 = .ok (.aload_n 0, 1) := by decide +kernel
theorem dJ5_init_d00df_1 : decode cJ5_init_d00df 1 = .ok (.invokespecial 3, 3) := by decide +kernel
theorem dJ5_init_d00df_4 : decode cJ5_init_d00df 4 = .ok (.getstatic 18, 3) := by decide +kernel
theorem dJ5_init_d00df_7 : decode cJ5_init_d00df 7 = .ok (.ifCond .eq 18, 3) := by decide +kernel
theorem dJ5_init_d00df_10 : decode cJ5_init_d00df 10 = .ok (.aload_n 0, 1) := by decide +kernel
theorem dJ5_init_d00df_11 : decode cJ5_init_d00df 11 = .ok (.iload_n 1, 1) := by decide +kernel
theorem dJ5_init_d00df_12 : decode cJ5_init_d00df 12 = .ok (.newarray .byte, 2) := by decide +kernel
theorem dJ5_init_d00df_14 : decode cJ5_init_d00df 14 = .ok (.putfield 15, 3) := by decide +kernel
theorem dJ5_init_d00df_17 : decode cJ5_init_d00df 17 = .ok (.aload_n 0, 1) := by decide +kernel
theorem dJ5_init_d00df_18 : decode cJ5_init_d00df 18 = .ok (.iconst 0, 1) := by decide +kernel
theorem dJ5_init_d00df_19 : decode cJ5_init_d00df 19 = .ok (.putfield 22, 3) := by decide +kernel
theorem dJ5_init_d00df_22 : decode cJ5_init_d00df 22 = .ok (.goto 16, 3) := by decide +kernel
theorem dJ5_init_d00df_25 : decode cJ5_init_d00df 25 = .ok (.aload_n 0, 1) := by decide +kernel
theorem dJ5_init_d00df_26 : decode cJ5_init_d00df 26 = .ok (.iload_n 1, 1) := by decide +kernel
theorem dJ5_init_d00df_27 : decode cJ5_init_d00df 27 = .ok (.invokestatic 26, 3) := by decide +kernel
theorem dJ5_init_d00df_30 : decode cJ5_init_d00df 30 = .ok (.putfield 15, 3) := by decide +kernel
theorem dJ5_init_d00df_33 : decode cJ5_init_d00df 33 = .ok (.aload_n 0, 1) := by decide +kernel
theorem dJ5_init_d00df_34 : decode cJ5_init_d00df 34 = .ok (.iconst 1, 1) := by decide +kernel
theorem dJ5_init_d00df_35 : decode cJ5_init_d00df 35 = .ok (.putfield 22, 3) := by decide +kernel
theorem dJ5_init_d00df_38 : decode cJ5_init_d00df 38 = .ok (.return_, 1) := by decide +kernel
set_option maxRecDepth 20000 in
theorem lk_J4_init_da8c8 : mj_lk yJ4_init_da8c8 cJ4_init_da8c8 1 none 0 := ⟨(mj_in2 205 rfl rfl), (mj_in1 13 rfl rfl), by decide, by decide, by decide⟩
theorem dJ4_init_da8c8_0 : decode cJ4_init_da8c8 0 = .ok (.aload_n 0, 1) := by decide +kernel
theorem dJ4_init_da8c8_1 : decode cJ4_init_da8c8 1 = .ok (.bipush 16, 2) := by decide +kernel
theorem dJ4_init_da8c8_3 : decode cJ4_init_da8c8 3 = .ok (.invokespecial 1, 3) := by decide +kernel
theorem dJ4_init_da8c8_6 : decode cJ4_init_da8c8 6 = .ok (.return_, 1) := by decide +kernel
set_option maxRecDepth 20000 in
theorem mx_ab : Cond.arrayClass .byte ∈ mj_T := (mj_in2 232 rfl rfl)
theorem K_J5_init_d00df {cI : mj_I} {a0 : Nat} : mx_Sem cI yJ5_init_d00df cJ5_init_d00df 2 none 1 1 16 [mj_o (some a0), .inl 16] [(a0, .inr (0, [.null, .int 0, .int 0, .int 0]))] (fun r Y' => r = none ∧ ∃ q1 : Nat, Y' = [(a0, .inr (0, [.ref q1, .int 0, .int 0, .int 0])), (q1, .inl (cI.2, 16, .inl (fun _ => 0)))]) := by
  refine mx_intro (by decide) (Nat.le_of_ble_eq_true rfl) ?_
  intro κ M C hcI hR hmc hms hT hN
  subst hcI
  have C : mj_C κ cJ5_init_d00df 2 RJ5 := C
  show mj_R (mj_ky κ [(a0, .inr (0, [.null, .int 0, .int 0, .int 0]))] 0 0) (mx_F κ M 1 16 _) 0 [some (mj_o (some a0)), some (.inl 16)] [] M
  refine mx_aload_n (mx_D C hmc hms rfl rfl) dJ5_init_d00df_0 rfl ?_
  refine mx_objInit C lM_J5_3 rfl mx_oi mx_oc (mj_rmc hR (by decide)) (Nat.le_of_ble_eq_true rfl) dJ5_init_d00df_1 ?_
  refine mj_gsc (q := ("java/lang/String", "COMPACT_STRINGS", "Z", 1)) (mx_D C hmc hms rfl rfl) (List.mem_of_getElem? (i := 0) rfl) lG_J5_18 dJ5_init_d00df_4 ?_
  refine mj_if_eq (tgt := 25) (mx_D C hmc hms rfl rfl) dJ5_init_d00df_7 (by decide) (fun c => absurd c (by decide)) (fun c => ?_)
  refine mx_aload_n (mx_D C hmc hms rfl rfl) dJ5_init_d00df_10 rfl ?_
  refine mj_iload_n (mx_D C hmc hms rfl rfl) dJ5_init_d00df_11 rfl ?_
  refine mx_newb (N' := 16) C mx_ab (by decide) (by decide) (by decide) (mx_lc hmc rfl) (mx_ls hms rfl) dJ5_init_d00df_12 (fun q1 => ?_)
  show mj_R (mj_ky κ [(a0, .inr (0, [.null, .int 0, .int 0, .int 0])), (q1, .inl ((mj_cI κ).2, 16, .inl (fun _ => 0)))] 1 16) _ 14 [some (mj_o (some a0)), some (.inl 16)] [mj_o (some q1), mj_o (some a0)] M
  refine mx_put (k := 0) (Y' := [(a0, .inr (0, [.ref q1, .int 0, .int 0, .int 0])), (q1, .inl ((mj_cI κ).2, 16, .inl (fun _ => 0)))]) C lF_J5_15 fR_0_0 rfl (fun _ => rfl) rfl rfl (Nat.le_of_ble_eq_true rfl) dJ5_init_d00df_14 rfl ?_
  refine mx_aload_n (mx_D C hmc hms rfl rfl) dJ5_init_d00df_17 rfl ?_
  refine mj_iconst (v := 0) (mx_D C hmc hms rfl rfl) dJ5_init_d00df_18 (by decide) ?_
  refine mx_put (k := 0) (Y' := [(a0, .inr (0, [.ref q1, .int 0, .int 0, .int 0])), (q1, .inl ((mj_cI κ).2, 16, .inl (fun _ => 0)))]) C lF_J5_22 fR_0_1 rfl (fun _ => rfl) rfl rfl (Nat.le_of_ble_eq_true rfl) dJ5_init_d00df_19 rfl ?_
  refine mj_goto (tgt := 38) (mx_D C hmc hms rfl rfl) dJ5_init_d00df_22 (by decide) ?_
  exact mx_vret C hT (Nat.le_of_ble_eq_true rfl) (Nat.le_of_ble_eq_true rfl) dJ5_init_d00df_38 ⟨rfl, q1, rfl⟩
theorem K_J4_init_da8c8 {cI : mj_I} {a0 : Nat} : mx_Sem cI yJ4_init_da8c8 cJ4_init_da8c8 1 none 2 1 16 [mj_o (some a0)] [(a0, .inr (0, [.null, .int 0, .int 0, .int 0]))] (fun r Y' => r = none ∧ ∃ q1 : Nat, Y' = [(a0, .inr (0, [.ref q1, .int 0, .int 0, .int 0])), (q1, .inl (cI.2, 16, .inl (fun _ => 0)))]) := by
  refine mx_intro (by decide) (Nat.le_of_ble_eq_true rfl) ?_
  intro κ M C hcI hR hmc hms hT hN
  subst hcI
  have C : mj_C κ cJ4_init_da8c8 1 RJ4 := C
  show mj_R (mj_ky κ [(a0, .inr (0, [.null, .int 0, .int 0, .int 0]))] 0 0) (mx_F κ M 1 16 _) 0 [some (mj_o (some a0))] [] M
  refine mx_aload_n (mx_D C hmc hms rfl rfl) dJ4_init_da8c8_0 rfl ?_
  refine mj_bipush (v := 16) (mx_D C hmc hms rfl rfl) dJ4_init_da8c8_1 (by decide) ?_
  refine mx_callI (av := [.inl 16]) (Y0 := []) (ce := 0) (sl := 0) C lM_J4_1 lk_J5_init_d00df rfl (mj_in2 207 rfl rfl) rfl (K_J5_init_d00df (a0 := a0)) rfl (mx_fit hR hmc hms rfl rfl rfl rfl) rfl (Nat.le_of_ble_eq_true rfl) dJ4_init_da8c8_3 (fun r Y' hp => ?_)
  obtain ⟨rfl, q1, rfl⟩ := hp
  show mj_R (mj_ky κ [(a0, .inr (0, [.ref q1, .int 0, .int 0, .int 0])), (q1, .inl ((mj_cI κ).2, 16, .inl (fun _ => 0)))] 1 16) _ 6 [some (mj_o (some a0))] [] M
  exact mx_vret C hT (Nat.le_of_ble_eq_true rfl) (Nat.le_of_ble_eq_true rfl) dJ4_init_da8c8_6 ⟨rfl, q1, rfl⟩
