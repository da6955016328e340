def f_X10_far (a1 : Int32) (a2 : Int32) : Int32 := ((a1 - a2) &&& 255)
set_option maxHeartbeats 4000000 in
set_option maxRecDepth 20000 in
theorem C_X10_far {G : mj_G} {M : mj_M} {a1 : Int32} {a2 : Int32} {x0 : Int32} (h : f_X10_far a1 a2 = x0) : mj_S1 yX10_far cX10_far 2 (some .int) 0 G [.inl a1, .inl a2] M (some (.inl x0)) M := by
  refine mj_intro (by decide) (Nat.le_of_ble_eq_true rfl) ?_
  intro κ C hG hR hT
  subst hG
  have C : mj_C κ cX10_far 2 RX10 := C
  show mj_R κ (mj_F κ (fun r M' => r = (some (.inl x0)) ∧ M' = M ∧ mj_bb (some .int) (some (.inl x0)))) 0 [some (.inl a1), some (.inl a2)] [] M
  unfold f_X10_far at h
  refine mj_iload_n C dX10_far_0 rfl ?_
  refine mj_iload_n C dX10_far_1 rfl ?_
  refine mj_isub C dX10_far_2 ?_
  refine mj_sipush (v := 255) C dX10_far_3 (by decide) ?_
  refine mj_iand C dX10_far_6 ?_
  cases h
  exact mj_iret C hT (vp_nar_int _) dX10_far_7 ⟨rfl, rfl, mj_bi _⟩
def f_X10_isWithin (a1 : Int32) (a2 : Int32) (a3 : Int32) : Int32 := if a1 < a2 then (0) else (if a3 < a1 then (0) else (1))
set_option maxHeartbeats 4000000 in
set_option maxRecDepth 20000 in
theorem C_X10_isWithin {G : mj_G} {M : mj_M} {a1 : Int32} {a2 : Int32} {a3 : Int32} {x0 : Int32} (h : f_X10_isWithin a1 a2 a3 = x0) : mj_S1 yX10_isWithin cX10_isWithin 3 (some .boolean) 0 G [.inl a1, .inl a2, .inl a3] M (some (.inl x0)) M := by
  refine mj_intro (by decide) (Nat.le_of_ble_eq_true rfl) ?_
  intro κ C hG hR hT
  subst hG
  have C : mj_C κ cX10_isWithin 3 RX10 := C
  show mj_R κ (mj_F κ (fun r M' => r = (some (.inl x0)) ∧ M' = M ∧ mj_bb (some .boolean) (some (.inl x0)))) 0 [some (.inl a1), some (.inl a2), some (.inl a3)] [] M
  unfold f_X10_isWithin at h
  refine mj_iload_n C dX10_isWithin_0 rfl ?_
  refine mj_iload_n C dX10_isWithin_1 rfl ?_
  refine mj_icmp_lt (tgt := 14) C dX10_isWithin_2 (by decide) (fun c1 => ?_) (fun c1 => ?_)
  · replace h := mj_if_t c1 h
    refine mj_iconst (v := 0) C dX10_isWithin_14 (by decide) ?_
    cases h
    exact mj_iret C hT (mj_nb mj_b0) dX10_isWithin_15 ⟨rfl, rfl, mj_b0⟩
  · replace h := mj_if_f c1 h
    refine mj_iload_n C dX10_isWithin_5 rfl ?_
    refine mj_iload_n C dX10_isWithin_6 rfl ?_
    refine mj_icmp_gt (tgt := 14) C dX10_isWithin_7 (by decide) (fun c2 => ?_) (fun c2 => ?_)
    · replace h := mj_if_t c2 h
      refine mj_iconst (v := 0) C dX10_isWithin_14 (by decide) ?_
      cases h
      exact mj_iret C hT (mj_nb mj_b0) dX10_isWithin_15 ⟨rfl, rfl, mj_b0⟩
    · replace h := mj_if_f c2 h
      refine mj_iconst (v := 1) C dX10_isWithin_10 (by decide) ?_
      refine mj_goto (tgt := 15) C dX10_isWithin_11 (by decide) ?_
      cases h
      exact mj_iret C hT (mj_nb mj_b1') dX10_isWithin_15 ⟨rfl, rfl, mj_b1'⟩
def f_X10_isNumber (a1 : Int32) : Int32 := mj_let (f_X10_isWithin a1 0 255) (fun r1 => r1)
set_option maxHeartbeats 4000000 in
set_option maxRecDepth 20000 in
theorem C_X10_isNumber {G : mj_G} {M : mj_M} {a1 : Int32} {x0 : Int32} (h : f_X10_isNumber a1 = x0) : mj_S1 yX10_isNumber cX10_isNumber 1 (some .boolean) 1 G [.inl a1] M (some (.inl x0)) M := by
  refine mj_intro (by decide) (Nat.le_of_ble_eq_true rfl) ?_
  intro κ C hG hR hT
  subst hG
  have C : mj_C κ cX10_isNumber 1 RX10 := C
  show mj_R κ (mj_F κ (fun r M' => r = (some (.inl x0)) ∧ M' = M ∧ mj_bb (some .boolean) (some (.inl x0)))) 0 [some (.inl a1)] [] M
  unfold f_X10_isNumber at h
  refine mj_iload_n C dX10_isNumber_0 rfl ?_
  refine mj_iconst (v := 0) C dX10_isNumber_1 (by decide) ?_
  refine mj_sipush (v := 255) C dX10_isNumber_2 (by decide) ?_
  obtain ⟨r1, er1, h⟩ := mj_let_o h
  refine mj_callS1 (av := [.inl a1, .inl 0, .inl 255]) C lM_X10_289 lS_X10_isWithin rfl (C_X10_isWithin  er1) (mj_rmok hR (by decide) (by decide)) rfl (Nat.le_of_ble_eq_true rfl) dX10_isNumber_5 (fun hb2 => ?_)
  cases h
  exact mj_iret C hT (mj_nb hb2) dX10_isNumber_8 ⟨rfl, rfl, hb2⟩
def f_X10_isCommand (a1 : Int32) : Int32 := mj_let (f_X10_isWithin a1 0 9999) (fun r1 => r1)
set_option maxHeartbeats 4000000 in
set_option maxRecDepth 20000 in
theorem C_X10_isCommand {G : mj_G} {M : mj_M} {a1 : Int32} {x0 : Int32} (h : f_X10_isCommand a1 = x0) : mj_S1 yX10_isCommand cX10_isCommand 1 (some .boolean) 1 G [.inl a1] M (some (.inl x0)) M := by
  refine mj_intro (by decide) (Nat.le_of_ble_eq_true rfl) ?_
  intro κ C hG hR hT
  subst hG
  have C : mj_C κ cX10_isCommand 1 RX10 := C
  show mj_R κ (mj_F κ (fun r M' => r = (some (.inl x0)) ∧ M' = M ∧ mj_bb (some .boolean) (some (.inl x0)))) 0 [some (.inl a1)] [] M
  unfold f_X10_isCommand at h
  refine mj_iload_n C dX10_isCommand_0 rfl ?_
  refine mj_iconst (v := 0) C dX10_isCommand_1 (by decide) ?_
  refine mj_sipush (v := 9999) C dX10_isCommand_2 (by decide) ?_
  obtain ⟨r1, er1, h⟩ := mj_let_o h
  refine mj_callS1 (av := [.inl a1, .inl 0, .inl 9999]) C lM_X10_289 lS_X10_isWithin rfl (C_X10_isWithin  er1) (mj_rmok hR (by decide) (by decide)) rfl (Nat.le_of_ble_eq_true rfl) dX10_isCommand_5 (fun hb2 => ?_)
  cases h
  exact mj_iret C hT (mj_nb hb2) dX10_isCommand_8 ⟨rfl, rfl, hb2⟩
def f_X7_add (b : Nat) (a1 : Int32) (a2 : Int32) (a3 : Int32) (m : mj_m) : Option (mj_m) := if m b 4 < 20 then (mj_chk (mj_ok (m b 4) 20) (mj_let (mj_wrs m (b + 1) (mj_cl (m b 4)) a1) (fun m3 => mj_chk (mj_ok (m3 b 4) 20) (mj_let (mj_wrs m3 (b + 2) (mj_cl (m3 b 4)) a2) (fun m5 => mj_chk (mj_ok (m5 b 4) 20) (mj_let (mj_wrs m5 (b + 3) (mj_cl (m5 b 4)) a3) (fun m7 => mj_chk (mj_ok (m7 b 4) 20) (mj_let (mj_wrs m7 (b + 4) (mj_cl (m7 b 4)) 0) (fun m9 => mj_let (mj_wrs m9 b 4 ((m9 b 4) + 1)) (fun m10 => some m10)))))))))) else (some m)
set_option maxHeartbeats 4000000 in
set_option maxRecDepth 20000 in
theorem C_X7_add {G : mj_G} {β : Nat} {M : mj_M} {b : Nat} {a1 : Int32} {a2 : Int32} {a3 : Int32} {m : mj_m} {m0 : mj_m} (hb : mj_isRow G β b) (h : f_X7_add b a1 a2 a3 m = some m0) : mj_S1 yX7_add cX7_add 4 none 0 G [mj_r (β, b), .inl a1, .inl a2, .inl a3] (va_up M β m) none (va_up M β m0) := by
  refine mj_intro (by decide) (Nat.le_of_ble_eq_true rfl) ?_
  intro κ C hG hR hT
  subst hG
  have C : mj_C κ cX7_add 4 RX7 := C
  show mj_R κ (mj_F κ (fun r M' => r = none ∧ M' = (va_up M β m0) ∧ mj_bb none none)) 0 [some (mj_r (β, b)), some (.inl a1), some (.inl a2), some (.inl a3)] [] (va_up M β m)
  unfold f_X7_add at h
  refine mj_aload_n C dX7_add_0 rfl ?_
  refine mj_bget C lF_X7_24 hb.1 rfl dX7_add_1 ?_
  refine mj_bipush (v := 20) C dX7_add_4 (by decide) ?_
  refine mj_icmp_lt (tgt := 10) C dX7_add_6 (by decide) (fun c1 => ?_) (fun c1 => ?_)
  · replace h := mj_if_t c1 h
    refine mj_aload_n C dX7_add_10 rfl ?_
    refine mj_getr (r := (β, (b + 1))) C lF_X7_11 hb.1 rfl dX7_add_11 ?_
    refine mj_aload_n C dX7_add_14 rfl ?_
    refine mj_bget C lF_X7_24 hb.1 rfl dX7_add_15 ?_
    refine mj_iload_n C dX7_add_18 rfl ?_
    obtain ⟨k2, h⟩ := mj_chk_o h
    obtain ⟨m3, hm3, h⟩ := mj_let_o h
    refine mj_bast C hb.2.1 k2 rfl dX7_add_19 hm3 ?_
    refine mj_aload_n C dX7_add_20 rfl ?_
    refine mj_getr (r := (β, (b + 2))) C lF_X7_15 hb.1 rfl dX7_add_21 ?_
    refine mj_aload_n C dX7_add_24 rfl ?_
    refine mj_bget C lF_X7_24 hb.1 rfl dX7_add_25 ?_
    refine mj_iload_n C dX7_add_28 rfl ?_
    obtain ⟨k4, h⟩ := mj_chk_o h
    obtain ⟨m5, hm5, h⟩ := mj_let_o h
    refine mj_bast C hb.2.2.1 k4 rfl dX7_add_29 hm5 ?_
    refine mj_aload_n C dX7_add_30 rfl ?_
    refine mj_getr (r := (β, (b + 3))) C lF_X7_18 hb.1 rfl dX7_add_31 ?_
    refine mj_aload_n C dX7_add_34 rfl ?_
    refine mj_bget C lF_X7_24 hb.1 rfl dX7_add_35 ?_
    refine mj_iload_n C dX7_add_38 rfl ?_
    obtain ⟨k6, h⟩ := mj_chk_o h
    obtain ⟨m7, hm7, h⟩ := mj_let_o h
    refine mj_bast C hb.2.2.2.1 k6 rfl dX7_add_39 hm7 ?_
    refine mj_aload_n C dX7_add_40 rfl ?_
    refine mj_getr (r := (β, (b + 4))) C lF_X7_21 hb.1 rfl dX7_add_41 ?_
    refine mj_aload_n C dX7_add_44 rfl ?_
    refine mj_bget C lF_X7_24 hb.1 rfl dX7_add_45 ?_
    refine mj_iconst (v := 0) C dX7_add_48 (by decide) ?_
    obtain ⟨k8, h⟩ := mj_chk_o h
    obtain ⟨m9, hm9, h⟩ := mj_let_o h
    refine mj_bast C hb.2.2.2.2 k8 rfl dX7_add_49 hm9 ?_
    refine mj_aload_n C dX7_add_50 rfl ?_
    refine mj_dup C dX7_add_51 ?_
    refine mj_bget C lF_X7_24 hb.1 rfl dX7_add_52 ?_
    refine mj_iconst (v := 1) C dX7_add_55 (by decide) ?_
    refine mj_iadd C dX7_add_56 ?_
    obtain ⟨m10, hm10, h⟩ := mj_let_o h
    refine mj_bput C lF_X7_24 fP_8_4 (vp_nar_int _) rfl hb.1 rfl dX7_add_57 hm10 ?_
    cases h
    exact mj_vret C hT dX7_add_60 ⟨rfl, rfl, mj_bv _⟩
  · replace h := mj_if_f c1 h
    cases h
    exact mj_vret C hT dX7_add_9 ⟨rfl, rfl, mj_bv _⟩
def f_X7_removeFirst (b : Nat) (a1 : Int32) (m : mj_m) : Option (mj_m) := if a1 ≤ 0 then (some m) else (if a1 ≤ m b 4 then (mj_let (mj_wrs m b 4 ((m b 4) - a1)) (fun m3 => mj_chk (mj_cok a1 0 (m3 b 4) 20 20) (mj_let (mj_cpw m3 (b + 1) (b + 1) a1 0 (m3 b 4)) (fun m5 => mj_chk (mj_cok a1 0 (m5 b 4) 20 20) (mj_let (mj_cpw m5 (b + 2) (b + 2) a1 0 (m5 b 4)) (fun m7 => mj_chk (mj_cok a1 0 (m7 b 4) 20 20) (mj_let (mj_cpw m7 (b + 3) (b + 3) a1 0 (m7 b 4)) (fun m9 => mj_chk (mj_cok a1 0 (m9 b 4) 20 20) (mj_let (mj_cpw m9 (b + 4) (b + 4) a1 0 (m9 b 4)) (fun m11 => some m11)))))))))) else (some m))
set_option maxHeartbeats 4000000 in
set_option maxRecDepth 20000 in
theorem C_X7_removeFirst {G : mj_G} {β : Nat} {M : mj_M} {b : Nat} {a1 : Int32} {m : mj_m} {m0 : mj_m} (hb : mj_isRow G β b) (h : f_X7_removeFirst b a1 m = some m0) : mj_S1 yX7_removeFirst cX7_removeFirst 2 none 1 G [mj_r (β, b), .inl a1] (va_up M β m) none (va_up M β m0) := by
  refine mj_intro (by decide) (Nat.le_of_ble_eq_true rfl) ?_
  intro κ C hG hR hT
  subst hG
  have C : mj_C κ cX7_removeFirst 2 RX7 := C
  show mj_R κ (mj_F κ (fun r M' => r = none ∧ M' = (va_up M β m0) ∧ mj_bb none none)) 0 [some (mj_r (β, b)), some (.inl a1)] [] (va_up M β m)
  unfold f_X7_removeFirst at h
  refine mj_iload_n C dX7_removeFirst_0 rfl ?_
  refine mj_if_le (tgt := 12) C dX7_removeFirst_1 (by decide) (fun c1 => ?_) (fun c1 => ?_)
  · replace h := mj_if_t c1 h
    cases h
    exact mj_vret C hT dX7_removeFirst_12 ⟨rfl, rfl, mj_bv _⟩
  · replace h := mj_if_f c1 h
    refine mj_iload_n C dX7_removeFirst_4 rfl ?_
    refine mj_aload_n C dX7_removeFirst_5 rfl ?_
    refine mj_bget C lF_X7_24 hb.1 rfl dX7_removeFirst_6 ?_
    refine mj_icmp_le (tgt := 13) C dX7_removeFirst_9 (by decide) (fun c2 => ?_) (fun c2 => ?_)
    · replace h := mj_if_t c2 h
      refine mj_aload_n C dX7_removeFirst_13 rfl ?_
      refine mj_dup C dX7_removeFirst_14 ?_
      refine mj_bget C lF_X7_24 hb.1 rfl dX7_removeFirst_15 ?_
      refine mj_iload_n C dX7_removeFirst_18 rfl ?_
      refine mj_isub C dX7_removeFirst_19 ?_
      obtain ⟨m3, hm3, h⟩ := mj_let_o h
      refine mj_bput C lF_X7_24 fP_8_4 (vp_nar_int _) rfl hb.1 rfl dX7_removeFirst_20 hm3 ?_
      refine mj_aload_n C dX7_removeFirst_23 rfl ?_
      refine mj_getr (r := (β, (b + 1))) C lF_X7_11 hb.1 rfl dX7_removeFirst_24 ?_
      refine mj_iload_n C dX7_removeFirst_27 rfl ?_
      refine mj_aload_n C dX7_removeFirst_28 rfl ?_
      refine mj_getr (r := (β, (b + 1))) C lF_X7_11 hb.1 rfl dX7_removeFirst_29 ?_
      refine mj_iconst (v := 0) C dX7_removeFirst_32 (by decide) ?_
      refine mj_aload_n C dX7_removeFirst_33 rfl ?_
      refine mj_bget C lF_X7_24 hb.1 rfl dX7_removeFirst_34 ?_
      obtain ⟨k4, h⟩ := mj_chk_o h
      obtain ⟨m5, hm5, h⟩ := mj_let_o h
      refine mj_bcopy C lM_X7_28 rfl hb.2.1 hb.2.1 k4 (mj_rmc hR (by decide)) (Nat.le_of_ble_eq_true rfl) dX7_removeFirst_37 hm5 ?_
      refine mj_aload_n C dX7_removeFirst_40 rfl ?_
      refine mj_getr (r := (β, (b + 2))) C lF_X7_15 hb.1 rfl dX7_removeFirst_41 ?_
      refine mj_iload_n C dX7_removeFirst_44 rfl ?_
      refine mj_aload_n C dX7_removeFirst_45 rfl ?_
      refine mj_getr (r := (β, (b + 2))) C lF_X7_15 hb.1 rfl dX7_removeFirst_46 ?_
      refine mj_iconst (v := 0) C dX7_removeFirst_49 (by decide) ?_
      refine mj_aload_n C dX7_removeFirst_50 rfl ?_
      refine mj_bget C lF_X7_24 hb.1 rfl dX7_removeFirst_51 ?_
      obtain ⟨k6, h⟩ := mj_chk_o h
      obtain ⟨m7, hm7, h⟩ := mj_let_o h
      refine mj_bcopy C lM_X7_28 rfl hb.2.2.1 hb.2.2.1 k6 (mj_rmc hR (by decide)) (Nat.le_of_ble_eq_true rfl) dX7_removeFirst_54 hm7 ?_
      refine mj_aload_n C dX7_removeFirst_57 rfl ?_
      refine mj_getr (r := (β, (b + 3))) C lF_X7_18 hb.1 rfl dX7_removeFirst_58 ?_
      refine mj_iload_n C dX7_removeFirst_61 rfl ?_
      refine mj_aload_n C dX7_removeFirst_62 rfl ?_
      refine mj_getr (r := (β, (b + 3))) C lF_X7_18 hb.1 rfl dX7_removeFirst_63 ?_
      refine mj_iconst (v := 0) C dX7_removeFirst_66 (by decide) ?_
      refine mj_aload_n C dX7_removeFirst_67 rfl ?_
      refine mj_bget C lF_X7_24 hb.1 rfl dX7_removeFirst_68 ?_
      obtain ⟨k8, h⟩ := mj_chk_o h
      obtain ⟨m9, hm9, h⟩ := mj_let_o h
      refine mj_bcopy C lM_X7_28 rfl hb.2.2.2.1 hb.2.2.2.1 k8 (mj_rmc hR (by decide)) (Nat.le_of_ble_eq_true rfl) dX7_removeFirst_71 hm9 ?_
      refine mj_aload_n C dX7_removeFirst_74 rfl ?_
      refine mj_getr (r := (β, (b + 4))) C lF_X7_21 hb.1 rfl dX7_removeFirst_75 ?_
      refine mj_iload_n C dX7_removeFirst_78 rfl ?_
      refine mj_aload_n C dX7_removeFirst_79 rfl ?_
      refine mj_getr (r := (β, (b + 4))) C lF_X7_21 hb.1 rfl dX7_removeFirst_80 ?_
      refine mj_iconst (v := 0) C dX7_removeFirst_83 (by decide) ?_
      refine mj_aload_n C dX7_removeFirst_84 rfl ?_
      refine mj_bget C lF_X7_24 hb.1 rfl dX7_removeFirst_85 ?_
      obtain ⟨k10, h⟩ := mj_chk_o h
      obtain ⟨m11, hm11, h⟩ := mj_let_o h
      refine mj_bcopy C lM_X7_28 rfl hb.2.2.2.2 hb.2.2.2.2 k10 (mj_rmc hR (by decide)) (Nat.le_of_ble_eq_true rfl) dX7_removeFirst_88 hm11 ?_
      cases h
      exact mj_vret C hT dX7_removeFirst_91 ⟨rfl, rfl, mj_bv _⟩
    · replace h := mj_if_f c2 h
      cases h
      exact mj_vret C hT dX7_removeFirst_12 ⟨rfl, rfl, mj_bv _⟩
def f_X7_markAll_L2 (b : Nat) : Nat → Int32 → mj_m → Option (mj_m)
  | 0, _, _ => none
  | n + 1, l1, m => if m b 4 ≤ l1 then (some m) else (mj_chk (mj_ok l1 20) (mj_let (mj_wrs m (b + 4) (mj_cl l1) 1) (fun m3 => mj_let (l1 + 1) (fun x4 => f_X7_markAll_L2 b n x4 m3))))
set_option maxHeartbeats 4000000 in
set_option maxRecDepth 20000 in
theorem C_X7_markAll_L2 {κ : mj_K} {Q : State → Prop} {β : Nat} {M : mj_M} {b : Nat} (C : mj_C κ cX7_markAll 2 RX7) (hb : mj_isRow (mj_g κ) β b) (hR : mj_dp κ 0) : ∀ (n : Nat) (l1 : Int32) (m : mj_m) (mo : mj_m), f_X7_markAll_L2 b n l1 m = some mo → (mj_R κ Q 23 [none, none] [] (va_up M β mo)) → mj_R κ Q 2 [some (mj_r (β, b)), some (.inl l1)] [] (va_up M β m) := by
  intro n
  induction n with
  | zero =>
    intro l1 m mo h
    cases h
  | succ n ih =>
    intro l1 m mo h hx23
    rw [f_X7_markAll_L2] at h
    refine mj_iload_n C dX7_markAll_2 rfl ?_
    refine mj_aload_n C dX7_markAll_3 rfl ?_
    refine mj_bget C lF_X7_24 hb.1 rfl dX7_markAll_4 ?_
    refine mj_icmp_ge (tgt := 23) C dX7_markAll_7 (by decide) (fun c1 => ?_) (fun c1 => ?_)
    · replace h := mj_if_t c1 h
      cases h
      refine mj_sub ?_ (hx23)
      exact trivial
    · replace h := mj_if_f c1 h
      refine mj_aload_n C dX7_markAll_10 rfl ?_
      refine mj_getr (r := (β, (b + 4))) C lF_X7_21 hb.1 rfl dX7_markAll_11 ?_
      refine mj_iload_n C dX7_markAll_14 rfl ?_
      refine mj_iconst (v := 1) C dX7_markAll_15 (by decide) ?_
      obtain ⟨k2, h⟩ := mj_chk_o h
      obtain ⟨m3, hm3, h⟩ := mj_let_o h
      refine mj_bast C hb.2.2.2.2 k2 rfl dX7_markAll_16 hm3 ?_
      obtain ⟨x4, hx4, h⟩ := mj_let_o h
      refine mj_iinc (L2 := [some (mj_r (β, b)), some (.inl x4)]) C dX7_markAll_17 rfl hx4 rfl ?_
      refine mj_goto (tgt := 2) C dX7_markAll_20 (by decide) ?_
      refine mj_sub (L' := [some (mj_r (β, b)), some (.inl x4)]) ⟨rfl, ⟨rfl, trivial⟩⟩ ?_
      exact ih _ _ _ h hx23
def f_X7_markAll (b : Nat) (m : mj_m) : Option (mj_m) := mj_b1 (f_X7_markAll_L2 b mj_fu 0 m) (fun m5 => some m5)
set_option maxHeartbeats 4000000 in
set_option maxRecDepth 20000 in
theorem C_X7_markAll {G : mj_G} {β : Nat} {M : mj_M} {b : Nat} {m : mj_m} {m0 : mj_m} (hb : mj_isRow G β b) (h : f_X7_markAll b m = some m0) : mj_S1 yX7_markAll cX7_markAll 2 none 0 G [mj_r (β, b)] (va_up M β m) none (va_up M β m0) := by
  refine mj_intro (by decide) (Nat.le_of_ble_eq_true rfl) ?_
  intro κ C hG hR hT
  subst hG
  have C : mj_C κ cX7_markAll 2 RX7 := C
  show mj_R κ (mj_F κ (fun r M' => r = none ∧ M' = (va_up M β m0) ∧ mj_bb none none)) 0 [some (mj_r (β, b)), none] [] (va_up M β m)
  unfold f_X7_markAll at h
  refine mj_iconst (v := 0) C dX7_markAll_0 (by decide) ?_
  refine mj_istore_n (L2 := [some (mj_r (β, b)), some (.inl 0)]) C dX7_markAll_1 (Nat.le_of_ble_eq_true rfl) rfl ?_
  obtain ⟨m5, hl6, h⟩ := mj_b1_o h
  refine mj_sub (L' := [some (mj_r (β, b)), some (.inl 0)]) ⟨rfl, ⟨rfl, trivial⟩⟩ ?_
  refine C_X7_markAll_L2 C hb hR _ _ _ _ hl6 ?_
  cases h
  exact mj_vret C hT dX7_markAll_23 ⟨rfl, rfl, mj_bv _⟩
def f_X7_marked_L4 (b : Nat) : Nat → Int32 → Int32 → mj_m → Option (Int32)
  | 0, _, _, _ => none
  | n + 1, l1, l2, m => if m b 4 ≤ l2 then (some l1) else (mj_chk (mj_ok l2 20) (mj_let (l1 + (m (b + 4) (mj_cl l2))) (fun x3 => mj_let (l2 + 1) (fun x4 => f_X7_marked_L4 b n x3 x4 m))))
set_option maxHeartbeats 4000000 in
set_option maxRecDepth 20000 in
theorem C_X7_marked_L4 {κ : mj_K} {Q : State → Prop} {β : Nat} {M : mj_M} {b : Nat} (C : mj_C κ cX7_marked 3 RX7) (hb : mj_isRow (mj_g κ) β b) (hR : mj_dp κ 0) : ∀ (n : Nat) (l1 : Int32) (l2 : Int32) (m : mj_m) (o1 : Int32), f_X7_marked_L4 b n l1 l2 m = some o1 → (mj_R κ Q 27 [none, some (.inl o1), none] [] (va_up M β m)) → mj_R κ Q 4 [some (mj_r (β, b)), some (.inl l1), some (.inl l2)] [] (va_up M β m) := by
  intro n
  induction n with
  | zero =>
    intro l1 l2 m o1 h
    cases h
  | succ n ih =>
    intro l1 l2 m o1 h hx27
    rw [f_X7_marked_L4] at h
    refine mj_iload_n C dX7_marked_4 rfl ?_
    refine mj_aload_n C dX7_marked_5 rfl ?_
    refine mj_bget C lF_X7_24 hb.1 rfl dX7_marked_6 ?_
    refine mj_icmp_ge (tgt := 27) C dX7_marked_9 (by decide) (fun c1 => ?_) (fun c1 => ?_)
    · replace h := mj_if_t c1 h
      cases h
      refine mj_sub ?_ (hx27)
      exact ⟨rfl, trivial⟩
    · replace h := mj_if_f c1 h
      refine mj_iload_n C dX7_marked_12 rfl ?_
      refine mj_aload_n C dX7_marked_13 rfl ?_
      refine mj_getr (r := (β, (b + 4))) C lF_X7_21 hb.1 rfl dX7_marked_14 ?_
      refine mj_iload_n C dX7_marked_17 rfl ?_
      obtain ⟨k2, h⟩ := mj_chk_o h
      refine mj_bald C hb.2.2.2.2 k2 rfl dX7_marked_18 ?_
      refine mj_iadd C dX7_marked_19 ?_
      obtain ⟨x3, hx3, h⟩ := mj_let_o h
      refine mj_nm hx3 ?_
      refine mj_istore_n (L2 := [some (mj_r (β, b)), some (.inl x3), some (.inl l2)]) C dX7_marked_20 (Nat.le_of_ble_eq_true rfl) rfl ?_
      obtain ⟨x4, hx4, h⟩ := mj_let_o h
      refine mj_iinc (L2 := [some (mj_r (β, b)), some (.inl x3), some (.inl x4)]) C dX7_marked_21 rfl hx4 rfl ?_
      refine mj_goto (tgt := 4) C dX7_marked_24 (by decide) ?_
      refine mj_sub (L' := [some (mj_r (β, b)), some (.inl x3), some (.inl x4)]) ⟨rfl, ⟨rfl, ⟨rfl, trivial⟩⟩⟩ ?_
      exact ih _ _ _ _ h hx27
def f_X7_marked (b : Nat) (m : mj_m) : Option (Int32) := mj_b1 (f_X7_marked_L4 b mj_fu 0 0 m) (fun x5 => some x5)
set_option maxHeartbeats 4000000 in
set_option maxRecDepth 20000 in
theorem C_X7_marked {G : mj_G} {β : Nat} {M : mj_M} {b : Nat} {m : mj_m} {x0 : Int32} (hb : mj_isRow G β b) (h : f_X7_marked b m = some x0) : mj_S1 yX7_marked cX7_marked 3 (some .int) 0 G [mj_r (β, b)] (va_up M β m) (some (.inl x0)) (va_up M β m) := by
  refine mj_intro (by decide) (Nat.le_of_ble_eq_true rfl) ?_
  intro κ C hG hR hT
  subst hG
  have C : mj_C κ cX7_marked 3 RX7 := C
  show mj_R κ (mj_F κ (fun r M' => r = (some (.inl x0)) ∧ M' = (va_up M β m) ∧ mj_bb (some .int) (some (.inl x0)))) 0 [some (mj_r (β, b)), none, none] [] (va_up M β m)
  unfold f_X7_marked at h
  refine mj_iconst (v := 0) C dX7_marked_0 (by decide) ?_
  refine mj_istore_n (L2 := [some (mj_r (β, b)), some (.inl 0), none]) C dX7_marked_1 (Nat.le_of_ble_eq_true rfl) rfl ?_
  refine mj_iconst (v := 0) C dX7_marked_2 (by decide) ?_
  refine mj_istore_n (L2 := [some (mj_r (β, b)), some (.inl 0), some (.inl 0)]) C dX7_marked_3 (Nat.le_of_ble_eq_true rfl) rfl ?_
  obtain ⟨x5, hl6, h⟩ := mj_b1_o h
  refine mj_sub (L' := [some (mj_r (β, b)), some (.inl 0), some (.inl 0)]) ⟨rfl, ⟨rfl, ⟨rfl, trivial⟩⟩⟩ ?_
  refine C_X7_marked_L4 C hb hR _ _ _ _ _ hl6 ?_
  refine mj_iload_n C dX7_marked_27 rfl ?_
  cases h
  exact mj_iret C hT (vp_nar_int _) dX7_marked_28 ⟨rfl, rfl, mj_bi _⟩
def f_X7_firstMarked_L2 (b : Nat) : Nat → Int32 → mj_m → Option (Nat × Int32)
  | 0, _, _ => none
  | n + 1, l1, m => if m b 4 ≤ l1 then (some (28, 0)) else (mj_chk (mj_ok l1 20) (if m (b + 4) (mj_cl l1) = 1 then (some (20, l1)) else (mj_let (l1 + 1) (fun x4 => f_X7_firstMarked_L2 b n x4 m))))
set_option maxHeartbeats 4000000 in
set_option maxRecDepth 20000 in
theorem C_X7_firstMarked_L2 {κ : mj_K} {Q : State → Prop} {β : Nat} {M : mj_M} {b : Nat} (C : mj_C κ cX7_firstMarked 2 RX7) (hb : mj_isRow (mj_g κ) β b) (hR : mj_dp κ 0) : ∀ (n : Nat) (l1 : Int32) (m : mj_m) (tg : Nat) (o1 : Int32), f_X7_firstMarked_L2 b n l1 m = some (tg, o1) → (tg = 20 → mj_R κ Q 20 [none, some (.inl o1)] [] (va_up M β m)) → (tg = 28 → mj_R κ Q 28 [none, none] [] (va_up M β m)) → mj_R κ Q 2 [some (mj_r (β, b)), some (.inl l1)] [] (va_up M β m) := by
  intro n
  induction n with
  | zero =>
    intro l1 m tg o1 h
    cases h
  | succ n ih =>
    intro l1 m tg o1 h hx20 hx28
    rw [f_X7_firstMarked_L2] at h
    refine mj_iload_n C dX7_firstMarked_2 rfl ?_
    refine mj_aload_n C dX7_firstMarked_3 rfl ?_
    refine mj_bget C lF_X7_24 hb.1 rfl dX7_firstMarked_4 ?_
    refine mj_icmp_ge (tgt := 28) C dX7_firstMarked_7 (by decide) (fun c1 => ?_) (fun c1 => ?_)
    · replace h := mj_if_t c1 h
      cases h
      refine mj_sub ?_ (hx28 rfl)
      exact trivial
    · replace h := mj_if_f c1 h
      refine mj_aload_n C dX7_firstMarked_10 rfl ?_
      refine mj_getr (r := (β, (b + 4))) C lF_X7_21 hb.1 rfl dX7_firstMarked_11 ?_
      refine mj_iload_n C dX7_firstMarked_14 rfl ?_
      obtain ⟨k2, h⟩ := mj_chk_o h
      refine mj_bald C hb.2.2.2.2 k2 rfl dX7_firstMarked_15 ?_
      refine mj_iconst (v := 1) C dX7_firstMarked_16 (by decide) ?_
      refine mj_icmp_ne (tgt := 22) C dX7_firstMarked_17 (by decide) (fun c3 => ?_) (fun c3 => ?_)
      · replace h := mj_if_f c3 h
        obtain ⟨x4, hx4, h⟩ := mj_let_o h
        refine mj_iinc (L2 := [some (mj_r (β, b)), some (.inl x4)]) C dX7_firstMarked_22 rfl hx4 rfl ?_
        refine mj_goto (tgt := 2) C dX7_firstMarked_25 (by decide) ?_
        refine mj_sub (L' := [some (mj_r (β, b)), some (.inl x4)]) ⟨rfl, ⟨rfl, trivial⟩⟩ ?_
        exact ih _ _ _ _ h hx20 hx28
      · replace h := mj_if_t c3 h
        cases h
        refine mj_sub ?_ (hx20 rfl)
        exact ⟨rfl, trivial⟩
def f_X7_firstMarked (b : Nat) (m : mj_m) : Option (Int32) := mj_b2 (f_X7_firstMarked_L2 b mj_fu 0 m) (fun t5 x6 => if t5 = 20 then (some x6) else (some (-1)))
set_option maxHeartbeats 4000000 in
set_option maxRecDepth 20000 in
theorem C_X7_firstMarked {G : mj_G} {β : Nat} {M : mj_M} {b : Nat} {m : mj_m} {x0 : Int32} (hb : mj_isRow G β b) (h : f_X7_firstMarked b m = some x0) : mj_S1 yX7_firstMarked cX7_firstMarked 2 (some .int) 0 G [mj_r (β, b)] (va_up M β m) (some (.inl x0)) (va_up M β m) := by
  refine mj_intro (by decide) (Nat.le_of_ble_eq_true rfl) ?_
  intro κ C hG hR hT
  subst hG
  have C : mj_C κ cX7_firstMarked 2 RX7 := C
  show mj_R κ (mj_F κ (fun r M' => r = (some (.inl x0)) ∧ M' = (va_up M β m) ∧ mj_bb (some .int) (some (.inl x0)))) 0 [some (mj_r (β, b)), none] [] (va_up M β m)
  unfold f_X7_firstMarked at h
  refine mj_iconst (v := 0) C dX7_firstMarked_0 (by decide) ?_
  refine mj_istore_n (L2 := [some (mj_r (β, b)), some (.inl 0)]) C dX7_firstMarked_1 (Nat.le_of_ble_eq_true rfl) rfl ?_
  obtain ⟨t5, x6, hl7, h⟩ := mj_b2_o h
  refine mj_sub (L' := [some (mj_r (β, b)), some (.inl 0)]) ⟨rfl, ⟨rfl, trivial⟩⟩ ?_
  refine C_X7_firstMarked_L2 C hb hR _ _ _ _ _ hl7 (fun te => ?_) (fun te => ?_)
  · subst te
    replace h := mj_if_t rfl h
    refine mj_iload_n C dX7_firstMarked_20 rfl ?_
    cases h
    exact mj_iret C hT (vp_nar_int _) dX7_firstMarked_21 ⟨rfl, rfl, mj_bi _⟩
  · subst te
    replace h := mj_if_f (by decide) h
    refine mj_iconst (v := (-1)) C dX7_firstMarked_28 (by decide) ?_
    cases h
    exact mj_iret C hT (vp_nar_int _) dX7_firstMarked_29 ⟨rfl, rfl, mj_bi _⟩
def f_X7_nearer_L5 (b : Nat) (l1 : Int32) (l2 : Int32) : Nat → Int32 → Int32 → mj_m → Option (Int32)
  | 0, _, _, _ => none
  | n + 1, l3, l4, m => if m b 4 ≤ l4 then (some l3) else (mj_chk (mj_ok l4 20) (mj_let (f_X10_far (m (b + 2) (mj_cl l4)) l1) (fun r3 => if l2 ≤ r3 then (mj_let (l4 + 1) (fun x6 => f_X7_nearer_L5 b l1 l2 n l3 x6 m)) else (mj_let (l3 + 1) (fun x7 => mj_let (l4 + 1) (fun x8 => f_X7_nearer_L5 b l1 l2 n x7 x8 m))))))
set_option maxHeartbeats 4000000 in
set_option maxRecDepth 20000 in
theorem C_X7_nearer_L5 {κ : mj_K} {Q : State → Prop} {β : Nat} {M : mj_M} {b : Nat} {l1 : Int32} {l2 : Int32} (C : mj_C κ cX7_nearer 5 RX7) (hb : mj_isRow (mj_g κ) β b) (hR : mj_dp κ 1) : ∀ (n : Nat) (l3 : Int32) (l4 : Int32) (m : mj_m) (o3 : Int32), f_X7_nearer_L5 b l1 l2 n l3 l4 m = some o3 → (mj_R κ Q 38 [none, none, none, some (.inl o3), none] [] (va_up M β m)) → mj_R κ Q 5 [some (mj_r (β, b)), some (.inl l1), some (.inl l2), some (.inl l3), some (.inl l4)] [] (va_up M β m) := by
  intro n
  induction n with
  | zero =>
    intro l3 l4 m o3 h
    cases h
  | succ n ih =>
    intro l3 l4 m o3 h hx38
    rw [f_X7_nearer_L5] at h
    refine mj_iload C dX7_nearer_5 rfl ?_
    refine mj_aload_n C dX7_nearer_7 rfl ?_
    refine mj_bget C lF_X7_24 hb.1 rfl dX7_nearer_8 ?_
    refine mj_icmp_ge (tgt := 38) C dX7_nearer_11 (by decide) (fun c1 => ?_) (fun c1 => ?_)
    · replace h := mj_if_t c1 h
      cases h
      refine mj_sub ?_ (hx38)
      exact ⟨rfl, trivial⟩
    · replace h := mj_if_f c1 h
      refine mj_aload_n C dX7_nearer_14 rfl ?_
      refine mj_getr (r := (β, (b + 2))) C lF_X7_15 hb.1 rfl dX7_nearer_15 ?_
      refine mj_iload C dX7_nearer_18 rfl ?_
      obtain ⟨k2, h⟩ := mj_chk_o h
      refine mj_bald C hb.2.2.1 k2 rfl dX7_nearer_20 ?_
      refine mj_iload_n C dX7_nearer_21 rfl ?_
      obtain ⟨r3, er3, h⟩ := mj_let_o h
      refine mj_callN1 (av := [.inl (m (b + 2) (mj_cl l4)), .inl l1]) C lN_X7_34 lS_X10_far rfl (C_X10_far  er3) (mj_rmok hR (by decide) (by decide)) rfl (Nat.le_of_ble_eq_true rfl) dX7_nearer_22 (fun hb4 => ?_)
      refine mj_iload_n C dX7_nearer_25 rfl ?_
      refine mj_icmp_ge (tgt := 32) C dX7_nearer_26 (by decide) (fun c5 => ?_) (fun c5 => ?_)
      · replace h := mj_if_t c5 h
        obtain ⟨x6, hx6, h⟩ := mj_let_o h
        refine mj_iinc (L2 := [some (mj_r (β, b)), some (.inl l1), some (.inl l2), some (.inl l3), some (.inl x6)]) C dX7_nearer_32 rfl hx6 rfl ?_
        refine mj_goto (tgt := 5) C dX7_nearer_35 (by decide) ?_
        refine mj_sub (L' := [some (mj_r (β, b)), some (.inl l1), some (.inl l2), some (.inl l3), some (.inl x6)]) ⟨rfl, ⟨rfl, ⟨rfl, ⟨rfl, ⟨rfl, trivial⟩⟩⟩⟩⟩ ?_
        exact ih _ _ _ _ h hx38
      · replace h := mj_if_f c5 h
        obtain ⟨x7, hx7, h⟩ := mj_let_o h
        refine mj_iinc (L2 := [some (mj_r (β, b)), some (.inl l1), some (.inl l2), some (.inl x7), some (.inl l4)]) C dX7_nearer_29 rfl hx7 rfl ?_
        obtain ⟨x8, hx8, h⟩ := mj_let_o h
        refine mj_iinc (L2 := [some (mj_r (β, b)), some (.inl l1), some (.inl l2), some (.inl x7), some (.inl x8)]) C dX7_nearer_32 rfl hx8 rfl ?_
        refine mj_goto (tgt := 5) C dX7_nearer_35 (by decide) ?_
        refine mj_sub (L' := [some (mj_r (β, b)), some (.inl l1), some (.inl l2), some (.inl x7), some (.inl x8)]) ⟨rfl, ⟨rfl, ⟨rfl, ⟨rfl, ⟨rfl, trivial⟩⟩⟩⟩⟩ ?_
        exact ih _ _ _ _ h hx38
def f_X7_nearer (b : Nat) (a1 : Int32) (a2 : Int32) (m : mj_m) : Option (Int32) := mj_b1 (f_X7_nearer_L5 b a1 a2 mj_fu 0 0 m) (fun x9 => some x9)
set_option maxHeartbeats 4000000 in
set_option maxRecDepth 20000 in
theorem C_X7_nearer {G : mj_G} {β : Nat} {M : mj_M} {b : Nat} {a1 : Int32} {a2 : Int32} {m : mj_m} {x0 : Int32} (hb : mj_isRow G β b) (h : f_X7_nearer b a1 a2 m = some x0) : mj_S1 yX7_nearer cX7_nearer 5 (some .int) 1 G [mj_r (β, b), .inl a1, .inl a2] (va_up M β m) (some (.inl x0)) (va_up M β m) := by
  refine mj_intro (by decide) (Nat.le_of_ble_eq_true rfl) ?_
  intro κ C hG hR hT
  subst hG
  have C : mj_C κ cX7_nearer 5 RX7 := C
  show mj_R κ (mj_F κ (fun r M' => r = (some (.inl x0)) ∧ M' = (va_up M β m) ∧ mj_bb (some .int) (some (.inl x0)))) 0 [some (mj_r (β, b)), some (.inl a1), some (.inl a2), none, none] [] (va_up M β m)
  unfold f_X7_nearer at h
  refine mj_iconst (v := 0) C dX7_nearer_0 (by decide) ?_
  refine mj_istore_n (L2 := [some (mj_r (β, b)), some (.inl a1), some (.inl a2), some (.inl 0), none]) C dX7_nearer_1 (Nat.le_of_ble_eq_true rfl) rfl ?_
  refine mj_iconst (v := 0) C dX7_nearer_2 (by decide) ?_
  refine mj_istore (L2 := [some (mj_r (β, b)), some (.inl a1), some (.inl a2), some (.inl 0), some (.inl 0)]) C dX7_nearer_3 (Nat.le_of_ble_eq_true rfl) rfl ?_
  obtain ⟨x9, hl10, h⟩ := mj_b1_o h
  refine mj_sub (L' := [some (mj_r (β, b)), some (.inl a1), some (.inl a2), some (.inl 0), some (.inl 0)]) ⟨rfl, ⟨rfl, ⟨rfl, ⟨rfl, ⟨rfl, trivial⟩⟩⟩⟩⟩ ?_
  refine C_X7_nearer_L5 C hb hR _ _ _ _ _ hl10 ?_
  refine mj_iload_n C dX7_nearer_38 rfl ?_
  cases h
  exact mj_iret C hT (vp_nar_int _) dX7_nearer_39 ⟨rfl, rfl, mj_bi _⟩
def f_X7_copyFrom (b : Nat) (b' : Nat) (o : mj_m) (m : mj_m) : Option (mj_m) := mj_let (mj_wrs m b 4 (o b' 4)) (fun m1 => mj_chk (mj_cok 0 0 20 20 20) (mj_let (mj_cpo o m1 (b' + 1) (b + 1) 0 0 20) (fun m3 => mj_chk (mj_cok 0 0 20 20 20) (mj_let (mj_cpo o m3 (b' + 2) (b + 2) 0 0 20) (fun m5 => mj_chk (mj_cok 0 0 20 20 20) (mj_let (mj_cpo o m5 (b' + 3) (b + 3) 0 0 20) (fun m7 => mj_chk (mj_cok 0 0 20 20 20) (mj_let (mj_cpo o m7 (b' + 4) (b + 4) 0 0 20) (fun m9 => some m9)))))))))
set_option maxHeartbeats 4000000 in
set_option maxRecDepth 20000 in
theorem C_X7_copyFrom {G : mj_G} {β : Nat} {γ : Nat} {o : mj_m} {M : mj_M} {b : Nat} {b' : Nat} {m : mj_m} {m0 : mj_m} (hb : mj_isRow G β b) (hO : mj_isRow G γ b') (hne : γ ≠ β) (ho : M γ = o) (h : f_X7_copyFrom b b' o m = some m0) : mj_S1 yX7_copyFrom cX7_copyFrom 2 none 1 G [mj_r (β, b), mj_r (γ, b')] (va_up M β m) none (va_up M β m0) := by
  refine mj_intro (by decide) (Nat.le_of_ble_eq_true rfl) ?_
  intro κ C hG hR hT
  subst hG
  have C : mj_C κ cX7_copyFrom 2 RX7 := C
  show mj_R κ (mj_F κ (fun r M' => r = none ∧ M' = (va_up M β m0) ∧ mj_bb none none)) 0 [some (mj_r (β, b)), some (mj_r (γ, b'))] [] (va_up M β m)
  unfold f_X7_copyFrom at h
  refine mj_aload_n C dX7_copyFrom_0 rfl ?_
  refine mj_aload_n C dX7_copyFrom_1 rfl ?_
  refine mj_oget C hne ho lF_X7_24 hO.1 rfl dX7_copyFrom_2 ?_
  obtain ⟨m1, hm1, h⟩ := mj_let_o h
  refine mj_bput C lF_X7_24 fP_8_4 (vp_nar_int _) rfl hb.1 rfl dX7_copyFrom_5 hm1 ?_
  refine mj_aload_n C dX7_copyFrom_8 rfl ?_
  refine mj_getr (r := (γ, (b' + 1))) C lF_X7_11 hO.1 rfl dX7_copyFrom_9 ?_
  refine mj_iconst (v := 0) C dX7_copyFrom_12 (by decide) ?_
  refine mj_aload_n C dX7_copyFrom_13 rfl ?_
  refine mj_getr (r := (β, (b + 1))) C lF_X7_11 hb.1 rfl dX7_copyFrom_14 ?_
  refine mj_iconst (v := 0) C dX7_copyFrom_17 (by decide) ?_
  refine mj_bipush (v := 20) C dX7_copyFrom_18 (by decide) ?_
  obtain ⟨k2, h⟩ := mj_chk_o h
  obtain ⟨m3, hm3, h⟩ := mj_let_o h
  refine mj_ocopy C hne ho lM_X7_28 rfl hO.2.1 hb.2.1 k2 (mj_rmc hR (by decide)) (Nat.le_of_ble_eq_true rfl) dX7_copyFrom_20 hm3 ?_
  refine mj_aload_n C dX7_copyFrom_23 rfl ?_
  refine mj_getr (r := (γ, (b' + 2))) C lF_X7_15 hO.1 rfl dX7_copyFrom_24 ?_
  refine mj_iconst (v := 0) C dX7_copyFrom_27 (by decide) ?_
  refine mj_aload_n C dX7_copyFrom_28 rfl ?_
  refine mj_getr (r := (β, (b + 2))) C lF_X7_15 hb.1 rfl dX7_copyFrom_29 ?_
  refine mj_iconst (v := 0) C dX7_copyFrom_32 (by decide) ?_
  refine mj_bipush (v := 20) C dX7_copyFrom_33 (by decide) ?_
  obtain ⟨k4, h⟩ := mj_chk_o h
  obtain ⟨m5, hm5, h⟩ := mj_let_o h
  refine mj_ocopy C hne ho lM_X7_28 rfl hO.2.2.1 hb.2.2.1 k4 (mj_rmc hR (by decide)) (Nat.le_of_ble_eq_true rfl) dX7_copyFrom_35 hm5 ?_
  refine mj_aload_n C dX7_copyFrom_38 rfl ?_
  refine mj_getr (r := (γ, (b' + 3))) C lF_X7_18 hO.1 rfl dX7_copyFrom_39 ?_
  refine mj_iconst (v := 0) C dX7_copyFrom_42 (by decide) ?_
  refine mj_aload_n C dX7_copyFrom_43 rfl ?_
  refine mj_getr (r := (β, (b + 3))) C lF_X7_18 hb.1 rfl dX7_copyFrom_44 ?_
  refine mj_iconst (v := 0) C dX7_copyFrom_47 (by decide) ?_
  refine mj_bipush (v := 20) C dX7_copyFrom_48 (by decide) ?_
  obtain ⟨k6, h⟩ := mj_chk_o h
  obtain ⟨m7, hm7, h⟩ := mj_let_o h
  refine mj_ocopy C hne ho lM_X7_28 rfl hO.2.2.2.1 hb.2.2.2.1 k6 (mj_rmc hR (by decide)) (Nat.le_of_ble_eq_true rfl) dX7_copyFrom_50 hm7 ?_
  refine mj_aload_n C dX7_copyFrom_53 rfl ?_
  refine mj_getr (r := (γ, (b' + 4))) C lF_X7_21 hO.1 rfl dX7_copyFrom_54 ?_
  refine mj_iconst (v := 0) C dX7_copyFrom_57 (by decide) ?_
  refine mj_aload_n C dX7_copyFrom_58 rfl ?_
  refine mj_getr (r := (β, (b + 4))) C lF_X7_21 hb.1 rfl dX7_copyFrom_59 ?_
  refine mj_iconst (v := 0) C dX7_copyFrom_62 (by decide) ?_
  refine mj_bipush (v := 20) C dX7_copyFrom_63 (by decide) ?_
  obtain ⟨k8, h⟩ := mj_chk_o h
  obtain ⟨m9, hm9, h⟩ := mj_let_o h
  refine mj_ocopy C hne ho lM_X7_28 rfl hO.2.2.2.2 hb.2.2.2.2 k8 (mj_rmc hR (by decide)) (Nat.le_of_ble_eq_true rfl) dX7_copyFrom_65 hm9 ?_
  cases h
  exact mj_vret C hT dX7_copyFrom_68 ⟨rfl, rfl, mj_bv _⟩
