def f_X6_isGood (a1 : Int32) (a2 : Int32) (a3 : Int32) : Int32 := if a1 = 2 then (if 1 < a2 then (0) else (1)) else (if 2 ≤ a1 then (0) else (mj_let (f_X10_isCommand ((256 * a2) + a3)) (fun r3 => if r3 = 0 then (0) else (1))))
set_option maxHeartbeats 4000000 in
set_option maxRecDepth 20000 in
theorem C_X6_isGood {G : mj_G} {M : mj_M} {a1 : Int32} {a2 : Int32} {a3 : Int32} {x0 : Int32} (h : f_X6_isGood a1 a2 a3 = x0) : mj_S1 yX6_isGood cX6_isGood 3 (some .boolean) 2 G [.inl a1, .inl a2, .inl a3] M (some (.inl x0)) M := by
  refine mj_intro (by decide) (Nat.le_of_ble_eq_true rfl) ?_
  intro κ C hG hR hT
  subst hG
  have C : mj_C κ cX6_isGood 3 RX6 := C
  show mj_R κ (mj_F κ (fun r M' => r = (some (.inl x0)) ∧ M' = M ∧ mj_bb (some .boolean) (some (.inl x0)))) 0 [some (.inl a1), some (.inl a2), some (.inl a3)] [] M
  unfold f_X6_isGood at h
  refine mj_iload_n C dX6_isGood_0 rfl ?_
  refine mj_iconst (v := 2) C dX6_isGood_1 (by decide) ?_
  refine mj_icmp_ne (tgt := 16) C dX6_isGood_2 (by decide) (fun c1 => ?_) (fun c1 => ?_)
  · replace h := mj_if_f c1 h
    refine mj_iload_n C dX6_isGood_16 rfl ?_
    refine mj_iconst (v := 2) C dX6_isGood_17 (by decide) ?_
    refine mj_icmp_ge (tgt := 38) C dX6_isGood_18 (by decide) (fun c2 => ?_) (fun c2 => ?_)
    · replace h := mj_if_t c2 h
      refine mj_iconst (v := 0) C dX6_isGood_38 (by decide) ?_
      cases h
      exact mj_iret C hT (mj_nb mj_b0) dX6_isGood_39 ⟨rfl, rfl, mj_b0⟩
    · replace h := mj_if_f c2 h
      refine mj_sipush (v := 256) C dX6_isGood_21 (by decide) ?_
      refine mj_iload_n C dX6_isGood_24 rfl ?_
      refine mj_imul C dX6_isGood_25 ?_
      refine mj_iload_n C dX6_isGood_26 rfl ?_
      refine mj_iadd C dX6_isGood_27 ?_
      obtain ⟨r3, er3, h⟩ := mj_let_o h
      refine mj_callN1 (av := [.inl ((256 * a2) + a3)]) C lN_X6_85 lS_X10_isCommand rfl (C_X10_isCommand  er3) (mj_rmok hR (by decide) (by decide)) rfl (Nat.le_of_ble_eq_true rfl) dX6_isGood_28 (fun hb4 => ?_)
      refine mj_if_eq (tgt := 38) C dX6_isGood_31 (by decide) (fun c5 => ?_) (fun c5 => ?_)
      · replace h := mj_if_t c5 h
        refine mj_iconst (v := 0) C dX6_isGood_38 (by decide) ?_
        cases h
        exact mj_iret C hT (mj_nb mj_b0) dX6_isGood_39 ⟨rfl, rfl, mj_b0⟩
      · replace h := mj_if_f c5 h
        refine mj_iconst (v := 1) C dX6_isGood_34 (by decide) ?_
        refine mj_goto (tgt := 39) C dX6_isGood_35 (by decide) ?_
        cases h
        exact mj_iret C hT (mj_nb mj_b1') dX6_isGood_39 ⟨rfl, rfl, mj_b1'⟩
  · replace h := mj_if_t c1 h
    refine mj_iload_n C dX6_isGood_5 rfl ?_
    refine mj_iconst (v := 1) C dX6_isGood_6 (by decide) ?_
    refine mj_icmp_gt (tgt := 14) C dX6_isGood_7 (by decide) (fun c6 => ?_) (fun c6 => ?_)
    · replace h := mj_if_t c6 h
      refine mj_iconst (v := 0) C dX6_isGood_14 (by decide) ?_
      cases h
      exact mj_iret C hT (mj_nb mj_b0) dX6_isGood_15 ⟨rfl, rfl, mj_b0⟩
    · replace h := mj_if_f c6 h
      refine mj_iconst (v := 1) C dX6_isGood_10 (by decide) ?_
      refine mj_goto (tgt := 15) C dX6_isGood_11 (by decide) ?_
      cases h
      exact mj_iret C hT (mj_nb mj_b1') dX6_isGood_15 ⟨rfl, rfl, mj_b1'⟩
def f_X6_zoneOf (a1 : Int32) (m : mj_m) : Int32 := mj_let ((m 2 0) / 2) (fun x1 => mj_let (f_X10_far a1 (m 9 2)) (fun r2 => if r2 = 0 then (0) else (if x1 ≤ r2 then (if r2 < 256 - x1 then (3) else (2)) else (1))))
set_option maxHeartbeats 4000000 in
set_option maxRecDepth 20000 in
theorem C_X6_zoneOf {G : mj_G} {β : Nat} {M : mj_M} {a1 : Int32} {m : mj_m} {x0 : Int32} (hB : mj_isL G β) (h : f_X6_zoneOf a1 m = x0) : mj_S1 yX6_zoneOf cX6_zoneOf 4 (some .int) 1 G [mj_r (β, 9), .inl a1] (va_up M β m) (some (.inl x0)) (va_up M β m) := by
  refine mj_intro (by decide) (Nat.le_of_ble_eq_true rfl) ?_
  intro κ C hG hR hT
  subst hG
  have C : mj_C κ cX6_zoneOf 4 RX6 := C
  show mj_R κ (mj_F κ (fun r M' => r = (some (.inl x0)) ∧ M' = (va_up M β m) ∧ mj_bb (some .int) (some (.inl x0)))) 0 [some (mj_r (β, 9)), some (.inl a1), none, none] [] (va_up M β m)
  unfold f_X6_zoneOf at h
  refine mj_aload_n C dX6_zoneOf_0 rfl ?_
  refine mj_getr (r := (β, 1)) C lF_X6_51 (sL9 hB) rfl dX6_zoneOf_1 ?_
  refine mj_getr (r := (β, 2)) C lF_X6_93 (sL1 hB) rfl dX6_zoneOf_4 ?_
  refine mj_iconst (v := 0) C dX6_zoneOf_7 (by decide) ?_
  refine mj_bald C (sL2 hB) (mj_okn 0 11 (Nat.le_of_ble_eq_true rfl) (Nat.le_of_ble_eq_true rfl)) (mj_cln 0 (Nat.le_of_ble_eq_true rfl)) dX6_zoneOf_8 ?_
  refine mj_iconst (v := 2) C dX6_zoneOf_9 (by decide) ?_
  refine mj_idiv C dX6_zoneOf_10 (by decide) ?_
  obtain ⟨x1, hx1, h⟩ := mj_let_o h
  refine mj_nm hx1 ?_
  refine mj_istore_n (L2 := [some (mj_r (β, 9)), some (.inl a1), some (.inl x1), none]) C dX6_zoneOf_11 (Nat.le_of_ble_eq_true rfl) rfl ?_
  refine mj_iload_n C dX6_zoneOf_12 rfl ?_
  refine mj_aload_n C dX6_zoneOf_13 rfl ?_
  refine mj_bget C lF_X6_9 (sL9 hB) rfl dX6_zoneOf_14 ?_
  obtain ⟨r2, er2, h⟩ := mj_let_o h
  refine mj_callN1 (av := [.inl a1, .inl (m 9 2)]) C lN_X6_109 lS_X10_far rfl (C_X10_far  er2) (mj_rmok hR (by decide) (by decide)) rfl (Nat.le_of_ble_eq_true rfl) dX6_zoneOf_17 (fun hb3 => ?_)
  refine mj_istore_n (L2 := [some (mj_r (β, 9)), some (.inl a1), some (.inl x1), some (.inl r2)]) C dX6_zoneOf_20 (Nat.le_of_ble_eq_true rfl) rfl ?_
  refine mj_iload_n C dX6_zoneOf_21 rfl ?_
  refine mj_if_ne (tgt := 27) C dX6_zoneOf_22 (by decide) (fun c4 => ?_) (fun c4 => ?_)
  · replace h := mj_if_f c4 h
    refine mj_iload_n C dX6_zoneOf_27 rfl ?_
    refine mj_iload_n C dX6_zoneOf_28 rfl ?_
    refine mj_icmp_ge (tgt := 34) C dX6_zoneOf_29 (by decide) (fun c5 => ?_) (fun c5 => ?_)
    · replace h := mj_if_t c5 h
      refine mj_iload_n C dX6_zoneOf_34 rfl ?_
      refine mj_sipush (v := 256) C dX6_zoneOf_35 (by decide) ?_
      refine mj_iload_n C dX6_zoneOf_38 rfl ?_
      refine mj_isub C dX6_zoneOf_39 ?_
      refine mj_icmp_lt (tgt := 47) C dX6_zoneOf_40 (by decide) (fun c6 => ?_) (fun c6 => ?_)
      · replace h := mj_if_t c6 h
        refine mj_iconst (v := 3) C dX6_zoneOf_47 (by decide) ?_
        cases h
        exact mj_iret C hT (vp_nar_int _) dX6_zoneOf_48 ⟨rfl, rfl, mj_bi _⟩
      · replace h := mj_if_f c6 h
        refine mj_iconst (v := 2) C dX6_zoneOf_43 (by decide) ?_
        refine mj_goto (tgt := 48) C dX6_zoneOf_44 (by decide) ?_
        cases h
        exact mj_iret C hT (vp_nar_int _) dX6_zoneOf_48 ⟨rfl, rfl, mj_bi _⟩
    · replace h := mj_if_f c5 h
      refine mj_iconst (v := 1) C dX6_zoneOf_32 (by decide) ?_
      cases h
      exact mj_iret C hT (vp_nar_int _) dX6_zoneOf_33 ⟨rfl, rfl, mj_bi _⟩
  · replace h := mj_if_t c4 h
    refine mj_iconst (v := 0) C dX6_zoneOf_25 (by decide) ?_
    cases h
    exact mj_iret C hT (vp_nar_int _) dX6_zoneOf_26 ⟨rfl, rfl, mj_bi _⟩
def f_X6_takeIn_J32 (l2 : Int32) (m : mj_m) : Option (mj_m) := mj_let (mj_wrs m 9 9 ((m 9 9) + 1)) (fun m1 => mj_let (mj_wrs m1 9 2 (((m1 9 2) + 1) &&& 255)) (fun m2 => mj_let (mj_wrs m2 9 5 0) (fun m3 => mj_b1 (f_X2_noteTakenIn l2 m3) (fun m4 => some m4))))
set_option maxHeartbeats 4000000 in
set_option maxRecDepth 20000 in
theorem C_X6_takeIn_J32 {κ : mj_K} {β : Nat} {M : mj_M} {l2 : Int32} {m : mj_m} {m0 : mj_m} (C : mj_C κ cX6_takeIn 3 RX6) (hB : mj_isL (mj_g κ) β) (hR : mj_dp κ 2) (hT : mj_rt κ = none) (h : f_X6_takeIn_J32 l2 m = some m0) : mj_R κ (mj_F κ (fun r M' => r = none ∧ M' = (va_up M β m0) ∧ mj_bb none none)) 32 [some (mj_r (β, 9)), none, some (.inl l2)] [] (va_up M β m) := by
  unfold f_X6_takeIn_J32 at h
  refine mj_aload_n C dX6_takeIn_32 rfl ?_
  refine mj_dup C dX6_takeIn_33 ?_
  refine mj_bget C lF_X6_39 (sL9 hB) rfl dX6_takeIn_34 ?_
  refine mj_iconst (v := 1) C dX6_takeIn_37 (by decide) ?_
  refine mj_iadd C dX6_takeIn_38 ?_
  obtain ⟨m1, hm1, h⟩ := mj_let_o h
  refine mj_bput C lF_X6_39 fP_7_9 (vp_nar_int _) rfl (sL9 hB) rfl dX6_takeIn_39 hm1 ?_
  refine mj_aload_n C dX6_takeIn_42 rfl ?_
  refine mj_aload_n C dX6_takeIn_43 rfl ?_
  refine mj_bget C lF_X6_9 (sL9 hB) rfl dX6_takeIn_44 ?_
  refine mj_iconst (v := 1) C dX6_takeIn_47 (by decide) ?_
  refine mj_iadd C dX6_takeIn_48 ?_
  refine mj_sipush (v := 255) C dX6_takeIn_49 (by decide) ?_
  refine mj_iand C dX6_takeIn_52 ?_
  obtain ⟨m2, hm2, h⟩ := mj_let_o h
  refine mj_bput C lF_X6_9 fP_7_2 (vp_nar_int _) rfl (sL9 hB) rfl dX6_takeIn_53 hm2 ?_
  refine mj_aload_n C dX6_takeIn_56 rfl ?_
  refine mj_iconst (v := 0) C dX6_takeIn_57 (by decide) ?_
  obtain ⟨m3, hm3, h⟩ := mj_let_o h
  refine mj_bput C lF_X6_22 fP_7_5 rfl rfl (sL9 hB) rfl dX6_takeIn_58 hm3 ?_
  refine mj_aload_n C dX6_takeIn_61 rfl ?_
  refine mj_getr (r := (β, 3)) C lF_X6_55 (sL9 hB) rfl dX6_takeIn_62 ?_
  refine mj_iload_n C dX6_takeIn_65 rfl ?_
  obtain ⟨m4, em4, h⟩ := mj_b1_o h
  refine mj_callV0 (av := [.inl l2]) C lM_X6_104 lV_X2_noteTakenIn (sL3 hB) ⟨_, rfl, rfl⟩ rfl (C_X2_noteTakenIn hB em4) (mj_rmok hR (by decide) (by decide)) rfl (Nat.le_of_ble_eq_true rfl) dX6_takeIn_66 ?_
  cases h
  exact mj_vret C hT dX6_takeIn_69 ⟨rfl, rfl, mj_bv _⟩
def f_X6_takeIn (a1 : Int32) (a2 : Int32) (m : mj_m) : Option (mj_m) := mj_b1 (f_X7_add 10 a1 (m 9 2) a2 m) (fun m6 => if 100 ≤ m6 9 9 then (f_X6_takeIn_J32 a2 m6) else (mj_chk (mj_ok (m6 9 9) 100) (mj_let (mj_wrs m6 15 (mj_cl (m6 9 9)) a1) (fun m10 => f_X6_takeIn_J32 a2 m10))))
set_option maxHeartbeats 4000000 in
set_option maxRecDepth 20000 in
theorem C_X6_takeIn {G : mj_G} {β : Nat} {M : mj_M} {a1 : Int32} {a2 : Int32} {m : mj_m} {m0 : mj_m} (hB : mj_isL G β) (h : f_X6_takeIn a1 a2 m = some m0) : mj_S1 yX6_takeIn cX6_takeIn 3 none 2 G [mj_r (β, 9), .inl a1, .inl a2] (va_up M β m) none (va_up M β m0) := by
  refine mj_intro (by decide) (Nat.le_of_ble_eq_true rfl) ?_
  intro κ C hG hR hT
  subst hG
  have C : mj_C κ cX6_takeIn 3 RX6 := C
  show mj_R κ (mj_F κ (fun r M' => r = none ∧ M' = (va_up M β m0) ∧ mj_bb none none)) 0 [some (mj_r (β, 9)), some (.inl a1), some (.inl a2)] [] (va_up M β m)
  unfold f_X6_takeIn at h
  refine mj_aload_n C dX6_takeIn_0 rfl ?_
  refine mj_getr (r := (β, 10)) C lF_X6_31 (sL9 hB) rfl dX6_takeIn_1 ?_
  refine mj_iload_n C dX6_takeIn_4 rfl ?_
  refine mj_aload_n C dX6_takeIn_5 rfl ?_
  refine mj_bget C lF_X6_9 (sL9 hB) rfl dX6_takeIn_6 ?_
  refine mj_iload_n C dX6_takeIn_9 rfl ?_
  obtain ⟨m6, em6, h⟩ := mj_b1_o h
  refine mj_callV0 (av := [.inl a1, .inl (m 9 2), .inl a2]) C lM_X6_101 lV_X7_add (sL10 hB) ⟨_, rfl, rfl⟩ rfl (C_X7_add (sLr10 hB) em6) (mj_rmok hR (by decide) (by decide)) rfl (Nat.le_of_ble_eq_true rfl) dX6_takeIn_10 ?_
  refine mj_aload_n C dX6_takeIn_13 rfl ?_
  refine mj_bget C lF_X6_39 (sL9 hB) rfl dX6_takeIn_14 ?_
  refine mj_bipush (v := 100) C dX6_takeIn_17 (by decide) ?_
  refine mj_icmp_ge (tgt := 32) C dX6_takeIn_19 (by decide) (fun c8 => ?_) (fun c8 => ?_)
  · replace h := mj_if_t c8 h
    refine mj_sub (L' := [some (mj_r (β, 9)), none, some (.inl a2)]) ⟨rfl, ⟨rfl, trivial⟩⟩ ?_
    exact C_X6_takeIn_J32 C hB hR hT h
  · replace h := mj_if_f c8 h
    refine mj_aload_n C dX6_takeIn_22 rfl ?_
    refine mj_getr (r := (β, 15)) C lF_X6_35 (sL9 hB) rfl dX6_takeIn_23 ?_
    refine mj_aload_n C dX6_takeIn_26 rfl ?_
    refine mj_bget C lF_X6_39 (sL9 hB) rfl dX6_takeIn_27 ?_
    refine mj_iload_n C dX6_takeIn_30 rfl ?_
    obtain ⟨k9, h⟩ := mj_chk_o h
    obtain ⟨m10, hm10, h⟩ := mj_let_o h
    refine mj_bast C (sL15 hB) k9 rfl dX6_takeIn_31 hm10 ?_
    refine mj_sub (L' := [some (mj_r (β, 9)), none, some (.inl a2)]) ⟨rfl, ⟨rfl, trivial⟩⟩ ?_
    exact C_X6_takeIn_J32 C hB hR hT h
def f_X6_meetInOrder_J100 (l4 : Int32) (m : mj_m) : Option (mj_m) := if l4 = 1 then (mj_let (mj_wrs m 9 5 1) (fun m2 => some m2)) else (some m)
set_option maxHeartbeats 4000000 in
set_option maxRecDepth 20000 in
theorem C_X6_meetInOrder_J100 {κ : mj_K} {β : Nat} {M : mj_M} {l4 : Int32} {m : mj_m} {m0 : mj_m} (C : mj_C κ cX6_meetInOrder 5 RX6) (hB : mj_isL (mj_g κ) β) (hR : mj_dp κ 3) (hT : mj_rt κ = none) (h : f_X6_meetInOrder_J100 l4 m = some m0) : mj_R κ (mj_F κ (fun r M' => r = none ∧ M' = (va_up M β m0) ∧ mj_bb none none)) 100 [some (mj_r (β, 9)), none, none, none, some (.inl l4)] [] (va_up M β m) := by
  unfold f_X6_meetInOrder_J100 at h
  refine mj_iload C dX6_meetInOrder_100 rfl ?_
  refine mj_iconst (v := 1) C dX6_meetInOrder_102 (by decide) ?_
  refine mj_icmp_ne (tgt := 111) C dX6_meetInOrder_103 (by decide) (fun c1 => ?_) (fun c1 => ?_)
  · replace h := mj_if_f c1 h
    cases h
    exact mj_vret C hT dX6_meetInOrder_111 ⟨rfl, rfl, mj_bv _⟩
  · replace h := mj_if_t c1 h
    refine mj_aload_n C dX6_meetInOrder_106 rfl ?_
    refine mj_iconst (v := 1) C dX6_meetInOrder_107 (by decide) ?_
    obtain ⟨m2, hm2, h⟩ := mj_let_o h
    refine mj_bput C lF_X6_22 fP_7_5 rfl rfl (sL9 hB) rfl dX6_meetInOrder_108 hm2 ?_
    cases h
    exact mj_vret C hT dX6_meetInOrder_111 ⟨rfl, rfl, mj_bv _⟩
def f_X6_meetInOrder_J77 (l4 : Int32) (m : mj_m) : Option (mj_m) := if m 9 4 = 0 then (if l4 = 0 then (mj_let (mj_wrs m 9 4 1) (fun m5 => mj_let (mj_wrs m5 9 5 1) (fun m6 => f_X6_meetInOrder_J100 l4 m6))) else (f_X6_meetInOrder_J100 l4 m)) else (some m)
set_option maxHeartbeats 4000000 in
set_option maxRecDepth 20000 in
theorem C_X6_meetInOrder_J77 {κ : mj_K} {β : Nat} {M : mj_M} {l4 : Int32} {m : mj_m} {m0 : mj_m} (C : mj_C κ cX6_meetInOrder 5 RX6) (hB : mj_isL (mj_g κ) β) (hR : mj_dp κ 3) (hT : mj_rt κ = none) (h : f_X6_meetInOrder_J77 l4 m = some m0) : mj_R κ (mj_F κ (fun r M' => r = none ∧ M' = (va_up M β m0) ∧ mj_bb none none)) 77 [some (mj_r (β, 9)), none, none, none, some (.inl l4)] [] (va_up M β m) := by
  unfold f_X6_meetInOrder_J77 at h
  refine mj_aload_n C dX6_meetInOrder_77 rfl ?_
  refine mj_bget C lF_X6_19 (sL9 hB) rfl dX6_meetInOrder_78 ?_
  refine mj_if_eq (tgt := 85) C dX6_meetInOrder_81 (by decide) (fun c3 => ?_) (fun c3 => ?_)
  · replace h := mj_if_t c3 h
    refine mj_iload C dX6_meetInOrder_85 rfl ?_
    refine mj_if_ne (tgt := 100) C dX6_meetInOrder_87 (by decide) (fun c4 => ?_) (fun c4 => ?_)
    · replace h := mj_if_f c4 h
      refine mj_sub (L' := [some (mj_r (β, 9)), none, none, none, some (.inl l4)]) ⟨rfl, ⟨rfl, trivial⟩⟩ ?_
      exact C_X6_meetInOrder_J100 C hB hR hT h
    · replace h := mj_if_t c4 h
      refine mj_aload_n C dX6_meetInOrder_90 rfl ?_
      refine mj_iconst (v := 1) C dX6_meetInOrder_91 (by decide) ?_
      obtain ⟨m5, hm5, h⟩ := mj_let_o h
      refine mj_bput C lF_X6_19 fP_7_4 rfl rfl (sL9 hB) rfl dX6_meetInOrder_92 hm5 ?_
      refine mj_aload_n C dX6_meetInOrder_95 rfl ?_
      refine mj_iconst (v := 1) C dX6_meetInOrder_96 (by decide) ?_
      obtain ⟨m6, hm6, h⟩ := mj_let_o h
      refine mj_bput C lF_X6_22 fP_7_5 rfl rfl (sL9 hB) rfl dX6_meetInOrder_97 hm6 ?_
      refine mj_sub (L' := [some (mj_r (β, 9)), none, none, none, some (.inl l4)]) ⟨rfl, ⟨rfl, trivial⟩⟩ ?_
      exact C_X6_meetInOrder_J100 C hB hR hT h
  · replace h := mj_if_f c3 h
    cases h
    exact mj_vret C hT dX6_meetInOrder_84 ⟨rfl, rfl, mj_bv _⟩
def f_X6_meetInOrder_J56 (l4 : Int32) (m : mj_m) : Option (mj_m) := mj_let (mj_wrs m 9 12 ((m 9 12) + 1)) (fun m7 => if l4 = 3 then (mj_let (mj_wrs m7 9 3 1) (fun m9 => f_X6_meetInOrder_J77 l4 m9)) else (f_X6_meetInOrder_J77 l4 m7))
set_option maxHeartbeats 4000000 in
set_option maxRecDepth 20000 in
theorem C_X6_meetInOrder_J56 {κ : mj_K} {β : Nat} {M : mj_M} {l4 : Int32} {m : mj_m} {m0 : mj_m} (C : mj_C κ cX6_meetInOrder 5 RX6) (hB : mj_isL (mj_g κ) β) (hR : mj_dp κ 3) (hT : mj_rt κ = none) (h : f_X6_meetInOrder_J56 l4 m = some m0) : mj_R κ (mj_F κ (fun r M' => r = none ∧ M' = (va_up M β m0) ∧ mj_bb none none)) 56 [some (mj_r (β, 9)), none, none, none, some (.inl l4)] [] (va_up M β m) := by
  unfold f_X6_meetInOrder_J56 at h
  refine mj_aload_n C dX6_meetInOrder_56 rfl ?_
  refine mj_dup C dX6_meetInOrder_57 ?_
  refine mj_bget C lF_X6_48 (sL9 hB) rfl dX6_meetInOrder_58 ?_
  refine mj_iconst (v := 1) C dX6_meetInOrder_61 (by decide) ?_
  refine mj_iadd C dX6_meetInOrder_62 ?_
  obtain ⟨m7, hm7, h⟩ := mj_let_o h
  refine mj_bput C lF_X6_48 fP_7_12 (vp_nar_int _) rfl (sL9 hB) rfl dX6_meetInOrder_63 hm7 ?_
  refine mj_iload C dX6_meetInOrder_66 rfl ?_
  refine mj_iconst (v := 3) C dX6_meetInOrder_68 (by decide) ?_
  refine mj_icmp_ne (tgt := 77) C dX6_meetInOrder_69 (by decide) (fun c8 => ?_) (fun c8 => ?_)
  · replace h := mj_if_f c8 h
    refine mj_sub (L' := [some (mj_r (β, 9)), none, none, none, some (.inl l4)]) ⟨rfl, ⟨rfl, trivial⟩⟩ ?_
    exact C_X6_meetInOrder_J77 C hB hR hT h
  · replace h := mj_if_t c8 h
    refine mj_aload_n C dX6_meetInOrder_72 rfl ?_
    refine mj_iconst (v := 1) C dX6_meetInOrder_73 (by decide) ?_
    obtain ⟨m9, hm9, h⟩ := mj_let_o h
    refine mj_bput C lF_X6_15 fP_7_3 rfl rfl (sL9 hB) rfl dX6_meetInOrder_74 hm9 ?_
    refine mj_sub (L' := [some (mj_r (β, 9)), none, none, none, some (.inl l4)]) ⟨rfl, ⟨rfl, trivial⟩⟩ ?_
    exact C_X6_meetInOrder_J77 C hB hR hT h
def f_X6_meetInOrder_J16 (l2 : Int32) (l3 : Int32) (s0 : Int32) (m : mj_m) : Option (mj_m) := if s0 = 0 then (if m 9 4 = 0 then (if m 2 1 ≤ m 10 4 then (f_X6_meetInOrder_J56 s0 m) else (mj_b1 (f_X6_takeIn l2 l3 m) (fun m13 => some m13))) else (f_X6_meetInOrder_J56 s0 m)) else (f_X6_meetInOrder_J56 s0 m)
set_option maxHeartbeats 4000000 in
set_option maxRecDepth 20000 in
theorem C_X6_meetInOrder_J16 {κ : mj_K} {β : Nat} {M : mj_M} {l2 : Int32} {l3 : Int32} {s0 : Int32} {m : mj_m} {m0 : mj_m} (C : mj_C κ cX6_meetInOrder 5 RX6) (hB : mj_isL (mj_g κ) β) (hR : mj_dp κ 3) (hT : mj_rt κ = none) (h : f_X6_meetInOrder_J16 l2 l3 s0 m = some m0) : mj_R κ (mj_F κ (fun r M' => r = none ∧ M' = (va_up M β m0) ∧ mj_bb none none)) 16 [some (mj_r (β, 9)), none, some (.inl l2), some (.inl l3), none] [.inl s0] (va_up M β m) := by
  unfold f_X6_meetInOrder_J16 at h
  refine mj_istore (L2 := [some (mj_r (β, 9)), none, some (.inl l2), some (.inl l3), some (.inl s0)]) C dX6_meetInOrder_16 (Nat.le_of_ble_eq_true rfl) rfl ?_
  refine mj_iload C dX6_meetInOrder_18 rfl ?_
  refine mj_if_ne (tgt := 56) C dX6_meetInOrder_20 (by decide) (fun c10 => ?_) (fun c10 => ?_)
  · replace h := mj_if_f c10 h
    refine mj_sub (L' := [some (mj_r (β, 9)), none, none, none, some (.inl s0)]) ⟨rfl, ⟨rfl, trivial⟩⟩ ?_
    exact C_X6_meetInOrder_J56 C hB hR hT h
  · replace h := mj_if_t c10 h
    refine mj_aload_n C dX6_meetInOrder_23 rfl ?_
    refine mj_bget C lF_X6_19 (sL9 hB) rfl dX6_meetInOrder_24 ?_
    refine mj_if_ne (tgt := 56) C dX6_meetInOrder_27 (by decide) (fun c11 => ?_) (fun c11 => ?_)
    · replace h := mj_if_f c11 h
      refine mj_sub (L' := [some (mj_r (β, 9)), none, none, none, some (.inl s0)]) ⟨rfl, ⟨rfl, trivial⟩⟩ ?_
      exact C_X6_meetInOrder_J56 C hB hR hT h
    · replace h := mj_if_t c11 h
      refine mj_aload_n C dX6_meetInOrder_30 rfl ?_
      refine mj_getr (r := (β, 10)) C lF_X6_31 (sL9 hB) rfl dX6_meetInOrder_31 ?_
      refine mj_bget C lF_X6_92 (sL10 hB) rfl dX6_meetInOrder_34 ?_
      refine mj_aload_n C dX6_meetInOrder_37 rfl ?_
      refine mj_getr (r := (β, 1)) C lF_X6_51 (sL9 hB) rfl dX6_meetInOrder_38 ?_
      refine mj_getr (r := (β, 2)) C lF_X6_93 (sL1 hB) rfl dX6_meetInOrder_41 ?_
      refine mj_iconst (v := 1) C dX6_meetInOrder_44 (by decide) ?_
      refine mj_bald C (sL2 hB) (mj_okn 1 11 (Nat.le_of_ble_eq_true rfl) (Nat.le_of_ble_eq_true rfl)) (mj_cln 1 (Nat.le_of_ble_eq_true rfl)) dX6_meetInOrder_45 ?_
      refine mj_icmp_ge (tgt := 56) C dX6_meetInOrder_46 (by decide) (fun c12 => ?_) (fun c12 => ?_)
      · replace h := mj_if_t c12 h
        refine mj_sub (L' := [some (mj_r (β, 9)), none, none, none, some (.inl s0)]) ⟨rfl, ⟨rfl, trivial⟩⟩ ?_
        exact C_X6_meetInOrder_J56 C hB hR hT h
      · replace h := mj_if_f c12 h
        refine mj_aload_n C dX6_meetInOrder_49 rfl ?_
        refine mj_iload_n C dX6_meetInOrder_50 rfl ?_
        refine mj_iload_n C dX6_meetInOrder_51 rfl ?_
        obtain ⟨m13, em13, h⟩ := mj_b1_o h
        refine mj_callV0 (av := [.inl l2, .inl l3]) C lM_X6_98 lV_X6_takeIn (sL9 hB) ⟨_, rfl, rfl⟩ rfl (C_X6_takeIn hB em13) (mj_rmok hR (by decide) (by decide)) rfl (Nat.le_of_ble_eq_true rfl) dX6_meetInOrder_52 ?_
        cases h
        exact mj_vret C hT dX6_meetInOrder_55 ⟨rfl, rfl, mj_bv _⟩
def f_X6_meetInOrder (a1 : Int32) (a2 : Int32) (a3 : Int32) (m : mj_m) : Option (mj_m) := if m 9 3 = 0 then (mj_let (f_X6_zoneOf a1 m) (fun r16 => f_X6_meetInOrder_J16 a2 a3 r16 m)) else (f_X6_meetInOrder_J16 a2 a3 (-1) m)
set_option maxHeartbeats 4000000 in
set_option maxRecDepth 20000 in
theorem C_X6_meetInOrder {G : mj_G} {β : Nat} {M : mj_M} {a1 : Int32} {a2 : Int32} {a3 : Int32} {m : mj_m} {m0 : mj_m} (hB : mj_isL G β) (h : f_X6_meetInOrder a1 a2 a3 m = some m0) : mj_S1 yX6_meetInOrder cX6_meetInOrder 5 none 3 G [mj_r (β, 9), .inl a1, .inl a2, .inl a3] (va_up M β m) none (va_up M β m0) := by
  refine mj_intro (by decide) (Nat.le_of_ble_eq_true rfl) ?_
  intro κ C hG hR hT
  subst hG
  have C : mj_C κ cX6_meetInOrder 5 RX6 := C
  show mj_R κ (mj_F κ (fun r M' => r = none ∧ M' = (va_up M β m0) ∧ mj_bb none none)) 0 [some (mj_r (β, 9)), some (.inl a1), some (.inl a2), some (.inl a3), none] [] (va_up M β m)
  unfold f_X6_meetInOrder at h
  refine mj_aload_n C dX6_meetInOrder_0 rfl ?_
  refine mj_bget C lF_X6_15 (sL9 hB) rfl dX6_meetInOrder_1 ?_
  refine mj_if_eq (tgt := 11) C dX6_meetInOrder_4 (by decide) (fun c15 => ?_) (fun c15 => ?_)
  · replace h := mj_if_t c15 h
    refine mj_aload_n C dX6_meetInOrder_11 rfl ?_
    refine mj_iload_n C dX6_meetInOrder_12 rfl ?_
    obtain ⟨r16, er16, h⟩ := mj_let_o h
    refine mj_callV1 (av := [.inl a1]) C lM_X6_89 lV_X6_zoneOf (sL9 hB) ⟨_, rfl, rfl⟩ rfl (C_X6_zoneOf hB er16) (mj_rmok hR (by decide) (by decide)) rfl (Nat.le_of_ble_eq_true rfl) dX6_meetInOrder_13 (fun hb17 => ?_)
    refine mj_sub (L' := [some (mj_r (β, 9)), none, some (.inl a2), some (.inl a3), none]) ⟨rfl, ⟨rfl, ⟨rfl, trivial⟩⟩⟩ ?_
    exact C_X6_meetInOrder_J16 C hB hR hT h
  · replace h := mj_if_f c15 h
    refine mj_iconst (v := (-1)) C dX6_meetInOrder_7 (by decide) ?_
    refine mj_goto (tgt := 16) C dX6_meetInOrder_8 (by decide) ?_
    refine mj_sub (L' := [some (mj_r (β, 9)), none, some (.inl a2), some (.inl a3), none]) ⟨rfl, ⟨rfl, ⟨rfl, trivial⟩⟩⟩ ?_
    exact C_X6_meetInOrder_J16 C hB hR hT h
def f_X6_keepPast_J19 (m : mj_m) : Option (mj_m) := mj_let (mj_wrs m 9 11 ((m 9 11) + 1)) (fun m1 => some m1)
set_option maxHeartbeats 4000000 in
set_option maxRecDepth 20000 in
theorem C_X6_keepPast_J19 {κ : mj_K} {β : Nat} {M : mj_M} {m : mj_m} {m0 : mj_m} (C : mj_C κ cX6_keepPast 2 RX6) (hB : mj_isL (mj_g κ) β) (hR : mj_dp κ 0) (hT : mj_rt κ = none) (h : f_X6_keepPast_J19 m = some m0) : mj_R κ (mj_F κ (fun r M' => r = none ∧ M' = (va_up M β m0) ∧ mj_bb none none)) 19 [some (mj_r (β, 9)), none] [] (va_up M β m) := by
  unfold f_X6_keepPast_J19 at h
  refine mj_aload_n C dX6_keepPast_19 rfl ?_
  refine mj_dup C dX6_keepPast_20 ?_
  refine mj_bget C lF_X6_45 (sL9 hB) rfl dX6_keepPast_21 ?_
  refine mj_iconst (v := 1) C dX6_keepPast_24 (by decide) ?_
  refine mj_iadd C dX6_keepPast_25 ?_
  obtain ⟨m1, hm1, h⟩ := mj_let_o h
  refine mj_bput C lF_X6_45 fP_7_11 (vp_nar_int _) rfl (sL9 hB) rfl dX6_keepPast_26 hm1 ?_
  cases h
  exact mj_vret C hT dX6_keepPast_29 ⟨rfl, rfl, mj_bv _⟩
def f_X6_keepPast (a1 : Int32) (m : mj_m) : Option (mj_m) := if 100 ≤ m 9 11 then (f_X6_keepPast_J19 m) else (mj_chk (mj_ok (m 9 11) 100) (mj_let (mj_wrs m 16 (mj_cl (m 9 11)) a1) (fun m4 => f_X6_keepPast_J19 m4)))
set_option maxHeartbeats 4000000 in
set_option maxRecDepth 20000 in
theorem C_X6_keepPast {G : mj_G} {β : Nat} {M : mj_M} {a1 : Int32} {m : mj_m} {m0 : mj_m} (hB : mj_isL G β) (h : f_X6_keepPast a1 m = some m0) : mj_S1 yX6_keepPast cX6_keepPast 2 none 0 G [mj_r (β, 9), .inl a1] (va_up M β m) none (va_up M β m0) := by
  refine mj_intro (by decide) (Nat.le_of_ble_eq_true rfl) ?_
  intro κ C hG hR hT
  subst hG
  have C : mj_C κ cX6_keepPast 2 RX6 := C
  show mj_R κ (mj_F κ (fun r M' => r = none ∧ M' = (va_up M β m0) ∧ mj_bb none none)) 0 [some (mj_r (β, 9)), some (.inl a1)] [] (va_up M β m)
  unfold f_X6_keepPast at h
  refine mj_aload_n C dX6_keepPast_0 rfl ?_
  refine mj_bget C lF_X6_45 (sL9 hB) rfl dX6_keepPast_1 ?_
  refine mj_bipush (v := 100) C dX6_keepPast_4 (by decide) ?_
  refine mj_icmp_ge (tgt := 19) C dX6_keepPast_6 (by decide) (fun c2 => ?_) (fun c2 => ?_)
  · replace h := mj_if_t c2 h
    refine mj_sub (L' := [some (mj_r (β, 9)), none]) ⟨rfl, trivial⟩ ?_
    exact C_X6_keepPast_J19 C hB hR hT h
  · replace h := mj_if_f c2 h
    refine mj_aload_n C dX6_keepPast_9 rfl ?_
    refine mj_getr (r := (β, 16)) C lF_X6_42 (sL9 hB) rfl dX6_keepPast_10 ?_
    refine mj_aload_n C dX6_keepPast_13 rfl ?_
    refine mj_bget C lF_X6_45 (sL9 hB) rfl dX6_keepPast_14 ?_
    refine mj_iload_n C dX6_keepPast_17 rfl ?_
    obtain ⟨k3, h⟩ := mj_chk_o h
    obtain ⟨m4, hm4, h⟩ := mj_let_o h
    refine mj_bast C (sL16 hB) k3 rfl dX6_keepPast_18 hm4 ?_
    refine mj_sub (L' := [some (mj_r (β, 9)), none]) ⟨rfl, trivial⟩ ?_
    exact C_X6_keepPast_J19 C hB hR hT h
def f_X6_obey_J22 (l2 : Int32) (l3 : Int32) (m : mj_m) : mj_m := mj_let (mj_wrs m 9 4 0) (fun m1 => mj_let (mj_wrs m1 9 5 0) (fun m2 => if l3 = 0 then (mj_let (mj_wrs m2 9 2 l2) (fun m4 => m4)) else (mj_let (mj_wrs m2 9 3 0) (fun m5 => m5))))
set_option maxHeartbeats 4000000 in
set_option maxRecDepth 20000 in
theorem C_X6_obey_J22 {κ : mj_K} {β : Nat} {M : mj_M} {l2 : Int32} {l3 : Int32} {m : mj_m} {m0 : mj_m} (C : mj_C κ cX6_obey 4 RX6) (hB : mj_isL (mj_g κ) β) (hR : mj_dp κ 0) (hT : mj_rt κ = none) (h : f_X6_obey_J22 l2 l3 m = m0) : mj_R κ (mj_F κ (fun r M' => r = none ∧ M' = (va_up M β m0) ∧ mj_bb none none)) 22 [some (mj_r (β, 9)), none, some (.inl l2), some (.inl l3)] [] (va_up M β m) := by
  unfold f_X6_obey_J22 at h
  refine mj_aload_n C dX6_obey_22 rfl ?_
  refine mj_iconst (v := 0) C dX6_obey_23 (by decide) ?_
  obtain ⟨m1, hm1, h⟩ := mj_let_o h
  refine mj_bput C lF_X6_19 fP_7_4 rfl rfl (sL9 hB) rfl dX6_obey_24 hm1 ?_
  refine mj_aload_n C dX6_obey_27 rfl ?_
  refine mj_iconst (v := 0) C dX6_obey_28 (by decide) ?_
  obtain ⟨m2, hm2, h⟩ := mj_let_o h
  refine mj_bput C lF_X6_22 fP_7_5 rfl rfl (sL9 hB) rfl dX6_obey_29 hm2 ?_
  refine mj_iload_n C dX6_obey_32 rfl ?_
  refine mj_if_eq (tgt := 44) C dX6_obey_33 (by decide) (fun c3 => ?_) (fun c3 => ?_)
  · replace h := mj_if_t c3 h
    refine mj_aload_n C dX6_obey_44 rfl ?_
    refine mj_iload_n C dX6_obey_45 rfl ?_
    obtain ⟨m4, hm4, h⟩ := mj_let_o h
    refine mj_bput C lF_X6_9 fP_7_2 (vp_nar_int _) rfl (sL9 hB) rfl dX6_obey_46 hm4 ?_
    cases h
    exact mj_vret C hT dX6_obey_49 ⟨rfl, rfl, mj_bv _⟩
  · replace h := mj_if_f c3 h
    refine mj_aload_n C dX6_obey_36 rfl ?_
    refine mj_iconst (v := 0) C dX6_obey_37 (by decide) ?_
    obtain ⟨m5, hm5, h⟩ := mj_let_o h
    refine mj_bput C lF_X6_15 fP_7_3 rfl rfl (sL9 hB) rfl dX6_obey_38 hm5 ?_
    refine mj_goto (tgt := 49) C dX6_obey_41 (by decide) ?_
    cases h
    exact mj_vret C hT dX6_obey_49 ⟨rfl, rfl, mj_bv _⟩
def f_X6_obey_J9 (l2 : Int32) (s0 : Int32) (m : mj_m) : mj_m := if s0 = 0 then (if m 9 3 = 0 then (f_X6_obey_J22 l2 s0 m) else (m)) else (f_X6_obey_J22 l2 s0 m)
set_option maxHeartbeats 4000000 in
set_option maxRecDepth 20000 in
theorem C_X6_obey_J9 {κ : mj_K} {β : Nat} {M : mj_M} {l2 : Int32} {s0 : Int32} {m : mj_m} {m0 : mj_m} (C : mj_C κ cX6_obey 4 RX6) (hB : mj_isL (mj_g κ) β) (hR : mj_dp κ 0) (hT : mj_rt κ = none) (h : f_X6_obey_J9 l2 s0 m = m0) : mj_R κ (mj_F κ (fun r M' => r = none ∧ M' = (va_up M β m0) ∧ mj_bb none none)) 9 [some (mj_r (β, 9)), none, some (.inl l2), none] [.inl s0] (va_up M β m) := by
  unfold f_X6_obey_J9 at h
  refine mj_istore_n (L2 := [some (mj_r (β, 9)), none, some (.inl l2), some (.inl s0)]) C dX6_obey_9 (Nat.le_of_ble_eq_true rfl) rfl ?_
  refine mj_iload_n C dX6_obey_10 rfl ?_
  refine mj_if_ne (tgt := 22) C dX6_obey_11 (by decide) (fun c6 => ?_) (fun c6 => ?_)
  · replace h := mj_if_f c6 h
    refine mj_sub (L' := [some (mj_r (β, 9)), none, some (.inl l2), some (.inl s0)]) ⟨rfl, ⟨rfl, ⟨rfl, trivial⟩⟩⟩ ?_
    exact C_X6_obey_J22 C hB hR hT h
  · replace h := mj_if_t c6 h
    refine mj_aload_n C dX6_obey_14 rfl ?_
    refine mj_bget C lF_X6_15 (sL9 hB) rfl dX6_obey_15 ?_
    refine mj_if_eq (tgt := 22) C dX6_obey_18 (by decide) (fun c7 => ?_) (fun c7 => ?_)
    · replace h := mj_if_t c7 h
      refine mj_sub (L' := [some (mj_r (β, 9)), none, some (.inl l2), some (.inl s0)]) ⟨rfl, ⟨rfl, ⟨rfl, trivial⟩⟩⟩ ?_
      exact C_X6_obey_J22 C hB hR hT h
    · replace h := mj_if_f c7 h
      cases h
      exact mj_vret C hT dX6_obey_21 ⟨rfl, rfl, mj_bv _⟩
def f_X6_obey (a1 : Int32) (a2 : Int32) (m : mj_m) : mj_m := if a1 = 0 then (f_X6_obey_J9 a2 1 m) else (f_X6_obey_J9 a2 0 m)
set_option maxHeartbeats 4000000 in
set_option maxRecDepth 20000 in
theorem C_X6_obey {G : mj_G} {β : Nat} {M : mj_M} {a1 : Int32} {a2 : Int32} {m : mj_m} {m0 : mj_m} (hB : mj_isL G β) (h : f_X6_obey a1 a2 m = m0) : mj_S1 yX6_obey cX6_obey 4 none 0 G [mj_r (β, 9), .inl a1, .inl a2] (va_up M β m) none (va_up M β m0) := by
  refine mj_intro (by decide) (Nat.le_of_ble_eq_true rfl) ?_
  intro κ C hG hR hT
  subst hG
  have C : mj_C κ cX6_obey 4 RX6 := C
  show mj_R κ (mj_F κ (fun r M' => r = none ∧ M' = (va_up M β m0) ∧ mj_bb none none)) 0 [some (mj_r (β, 9)), some (.inl a1), some (.inl a2), none] [] (va_up M β m)
  unfold f_X6_obey at h
  refine mj_iload_n C dX6_obey_0 rfl ?_
  refine mj_if_ne (tgt := 8) C dX6_obey_1 (by decide) (fun c8 => ?_) (fun c8 => ?_)
  · replace h := mj_if_f c8 h
    refine mj_iconst (v := 0) C dX6_obey_8 (by decide) ?_
    refine mj_sub (L' := [some (mj_r (β, 9)), none, some (.inl a2), none]) ⟨rfl, ⟨rfl, trivial⟩⟩ ?_
    exact C_X6_obey_J9 C hB hR hT h
  · replace h := mj_if_t c8 h
    refine mj_iconst (v := 1) C dX6_obey_4 (by decide) ?_
    refine mj_goto (tgt := 9) C dX6_obey_5 (by decide) ?_
    refine mj_sub (L' := [some (mj_r (β, 9)), none, some (.inl a2), none]) ⟨rfl, ⟨rfl, trivial⟩⟩ ?_
    exact C_X6_obey_J9 C hB hR hT h
def f_X6_meet_J70 (m : mj_m) : Option (mj_m) := mj_let (mj_wrs m 9 12 ((m 9 12) + 1)) (fun m1 => some m1)
set_option maxHeartbeats 4000000 in
set_option maxRecDepth 20000 in
theorem C_X6_meet_J70 {κ : mj_K} {β : Nat} {M : mj_M} {m : mj_m} {m0 : mj_m} (C : mj_C κ cX6_meet 7 RX6) (hB : mj_isL (mj_g κ) β) (hR : mj_dp κ 4) (hT : mj_rt κ = none) (h : f_X6_meet_J70 m = some m0) : mj_R κ (mj_F κ (fun r M' => r = none ∧ M' = (va_up M β m0) ∧ mj_bb none none)) 70 [some (mj_r (β, 9)), none, none, none, none, none, none] [] (va_up M β m) := by
  unfold f_X6_meet_J70 at h
  refine mj_aload_n C dX6_meet_70 rfl ?_
  refine mj_dup C dX6_meet_71 ?_
  refine mj_bget C lF_X6_48 (sL9 hB) rfl dX6_meet_72 ?_
  refine mj_iconst (v := 1) C dX6_meet_75 (by decide) ?_
  refine mj_iadd C dX6_meet_76 ?_
  obtain ⟨m1, hm1, h⟩ := mj_let_o h
  refine mj_bput C lF_X6_48 fP_7_12 (vp_nar_int _) rfl (sL9 hB) rfl dX6_meet_77 hm1 ?_
  cases h
  exact mj_vret C hT dX6_meet_80 ⟨rfl, rfl, mj_bv _⟩
def f_X6_meet (m : mj_m) : Option (mj_m) := mj_b1 (f_X9_byteOf 33 0 0 m) (fun r2 => mj_b1 (f_X9_byteOf 33 0 1 m) (fun r4 => mj_b1 (f_X9_byteOf 33 0 2 m) (fun r6 => mj_b1 (f_X9_byteOf 33 0 3 m) (fun r8 => mj_let ((((r2 + r4) + r6) + r8) + 85) (fun x10 => mj_b1 (f_X9_byteOf 33 0 4 m) (fun r11 => if x10 &&& 255 = r11 then (mj_let (f_X6_isGood r2 r6 r8) (fun r14 => if r14 = 0 then (f_X6_meet_J70 m) else (if r2 = 0 then (mj_b1 (f_X9_lineOf 33 0 m) (fun r24 => mj_b1 (f_X6_meetInOrder r4 ((256 * r6) + r8) r24 m) (fun m26 => some m26))) else (mj_let (mj_wrs m 9 6 (((m 9 6) + 1) &&& 3)) (fun m18 => if r2 = 1 then (mj_b1 (f_X6_keepPast ((256 * r6) + r8) m18) (fun m22 => some m22)) else (mj_let (f_X6_obey r6 r8 m18) (fun m20 => some m20))))))) else (f_X6_meet_J70 m)))))))
set_option maxHeartbeats 4000000 in
set_option maxRecDepth 20000 in
theorem C_X6_meet {G : mj_G} {β : Nat} {M : mj_M} {m : mj_m} {m0 : mj_m} (hB : mj_isL G β) (h : f_X6_meet m = some m0) : mj_S1 yX6_meet cX6_meet 7 none 4 G [mj_r (β, 9), mj_r (β, 33)] (va_up M β m) none (va_up M β m0) := by
  refine mj_intro (by decide) (Nat.le_of_ble_eq_true rfl) ?_
  intro κ C hG hR hT
  subst hG
  have C : mj_C κ cX6_meet 7 RX6 := C
  show mj_R κ (mj_F κ (fun r M' => r = none ∧ M' = (va_up M β m0) ∧ mj_bb none none)) 0 [some (mj_r (β, 9)), some (mj_r (β, 33)), none, none, none, none, none] [] (va_up M β m)
  unfold f_X6_meet at h
  refine mj_aload_n C dX6_meet_0 rfl ?_
  refine mj_iconst (v := 0) C dX6_meet_1 (by decide) ?_
  refine mj_iconst (v := 0) C dX6_meet_2 (by decide) ?_
  obtain ⟨r2, er2, h⟩ := mj_b1_o h
  refine mj_callV1 (av := [.inl 0, .inl 0]) C lM_X6_59 lV_X9_byteOf (sL33 hB) ⟨_, rfl, rfl⟩ rfl (C_X9_byteOf (sLw33 hB) er2) (mj_rmok hR (by decide) (by decide)) rfl (Nat.le_of_ble_eq_true rfl) dX6_meet_3 (fun hb3 => ?_)
  refine mj_istore_n (L2 := [some (mj_r (β, 9)), some (mj_r (β, 33)), some (.inl r2), none, none, none, none]) C dX6_meet_6 (Nat.le_of_ble_eq_true rfl) rfl ?_
  refine mj_aload_n C dX6_meet_7 rfl ?_
  refine mj_iconst (v := 0) C dX6_meet_8 (by decide) ?_
  refine mj_iconst (v := 1) C dX6_meet_9 (by decide) ?_
  obtain ⟨r4, er4, h⟩ := mj_b1_o h
  refine mj_callV1 (av := [.inl 0, .inl 1]) C lM_X6_59 lV_X9_byteOf (sL33 hB) ⟨_, rfl, rfl⟩ rfl (C_X9_byteOf (sLw33 hB) er4) (mj_rmok hR (by decide) (by decide)) rfl (Nat.le_of_ble_eq_true rfl) dX6_meet_10 (fun hb5 => ?_)
  refine mj_istore_n (L2 := [some (mj_r (β, 9)), some (mj_r (β, 33)), some (.inl r2), some (.inl r4), none, none, none]) C dX6_meet_13 (Nat.le_of_ble_eq_true rfl) rfl ?_
  refine mj_aload_n C dX6_meet_14 rfl ?_
  refine mj_iconst (v := 0) C dX6_meet_15 (by decide) ?_
  refine mj_iconst (v := 2) C dX6_meet_16 (by decide) ?_
  obtain ⟨r6, er6, h⟩ := mj_b1_o h
  refine mj_callV1 (av := [.inl 0, .inl 2]) C lM_X6_59 lV_X9_byteOf (sL33 hB) ⟨_, rfl, rfl⟩ rfl (C_X9_byteOf (sLw33 hB) er6) (mj_rmok hR (by decide) (by decide)) rfl (Nat.le_of_ble_eq_true rfl) dX6_meet_17 (fun hb7 => ?_)
  refine mj_istore (L2 := [some (mj_r (β, 9)), some (mj_r (β, 33)), some (.inl r2), some (.inl r4), some (.inl r6), none, none]) C dX6_meet_20 (Nat.le_of_ble_eq_true rfl) rfl ?_
  refine mj_aload_n C dX6_meet_22 rfl ?_
  refine mj_iconst (v := 0) C dX6_meet_23 (by decide) ?_
  refine mj_iconst (v := 3) C dX6_meet_24 (by decide) ?_
  obtain ⟨r8, er8, h⟩ := mj_b1_o h
  refine mj_callV1 (av := [.inl 0, .inl 3]) C lM_X6_59 lV_X9_byteOf (sL33 hB) ⟨_, rfl, rfl⟩ rfl (C_X9_byteOf (sLw33 hB) er8) (mj_rmok hR (by decide) (by decide)) rfl (Nat.le_of_ble_eq_true rfl) dX6_meet_25 (fun hb9 => ?_)
  refine mj_istore (L2 := [some (mj_r (β, 9)), some (mj_r (β, 33)), some (.inl r2), some (.inl r4), some (.inl r6), some (.inl r8), none]) C dX6_meet_28 (Nat.le_of_ble_eq_true rfl) rfl ?_
  refine mj_iload_n C dX6_meet_30 rfl ?_
  refine mj_iload_n C dX6_meet_31 rfl ?_
  refine mj_iadd C dX6_meet_32 ?_
  refine mj_iload C dX6_meet_33 rfl ?_
  refine mj_iadd C dX6_meet_35 ?_
  refine mj_iload C dX6_meet_36 rfl ?_
  refine mj_iadd C dX6_meet_38 ?_
  refine mj_bipush (v := 85) C dX6_meet_39 (by decide) ?_
  refine mj_iadd C dX6_meet_41 ?_
  obtain ⟨x10, hx10, h⟩ := mj_let_o h
  refine mj_nm hx10 ?_
  refine mj_istore (L2 := [some (mj_r (β, 9)), some (mj_r (β, 33)), some (.inl r2), some (.inl r4), some (.inl r6), some (.inl r8), some (.inl x10)]) C dX6_meet_42 (Nat.le_of_ble_eq_true rfl) rfl ?_
  refine mj_iload C dX6_meet_44 rfl ?_
  refine mj_sipush (v := 255) C dX6_meet_46 (by decide) ?_
  refine mj_iand C dX6_meet_49 ?_
  refine mj_aload_n C dX6_meet_50 rfl ?_
  refine mj_iconst (v := 0) C dX6_meet_51 (by decide) ?_
  refine mj_iconst (v := 4) C dX6_meet_52 (by decide) ?_
  obtain ⟨r11, er11, h⟩ := mj_b1_o h
  refine mj_callV1 (av := [.inl 0, .inl 4]) C lM_X6_59 lV_X9_byteOf (sL33 hB) ⟨_, rfl, rfl⟩ rfl (C_X9_byteOf (sLw33 hB) er11) (mj_rmok hR (by decide) (by decide)) rfl (Nat.le_of_ble_eq_true rfl) dX6_meet_53 (fun hb12 => ?_)
  refine mj_icmp_ne (tgt := 70) C dX6_meet_56 (by decide) (fun c13 => ?_) (fun c13 => ?_)
  · replace h := mj_if_f c13 h
    refine mj_sub (L' := [some (mj_r (β, 9)), none, none, none, none, none, none]) ⟨rfl, trivial⟩ ?_
    exact C_X6_meet_J70 C hB hR hT h
  · replace h := mj_if_t c13 h
    refine mj_iload_n C dX6_meet_59 rfl ?_
    refine mj_iload C dX6_meet_60 rfl ?_
    refine mj_iload C dX6_meet_62 rfl ?_
    obtain ⟨r14, er14, h⟩ := mj_let_o h
    refine mj_callS1 (av := [.inl r2, .inl r6, .inl r8]) C lM_X6_65 lS_X6_isGood rfl (C_X6_isGood  er14) (mj_rmok hR (by decide) (by decide)) rfl (Nat.le_of_ble_eq_true rfl) dX6_meet_64 (fun hb15 => ?_)
    refine mj_if_ne (tgt := 81) C dX6_meet_67 (by decide) (fun c16 => ?_) (fun c16 => ?_)
    · replace h := mj_if_f c16 h
      refine mj_iload_n C dX6_meet_81 rfl ?_
      refine mj_if_ne (tgt := 105) C dX6_meet_82 (by decide) (fun c17 => ?_) (fun c17 => ?_)
      · replace h := mj_if_f c17 h
        refine mj_aload_n C dX6_meet_105 rfl ?_
        refine mj_aload_n C dX6_meet_106 rfl ?_
        refine mj_bget C lF_X6_25 (sL9 hB) rfl dX6_meet_107 ?_
        refine mj_iconst (v := 1) C dX6_meet_110 (by decide) ?_
        refine mj_iadd C dX6_meet_111 ?_
        refine mj_iconst (v := 3) C dX6_meet_112 (by decide) ?_
        refine mj_iand C dX6_meet_113 ?_
        obtain ⟨m18, hm18, h⟩ := mj_let_o h
        refine mj_bput C lF_X6_25 fP_7_6 (vp_nar_int _) rfl (sL9 hB) rfl dX6_meet_114 hm18 ?_
        refine mj_iload_n C dX6_meet_117 rfl ?_
        refine mj_iconst (v := 1) C dX6_meet_118 (by decide) ?_
        refine mj_icmp_ne (tgt := 138) C dX6_meet_119 (by decide) (fun c19 => ?_) (fun c19 => ?_)
        · replace h := mj_if_f c19 h
          refine mj_aload_n C dX6_meet_138 rfl ?_
          refine mj_iload C dX6_meet_139 rfl ?_
          refine mj_iload C dX6_meet_141 rfl ?_
          obtain ⟨m20, em20, h⟩ := mj_let_o h
          refine mj_callV0 (av := [.inl r6, .inl r8]) C lM_X6_81 lV_X6_obey (sL9 hB) ⟨_, rfl, rfl⟩ rfl (C_X6_obey hB em20) (mj_rmok hR (by decide) (by decide)) rfl (Nat.le_of_ble_eq_true rfl) dX6_meet_143 ?_
          cases h
          exact mj_vret C hT dX6_meet_146 ⟨rfl, rfl, mj_bv _⟩
        · replace h := mj_if_t c19 h
          refine mj_aload_n C dX6_meet_122 rfl ?_
          refine mj_sipush (v := 256) C dX6_meet_123 (by decide) ?_
          refine mj_iload C dX6_meet_126 rfl ?_
          refine mj_imul C dX6_meet_128 ?_
          refine mj_iload C dX6_meet_129 rfl ?_
          refine mj_iadd C dX6_meet_131 ?_
          obtain ⟨m22, em22, h⟩ := mj_b1_o h
          refine mj_callV0 (av := [.inl ((256 * r6) + r8)]) C lM_X6_77 lV_X6_keepPast (sL9 hB) ⟨_, rfl, rfl⟩ rfl (C_X6_keepPast hB em22) (mj_rmok hR (by decide) (by decide)) rfl (Nat.le_of_ble_eq_true rfl) dX6_meet_132 ?_
          refine mj_goto (tgt := 146) C dX6_meet_135 (by decide) ?_
          cases h
          exact mj_vret C hT dX6_meet_146 ⟨rfl, rfl, mj_bv _⟩
      · replace h := mj_if_t c17 h
        refine mj_aload_n C dX6_meet_85 rfl ?_
        refine mj_iload_n C dX6_meet_86 rfl ?_
        refine mj_sipush (v := 256) C dX6_meet_87 (by decide) ?_
        refine mj_iload C dX6_meet_90 rfl ?_
        refine mj_imul C dX6_meet_92 ?_
        refine mj_iload C dX6_meet_93 rfl ?_
        refine mj_iadd C dX6_meet_95 ?_
        refine mj_aload_n C dX6_meet_96 rfl ?_
        refine mj_iconst (v := 0) C dX6_meet_97 (by decide) ?_
        obtain ⟨r24, er24, h⟩ := mj_b1_o h
        refine mj_callV1 (av := [.inl 0]) C lM_X6_69 lV_X9_lineOf (sL33 hB) ⟨_, rfl, rfl⟩ rfl (C_X9_lineOf (sLw33 hB) er24) (mj_rmok hR (by decide) (by decide)) rfl (Nat.le_of_ble_eq_true rfl) dX6_meet_98 (fun hb25 => ?_)
        obtain ⟨m26, em26, h⟩ := mj_b1_o h
        refine mj_callV0 (av := [.inl r4, .inl ((256 * r6) + r8), .inl r24]) C lM_X6_73 lV_X6_meetInOrder (sL9 hB) ⟨_, rfl, rfl⟩ rfl (C_X6_meetInOrder hB em26) (mj_rmok hR (by decide) (by decide)) rfl (Nat.le_of_ble_eq_true rfl) dX6_meet_101 ?_
        cases h
        exact mj_vret C hT dX6_meet_104 ⟨rfl, rfl, mj_bv _⟩
    · replace h := mj_if_t c16 h
      refine mj_sub (L' := [some (mj_r (β, 9)), none, none, none, none, none, none]) ⟨rfl, trivial⟩ ?_
      exact C_X6_meet_J70 C hB hR hT h
def f_X6_handOver (m : mj_m) : Option (Int32 × mj_m) := if m 10 4 = 0 then (some ((-1), m)) else (mj_let (m 11 0) (fun x2 => mj_b1 (f_X7_removeFirst 10 1 m) (fun m3 => mj_let (mj_wrs m3 9 4 0) (fun m5 => some (x2, m5)))))
set_option maxHeartbeats 4000000 in
set_option maxRecDepth 20000 in
theorem C_X6_handOver {G : mj_G} {β : Nat} {M : mj_M} {m : mj_m} {x0 : Int32} {m0 : mj_m} (hB : mj_isL G β) (h : f_X6_handOver m = some (x0, m0)) : mj_S1 yX6_handOver cX6_handOver 2 (some .int) 2 G [mj_r (β, 9)] (va_up M β m) (some (.inl x0)) (va_up M β m0) := by
  refine mj_intro (by decide) (Nat.le_of_ble_eq_true rfl) ?_
  intro κ C hG hR hT
  subst hG
  have C : mj_C κ cX6_handOver 2 RX6 := C
  show mj_R κ (mj_F κ (fun r M' => r = (some (.inl x0)) ∧ M' = (va_up M β m0) ∧ mj_bb (some .int) (some (.inl x0)))) 0 [some (mj_r (β, 9)), none] [] (va_up M β m)
  unfold f_X6_handOver at h
  refine mj_aload_n C dX6_handOver_0 rfl ?_
  refine mj_getr (r := (β, 10)) C lF_X6_31 (sL9 hB) rfl dX6_handOver_1 ?_
  refine mj_bget C lF_X6_92 (sL10 hB) rfl dX6_handOver_4 ?_
  refine mj_if_ne (tgt := 12) C dX6_handOver_7 (by decide) (fun c1 => ?_) (fun c1 => ?_)
  · replace h := mj_if_f c1 h
    refine mj_aload_n C dX6_handOver_12 rfl ?_
    refine mj_getr (r := (β, 10)) C lF_X6_31 (sL9 hB) rfl dX6_handOver_13 ?_
    refine mj_getr (r := (β, 11)) C lF_X6_112 (sL10 hB) rfl dX6_handOver_16 ?_
    refine mj_iconst (v := 0) C dX6_handOver_19 (by decide) ?_
    refine mj_bald C (sL11 hB) (mj_okn 0 20 (Nat.le_of_ble_eq_true rfl) (Nat.le_of_ble_eq_true rfl)) (mj_cln 0 (Nat.le_of_ble_eq_true rfl)) dX6_handOver_20 ?_
    obtain ⟨x2, hx2, h⟩ := mj_let_o h
    refine mj_nm hx2 ?_
    refine mj_istore_n (L2 := [some (mj_r (β, 9)), some (.inl x2)]) C dX6_handOver_21 (Nat.le_of_ble_eq_true rfl) rfl ?_
    refine mj_aload_n C dX6_handOver_22 rfl ?_
    refine mj_getr (r := (β, 10)) C lF_X6_31 (sL9 hB) rfl dX6_handOver_23 ?_
    refine mj_iconst (v := 1) C dX6_handOver_26 (by decide) ?_
    obtain ⟨m3, em3, h⟩ := mj_b1_o h
    refine mj_callV0 (av := [.inl 1]) C lM_X6_115 lV_X7_removeFirst (sL10 hB) ⟨_, rfl, rfl⟩ rfl (C_X7_removeFirst (sLr10 hB) em3) (mj_rmok hR (by decide) (by decide)) rfl (Nat.le_of_ble_eq_true rfl) dX6_handOver_27 ?_
    refine mj_aload_n C dX6_handOver_30 rfl ?_
    refine mj_iconst (v := 0) C dX6_handOver_31 (by decide) ?_
    obtain ⟨m5, hm5, h⟩ := mj_let_o h
    refine mj_bput C lF_X6_19 fP_7_4 rfl rfl (sL9 hB) rfl dX6_handOver_32 hm5 ?_
    refine mj_iload_n C dX6_handOver_35 rfl ?_
    cases h
    exact mj_iret C hT (vp_nar_int _) dX6_handOver_36 ⟨rfl, rfl, mj_bi _⟩
  · replace h := mj_if_t c1 h
    refine mj_iconst (v := (-1)) C dX6_handOver_10 (by decide) ?_
    cases h
    exact mj_iret C hT (vp_nar_int _) dX6_handOver_11 ⟨rfl, rfl, mj_bi _⟩
def f_X6_reportWord_J38 (l1 : Int32) (m : mj_m) : Int32 := ((mj_shl l1 8) ||| (m 9 2))
set_option maxHeartbeats 4000000 in
set_option maxRecDepth 20000 in
theorem C_X6_reportWord_J38 {κ : mj_K} {β : Nat} {M : mj_M} {l1 : Int32} {m : mj_m} {x0 : Int32} (C : mj_C κ cX6_reportWord 2 RX6) (hB : mj_isL (mj_g κ) β) (hR : mj_dp κ 0) (hT : mj_rt κ = (some .int)) (h : f_X6_reportWord_J38 l1 m = x0) : mj_R κ (mj_F κ (fun r M' => r = (some (.inl x0)) ∧ M' = (va_up M β m) ∧ mj_bb (some .int) (some (.inl x0)))) 38 [some (mj_r (β, 9)), some (.inl l1)] [] (va_up M β m) := by
  unfold f_X6_reportWord_J38 at h
  refine mj_iload_n C dX6_reportWord_38 rfl ?_
  refine mj_bipush (v := 8) C dX6_reportWord_39 (by decide) ?_
  refine mj_ishl C dX6_reportWord_41 ?_
  refine mj_aload_n C dX6_reportWord_42 rfl ?_
  refine mj_bget C lF_X6_9 (sL9 hB) rfl dX6_reportWord_43 ?_
  refine mj_ior C dX6_reportWord_46 ?_
  cases h
  exact mj_iret C hT (vp_nar_int _) dX6_reportWord_47 ⟨rfl, rfl, mj_bi _⟩
def f_X6_reportWord_J28 (l1 : Int32) (m : mj_m) : Int32 := if m 9 5 = 0 then (f_X6_reportWord_J38 l1 m) else (mj_let (l1 + 4) (fun x2 => f_X6_reportWord_J38 x2 m))
set_option maxHeartbeats 4000000 in
set_option maxRecDepth 20000 in
theorem C_X6_reportWord_J28 {κ : mj_K} {β : Nat} {M : mj_M} {l1 : Int32} {m : mj_m} {x0 : Int32} (C : mj_C κ cX6_reportWord 2 RX6) (hB : mj_isL (mj_g κ) β) (hR : mj_dp κ 0) (hT : mj_rt κ = (some .int)) (h : f_X6_reportWord_J28 l1 m = x0) : mj_R κ (mj_F κ (fun r M' => r = (some (.inl x0)) ∧ M' = (va_up M β m) ∧ mj_bb (some .int) (some (.inl x0)))) 28 [some (mj_r (β, 9)), some (.inl l1)] [] (va_up M β m) := by
  unfold f_X6_reportWord_J28 at h
  refine mj_aload_n C dX6_reportWord_28 rfl ?_
  refine mj_bget C lF_X6_22 (sL9 hB) rfl dX6_reportWord_29 ?_
  refine mj_if_eq (tgt := 38) C dX6_reportWord_32 (by decide) (fun c1 => ?_) (fun c1 => ?_)
  · replace h := mj_if_t c1 h
    refine mj_sub (L' := [some (mj_r (β, 9)), some (.inl l1)]) ⟨rfl, ⟨rfl, trivial⟩⟩ ?_
    exact C_X6_reportWord_J38 C hB hR hT h
  · replace h := mj_if_f c1 h
    obtain ⟨x2, hx2, h⟩ := mj_let_o h
    refine mj_iinc (L2 := [some (mj_r (β, 9)), some (.inl x2)]) C dX6_reportWord_35 rfl hx2 rfl ?_
    refine mj_sub (L' := [some (mj_r (β, 9)), some (.inl x2)]) ⟨rfl, ⟨rfl, trivial⟩⟩ ?_
    exact C_X6_reportWord_J38 C hB hR hT h
def f_X6_reportWord_J18 (l1 : Int32) (m : mj_m) : Int32 := if m 9 4 = 0 then (f_X6_reportWord_J28 l1 m) else (mj_let (l1 + 2) (fun x4 => f_X6_reportWord_J28 x4 m))
set_option maxHeartbeats 4000000 in
set_option maxRecDepth 20000 in
theorem C_X6_reportWord_J18 {κ : mj_K} {β : Nat} {M : mj_M} {l1 : Int32} {m : mj_m} {x0 : Int32} (C : mj_C κ cX6_reportWord 2 RX6) (hB : mj_isL (mj_g κ) β) (hR : mj_dp κ 0) (hT : mj_rt κ = (some .int)) (h : f_X6_reportWord_J18 l1 m = x0) : mj_R κ (mj_F κ (fun r M' => r = (some (.inl x0)) ∧ M' = (va_up M β m) ∧ mj_bb (some .int) (some (.inl x0)))) 18 [some (mj_r (β, 9)), some (.inl l1)] [] (va_up M β m) := by
  unfold f_X6_reportWord_J18 at h
  refine mj_aload_n C dX6_reportWord_18 rfl ?_
  refine mj_bget C lF_X6_19 (sL9 hB) rfl dX6_reportWord_19 ?_
  refine mj_if_eq (tgt := 28) C dX6_reportWord_22 (by decide) (fun c3 => ?_) (fun c3 => ?_)
  · replace h := mj_if_t c3 h
    refine mj_sub (L' := [some (mj_r (β, 9)), some (.inl l1)]) ⟨rfl, ⟨rfl, trivial⟩⟩ ?_
    exact C_X6_reportWord_J28 C hB hR hT h
  · replace h := mj_if_f c3 h
    obtain ⟨x4, hx4, h⟩ := mj_let_o h
    refine mj_iinc (L2 := [some (mj_r (β, 9)), some (.inl x4)]) C dX6_reportWord_25 rfl hx4 rfl ?_
    refine mj_sub (L' := [some (mj_r (β, 9)), some (.inl x4)]) ⟨rfl, ⟨rfl, trivial⟩⟩ ?_
    exact C_X6_reportWord_J28 C hB hR hT h
def f_X6_reportWord (m : mj_m) : Int32 := mj_let (8 * (m 9 6)) (fun x5 => if m 9 3 = 0 then (f_X6_reportWord_J18 x5 m) else (mj_let (x5 + 1) (fun x7 => f_X6_reportWord_J18 x7 m)))
set_option maxHeartbeats 4000000 in
set_option maxRecDepth 20000 in
theorem C_X6_reportWord {G : mj_G} {β : Nat} {M : mj_M} {m : mj_m} {x0 : Int32} (hB : mj_isL G β) (h : f_X6_reportWord m = x0) : mj_S1 yX6_reportWord cX6_reportWord 2 (some .int) 0 G [mj_r (β, 9)] (va_up M β m) (some (.inl x0)) (va_up M β m) := by
  refine mj_intro (by decide) (Nat.le_of_ble_eq_true rfl) ?_
  intro κ C hG hR hT
  subst hG
  have C : mj_C κ cX6_reportWord 2 RX6 := C
  show mj_R κ (mj_F κ (fun r M' => r = (some (.inl x0)) ∧ M' = (va_up M β m) ∧ mj_bb (some .int) (some (.inl x0)))) 0 [some (mj_r (β, 9)), none] [] (va_up M β m)
  unfold f_X6_reportWord at h
  refine mj_bipush (v := 8) C dX6_reportWord_0 (by decide) ?_
  refine mj_aload_n C dX6_reportWord_2 rfl ?_
  refine mj_bget C lF_X6_25 (sL9 hB) rfl dX6_reportWord_3 ?_
  refine mj_imul C dX6_reportWord_6 ?_
  obtain ⟨x5, hx5, h⟩ := mj_let_o h
  refine mj_nm hx5 ?_
  refine mj_istore_n (L2 := [some (mj_r (β, 9)), some (.inl x5)]) C dX6_reportWord_7 (Nat.le_of_ble_eq_true rfl) rfl ?_
  refine mj_aload_n C dX6_reportWord_8 rfl ?_
  refine mj_bget C lF_X6_15 (sL9 hB) rfl dX6_reportWord_9 ?_
  refine mj_if_eq (tgt := 18) C dX6_reportWord_12 (by decide) (fun c6 => ?_) (fun c6 => ?_)
  · replace h := mj_if_t c6 h
    refine mj_sub (L' := [some (mj_r (β, 9)), some (.inl x5)]) ⟨rfl, ⟨rfl, trivial⟩⟩ ?_
    exact C_X6_reportWord_J18 C hB hR hT h
  · replace h := mj_if_f c6 h
    obtain ⟨x7, hx7, h⟩ := mj_let_o h
    refine mj_iinc (L2 := [some (mj_r (β, 9)), some (.inl x7)]) C dX6_reportWord_15 rfl hx7 rfl ?_
    refine mj_sub (L' := [some (mj_r (β, 9)), some (.inl x7)]) ⟨rfl, ⟨rfl, trivial⟩⟩ ?_
    exact C_X6_reportWord_J18 C hB hR hT h
def f_X6_copyFrom (o : mj_m) (m : mj_m) : Option (mj_m) := mj_let (mj_wrs m 9 2 (o 9 2)) (fun m1 => mj_chk (mj_isb (o 9 3)) (mj_let (mj_wrs m1 9 3 (o 9 3)) (fun m2 => mj_chk (mj_isb (o 9 4)) (mj_let (mj_wrs m2 9 4 (o 9 4)) (fun m4 => mj_chk (mj_isb (o 9 5)) (mj_let (mj_wrs m4 9 5 (o 9 5)) (fun m6 => mj_let (mj_wrs m6 9 6 (o 9 6)) (fun m8 => mj_b1 (f_X7_copyFrom 10 10 o m8) (fun m9 => mj_chk (mj_cok 0 0 100 100 100) (mj_let (mj_cpo o m9 15 15 0 0 100) (fun m12 => mj_let (mj_wrs m12 9 9 (o 9 9)) (fun m13 => mj_chk (mj_cok 0 0 100 100 100) (mj_let (mj_cpo o m13 16 16 0 0 100) (fun m15 => mj_let (mj_wrs m15 9 11 (o 9 11)) (fun m16 => mj_let (mj_wrs m16 9 12 (o 9 12)) (fun m17 => some m17))))))))))))))))
set_option maxHeartbeats 4000000 in
set_option maxRecDepth 20000 in
theorem C_X6_copyFrom {G : mj_G} {β : Nat} {γ : Nat} {o : mj_m} {M : mj_M} {m : mj_m} {m0 : mj_m} (hB : mj_isL G β) (hO : mj_isL G γ) (hne : γ ≠ β) (ho : M γ = o) (h : f_X6_copyFrom o m = some m0) : mj_S1 yX6_copyFrom cX6_copyFrom 2 none 2 G [mj_r (β, 9), mj_r (γ, 9)] (va_up M β m) none (va_up M β m0) := by
  refine mj_intro (by decide) (Nat.le_of_ble_eq_true rfl) ?_
  intro κ C hG hR hT
  subst hG
  have C : mj_C κ cX6_copyFrom 2 RX6 := C
  show mj_R κ (mj_F κ (fun r M' => r = none ∧ M' = (va_up M β m0) ∧ mj_bb none none)) 0 [some (mj_r (β, 9)), some (mj_r (γ, 9))] [] (va_up M β m)
  unfold f_X6_copyFrom at h
  refine mj_aload_n C dX6_copyFrom_0 rfl ?_
  refine mj_aload_n C dX6_copyFrom_1 rfl ?_
  refine mj_oget C hne ho lF_X6_9 (sL9 hO) rfl dX6_copyFrom_2 ?_
  obtain ⟨m1, hm1, h⟩ := mj_let_o h
  refine mj_bput C lF_X6_9 fP_7_2 (vp_nar_int _) rfl (sL9 hB) rfl dX6_copyFrom_5 hm1 ?_
  refine mj_aload_n C dX6_copyFrom_8 rfl ?_
  refine mj_aload_n C dX6_copyFrom_9 rfl ?_
  refine mj_oget C hne ho lF_X6_15 (sL9 hO) rfl dX6_copyFrom_10 ?_
  obtain ⟨k3, h⟩ := mj_chk_o h
  obtain ⟨m2, hm2, h⟩ := mj_let_o h
  refine mj_bput C lF_X6_15 fP_7_3 (mj_nb (mj_isb_b k3)) (mj_fb (mj_isb_b k3)) (sL9 hB) rfl dX6_copyFrom_13 hm2 ?_
  refine mj_aload_n C dX6_copyFrom_16 rfl ?_
  refine mj_aload_n C dX6_copyFrom_17 rfl ?_
  refine mj_oget C hne ho lF_X6_19 (sL9 hO) rfl dX6_copyFrom_18 ?_
  obtain ⟨k5, h⟩ := mj_chk_o h
  obtain ⟨m4, hm4, h⟩ := mj_let_o h
  refine mj_bput C lF_X6_19 fP_7_4 (mj_nb (mj_isb_b k5)) (mj_fb (mj_isb_b k5)) (sL9 hB) rfl dX6_copyFrom_21 hm4 ?_
  refine mj_aload_n C dX6_copyFrom_24 rfl ?_
  refine mj_aload_n C dX6_copyFrom_25 rfl ?_
  refine mj_oget C hne ho lF_X6_22 (sL9 hO) rfl dX6_copyFrom_26 ?_
  obtain ⟨k7, h⟩ := mj_chk_o h
  obtain ⟨m6, hm6, h⟩ := mj_let_o h
  refine mj_bput C lF_X6_22 fP_7_5 (mj_nb (mj_isb_b k7)) (mj_fb (mj_isb_b k7)) (sL9 hB) rfl dX6_copyFrom_29 hm6 ?_
  refine mj_aload_n C dX6_copyFrom_32 rfl ?_
  refine mj_aload_n C dX6_copyFrom_33 rfl ?_
  refine mj_oget C hne ho lF_X6_25 (sL9 hO) rfl dX6_copyFrom_34 ?_
  obtain ⟨m8, hm8, h⟩ := mj_let_o h
  refine mj_bput C lF_X6_25 fP_7_6 (vp_nar_int _) rfl (sL9 hB) rfl dX6_copyFrom_37 hm8 ?_
  refine mj_aload_n C dX6_copyFrom_40 rfl ?_
  refine mj_getr (r := (β, 10)) C lF_X6_31 (sL9 hB) rfl dX6_copyFrom_41 ?_
  refine mj_aload_n C dX6_copyFrom_44 rfl ?_
  refine mj_getr (r := (γ, 10)) C lF_X6_31 (sL9 hO) rfl dX6_copyFrom_45 ?_
  obtain ⟨m9, em9, h⟩ := mj_b1_o h
  refine mj_callV0 (av := [mj_r (γ, 10)]) C lM_X6_136 lV_X7_copyFrom (sL10 hB) ⟨_, rfl, rfl⟩ rfl (C_X7_copyFrom (sLr10 hB) (sLr10 hO) hne ho em9) (mj_rmok hR (by decide) (by decide)) rfl (Nat.le_of_ble_eq_true rfl) dX6_copyFrom_48 ?_
  refine mj_aload_n C dX6_copyFrom_51 rfl ?_
  refine mj_getr (r := (γ, 15)) C lF_X6_35 (sL9 hO) rfl dX6_copyFrom_52 ?_
  refine mj_iconst (v := 0) C dX6_copyFrom_55 (by decide) ?_
  refine mj_aload_n C dX6_copyFrom_56 rfl ?_
  refine mj_getr (r := (β, 15)) C lF_X6_35 (sL9 hB) rfl dX6_copyFrom_57 ?_
  refine mj_iconst (v := 0) C dX6_copyFrom_60 (by decide) ?_
  refine mj_bipush (v := 100) C dX6_copyFrom_61 (by decide) ?_
  obtain ⟨k11, h⟩ := mj_chk_o h
  obtain ⟨m12, hm12, h⟩ := mj_let_o h
  refine mj_ocopy C hne ho lM_X6_140 rfl (sL15 hO) (sL15 hB) k11 (mj_rmc hR (by decide)) (Nat.le_of_ble_eq_true rfl) dX6_copyFrom_63 hm12 ?_
  refine mj_aload_n C dX6_copyFrom_66 rfl ?_
  refine mj_aload_n C dX6_copyFrom_67 rfl ?_
  refine mj_oget C hne ho lF_X6_39 (sL9 hO) rfl dX6_copyFrom_68 ?_
  obtain ⟨m13, hm13, h⟩ := mj_let_o h
  refine mj_bput C lF_X6_39 fP_7_9 (vp_nar_int _) rfl (sL9 hB) rfl dX6_copyFrom_71 hm13 ?_
  refine mj_aload_n C dX6_copyFrom_74 rfl ?_
  refine mj_getr (r := (γ, 16)) C lF_X6_42 (sL9 hO) rfl dX6_copyFrom_75 ?_
  refine mj_iconst (v := 0) C dX6_copyFrom_78 (by decide) ?_
  refine mj_aload_n C dX6_copyFrom_79 rfl ?_
  refine mj_getr (r := (β, 16)) C lF_X6_42 (sL9 hB) rfl dX6_copyFrom_80 ?_
  refine mj_iconst (v := 0) C dX6_copyFrom_83 (by decide) ?_
  refine mj_bipush (v := 100) C dX6_copyFrom_84 (by decide) ?_
  obtain ⟨k14, h⟩ := mj_chk_o h
  obtain ⟨m15, hm15, h⟩ := mj_let_o h
  refine mj_ocopy C hne ho lM_X6_140 rfl (sL16 hO) (sL16 hB) k14 (mj_rmc hR (by decide)) (Nat.le_of_ble_eq_true rfl) dX6_copyFrom_86 hm15 ?_
  refine mj_aload_n C dX6_copyFrom_89 rfl ?_
  refine mj_aload_n C dX6_copyFrom_90 rfl ?_
  refine mj_oget C hne ho lF_X6_45 (sL9 hO) rfl dX6_copyFrom_91 ?_
  obtain ⟨m16, hm16, h⟩ := mj_let_o h
  refine mj_bput C lF_X6_45 fP_7_11 (vp_nar_int _) rfl (sL9 hB) rfl dX6_copyFrom_94 hm16 ?_
  refine mj_aload_n C dX6_copyFrom_97 rfl ?_
  refine mj_aload_n C dX6_copyFrom_98 rfl ?_
  refine mj_oget C hne ho lF_X6_48 (sL9 hO) rfl dX6_copyFrom_99 ?_
  obtain ⟨m17, hm17, h⟩ := mj_let_o h
  refine mj_bput C lF_X6_48 fP_7_12 (vp_nar_int _) rfl (sL9 hB) rfl dX6_copyFrom_102 hm17 ?_
  cases h
  exact mj_vret C hT dX6_copyFrom_105 ⟨rfl, rfl, mj_bv _⟩
def f_X8_queue (a1 : Int32) (m : mj_m) : Option (Int32 × mj_m) := mj_let (f_X10_isCommand a1) (fun r1 => if r1 = 0 then (some ((-1), m)) else (if 3 < m 17 6 then (some ((-1), m)) else (if m 18 4 < 8 then (mj_b2 (f_X2_open a1 m) (fun r6 m7 => mj_b1 (f_X7_add 18 a1 0 r6 m7) (fun m9 => some (m9 18 4, m9)))) else (some ((-1), m)))))
set_option maxHeartbeats 4000000 in
set_option maxRecDepth 20000 in
theorem C_X8_queue {G : mj_G} {β : Nat} {M : mj_M} {a1 : Int32} {m : mj_m} {x0 : Int32} {m0 : mj_m} (hB : mj_isL G β) (h : f_X8_queue a1 m = some (x0, m0)) : mj_S1 yX8_queue cX8_queue 2 (some .int) 2 G [mj_r (β, 17), .inl a1] (va_up M β m) (some (.inl x0)) (va_up M β m0) := by
  refine mj_intro (by decide) (Nat.le_of_ble_eq_true rfl) ?_
  intro κ C hG hR hT
  subst hG
  have C : mj_C κ cX8_queue 2 RX8 := C
  show mj_R κ (mj_F κ (fun r M' => r = (some (.inl x0)) ∧ M' = (va_up M β m0) ∧ mj_bb (some .int) (some (.inl x0)))) 0 [some (mj_r (β, 17)), some (.inl a1)] [] (va_up M β m)
  unfold f_X8_queue at h
  refine mj_iload_n C dX8_queue_0 rfl ?_
  obtain ⟨r1, er1, h⟩ := mj_let_o h
  refine mj_callN1 (av := [.inl a1]) C lN_X8_68 lS_X10_isCommand rfl (C_X10_isCommand  er1) (mj_rmok hR (by decide) (by decide)) rfl (Nat.le_of_ble_eq_true rfl) dX8_queue_1 (fun hb2 => ?_)
  refine mj_if_eq (tgt := 27) C dX8_queue_4 (by decide) (fun c3 => ?_) (fun c3 => ?_)
  · replace h := mj_if_t c3 h
    refine mj_iconst (v := (-1)) C dX8_queue_27 (by decide) ?_
    cases h
    exact mj_iret C hT (vp_nar_int _) dX8_queue_28 ⟨rfl, rfl, mj_bi _⟩
  · replace h := mj_if_f c3 h
    refine mj_aload_n C dX8_queue_7 rfl ?_
    refine mj_bget C lF_X8_24 (sL17 hB) rfl dX8_queue_8 ?_
    refine mj_iconst (v := 3) C dX8_queue_11 (by decide) ?_
    refine mj_icmp_gt (tgt := 27) C dX8_queue_12 (by decide) (fun c4 => ?_) (fun c4 => ?_)
    · replace h := mj_if_t c4 h
      refine mj_iconst (v := (-1)) C dX8_queue_27 (by decide) ?_
      cases h
      exact mj_iret C hT (vp_nar_int _) dX8_queue_28 ⟨rfl, rfl, mj_bi _⟩
    · replace h := mj_if_f c4 h
      refine mj_aload_n C dX8_queue_15 rfl ?_
      refine mj_getr (r := (β, 18)) C lF_X8_12 (sL17 hB) rfl dX8_queue_16 ?_
      refine mj_bget C lF_X8_72 (sL18 hB) rfl dX8_queue_19 ?_
      refine mj_bipush (v := 8) C dX8_queue_22 (by decide) ?_
      refine mj_icmp_lt (tgt := 29) C dX8_queue_24 (by decide) (fun c5 => ?_) (fun c5 => ?_)
      · replace h := mj_if_t c5 h
        refine mj_aload_n C dX8_queue_29 rfl ?_
        refine mj_getr (r := (β, 18)) C lF_X8_12 (sL17 hB) rfl dX8_queue_30 ?_
        refine mj_iload_n C dX8_queue_33 rfl ?_
        refine mj_iconst (v := 0) C dX8_queue_34 (by decide) ?_
        refine mj_aload_n C dX8_queue_35 rfl ?_
        refine mj_getr (r := (β, 3)) C lF_X8_60 (sL17 hB) rfl dX8_queue_36 ?_
        refine mj_iload_n C dX8_queue_39 rfl ?_
        obtain ⟨r6, m7, em7, h⟩ := mj_b2_o h
        refine mj_callV1 (av := [.inl a1]) C lM_X8_75 lV_X2_open (sL3 hB) ⟨_, rfl, rfl⟩ rfl (C_X2_open hB em7) (mj_rmok hR (by decide) (by decide)) rfl (Nat.le_of_ble_eq_true rfl) dX8_queue_40 (fun hb8 => ?_)
        obtain ⟨m9, em9, h⟩ := mj_b1_o h
        refine mj_callV0 (av := [.inl a1, .inl 0, .inl r6]) C lM_X8_81 lV_X7_add (sL18 hB) ⟨_, rfl, rfl⟩ rfl (C_X7_add (sLr18 hB) em9) (mj_rmok hR (by decide) (by decide)) rfl (Nat.le_of_ble_eq_true rfl) dX8_queue_43 ?_
        refine mj_aload_n C dX8_queue_46 rfl ?_
        refine mj_getr (r := (β, 18)) C lF_X8_12 (sL17 hB) rfl dX8_queue_47 ?_
        refine mj_bget C lF_X8_72 (sL18 hB) rfl dX8_queue_50 ?_
        cases h
        exact mj_iret C hT (vp_nar_int _) dX8_queue_53 ⟨rfl, rfl, mj_bi _⟩
      · replace h := mj_if_f c5 h
        refine mj_iconst (v := (-1)) C dX8_queue_27 (by decide) ?_
        cases h
        exact mj_iret C hT (vp_nar_int _) dX8_queue_28 ⟨rfl, rfl, mj_bi _⟩
def f_X8_queuePast (a1 : Int32) (m : mj_m) : Option (Int32 × mj_m) := mj_let (f_X10_isCommand a1) (fun r1 => if r1 = 0 then (some ((-1), m)) else (if m 28 4 < 4 then (mj_b1 (f_X7_add 28 a1 0 (-1) m) (fun m5 => some (m5 28 4, m5))) else (some ((-1), m))))
set_option maxHeartbeats 4000000 in
set_option maxRecDepth 20000 in
theorem C_X8_queuePast {G : mj_G} {β : Nat} {M : mj_M} {a1 : Int32} {m : mj_m} {x0 : Int32} {m0 : mj_m} (hB : mj_isL G β) (h : f_X8_queuePast a1 m = some (x0, m0)) : mj_S1 yX8_queuePast cX8_queuePast 2 (some .int) 2 G [mj_r (β, 17), .inl a1] (va_up M β m) (some (.inl x0)) (va_up M β m0) := by
  refine mj_intro (by decide) (Nat.le_of_ble_eq_true rfl) ?_
  intro κ C hG hR hT
  subst hG
  have C : mj_C κ cX8_queuePast 2 RX8 := C
  show mj_R κ (mj_F κ (fun r M' => r = (some (.inl x0)) ∧ M' = (va_up M β m0) ∧ mj_bb (some .int) (some (.inl x0)))) 0 [some (mj_r (β, 17)), some (.inl a1)] [] (va_up M β m)
  unfold f_X8_queuePast at h
  refine mj_iload_n C dX8_queuePast_0 rfl ?_
  obtain ⟨r1, er1, h⟩ := mj_let_o h
  refine mj_callN1 (av := [.inl a1]) C lN_X8_68 lS_X10_isCommand rfl (C_X10_isCommand  er1) (mj_rmok hR (by decide) (by decide)) rfl (Nat.le_of_ble_eq_true rfl) dX8_queuePast_1 (fun hb2 => ?_)
  refine mj_if_eq (tgt := 18) C dX8_queuePast_4 (by decide) (fun c3 => ?_) (fun c3 => ?_)
  · replace h := mj_if_t c3 h
    refine mj_iconst (v := (-1)) C dX8_queuePast_18 (by decide) ?_
    cases h
    exact mj_iret C hT (vp_nar_int _) dX8_queuePast_19 ⟨rfl, rfl, mj_bi _⟩
  · replace h := mj_if_f c3 h
    refine mj_aload_n C dX8_queuePast_7 rfl ?_
    refine mj_getr (r := (β, 28)) C lF_X8_21 (sL17 hB) rfl dX8_queuePast_8 ?_
    refine mj_bget C lF_X8_72 (sL28 hB) rfl dX8_queuePast_11 ?_
    refine mj_iconst (v := 4) C dX8_queuePast_14 (by decide) ?_
    refine mj_icmp_lt (tgt := 20) C dX8_queuePast_15 (by decide) (fun c4 => ?_) (fun c4 => ?_)
    · replace h := mj_if_t c4 h
      refine mj_aload_n C dX8_queuePast_20 rfl ?_
      refine mj_getr (r := (β, 28)) C lF_X8_21 (sL17 hB) rfl dX8_queuePast_21 ?_
      refine mj_iload_n C dX8_queuePast_24 rfl ?_
      refine mj_iconst (v := 0) C dX8_queuePast_25 (by decide) ?_
      refine mj_iconst (v := (-1)) C dX8_queuePast_26 (by decide) ?_
      obtain ⟨m5, em5, h⟩ := mj_b1_o h
      refine mj_callV0 (av := [.inl a1, .inl 0, .inl (-1)]) C lM_X8_81 lV_X7_add (sL28 hB) ⟨_, rfl, rfl⟩ rfl (C_X7_add (sLr28 hB) em5) (mj_rmok hR (by decide) (by decide)) rfl (Nat.le_of_ble_eq_true rfl) dX8_queuePast_27 ?_
      refine mj_aload_n C dX8_queuePast_30 rfl ?_
      refine mj_getr (r := (β, 28)) C lF_X8_21 (sL17 hB) rfl dX8_queuePast_31 ?_
      refine mj_bget C lF_X8_72 (sL28 hB) rfl dX8_queuePast_34 ?_
      cases h
      exact mj_iret C hT (vp_nar_int _) dX8_queuePast_37 ⟨rfl, rfl, mj_bi _⟩
    · replace h := mj_if_f c4 h
      refine mj_iconst (v := (-1)) C dX8_queuePast_18 (by decide) ?_
      cases h
      exact mj_iret C hT (vp_nar_int _) dX8_queuePast_19 ⟨rfl, rfl, mj_bi _⟩
def f_X8_begin_J144 (l1 : Int32) (s0 : Int32) (m : mj_m) : Option (Int32 × mj_m) := mj_chk (mj_isb s0) (mj_let (mj_wrs m 17 13 s0) (fun m1 => if l1 = 0 then (mj_b2 (f_X1_change (m1 17 6) 1 m1) (fun r13 m14 => mj_let (mj_wrs m14 17 6 r13) (fun m16 => some (1, m16)))) else (if l1 = 1 then (mj_b2 (f_X1_change (m1 17 6) 4 m1) (fun r9 m10 => mj_let (mj_wrs m10 17 6 r9) (fun m12 => some (1, m12)))) else (mj_b2 (f_X1_change (m1 17 6) 5 m1) (fun r5 m6 => mj_let (mj_wrs m6 17 6 r5) (fun m8 => some (1, m8)))))))
set_option maxHeartbeats 4000000 in
set_option maxRecDepth 20000 in
theorem C_X8_begin_J144 {κ : mj_K} {β : Nat} {M : mj_M} {l1 : Int32} {s0 : Int32} {m : mj_m} {x0 : Int32} {m0 : mj_m} (C : mj_C κ cX8_begin 3 RX8) (hB : mj_isL (mj_g κ) β) (hR : mj_dp κ 2) (hT : mj_rt κ = (some .boolean)) (h : f_X8_begin_J144 l1 s0 m = some (x0, m0)) : mj_R κ (mj_F κ (fun r M' => r = (some (.inl x0)) ∧ M' = (va_up M β m0) ∧ mj_bb (some .boolean) (some (.inl x0)))) 144 [some (mj_r (β, 17)), some (.inl l1), none] [.inl s0, mj_r (β, 17)] (va_up M β m) := by
  unfold f_X8_begin_J144 at h
  obtain ⟨k2, h⟩ := mj_chk_o h
  obtain ⟨m1, hm1, h⟩ := mj_let_o h
  refine mj_bput C lF_X8_46 fP_9_13 (mj_nb (mj_isb_b k2)) (mj_fb (mj_isb_b k2)) (sL17 hB) rfl dX8_begin_144 hm1 ?_
  refine mj_aload_n C dX8_begin_147 rfl ?_
  refine mj_aload_n C dX8_begin_148 rfl ?_
  refine mj_getr (r := (β, 5)) C lF_X8_64 (sL17 hB) rfl dX8_begin_149 ?_
  refine mj_aload_n C dX8_begin_152 rfl ?_
  refine mj_bget C lF_X8_24 (sL17 hB) rfl dX8_begin_153 ?_
  refine mj_iload_n C dX8_begin_156 rfl ?_
  refine mj_if_ne (tgt := 164) C dX8_begin_157 (by decide) (fun c3 => ?_) (fun c3 => ?_)
  · replace h := mj_if_f c3 h
    refine mj_iload_n C dX8_begin_164 rfl ?_
    refine mj_iconst (v := 1) C dX8_begin_165 (by decide) ?_
    refine mj_icmp_ne (tgt := 173) C dX8_begin_166 (by decide) (fun c4 => ?_) (fun c4 => ?_)
    · replace h := mj_if_f c4 h
      refine mj_iconst (v := 5) C dX8_begin_173 (by decide) ?_
      obtain ⟨r5, m6, em6, h⟩ := mj_b2_o h
      refine mj_callV1 (av := [.inl (m1 17 6), .inl 5]) C lM_X8_102 lV_X1_change (sL5 hB) ⟨_, rfl, rfl⟩ rfl (C_X1_change hB em6) (mj_rmok hR (by decide) (by decide)) rfl (Nat.le_of_ble_eq_true rfl) dX8_begin_174 (fun hb7 => ?_)
      obtain ⟨m8, hm8, h⟩ := mj_let_o h
      refine mj_bput C lF_X8_24 fP_9_6 (vp_nar_int _) rfl (sL17 hB) rfl dX8_begin_177 hm8 ?_
      refine mj_iconst (v := 1) C dX8_begin_180 (by decide) ?_
      cases h
      exact mj_iret C hT (mj_nb mj_b1') dX8_begin_181 ⟨rfl, rfl, mj_b1'⟩
    · replace h := mj_if_t c4 h
      refine mj_iconst (v := 4) C dX8_begin_169 (by decide) ?_
      refine mj_goto (tgt := 174) C dX8_begin_170 (by decide) ?_
      obtain ⟨r9, m10, em10, h⟩ := mj_b2_o h
      refine mj_callV1 (av := [.inl (m1 17 6), .inl 4]) C lM_X8_102 lV_X1_change (sL5 hB) ⟨_, rfl, rfl⟩ rfl (C_X1_change hB em10) (mj_rmok hR (by decide) (by decide)) rfl (Nat.le_of_ble_eq_true rfl) dX8_begin_174 (fun hb11 => ?_)
      obtain ⟨m12, hm12, h⟩ := mj_let_o h
      refine mj_bput C lF_X8_24 fP_9_6 (vp_nar_int _) rfl (sL17 hB) rfl dX8_begin_177 hm12 ?_
      refine mj_iconst (v := 1) C dX8_begin_180 (by decide) ?_
      cases h
      exact mj_iret C hT (mj_nb mj_b1') dX8_begin_181 ⟨rfl, rfl, mj_b1'⟩
  · replace h := mj_if_t c3 h
    refine mj_iconst (v := 1) C dX8_begin_160 (by decide) ?_
    refine mj_goto (tgt := 174) C dX8_begin_161 (by decide) ?_
    obtain ⟨r13, m14, em14, h⟩ := mj_b2_o h
    refine mj_callV1 (av := [.inl (m1 17 6), .inl 1]) C lM_X8_102 lV_X1_change (sL5 hB) ⟨_, rfl, rfl⟩ rfl (C_X1_change hB em14) (mj_rmok hR (by decide) (by decide)) rfl (Nat.le_of_ble_eq_true rfl) dX8_begin_174 (fun hb15 => ?_)
    obtain ⟨m16, hm16, h⟩ := mj_let_o h
    refine mj_bput C lF_X8_24 fP_9_6 (vp_nar_int _) rfl (sL17 hB) rfl dX8_begin_177 hm16 ?_
    refine mj_iconst (v := 1) C dX8_begin_180 (by decide) ?_
    cases h
    exact mj_iret C hT (mj_nb mj_b1') dX8_begin_181 ⟨rfl, rfl, mj_b1'⟩
def f_X8_begin_J127 (l1 : Int32) (s0 : Int32) (m : mj_m) : Option (Int32 × mj_m) := mj_let (mj_wrs m 17 12 s0) (fun m17 => if m17 17 12 = (-1) then (f_X8_begin_J144 l1 0 m17) else (f_X8_begin_J144 l1 1 m17))
set_option maxHeartbeats 4000000 in
set_option maxRecDepth 20000 in
theorem C_X8_begin_J127 {κ : mj_K} {β : Nat} {M : mj_M} {l1 : Int32} {s0 : Int32} {m : mj_m} {x0 : Int32} {m0 : mj_m} (C : mj_C κ cX8_begin 3 RX8) (hB : mj_isL (mj_g κ) β) (hR : mj_dp κ 2) (hT : mj_rt κ = (some .boolean)) (h : f_X8_begin_J127 l1 s0 m = some (x0, m0)) : mj_R κ (mj_F κ (fun r M' => r = (some (.inl x0)) ∧ M' = (va_up M β m0) ∧ mj_bb (some .boolean) (some (.inl x0)))) 127 [some (mj_r (β, 17)), some (.inl l1), none] [.inl s0, mj_r (β, 17)] (va_up M β m) := by
  unfold f_X8_begin_J127 at h
  obtain ⟨m17, hm17, h⟩ := mj_let_o h
  refine mj_bput C lF_X8_43 fP_9_12 (vp_nar_int _) rfl (sL17 hB) rfl dX8_begin_127 hm17 ?_
  refine mj_aload_n C dX8_begin_130 rfl ?_
  refine mj_aload_n C dX8_begin_131 rfl ?_
  refine mj_bget C lF_X8_43 (sL17 hB) rfl dX8_begin_132 ?_
  refine mj_iconst (v := (-1)) C dX8_begin_135 (by decide) ?_
  refine mj_icmp_eq (tgt := 143) C dX8_begin_136 (by decide) (fun c18 => ?_) (fun c18 => ?_)
  · replace h := mj_if_t c18 h
    refine mj_iconst (v := 0) C dX8_begin_143 (by decide) ?_
    refine mj_sub (L' := [some (mj_r (β, 17)), some (.inl l1), none]) ⟨rfl, ⟨rfl, trivial⟩⟩ ?_
    exact C_X8_begin_J144 C hB hR hT h
  · replace h := mj_if_f c18 h
    refine mj_iconst (v := 1) C dX8_begin_139 (by decide) ?_
    refine mj_goto (tgt := 144) C dX8_begin_140 (by decide) ?_
    refine mj_sub (L' := [some (mj_r (β, 17)), some (.inl l1), none]) ⟨rfl, ⟨rfl, trivial⟩⟩ ?_
    exact C_X8_begin_J144 C hB hR hT h
def f_X8_begin_J100 (l1 : Int32) (l2 : Int32) (s0 : Int32) (m : mj_m) : Option (Int32 × mj_m) := mj_let (mj_wrs m 17 10 s0) (fun m19 => if l1 = 2 then (f_X8_begin_J127 l1 0 m19) else (if l1 = 3 then (f_X8_begin_J127 l1 (256 + l2) m19) else (f_X8_begin_J127 l1 (-1) m19)))
set_option maxHeartbeats 4000000 in
set_option maxRecDepth 20000 in
theorem C_X8_begin_J100 {κ : mj_K} {β : Nat} {M : mj_M} {l1 : Int32} {l2 : Int32} {s0 : Int32} {m : mj_m} {x0 : Int32} {m0 : mj_m} (C : mj_C κ cX8_begin 3 RX8) (hB : mj_isL (mj_g κ) β) (hR : mj_dp κ 2) (hT : mj_rt κ = (some .boolean)) (h : f_X8_begin_J100 l1 l2 s0 m = some (x0, m0)) : mj_R κ (mj_F κ (fun r M' => r = (some (.inl x0)) ∧ M' = (va_up M β m0) ∧ mj_bb (some .boolean) (some (.inl x0)))) 100 [some (mj_r (β, 17)), some (.inl l1), some (.inl l2)] [.inl s0, mj_r (β, 17)] (va_up M β m) := by
  unfold f_X8_begin_J100 at h
  obtain ⟨m19, hm19, h⟩ := mj_let_o h
  refine mj_bput C lF_X8_37 fP_9_10 (vp_nar_int _) rfl (sL17 hB) rfl dX8_begin_100 hm19 ?_
  refine mj_aload_n C dX8_begin_103 rfl ?_
  refine mj_iload_n C dX8_begin_104 rfl ?_
  refine mj_iconst (v := 2) C dX8_begin_105 (by decide) ?_
  refine mj_icmp_ne (tgt := 113) C dX8_begin_106 (by decide) (fun c20 => ?_) (fun c20 => ?_)
  · replace h := mj_if_f c20 h
    refine mj_iload_n C dX8_begin_113 rfl ?_
    refine mj_iconst (v := 3) C dX8_begin_114 (by decide) ?_
    refine mj_icmp_ne (tgt := 126) C dX8_begin_115 (by decide) (fun c21 => ?_) (fun c21 => ?_)
    · replace h := mj_if_f c21 h
      refine mj_iconst (v := (-1)) C dX8_begin_126 (by decide) ?_
      refine mj_sub (L' := [some (mj_r (β, 17)), some (.inl l1), none]) ⟨rfl, ⟨rfl, trivial⟩⟩ ?_
      exact C_X8_begin_J127 C hB hR hT h
    · replace h := mj_if_t c21 h
      refine mj_sipush (v := 256) C dX8_begin_118 (by decide) ?_
      refine mj_iload_n C dX8_begin_121 rfl ?_
      refine mj_iadd C dX8_begin_122 ?_
      refine mj_goto (tgt := 127) C dX8_begin_123 (by decide) ?_
      refine mj_sub (L' := [some (mj_r (β, 17)), some (.inl l1), none]) ⟨rfl, ⟨rfl, trivial⟩⟩ ?_
      exact C_X8_begin_J127 C hB hR hT h
  · replace h := mj_if_t c20 h
    refine mj_iconst (v := 0) C dX8_begin_109 (by decide) ?_
    refine mj_goto (tgt := 127) C dX8_begin_110 (by decide) ?_
    refine mj_sub (L' := [some (mj_r (β, 17)), some (.inl l1), none]) ⟨rfl, ⟨rfl, trivial⟩⟩ ?_
    exact C_X8_begin_J127 C hB hR hT h
def f_X8_begin_J69 (l1 : Int32) (l2 : Int32) (m : mj_m) : Option (Int32 × mj_m) := mj_let (mj_wrs m 17 8 (m 17 7)) (fun m22 => mj_let (mj_wrs m22 17 9 1) (fun m23 => if l1 = 0 then (f_X8_begin_J100 l1 l2 0 m23) else (f_X8_begin_J100 l1 l2 (m23 2 4) m23)))
set_option maxHeartbeats 4000000 in
set_option maxRecDepth 20000 in
theorem C_X8_begin_J69 {κ : mj_K} {β : Nat} {M : mj_M} {l1 : Int32} {l2 : Int32} {m : mj_m} {x0 : Int32} {m0 : mj_m} (C : mj_C κ cX8_begin 3 RX8) (hB : mj_isL (mj_g κ) β) (hR : mj_dp κ 2) (hT : mj_rt κ = (some .boolean)) (h : f_X8_begin_J69 l1 l2 m = some (x0, m0)) : mj_R κ (mj_F κ (fun r M' => r = (some (.inl x0)) ∧ M' = (va_up M β m0) ∧ mj_bb (some .boolean) (some (.inl x0)))) 69 [some (mj_r (β, 17)), some (.inl l1), some (.inl l2)] [] (va_up M β m) := by
  unfold f_X8_begin_J69 at h
  refine mj_aload_n C dX8_begin_69 rfl ?_
  refine mj_aload_n C dX8_begin_70 rfl ?_
  refine mj_bget C lF_X8_28 (sL17 hB) rfl dX8_begin_71 ?_
  obtain ⟨m22, hm22, h⟩ := mj_let_o h
  refine mj_bput C lF_X8_31 fP_9_8 (vp_nar_int _) rfl (sL17 hB) rfl dX8_begin_74 hm22 ?_
  refine mj_aload_n C dX8_begin_77 rfl ?_
  refine mj_iconst (v := 1) C dX8_begin_78 (by decide) ?_
  obtain ⟨m23, hm23, h⟩ := mj_let_o h
  refine mj_bput C lF_X8_34 fP_9_9 (vp_nar_int _) rfl (sL17 hB) rfl dX8_begin_79 hm23 ?_
  refine mj_aload_n C dX8_begin_82 rfl ?_
  refine mj_iload_n C dX8_begin_83 rfl ?_
  refine mj_if_ne (tgt := 91) C dX8_begin_84 (by decide) (fun c24 => ?_) (fun c24 => ?_)
  · replace h := mj_if_f c24 h
    refine mj_aload_n C dX8_begin_91 rfl ?_
    refine mj_getr (r := (β, 1)) C lF_X8_56 (sL17 hB) rfl dX8_begin_92 ?_
    refine mj_getr (r := (β, 2)) C lF_X8_96 (sL1 hB) rfl dX8_begin_95 ?_
    refine mj_iconst (v := 4) C dX8_begin_98 (by decide) ?_
    refine mj_bald C (sL2 hB) (mj_okn 4 11 (Nat.le_of_ble_eq_true rfl) (Nat.le_of_ble_eq_true rfl)) (mj_cln 4 (Nat.le_of_ble_eq_true rfl)) dX8_begin_99 ?_
    refine mj_sub (L' := [some (mj_r (β, 17)), some (.inl l1), some (.inl l2)]) ⟨rfl, ⟨rfl, ⟨rfl, trivial⟩⟩⟩ ?_
    exact C_X8_begin_J100 C hB hR hT h
  · replace h := mj_if_t c24 h
    refine mj_iconst (v := 0) C dX8_begin_87 (by decide) ?_
    refine mj_goto (tgt := 100) C dX8_begin_88 (by decide) ?_
    refine mj_sub (L' := [some (mj_r (β, 17)), some (.inl l1), some (.inl l2)]) ⟨rfl, ⟨rfl, ⟨rfl, trivial⟩⟩⟩ ?_
    exact C_X8_begin_J100 C hB hR hT h
def f_X8_begin_J32 (l1 : Int32) (l2 : Int32) (m : mj_m) : Option (Int32 × mj_m) := mj_b1 (f_X2_lose 18 m) (fun m25 => mj_b1 (f_X2_lose 23 m25) (fun m27 => mj_let (mj_wrs m27 17 11 0) (fun m29 => if l1 = 3 then (mj_let (mj_wrs m29 17 7 l2) (fun m31 => f_X8_begin_J69 l1 l2 m31)) else (f_X8_begin_J69 l1 l2 m29))))
set_option maxHeartbeats 4000000 in
set_option maxRecDepth 20000 in
theorem C_X8_begin_J32 {κ : mj_K} {β : Nat} {M : mj_M} {l1 : Int32} {l2 : Int32} {m : mj_m} {x0 : Int32} {m0 : mj_m} (C : mj_C κ cX8_begin 3 RX8) (hB : mj_isL (mj_g κ) β) (hR : mj_dp κ 2) (hT : mj_rt κ = (some .boolean)) (h : f_X8_begin_J32 l1 l2 m = some (x0, m0)) : mj_R κ (mj_F κ (fun r M' => r = (some (.inl x0)) ∧ M' = (va_up M β m0) ∧ mj_bb (some .boolean) (some (.inl x0)))) 32 [some (mj_r (β, 17)), some (.inl l1), some (.inl l2)] [] (va_up M β m) := by
  unfold f_X8_begin_J32 at h
  refine mj_aload_n C dX8_begin_32 rfl ?_
  refine mj_getr (r := (β, 3)) C lF_X8_60 (sL17 hB) rfl dX8_begin_33 ?_
  refine mj_aload_n C dX8_begin_36 rfl ?_
  refine mj_getr (r := (β, 18)) C lF_X8_12 (sL17 hB) rfl dX8_begin_37 ?_
  obtain ⟨m25, em25, h⟩ := mj_b1_o h
  refine mj_callV0 (av := [mj_r (β, 18)]) C lM_X8_92 lV_X2_lose (sL3 hB) ⟨_, rfl, rfl⟩ rfl (C_X2_lose hB (sLr18 hB) em25) (mj_rmok hR (by decide) (by decide)) rfl (Nat.le_of_ble_eq_true rfl) dX8_begin_40 ?_
  refine mj_aload_n C dX8_begin_43 rfl ?_
  refine mj_getr (r := (β, 3)) C lF_X8_60 (sL17 hB) rfl dX8_begin_44 ?_
  refine mj_aload_n C dX8_begin_47 rfl ?_
  refine mj_getr (r := (β, 23)) C lF_X8_18 (sL17 hB) rfl dX8_begin_48 ?_
  obtain ⟨m27, em27, h⟩ := mj_b1_o h
  refine mj_callV0 (av := [mj_r (β, 23)]) C lM_X8_92 lV_X2_lose (sL3 hB) ⟨_, rfl, rfl⟩ rfl (C_X2_lose hB (sLr23 hB) em27) (mj_rmok hR (by decide) (by decide)) rfl (Nat.le_of_ble_eq_true rfl) dX8_begin_51 ?_
  refine mj_aload_n C dX8_begin_54 rfl ?_
  refine mj_iconst (v := 0) C dX8_begin_55 (by decide) ?_
  obtain ⟨m29, hm29, h⟩ := mj_let_o h
  refine mj_bput C lF_X8_40 fP_9_11 (vp_nar_int _) rfl (sL17 hB) rfl dX8_begin_56 hm29 ?_
  refine mj_iload_n C dX8_begin_59 rfl ?_
  refine mj_iconst (v := 3) C dX8_begin_60 (by decide) ?_
  refine mj_icmp_ne (tgt := 69) C dX8_begin_61 (by decide) (fun c30 => ?_) (fun c30 => ?_)
  · replace h := mj_if_f c30 h
    refine mj_sub (L' := [some (mj_r (β, 17)), some (.inl l1), some (.inl l2)]) ⟨rfl, ⟨rfl, ⟨rfl, trivial⟩⟩⟩ ?_
    exact C_X8_begin_J69 C hB hR hT h
  · replace h := mj_if_t c30 h
    refine mj_aload_n C dX8_begin_64 rfl ?_
    refine mj_iload_n C dX8_begin_65 rfl ?_
    obtain ⟨m31, hm31, h⟩ := mj_let_o h
    refine mj_bput C lF_X8_28 fP_9_7 (vp_nar_int _) rfl (sL17 hB) rfl dX8_begin_66 hm31 ?_
    refine mj_sub (L' := [some (mj_r (β, 17)), some (.inl l1), some (.inl l2)]) ⟨rfl, ⟨rfl, ⟨rfl, trivial⟩⟩⟩ ?_
    exact C_X8_begin_J69 C hB hR hT h
def f_X8_begin (a1 : Int32) (a2 : Int32) (m : mj_m) : Option (Int32 × mj_m) := if m 17 6 = 6 then (mj_let (f_X10_isWithin a1 0 3) (fun r33 => if r33 = 0 then (some (0, m)) else (if a1 = 3 then (mj_let (f_X10_isNumber a2) (fun r37 => if r37 = 0 then (some (0, m)) else (f_X8_begin_J32 a1 a2 m))) else (f_X8_begin_J32 a1 a2 m)))) else (some (0, m))
set_option maxHeartbeats 4000000 in
set_option maxRecDepth 20000 in
theorem C_X8_begin {G : mj_G} {β : Nat} {M : mj_M} {a1 : Int32} {a2 : Int32} {m : mj_m} {x0 : Int32} {m0 : mj_m} (hB : mj_isL G β) (h : f_X8_begin a1 a2 m = some (x0, m0)) : mj_S1 yX8_begin cX8_begin 3 (some .boolean) 2 G [mj_r (β, 17), .inl a1, .inl a2] (va_up M β m) (some (.inl x0)) (va_up M β m0) := by
  refine mj_intro (by decide) (Nat.le_of_ble_eq_true rfl) ?_
  intro κ C hG hR hT
  subst hG
  have C : mj_C κ cX8_begin 3 RX8 := C
  show mj_R κ (mj_F κ (fun r M' => r = (some (.inl x0)) ∧ M' = (va_up M β m0) ∧ mj_bb (some .boolean) (some (.inl x0)))) 0 [some (mj_r (β, 17)), some (.inl a1), some (.inl a2)] [] (va_up M β m)
  unfold f_X8_begin at h
  refine mj_aload_n C dX8_begin_0 rfl ?_
  refine mj_bget C lF_X8_24 (sL17 hB) rfl dX8_begin_1 ?_
  refine mj_bipush (v := 6) C dX8_begin_4 (by decide) ?_
  refine mj_icmp_ne (tgt := 30) C dX8_begin_6 (by decide) (fun c32 => ?_) (fun c32 => ?_)
  · replace h := mj_if_f c32 h
    refine mj_iconst (v := 0) C dX8_begin_30 (by decide) ?_
    cases h
    exact mj_iret C hT (mj_nb mj_b0) dX8_begin_31 ⟨rfl, rfl, mj_b0⟩
  · replace h := mj_if_t c32 h
    refine mj_iload_n C dX8_begin_9 rfl ?_
    refine mj_iconst (v := 0) C dX8_begin_10 (by decide) ?_
    refine mj_iconst (v := 3) C dX8_begin_11 (by decide) ?_
    obtain ⟨r33, er33, h⟩ := mj_let_o h
    refine mj_callN1 (av := [.inl a1, .inl 0, .inl 3]) C lN_X8_85 lS_X10_isWithin rfl (C_X10_isWithin  er33) (mj_rmok hR (by decide) (by decide)) rfl (Nat.le_of_ble_eq_true rfl) dX8_begin_12 (fun hb34 => ?_)
    refine mj_if_eq (tgt := 30) C dX8_begin_15 (by decide) (fun c35 => ?_) (fun c35 => ?_)
    · replace h := mj_if_t c35 h
      refine mj_iconst (v := 0) C dX8_begin_30 (by decide) ?_
      cases h
      exact mj_iret C hT (mj_nb mj_b0) dX8_begin_31 ⟨rfl, rfl, mj_b0⟩
    · replace h := mj_if_f c35 h
      refine mj_iload_n C dX8_begin_18 rfl ?_
      refine mj_iconst (v := 3) C dX8_begin_19 (by decide) ?_
      refine mj_icmp_ne (tgt := 32) C dX8_begin_20 (by decide) (fun c36 => ?_) (fun c36 => ?_)
      · replace h := mj_if_f c36 h
        refine mj_sub (L' := [some (mj_r (β, 17)), some (.inl a1), some (.inl a2)]) ⟨rfl, ⟨rfl, ⟨rfl, trivial⟩⟩⟩ ?_
        exact C_X8_begin_J32 C hB hR hT h
      · replace h := mj_if_t c36 h
        refine mj_iload_n C dX8_begin_23 rfl ?_
        obtain ⟨r37, er37, h⟩ := mj_let_o h
        refine mj_callN1 (av := [.inl a2]) C lN_X8_89 lS_X10_isNumber rfl (C_X10_isNumber  er37) (mj_rmok hR (by decide) (by decide)) rfl (Nat.le_of_ble_eq_true rfl) dX8_begin_24 (fun hb38 => ?_)
        refine mj_if_ne (tgt := 32) C dX8_begin_27 (by decide) (fun c39 => ?_) (fun c39 => ?_)
        · replace h := mj_if_f c39 h
          refine mj_sub (L' := [some (mj_r (β, 17)), some (.inl a1), some (.inl a2)]) ⟨rfl, ⟨rfl, ⟨rfl, trivial⟩⟩⟩ ?_
          exact C_X8_begin_J32 C hB hR hT h
        · replace h := mj_if_t c39 h
          refine mj_iconst (v := 0) C dX8_begin_30 (by decide) ?_
          cases h
          exact mj_iret C hT (mj_nb mj_b0) dX8_begin_31 ⟨rfl, rfl, mj_b0⟩
def f_X8_giveAlarm (a1 : Int32) (m : mj_m) : Option (mj_m) := mj_b2 (f_X1_change (m 17 6) 6 m) (fun r1 m2 => mj_let (mj_wrs m2 17 6 r1) (fun m4 => mj_b1 (f_X2_lose 18 m4) (fun m5 => mj_b1 (f_X2_lose 23 m5) (fun m7 => mj_let (mj_wrs m7 17 12 (-1)) (fun m9 => mj_let (mj_wrs m9 17 13 0) (fun m10 => mj_let (mj_wrs m10 17 10 0) (fun m11 => mj_let (mj_wrs m11 17 11 0) (fun m12 => mj_b1 (f_X1_noteAlarm a1 m12) (fun m13 => some m13)))))))))
set_option maxHeartbeats 4000000 in
set_option maxRecDepth 20000 in
theorem C_X8_giveAlarm {G : mj_G} {β : Nat} {M : mj_M} {a1 : Int32} {m : mj_m} {m0 : mj_m} (hB : mj_isL G β) (h : f_X8_giveAlarm a1 m = some m0) : mj_S1 yX8_giveAlarm cX8_giveAlarm 2 none 1 G [mj_r (β, 17), .inl a1] (va_up M β m) none (va_up M β m0) := by
  refine mj_intro (by decide) (Nat.le_of_ble_eq_true rfl) ?_
  intro κ C hG hR hT
  subst hG
  have C : mj_C κ cX8_giveAlarm 2 RX8 := C
  show mj_R κ (mj_F κ (fun r M' => r = none ∧ M' = (va_up M β m0) ∧ mj_bb none none)) 0 [some (mj_r (β, 17)), some (.inl a1)] [] (va_up M β m)
  unfold f_X8_giveAlarm at h
  refine mj_aload_n C dX8_giveAlarm_0 rfl ?_
  refine mj_aload_n C dX8_giveAlarm_1 rfl ?_
  refine mj_getr (r := (β, 5)) C lF_X8_64 (sL17 hB) rfl dX8_giveAlarm_2 ?_
  refine mj_aload_n C dX8_giveAlarm_5 rfl ?_
  refine mj_bget C lF_X8_24 (sL17 hB) rfl dX8_giveAlarm_6 ?_
  refine mj_bipush (v := 6) C dX8_giveAlarm_9 (by decide) ?_
  obtain ⟨r1, m2, em2, h⟩ := mj_b2_o h
  refine mj_callV1 (av := [.inl (m 17 6), .inl 6]) C lM_X8_102 lV_X1_change (sL5 hB) ⟨_, rfl, rfl⟩ rfl (C_X1_change hB em2) (mj_rmok hR (by decide) (by decide)) rfl (Nat.le_of_ble_eq_true rfl) dX8_giveAlarm_11 (fun hb3 => ?_)
  obtain ⟨m4, hm4, h⟩ := mj_let_o h
  refine mj_bput C lF_X8_24 fP_9_6 (vp_nar_int _) rfl (sL17 hB) rfl dX8_giveAlarm_14 hm4 ?_
  refine mj_aload_n C dX8_giveAlarm_17 rfl ?_
  refine mj_getr (r := (β, 3)) C lF_X8_60 (sL17 hB) rfl dX8_giveAlarm_18 ?_
  refine mj_aload_n C dX8_giveAlarm_21 rfl ?_
  refine mj_getr (r := (β, 18)) C lF_X8_12 (sL17 hB) rfl dX8_giveAlarm_22 ?_
  obtain ⟨m5, em5, h⟩ := mj_b1_o h
  refine mj_callV0 (av := [mj_r (β, 18)]) C lM_X8_92 lV_X2_lose (sL3 hB) ⟨_, rfl, rfl⟩ rfl (C_X2_lose hB (sLr18 hB) em5) (mj_rmok hR (by decide) (by decide)) rfl (Nat.le_of_ble_eq_true rfl) dX8_giveAlarm_25 ?_
  refine mj_aload_n C dX8_giveAlarm_28 rfl ?_
  refine mj_getr (r := (β, 3)) C lF_X8_60 (sL17 hB) rfl dX8_giveAlarm_29 ?_
  refine mj_aload_n C dX8_giveAlarm_32 rfl ?_
  refine mj_getr (r := (β, 23)) C lF_X8_18 (sL17 hB) rfl dX8_giveAlarm_33 ?_
  obtain ⟨m7, em7, h⟩ := mj_b1_o h
  refine mj_callV0 (av := [mj_r (β, 23)]) C lM_X8_92 lV_X2_lose (sL3 hB) ⟨_, rfl, rfl⟩ rfl (C_X2_lose hB (sLr23 hB) em7) (mj_rmok hR (by decide) (by decide)) rfl (Nat.le_of_ble_eq_true rfl) dX8_giveAlarm_36 ?_
  refine mj_aload_n C dX8_giveAlarm_39 rfl ?_
  refine mj_iconst (v := (-1)) C dX8_giveAlarm_40 (by decide) ?_
  obtain ⟨m9, hm9, h⟩ := mj_let_o h
  refine mj_bput C lF_X8_43 fP_9_12 (vp_nar_int _) rfl (sL17 hB) rfl dX8_giveAlarm_41 hm9 ?_
  refine mj_aload_n C dX8_giveAlarm_44 rfl ?_
  refine mj_iconst (v := 0) C dX8_giveAlarm_45 (by decide) ?_
  obtain ⟨m10, hm10, h⟩ := mj_let_o h
  refine mj_bput C lF_X8_46 fP_9_13 rfl rfl (sL17 hB) rfl dX8_giveAlarm_46 hm10 ?_
  refine mj_aload_n C dX8_giveAlarm_49 rfl ?_
  refine mj_iconst (v := 0) C dX8_giveAlarm_50 (by decide) ?_
  obtain ⟨m11, hm11, h⟩ := mj_let_o h
  refine mj_bput C lF_X8_37 fP_9_10 (vp_nar_int _) rfl (sL17 hB) rfl dX8_giveAlarm_51 hm11 ?_
  refine mj_aload_n C dX8_giveAlarm_54 rfl ?_
  refine mj_iconst (v := 0) C dX8_giveAlarm_55 (by decide) ?_
  obtain ⟨m12, hm12, h⟩ := mj_let_o h
  refine mj_bput C lF_X8_40 fP_9_11 (vp_nar_int _) rfl (sL17 hB) rfl dX8_giveAlarm_56 hm12 ?_
  refine mj_aload_n C dX8_giveAlarm_59 rfl ?_
  refine mj_getr (r := (β, 5)) C lF_X8_64 (sL17 hB) rfl dX8_giveAlarm_60 ?_
  refine mj_iload_n C dX8_giveAlarm_63 rfl ?_
  obtain ⟨m13, em13, h⟩ := mj_b1_o h
  refine mj_callV0 (av := [.inl a1]) C lM_X8_115 lV_X1_noteAlarm (sL5 hB) ⟨_, rfl, rfl⟩ rfl (C_X1_noteAlarm hB em13) (mj_rmok hR (by decide) (by decide)) rfl (Nat.le_of_ble_eq_true rfl) dX8_giveAlarm_64 ?_
  cases h
  exact mj_vret C hT dX8_giveAlarm_67 ⟨rfl, rfl, mj_bv _⟩
def f_X8_halt (m : mj_m) : Option (Int32 × mj_m) := if m 17 6 = 6 then (if m 17 11 = 0 then (some (0, m)) else (mj_b1 (f_X8_giveAlarm 6 m) (fun m5 => some (1, m5)))) else (mj_b1 (f_X8_giveAlarm 6 m) (fun m2 => some (1, m2)))
set_option maxHeartbeats 4000000 in
set_option maxRecDepth 20000 in
theorem C_X8_halt {G : mj_G} {β : Nat} {M : mj_M} {m : mj_m} {x0 : Int32} {m0 : mj_m} (hB : mj_isL G β) (h : f_X8_halt m = some (x0, m0)) : mj_S1 yX8_halt cX8_halt 1 (some .boolean) 2 G [mj_r (β, 17)] (va_up M β m) (some (.inl x0)) (va_up M β m0) := by
  refine mj_intro (by decide) (Nat.le_of_ble_eq_true rfl) ?_
  intro κ C hG hR hT
  subst hG
  have C : mj_C κ cX8_halt 1 RX8 := C
  show mj_R κ (mj_F κ (fun r M' => r = (some (.inl x0)) ∧ M' = (va_up M β m0) ∧ mj_bb (some .boolean) (some (.inl x0)))) 0 [some (mj_r (β, 17))] [] (va_up M β m)
  unfold f_X8_halt at h
  refine mj_aload_n C dX8_halt_0 rfl ?_
  refine mj_bget C lF_X8_24 (sL17 hB) rfl dX8_halt_1 ?_
  refine mj_bipush (v := 6) C dX8_halt_4 (by decide) ?_
  refine mj_icmp_ne (tgt := 18) C dX8_halt_6 (by decide) (fun c1 => ?_) (fun c1 => ?_)
  · replace h := mj_if_f c1 h
    refine mj_aload_n C dX8_halt_18 rfl ?_
    refine mj_bipush (v := 6) C dX8_halt_19 (by decide) ?_
    obtain ⟨m2, em2, h⟩ := mj_b1_o h
    refine mj_callV0 (av := [.inl 6]) C lM_X8_108 lV_X8_giveAlarm (sL17 hB) ⟨_, rfl, rfl⟩ rfl (C_X8_giveAlarm hB em2) (mj_rmok hR (by decide) (by decide)) rfl (Nat.le_of_ble_eq_true rfl) dX8_halt_21 ?_
    refine mj_iconst (v := 1) C dX8_halt_24 (by decide) ?_
    cases h
    exact mj_iret C hT (mj_nb mj_b1') dX8_halt_25 ⟨rfl, rfl, mj_b1'⟩
  · replace h := mj_if_t c1 h
    refine mj_aload_n C dX8_halt_9 rfl ?_
    refine mj_bget C lF_X8_40 (sL17 hB) rfl dX8_halt_10 ?_
    refine mj_if_ne (tgt := 18) C dX8_halt_13 (by decide) (fun c4 => ?_) (fun c4 => ?_)
    · replace h := mj_if_f c4 h
      refine mj_aload_n C dX8_halt_18 rfl ?_
      refine mj_bipush (v := 6) C dX8_halt_19 (by decide) ?_
      obtain ⟨m5, em5, h⟩ := mj_b1_o h
      refine mj_callV0 (av := [.inl 6]) C lM_X8_108 lV_X8_giveAlarm (sL17 hB) ⟨_, rfl, rfl⟩ rfl (C_X8_giveAlarm hB em5) (mj_rmok hR (by decide) (by decide)) rfl (Nat.le_of_ble_eq_true rfl) dX8_halt_21 ?_
      refine mj_iconst (v := 1) C dX8_halt_24 (by decide) ?_
      cases h
      exact mj_iret C hT (mj_nb mj_b1') dX8_halt_25 ⟨rfl, rfl, mj_b1'⟩
    · replace h := mj_if_t c4 h
      refine mj_iconst (v := 0) C dX8_halt_16 (by decide) ?_
      cases h
      exact mj_iret C hT (mj_nb mj_b0) dX8_halt_17 ⟨rfl, rfl, mj_b0⟩
def f_X8_markAll_J23 (m : mj_m) : Option (mj_m) := mj_let (mj_wrs m 17 9 ((m 17 9) + 1)) (fun m1 => mj_let (mj_wrs m1 17 10 (m1 2 4)) (fun m2 => some m2))
set_option maxHeartbeats 4000000 in
set_option maxRecDepth 20000 in
theorem C_X8_markAll_J23 {κ : mj_K} {β : Nat} {M : mj_M} {m : mj_m} {m0 : mj_m} (C : mj_C κ cX8_markAll 1 RX8) (hB : mj_isL (mj_g κ) β) (hR : mj_dp κ 1) (hT : mj_rt κ = none) (h : f_X8_markAll_J23 m = some m0) : mj_R κ (mj_F κ (fun r M' => r = none ∧ M' = (va_up M β m0) ∧ mj_bb none none)) 23 [some (mj_r (β, 17))] [] (va_up M β m) := by
  unfold f_X8_markAll_J23 at h
  refine mj_aload_n C dX8_markAll_23 rfl ?_
  refine mj_dup C dX8_markAll_24 ?_
  refine mj_bget C lF_X8_34 (sL17 hB) rfl dX8_markAll_25 ?_
  refine mj_iconst (v := 1) C dX8_markAll_28 (by decide) ?_
  refine mj_iadd C dX8_markAll_29 ?_
  obtain ⟨m1, hm1, h⟩ := mj_let_o h
  refine mj_bput C lF_X8_34 fP_9_9 (vp_nar_int _) rfl (sL17 hB) rfl dX8_markAll_30 hm1 ?_
  refine mj_aload_n C dX8_markAll_33 rfl ?_
  refine mj_aload_n C dX8_markAll_34 rfl ?_
  refine mj_getr (r := (β, 1)) C lF_X8_56 (sL17 hB) rfl dX8_markAll_35 ?_
  refine mj_getr (r := (β, 2)) C lF_X8_96 (sL1 hB) rfl dX8_markAll_38 ?_
  refine mj_iconst (v := 4) C dX8_markAll_41 (by decide) ?_
  refine mj_bald C (sL2 hB) (mj_okn 4 11 (Nat.le_of_ble_eq_true rfl) (Nat.le_of_ble_eq_true rfl)) (mj_cln 4 (Nat.le_of_ble_eq_true rfl)) dX8_markAll_42 ?_
  obtain ⟨m2, hm2, h⟩ := mj_let_o h
  refine mj_bput C lF_X8_37 fP_9_10 (vp_nar_int _) rfl (sL17 hB) rfl dX8_markAll_43 hm2 ?_
  cases h
  exact mj_vret C hT dX8_markAll_46 ⟨rfl, rfl, mj_bv _⟩
def f_X8_markAll (m : mj_m) : Option (mj_m) := if m 17 6 = 5 then (mj_let (mj_wrs m 17 13 1) (fun m6 => f_X8_markAll_J23 m6)) else (mj_b1 (f_X7_markAll 23 m) (fun m4 => f_X8_markAll_J23 m4))
set_option maxHeartbeats 4000000 in
set_option maxRecDepth 20000 in
theorem C_X8_markAll {G : mj_G} {β : Nat} {M : mj_M} {m : mj_m} {m0 : mj_m} (hB : mj_isL G β) (h : f_X8_markAll m = some m0) : mj_S1 yX8_markAll cX8_markAll 1 none 1 G [mj_r (β, 17)] (va_up M β m) none (va_up M β m0) := by
  refine mj_intro (by decide) (Nat.le_of_ble_eq_true rfl) ?_
  intro κ C hG hR hT
  subst hG
  have C : mj_C κ cX8_markAll 1 RX8 := C
  show mj_R κ (mj_F κ (fun r M' => r = none ∧ M' = (va_up M β m0) ∧ mj_bb none none)) 0 [some (mj_r (β, 17))] [] (va_up M β m)
  unfold f_X8_markAll at h
  refine mj_aload_n C dX8_markAll_0 rfl ?_
  refine mj_bget C lF_X8_24 (sL17 hB) rfl dX8_markAll_1 ?_
  refine mj_iconst (v := 5) C dX8_markAll_4 (by decide) ?_
  refine mj_icmp_ne (tgt := 16) C dX8_markAll_5 (by decide) (fun c3 => ?_) (fun c3 => ?_)
  · replace h := mj_if_f c3 h
    refine mj_aload_n C dX8_markAll_16 rfl ?_
    refine mj_getr (r := (β, 23)) C lF_X8_18 (sL17 hB) rfl dX8_markAll_17 ?_
    obtain ⟨m4, em4, h⟩ := mj_b1_o h
    refine mj_callV0 (av := []) C lM_X8_118 lV_X7_markAll (sL23 hB) ⟨_, rfl, rfl⟩ rfl (C_X7_markAll (sLr23 hB) em4) (mj_rmok hR (by decide) (by decide)) rfl (Nat.le_of_ble_eq_true rfl) dX8_markAll_20 ?_
    refine mj_sub (L' := [some (mj_r (β, 17))]) ⟨rfl, trivial⟩ ?_
    exact C_X8_markAll_J23 C hB hR hT h
  · replace h := mj_if_t c3 h
    refine mj_aload_n C dX8_markAll_8 rfl ?_
    refine mj_iconst (v := 1) C dX8_markAll_9 (by decide) ?_
    obtain ⟨m6, hm6, h⟩ := mj_let_o h
    refine mj_bput C lF_X8_46 fP_9_13 rfl rfl (sL17 hB) rfl dX8_markAll_10 hm6 ?_
    refine mj_goto (tgt := 23) C dX8_markAll_13 (by decide) ?_
    refine mj_sub (L' := [some (mj_r (β, 17))]) ⟨rfl, trivial⟩ ?_
    exact C_X8_markAll_J23 C hB hR hT h
def f_X8_goOn_J94 (m : mj_m) : Option (Int32 × mj_m) := mj_let (mj_wrs m 17 9 0) (fun m1 => mj_b1 (f_X8_markAll m1) (fun m2 => if m2 17 6 = 1 then (mj_let (mj_wrs m2 17 10 0) (fun m5 => some (1, m5))) else (some (1, m2))))
set_option maxHeartbeats 4000000 in
set_option maxRecDepth 20000 in
theorem C_X8_goOn_J94 {κ : mj_K} {β : Nat} {M : mj_M} {m : mj_m} {x0 : Int32} {m0 : mj_m} (C : mj_C κ cX8_goOn 1 RX8) (hB : mj_isL (mj_g κ) β) (hR : mj_dp κ 2) (hT : mj_rt κ = (some .boolean)) (h : f_X8_goOn_J94 m = some (x0, m0)) : mj_R κ (mj_F κ (fun r M' => r = (some (.inl x0)) ∧ M' = (va_up M β m0) ∧ mj_bb (some .boolean) (some (.inl x0)))) 94 [some (mj_r (β, 17))] [] (va_up M β m) := by
  unfold f_X8_goOn_J94 at h
  refine mj_aload_n C dX8_goOn_94 rfl ?_
  refine mj_iconst (v := 0) C dX8_goOn_95 (by decide) ?_
  obtain ⟨m1, hm1, h⟩ := mj_let_o h
  refine mj_bput C lF_X8_34 fP_9_9 (vp_nar_int _) rfl (sL17 hB) rfl dX8_goOn_96 hm1 ?_
  refine mj_aload_n C dX8_goOn_99 rfl ?_
  obtain ⟨m2, em2, h⟩ := mj_b1_o h
  refine mj_callV0 (av := []) C lM_X8_112 lV_X8_markAll (sL17 hB) ⟨_, rfl, rfl⟩ rfl (C_X8_markAll hB em2) (mj_rmok hR (by decide) (by decide)) rfl (Nat.le_of_ble_eq_true rfl) dX8_goOn_100 ?_
  refine mj_aload_n C dX8_goOn_103 rfl ?_
  refine mj_bget C lF_X8_24 (sL17 hB) rfl dX8_goOn_104 ?_
  refine mj_iconst (v := 1) C dX8_goOn_107 (by decide) ?_
  refine mj_icmp_ne (tgt := 116) C dX8_goOn_108 (by decide) (fun c4 => ?_) (fun c4 => ?_)
  · replace h := mj_if_f c4 h
    refine mj_iconst (v := 1) C dX8_goOn_116 (by decide) ?_
    cases h
    exact mj_iret C hT (mj_nb mj_b1') dX8_goOn_117 ⟨rfl, rfl, mj_b1'⟩
  · replace h := mj_if_t c4 h
    refine mj_aload_n C dX8_goOn_111 rfl ?_
    refine mj_iconst (v := 0) C dX8_goOn_112 (by decide) ?_
    obtain ⟨m5, hm5, h⟩ := mj_let_o h
    refine mj_bput C lF_X8_37 fP_9_10 (vp_nar_int _) rfl (sL17 hB) rfl dX8_goOn_113 hm5 ?_
    refine mj_iconst (v := 1) C dX8_goOn_116 (by decide) ?_
    cases h
    exact mj_iret C hT (mj_nb mj_b1') dX8_goOn_117 ⟨rfl, rfl, mj_b1'⟩
def f_X8_goOn_J88 (s0 : Int32) (s1 : Int32) (m : mj_m) : Option (Int32 × mj_m) := mj_b2 (f_X1_change s1 s0 m) (fun r6 m7 => mj_let (mj_wrs m7 17 6 r6) (fun m9 => f_X8_goOn_J94 m9))
set_option maxHeartbeats 4000000 in
set_option maxRecDepth 20000 in
theorem C_X8_goOn_J88 {κ : mj_K} {β : Nat} {M : mj_M} {s0 : Int32} {s1 : Int32} {m : mj_m} {x0 : Int32} {m0 : mj_m} (C : mj_C κ cX8_goOn 1 RX8) (hB : mj_isL (mj_g κ) β) (hR : mj_dp κ 2) (hT : mj_rt κ = (some .boolean)) (h : f_X8_goOn_J88 s0 s1 m = some (x0, m0)) : mj_R κ (mj_F κ (fun r M' => r = (some (.inl x0)) ∧ M' = (va_up M β m0) ∧ mj_bb (some .boolean) (some (.inl x0)))) 88 [some (mj_r (β, 17))] [.inl s0, .inl s1, mj_r (β, 5), mj_r (β, 17)] (va_up M β m) := by
  unfold f_X8_goOn_J88 at h
  obtain ⟨r6, m7, em7, h⟩ := mj_b2_o h
  refine mj_callV1 (av := [.inl s1, .inl s0]) C lM_X8_102 lV_X1_change (sL5 hB) ⟨_, rfl, rfl⟩ rfl (C_X1_change hB em7) (mj_rmok hR (by decide) (by decide)) rfl (Nat.le_of_ble_eq_true rfl) dX8_goOn_88 (fun hb8 => ?_)
  obtain ⟨m9, hm9, h⟩ := mj_let_o h
  refine mj_bput C lF_X8_24 fP_9_6 (vp_nar_int _) rfl (sL17 hB) rfl dX8_goOn_91 hm9 ?_
  refine mj_sub (L' := [some (mj_r (β, 17))]) ⟨rfl, trivial⟩ ?_
  exact C_X8_goOn_J94 C hB hR hT h
def f_X8_goOn (m : mj_m) : Option (Int32 × mj_m) := if m 17 11 = 0 then (some (0, m)) else (mj_b2 (f_X1_change (m 17 6) (m 17 11) m) (fun r11 m12 => mj_let (mj_wrs m12 17 6 r11) (fun m14 => mj_let (mj_wrs m14 17 11 0) (fun m15 => if m15 17 6 = 4 then (mj_let (mj_wrs m15 17 10 (m15 2 4)) (fun m19 => some (1, m19))) else (if m15 17 6 = 5 then (f_X8_goOn_J94 m15) else (if m15 23 4 ≤ 0 then (f_X8_goOn_J88 1 (m15 17 6) m15) else (f_X8_goOn_J88 2 (m15 17 6) m15)))))))
set_option maxHeartbeats 4000000 in
set_option maxRecDepth 20000 in
theorem C_X8_goOn {G : mj_G} {β : Nat} {M : mj_M} {m : mj_m} {x0 : Int32} {m0 : mj_m} (hB : mj_isL G β) (h : f_X8_goOn m = some (x0, m0)) : mj_S1 yX8_goOn cX8_goOn 1 (some .boolean) 2 G [mj_r (β, 17)] (va_up M β m) (some (.inl x0)) (va_up M β m0) := by
  refine mj_intro (by decide) (Nat.le_of_ble_eq_true rfl) ?_
  intro κ C hG hR hT
  subst hG
  have C : mj_C κ cX8_goOn 1 RX8 := C
  show mj_R κ (mj_F κ (fun r M' => r = (some (.inl x0)) ∧ M' = (va_up M β m0) ∧ mj_bb (some .boolean) (some (.inl x0)))) 0 [some (mj_r (β, 17))] [] (va_up M β m)
  unfold f_X8_goOn at h
  refine mj_aload_n C dX8_goOn_0 rfl ?_
  refine mj_bget C lF_X8_40 (sL17 hB) rfl dX8_goOn_1 ?_
  refine mj_if_ne (tgt := 9) C dX8_goOn_4 (by decide) (fun c10 => ?_) (fun c10 => ?_)
  · replace h := mj_if_f c10 h
    refine mj_aload_n C dX8_goOn_9 rfl ?_
    refine mj_aload_n C dX8_goOn_10 rfl ?_
    refine mj_getr (r := (β, 5)) C lF_X8_64 (sL17 hB) rfl dX8_goOn_11 ?_
    refine mj_aload_n C dX8_goOn_14 rfl ?_
    refine mj_bget C lF_X8_24 (sL17 hB) rfl dX8_goOn_15 ?_
    refine mj_aload_n C dX8_goOn_18 rfl ?_
    refine mj_bget C lF_X8_40 (sL17 hB) rfl dX8_goOn_19 ?_
    obtain ⟨r11, m12, em12, h⟩ := mj_b2_o h
    refine mj_callV1 (av := [.inl (m 17 6), .inl (m 17 11)]) C lM_X8_102 lV_X1_change (sL5 hB) ⟨_, rfl, rfl⟩ rfl (C_X1_change hB em12) (mj_rmok hR (by decide) (by decide)) rfl (Nat.le_of_ble_eq_true rfl) dX8_goOn_22 (fun hb13 => ?_)
    obtain ⟨m14, hm14, h⟩ := mj_let_o h
    refine mj_bput C lF_X8_24 fP_9_6 (vp_nar_int _) rfl (sL17 hB) rfl dX8_goOn_25 hm14 ?_
    refine mj_aload_n C dX8_goOn_28 rfl ?_
    refine mj_iconst (v := 0) C dX8_goOn_29 (by decide) ?_
    obtain ⟨m15, hm15, h⟩ := mj_let_o h
    refine mj_bput C lF_X8_40 fP_9_11 (vp_nar_int _) rfl (sL17 hB) rfl dX8_goOn_30 hm15 ?_
    refine mj_aload_n C dX8_goOn_33 rfl ?_
    refine mj_bget C lF_X8_24 (sL17 hB) rfl dX8_goOn_34 ?_
    refine mj_iconst (v := 4) C dX8_goOn_37 (by decide) ?_
    refine mj_icmp_ne (tgt := 56) C dX8_goOn_38 (by decide) (fun c16 => ?_) (fun c16 => ?_)
    · replace h := mj_if_f c16 h
      refine mj_aload_n C dX8_goOn_56 rfl ?_
      refine mj_bget C lF_X8_24 (sL17 hB) rfl dX8_goOn_57 ?_
      refine mj_iconst (v := 5) C dX8_goOn_60 (by decide) ?_
      refine mj_icmp_eq (tgt := 94) C dX8_goOn_61 (by decide) (fun c17 => ?_) (fun c17 => ?_)
      · replace h := mj_if_t c17 h
        refine mj_sub (L' := [some (mj_r (β, 17))]) ⟨rfl, trivial⟩ ?_
        exact C_X8_goOn_J94 C hB hR hT h
      · replace h := mj_if_f c17 h
        refine mj_aload_n C dX8_goOn_64 rfl ?_
        refine mj_aload_n C dX8_goOn_65 rfl ?_
        refine mj_getr (r := (β, 5)) C lF_X8_64 (sL17 hB) rfl dX8_goOn_66 ?_
        refine mj_aload_n C dX8_goOn_69 rfl ?_
        refine mj_bget C lF_X8_24 (sL17 hB) rfl dX8_goOn_70 ?_
        refine mj_aload_n C dX8_goOn_73 rfl ?_
        refine mj_getr (r := (β, 23)) C lF_X8_18 (sL17 hB) rfl dX8_goOn_74 ?_
        refine mj_bget C lF_X8_72 (sL23 hB) rfl dX8_goOn_77 ?_
        refine mj_if_le (tgt := 87) C dX8_goOn_80 (by decide) (fun c18 => ?_) (fun c18 => ?_)
        · replace h := mj_if_t c18 h
          refine mj_iconst (v := 1) C dX8_goOn_87 (by decide) ?_
          refine mj_sub (L' := [some (mj_r (β, 17))]) ⟨rfl, trivial⟩ ?_
          exact C_X8_goOn_J88 C hB hR hT h
        · replace h := mj_if_f c18 h
          refine mj_iconst (v := 2) C dX8_goOn_83 (by decide) ?_
          refine mj_goto (tgt := 88) C dX8_goOn_84 (by decide) ?_
          refine mj_sub (L' := [some (mj_r (β, 17))]) ⟨rfl, trivial⟩ ?_
          exact C_X8_goOn_J88 C hB hR hT h
    · replace h := mj_if_t c16 h
      refine mj_aload_n C dX8_goOn_41 rfl ?_
      refine mj_aload_n C dX8_goOn_42 rfl ?_
      refine mj_getr (r := (β, 1)) C lF_X8_56 (sL17 hB) rfl dX8_goOn_43 ?_
      refine mj_getr (r := (β, 2)) C lF_X8_96 (sL1 hB) rfl dX8_goOn_46 ?_
      refine mj_iconst (v := 4) C dX8_goOn_49 (by decide) ?_
      refine mj_bald C (sL2 hB) (mj_okn 4 11 (Nat.le_of_ble_eq_true rfl) (Nat.le_of_ble_eq_true rfl)) (mj_cln 4 (Nat.le_of_ble_eq_true rfl)) dX8_goOn_50 ?_
      obtain ⟨m19, hm19, h⟩ := mj_let_o h
      refine mj_bput C lF_X8_37 fP_9_10 (vp_nar_int _) rfl (sL17 hB) rfl dX8_goOn_51 hm19 ?_
      refine mj_iconst (v := 1) C dX8_goOn_54 (by decide) ?_
      cases h
      exact mj_iret C hT (mj_nb mj_b1') dX8_goOn_55 ⟨rfl, rfl, mj_b1'⟩
  · replace h := mj_if_t c10 h
    refine mj_iconst (v := 0) C dX8_goOn_7 (by decide) ?_
    cases h
    exact mj_iret C hT (mj_nb mj_b0) dX8_goOn_8 ⟨rfl, rfl, mj_b0⟩
def f_X8_countFrom (a1 : Int32) (m : mj_m) : Int32 × mj_m := if m 17 6 = 6 then (if m 17 11 = 0 then (mj_let (f_X10_isNumber a1) (fun r3 => if r3 = 0 then ((0, m)) else (mj_let (mj_wrs m 17 7 a1) (fun m6 => mj_let (mj_wrs m6 17 8 a1) (fun m7 => (1, m7)))))) else ((0, m))) else ((0, m))
set_option maxHeartbeats 4000000 in
set_option maxRecDepth 20000 in
theorem C_X8_countFrom {G : mj_G} {β : Nat} {M : mj_M} {a1 : Int32} {m : mj_m} {x0 : Int32} {m0 : mj_m} (hB : mj_isL G β) (h : f_X8_countFrom a1 m = (x0, m0)) : mj_S1 yX8_countFrom cX8_countFrom 2 (some .boolean) 2 G [mj_r (β, 17), .inl a1] (va_up M β m) (some (.inl x0)) (va_up M β m0) := by
  refine mj_intro (by decide) (Nat.le_of_ble_eq_true rfl) ?_
  intro κ C hG hR hT
  subst hG
  have C : mj_C κ cX8_countFrom 2 RX8 := C
  show mj_R κ (mj_F κ (fun r M' => r = (some (.inl x0)) ∧ M' = (va_up M β m0) ∧ mj_bb (some .boolean) (some (.inl x0)))) 0 [some (mj_r (β, 17)), some (.inl a1)] [] (va_up M β m)
  unfold f_X8_countFrom at h
  refine mj_aload_n C dX8_countFrom_0 rfl ?_
  refine mj_bget C lF_X8_24 (sL17 hB) rfl dX8_countFrom_1 ?_
  refine mj_bipush (v := 6) C dX8_countFrom_4 (by decide) ?_
  refine mj_icmp_ne (tgt := 23) C dX8_countFrom_6 (by decide) (fun c1 => ?_) (fun c1 => ?_)
  · replace h := mj_if_f c1 h
    refine mj_iconst (v := 0) C dX8_countFrom_23 (by decide) ?_
    cases h
    exact mj_iret C hT (mj_nb mj_b0) dX8_countFrom_24 ⟨rfl, rfl, mj_b0⟩
  · replace h := mj_if_t c1 h
    refine mj_aload_n C dX8_countFrom_9 rfl ?_
    refine mj_bget C lF_X8_40 (sL17 hB) rfl dX8_countFrom_10 ?_
    refine mj_if_ne (tgt := 23) C dX8_countFrom_13 (by decide) (fun c2 => ?_) (fun c2 => ?_)
    · replace h := mj_if_f c2 h
      refine mj_iconst (v := 0) C dX8_countFrom_23 (by decide) ?_
      cases h
      exact mj_iret C hT (mj_nb mj_b0) dX8_countFrom_24 ⟨rfl, rfl, mj_b0⟩
    · replace h := mj_if_t c2 h
      refine mj_iload_n C dX8_countFrom_16 rfl ?_
      obtain ⟨r3, er3, h⟩ := mj_let_o h
      refine mj_callN1 (av := [.inl a1]) C lN_X8_89 lS_X10_isNumber rfl (C_X10_isNumber  er3) (mj_rmok hR (by decide) (by decide)) rfl (Nat.le_of_ble_eq_true rfl) dX8_countFrom_17 (fun hb4 => ?_)
      refine mj_if_ne (tgt := 25) C dX8_countFrom_20 (by decide) (fun c5 => ?_) (fun c5 => ?_)
      · replace h := mj_if_f c5 h
        refine mj_aload_n C dX8_countFrom_25 rfl ?_
        refine mj_iload_n C dX8_countFrom_26 rfl ?_
        obtain ⟨m6, hm6, h⟩ := mj_let_o h
        refine mj_bput C lF_X8_28 fP_9_7 (vp_nar_int _) rfl (sL17 hB) rfl dX8_countFrom_27 hm6 ?_
        refine mj_aload_n C dX8_countFrom_30 rfl ?_
        refine mj_iload_n C dX8_countFrom_31 rfl ?_
        obtain ⟨m7, hm7, h⟩ := mj_let_o h
        refine mj_bput C lF_X8_31 fP_9_8 (vp_nar_int _) rfl (sL17 hB) rfl dX8_countFrom_32 hm7 ?_
        refine mj_iconst (v := 1) C dX8_countFrom_35 (by decide) ?_
        cases h
        exact mj_iret C hT (mj_nb mj_b1') dX8_countFrom_36 ⟨rfl, rfl, mj_b1'⟩
      · replace h := mj_if_t c5 h
        refine mj_iconst (v := 0) C dX8_countFrom_23 (by decide) ?_
        cases h
        exact mj_iret C hT (mj_nb mj_b0) dX8_countFrom_24 ⟨rfl, rfl, mj_b0⟩
def f_X8_giveUp (m : mj_m) : Option (mj_m) := if m 2 5 = 0 then (mj_b1 (f_X8_giveAlarm 5 m) (fun m8 => some m8)) else (mj_let (mj_wrs m 17 11 (m 17 6)) (fun m2 => mj_b2 (f_X1_change (m2 17 6) 6 m2) (fun r3 m4 => mj_let (mj_wrs m4 17 6 r3) (fun m6 => mj_let (mj_wrs m6 17 10 0) (fun m7 => some m7)))))
set_option maxHeartbeats 4000000 in
set_option maxRecDepth 20000 in
theorem C_X8_giveUp {G : mj_G} {β : Nat} {M : mj_M} {m : mj_m} {m0 : mj_m} (hB : mj_isL G β) (h : f_X8_giveUp m = some m0) : mj_S1 yX8_giveUp cX8_giveUp 1 none 2 G [mj_r (β, 17)] (va_up M β m) none (va_up M β m0) := by
  refine mj_intro (by decide) (Nat.le_of_ble_eq_true rfl) ?_
  intro κ C hG hR hT
  subst hG
  have C : mj_C κ cX8_giveUp 1 RX8 := C
  show mj_R κ (mj_F κ (fun r M' => r = none ∧ M' = (va_up M β m0) ∧ mj_bb none none)) 0 [some (mj_r (β, 17))] [] (va_up M β m)
  unfold f_X8_giveUp at h
  refine mj_aload_n C dX8_giveUp_0 rfl ?_
  refine mj_getr (r := (β, 1)) C lF_X8_56 (sL17 hB) rfl dX8_giveUp_1 ?_
  refine mj_getr (r := (β, 2)) C lF_X8_96 (sL1 hB) rfl dX8_giveUp_4 ?_
  refine mj_iconst (v := 5) C dX8_giveUp_7 (by decide) ?_
  refine mj_bald C (sL2 hB) (mj_okn 5 11 (Nat.le_of_ble_eq_true rfl) (Nat.le_of_ble_eq_true rfl)) (mj_cln 5 (Nat.le_of_ble_eq_true rfl)) dX8_giveUp_8 ?_
  refine mj_if_ne (tgt := 18) C dX8_giveUp_9 (by decide) (fun c1 => ?_) (fun c1 => ?_)
  · replace h := mj_if_f c1 h
    refine mj_aload_n C dX8_giveUp_18 rfl ?_
    refine mj_aload_n C dX8_giveUp_19 rfl ?_
    refine mj_bget C lF_X8_24 (sL17 hB) rfl dX8_giveUp_20 ?_
    obtain ⟨m2, hm2, h⟩ := mj_let_o h
    refine mj_bput C lF_X8_40 fP_9_11 (vp_nar_int _) rfl (sL17 hB) rfl dX8_giveUp_23 hm2 ?_
    refine mj_aload_n C dX8_giveUp_26 rfl ?_
    refine mj_aload_n C dX8_giveUp_27 rfl ?_
    refine mj_getr (r := (β, 5)) C lF_X8_64 (sL17 hB) rfl dX8_giveUp_28 ?_
    refine mj_aload_n C dX8_giveUp_31 rfl ?_
    refine mj_bget C lF_X8_24 (sL17 hB) rfl dX8_giveUp_32 ?_
    refine mj_bipush (v := 6) C dX8_giveUp_35 (by decide) ?_
    obtain ⟨r3, m4, em4, h⟩ := mj_b2_o h
    refine mj_callV1 (av := [.inl (m2 17 6), .inl 6]) C lM_X8_102 lV_X1_change (sL5 hB) ⟨_, rfl, rfl⟩ rfl (C_X1_change hB em4) (mj_rmok hR (by decide) (by decide)) rfl (Nat.le_of_ble_eq_true rfl) dX8_giveUp_37 (fun hb5 => ?_)
    obtain ⟨m6, hm6, h⟩ := mj_let_o h
    refine mj_bput C lF_X8_24 fP_9_6 (vp_nar_int _) rfl (sL17 hB) rfl dX8_giveUp_40 hm6 ?_
    refine mj_aload_n C dX8_giveUp_43 rfl ?_
    refine mj_iconst (v := 0) C dX8_giveUp_44 (by decide) ?_
    obtain ⟨m7, hm7, h⟩ := mj_let_o h
    refine mj_bput C lF_X8_37 fP_9_10 (vp_nar_int _) rfl (sL17 hB) rfl dX8_giveUp_45 hm7 ?_
    cases h
    exact mj_vret C hT dX8_giveUp_48 ⟨rfl, rfl, mj_bv _⟩
  · replace h := mj_if_t c1 h
    refine mj_aload_n C dX8_giveUp_12 rfl ?_
    refine mj_iconst (v := 5) C dX8_giveUp_13 (by decide) ?_
    obtain ⟨m8, em8, h⟩ := mj_b1_o h
    refine mj_callV0 (av := [.inl 5]) C lM_X8_108 lV_X8_giveAlarm (sL17 hB) ⟨_, rfl, rfl⟩ rfl (C_X8_giveAlarm hB em8) (mj_rmok hR (by decide) (by decide)) rfl (Nat.le_of_ble_eq_true rfl) dX8_giveUp_14 ?_
    cases h
    exact mj_vret C hT dX8_giveUp_17 ⟨rfl, rfl, mj_bv _⟩
def f_X8_runTimer (m : mj_m) : Option (mj_m) := if m 17 10 = 0 then (some m) else (mj_let (mj_wrs m 17 10 ((m 17 10) - 1)) (fun m2 => if m2 17 10 ≤ 0 then (if m2 17 6 = 4 then (mj_b1 (f_X8_giveUp m2) (fun m5 => some m5)) else (if m2 17 9 < m2 2 3 then (if m2 17 6 = 3 then (mj_let (mj_wrs m2 17 10 (m2 2 4)) (fun m11 => some m11)) else (mj_b1 (f_X8_markAll m2) (fun m9 => some m9))) else (mj_b1 (f_X8_giveUp m2) (fun m12 => some m12)))) else (some m2)))
set_option maxHeartbeats 4000000 in
set_option maxRecDepth 20000 in
theorem C_X8_runTimer {G : mj_G} {β : Nat} {M : mj_M} {m : mj_m} {m0 : mj_m} (hB : mj_isL G β) (h : f_X8_runTimer m = some m0) : mj_S1 yX8_runTimer cX8_runTimer 1 none 3 G [mj_r (β, 17)] (va_up M β m) none (va_up M β m0) := by
  refine mj_intro (by decide) (Nat.le_of_ble_eq_true rfl) ?_
  intro κ C hG hR hT
  subst hG
  have C : mj_C κ cX8_runTimer 1 RX8 := C
  show mj_R κ (mj_F κ (fun r M' => r = none ∧ M' = (va_up M β m0) ∧ mj_bb none none)) 0 [some (mj_r (β, 17))] [] (va_up M β m)
  unfold f_X8_runTimer at h
  refine mj_aload_n C dX8_runTimer_0 rfl ?_
  refine mj_bget C lF_X8_37 (sL17 hB) rfl dX8_runTimer_1 ?_
  refine mj_if_ne (tgt := 8) C dX8_runTimer_4 (by decide) (fun c1 => ?_) (fun c1 => ?_)
  · replace h := mj_if_f c1 h
    refine mj_aload_n C dX8_runTimer_8 rfl ?_
    refine mj_dup C dX8_runTimer_9 ?_
    refine mj_bget C lF_X8_37 (sL17 hB) rfl dX8_runTimer_10 ?_
    refine mj_iconst (v := 1) C dX8_runTimer_13 (by decide) ?_
    refine mj_isub C dX8_runTimer_14 ?_
    obtain ⟨m2, hm2, h⟩ := mj_let_o h
    refine mj_bput C lF_X8_37 fP_9_10 (vp_nar_int _) rfl (sL17 hB) rfl dX8_runTimer_15 hm2 ?_
    refine mj_aload_n C dX8_runTimer_18 rfl ?_
    refine mj_bget C lF_X8_37 (sL17 hB) rfl dX8_runTimer_19 ?_
    refine mj_if_le (tgt := 26) C dX8_runTimer_22 (by decide) (fun c3 => ?_) (fun c3 => ?_)
    · replace h := mj_if_t c3 h
      refine mj_aload_n C dX8_runTimer_26 rfl ?_
      refine mj_bget C lF_X8_24 (sL17 hB) rfl dX8_runTimer_27 ?_
      refine mj_iconst (v := 4) C dX8_runTimer_30 (by decide) ?_
      refine mj_icmp_eq (tgt := 50) C dX8_runTimer_31 (by decide) (fun c4 => ?_) (fun c4 => ?_)
      · replace h := mj_if_t c4 h
        refine mj_aload_n C dX8_runTimer_50 rfl ?_
        obtain ⟨m5, em5, h⟩ := mj_b1_o h
        refine mj_callV0 (av := []) C lM_X8_119 lV_X8_giveUp (sL17 hB) ⟨_, rfl, rfl⟩ rfl (C_X8_giveUp hB em5) (mj_rmok hR (by decide) (by decide)) rfl (Nat.le_of_ble_eq_true rfl) dX8_runTimer_51 ?_
        refine mj_goto (tgt := 85) C dX8_runTimer_54 (by decide) ?_
        cases h
        exact mj_vret C hT dX8_runTimer_85 ⟨rfl, rfl, mj_bv _⟩
      · replace h := mj_if_f c4 h
        refine mj_aload_n C dX8_runTimer_34 rfl ?_
        refine mj_bget C lF_X8_34 (sL17 hB) rfl dX8_runTimer_35 ?_
        refine mj_aload_n C dX8_runTimer_38 rfl ?_
        refine mj_getr (r := (β, 1)) C lF_X8_56 (sL17 hB) rfl dX8_runTimer_39 ?_
        refine mj_getr (r := (β, 2)) C lF_X8_96 (sL1 hB) rfl dX8_runTimer_42 ?_
        refine mj_iconst (v := 3) C dX8_runTimer_45 (by decide) ?_
        refine mj_bald C (sL2 hB) (mj_okn 3 11 (Nat.le_of_ble_eq_true rfl) (Nat.le_of_ble_eq_true rfl)) (mj_cln 3 (Nat.le_of_ble_eq_true rfl)) dX8_runTimer_46 ?_
        refine mj_icmp_lt (tgt := 57) C dX8_runTimer_47 (by decide) (fun c7 => ?_) (fun c7 => ?_)
        · replace h := mj_if_t c7 h
          refine mj_aload_n C dX8_runTimer_57 rfl ?_
          refine mj_bget C lF_X8_24 (sL17 hB) rfl dX8_runTimer_58 ?_
          refine mj_iconst (v := 3) C dX8_runTimer_61 (by decide) ?_
          refine mj_icmp_ne (tgt := 81) C dX8_runTimer_62 (by decide) (fun c8 => ?_) (fun c8 => ?_)
          · replace h := mj_if_f c8 h
            refine mj_aload_n C dX8_runTimer_81 rfl ?_
            obtain ⟨m9, em9, h⟩ := mj_b1_o h
            refine mj_callV0 (av := []) C lM_X8_112 lV_X8_markAll (sL17 hB) ⟨_, rfl, rfl⟩ rfl (C_X8_markAll hB em9) (mj_rmok hR (by decide) (by decide)) rfl (Nat.le_of_ble_eq_true rfl) dX8_runTimer_82 ?_
            cases h
            exact mj_vret C hT dX8_runTimer_85 ⟨rfl, rfl, mj_bv _⟩
          · replace h := mj_if_t c8 h
            refine mj_aload_n C dX8_runTimer_65 rfl ?_
            refine mj_aload_n C dX8_runTimer_66 rfl ?_
            refine mj_getr (r := (β, 1)) C lF_X8_56 (sL17 hB) rfl dX8_runTimer_67 ?_
            refine mj_getr (r := (β, 2)) C lF_X8_96 (sL1 hB) rfl dX8_runTimer_70 ?_
            refine mj_iconst (v := 4) C dX8_runTimer_73 (by decide) ?_
            refine mj_bald C (sL2 hB) (mj_okn 4 11 (Nat.le_of_ble_eq_true rfl) (Nat.le_of_ble_eq_true rfl)) (mj_cln 4 (Nat.le_of_ble_eq_true rfl)) dX8_runTimer_74 ?_
            obtain ⟨m11, hm11, h⟩ := mj_let_o h
            refine mj_bput C lF_X8_37 fP_9_10 (vp_nar_int _) rfl (sL17 hB) rfl dX8_runTimer_75 hm11 ?_
            refine mj_goto (tgt := 85) C dX8_runTimer_78 (by decide) ?_
            cases h
            exact mj_vret C hT dX8_runTimer_85 ⟨rfl, rfl, mj_bv _⟩
        · replace h := mj_if_f c7 h
          refine mj_aload_n C dX8_runTimer_50 rfl ?_
          obtain ⟨m12, em12, h⟩ := mj_b1_o h
          refine mj_callV0 (av := []) C lM_X8_119 lV_X8_giveUp (sL17 hB) ⟨_, rfl, rfl⟩ rfl (C_X8_giveUp hB em12) (mj_rmok hR (by decide) (by decide)) rfl (Nat.le_of_ble_eq_true rfl) dX8_runTimer_51 ?_
          refine mj_goto (tgt := 85) C dX8_runTimer_54 (by decide) ?_
          cases h
          exact mj_vret C hT dX8_runTimer_85 ⟨rfl, rfl, mj_bv _⟩
    · replace h := mj_if_f c3 h
      cases h
      exact mj_vret C hT dX8_runTimer_25 ⟨rfl, rfl, mj_bv _⟩
  · replace h := mj_if_t c1 h
    cases h
    exact mj_vret C hT dX8_runTimer_7 ⟨rfl, rfl, mj_bv _⟩
def f_X8_makeNewFrame_J58 (m : mj_m) : Option (Int32 × mj_m) := mj_let (mj_wrs m 17 10 (m 2 4)) (fun m1 => mj_b1 (f_X7_add 23 (m1 19 0) (m1 17 7) (m1 21 0) m1) (fun m2 => mj_b1 (f_X7_removeFirst 18 1 m2) (fun m4 => mj_let (mj_wrs m4 17 7 (((m4 17 7) + 1) &&& 255)) (fun m6 => some ((m6 23 4) - 1, m6)))))
set_option maxHeartbeats 4000000 in
set_option maxRecDepth 20000 in
theorem C_X8_makeNewFrame_J58 {κ : mj_K} {β : Nat} {M : mj_M} {m : mj_m} {x0 : Int32} {m0 : mj_m} (C : mj_C κ cX8_makeNewFrame 1 RX8) (hB : mj_isL (mj_g κ) β) (hR : mj_dp κ 2) (hT : mj_rt κ = (some .int)) (h : f_X8_makeNewFrame_J58 m = some (x0, m0)) : mj_R κ (mj_F κ (fun r M' => r = (some (.inl x0)) ∧ M' = (va_up M β m0) ∧ mj_bb (some .int) (some (.inl x0)))) 58 [some (mj_r (β, 17))] [] (va_up M β m) := by
  unfold f_X8_makeNewFrame_J58 at h
  refine mj_aload_n C dX8_makeNewFrame_58 rfl ?_
  refine mj_aload_n C dX8_makeNewFrame_59 rfl ?_
  refine mj_getr (r := (β, 1)) C lF_X8_56 (sL17 hB) rfl dX8_makeNewFrame_60 ?_
  refine mj_getr (r := (β, 2)) C lF_X8_96 (sL1 hB) rfl dX8_makeNewFrame_63 ?_
  refine mj_iconst (v := 4) C dX8_makeNewFrame_66 (by decide) ?_
  refine mj_bald C (sL2 hB) (mj_okn 4 11 (Nat.le_of_ble_eq_true rfl) (Nat.le_of_ble_eq_true rfl)) (mj_cln 4 (Nat.le_of_ble_eq_true rfl)) dX8_makeNewFrame_67 ?_
  obtain ⟨m1, hm1, h⟩ := mj_let_o h
  refine mj_bput C lF_X8_37 fP_9_10 (vp_nar_int _) rfl (sL17 hB) rfl dX8_makeNewFrame_68 hm1 ?_
  refine mj_aload_n C dX8_makeNewFrame_71 rfl ?_
  refine mj_getr (r := (β, 23)) C lF_X8_18 (sL17 hB) rfl dX8_makeNewFrame_72 ?_
  refine mj_aload_n C dX8_makeNewFrame_75 rfl ?_
  refine mj_getr (r := (β, 18)) C lF_X8_12 (sL17 hB) rfl dX8_makeNewFrame_76 ?_
  refine mj_getr (r := (β, 19)) C lF_X8_123 (sL18 hB) rfl dX8_makeNewFrame_79 ?_
  refine mj_iconst (v := 0) C dX8_makeNewFrame_82 (by decide) ?_
  refine mj_bald C (sL19 hB) (mj_okn 0 20 (Nat.le_of_ble_eq_true rfl) (Nat.le_of_ble_eq_true rfl)) (mj_cln 0 (Nat.le_of_ble_eq_true rfl)) dX8_makeNewFrame_83 ?_
  refine mj_aload_n C dX8_makeNewFrame_84 rfl ?_
  refine mj_bget C lF_X8_28 (sL17 hB) rfl dX8_makeNewFrame_85 ?_
  refine mj_aload_n C dX8_makeNewFrame_88 rfl ?_
  refine mj_getr (r := (β, 18)) C lF_X8_12 (sL17 hB) rfl dX8_makeNewFrame_89 ?_
  refine mj_getr (r := (β, 21)) C lF_X8_146 (sL18 hB) rfl dX8_makeNewFrame_92 ?_
  refine mj_iconst (v := 0) C dX8_makeNewFrame_95 (by decide) ?_
  refine mj_bald C (sL21 hB) (mj_okn 0 20 (Nat.le_of_ble_eq_true rfl) (Nat.le_of_ble_eq_true rfl)) (mj_cln 0 (Nat.le_of_ble_eq_true rfl)) dX8_makeNewFrame_96 ?_
  obtain ⟨m2, em2, h⟩ := mj_b1_o h
  refine mj_callV0 (av := [.inl (m1 19 0), .inl (m1 17 7), .inl (m1 21 0)]) C lM_X8_81 lV_X7_add (sL23 hB) ⟨_, rfl, rfl⟩ rfl (C_X7_add (sLr23 hB) em2) (mj_rmok hR (by decide) (by decide)) rfl (Nat.le_of_ble_eq_true rfl) dX8_makeNewFrame_97 ?_
  refine mj_aload_n C dX8_makeNewFrame_100 rfl ?_
  refine mj_getr (r := (β, 18)) C lF_X8_12 (sL17 hB) rfl dX8_makeNewFrame_101 ?_
  refine mj_iconst (v := 1) C dX8_makeNewFrame_104 (by decide) ?_
  obtain ⟨m4, em4, h⟩ := mj_b1_o h
  refine mj_callV0 (av := [.inl 1]) C lM_X8_132 lV_X7_removeFirst (sL18 hB) ⟨_, rfl, rfl⟩ rfl (C_X7_removeFirst (sLr18 hB) em4) (mj_rmok hR (by decide) (by decide)) rfl (Nat.le_of_ble_eq_true rfl) dX8_makeNewFrame_105 ?_
  refine mj_aload_n C dX8_makeNewFrame_108 rfl ?_
  refine mj_aload_n C dX8_makeNewFrame_109 rfl ?_
  refine mj_bget C lF_X8_28 (sL17 hB) rfl dX8_makeNewFrame_110 ?_
  refine mj_iconst (v := 1) C dX8_makeNewFrame_113 (by decide) ?_
  refine mj_iadd C dX8_makeNewFrame_114 ?_
  refine mj_sipush (v := 255) C dX8_makeNewFrame_115 (by decide) ?_
  refine mj_iand C dX8_makeNewFrame_118 ?_
  obtain ⟨m6, hm6, h⟩ := mj_let_o h
  refine mj_bput C lF_X8_28 fP_9_7 (vp_nar_int _) rfl (sL17 hB) rfl dX8_makeNewFrame_119 hm6 ?_
  refine mj_aload_n C dX8_makeNewFrame_122 rfl ?_
  refine mj_getr (r := (β, 23)) C lF_X8_18 (sL17 hB) rfl dX8_makeNewFrame_123 ?_
  refine mj_bget C lF_X8_72 (sL23 hB) rfl dX8_makeNewFrame_126 ?_
  refine mj_iconst (v := 1) C dX8_makeNewFrame_129 (by decide) ?_
  refine mj_isub C dX8_makeNewFrame_130 ?_
  cases h
  exact mj_iret C hT (vp_nar_int _) dX8_makeNewFrame_131 ⟨rfl, rfl, mj_bi _⟩
def f_X8_makeNewFrame (m : mj_m) : Option (Int32 × mj_m) := if m 18 4 = 0 then (some ((-1), m)) else (if m 2 2 ≤ m 23 4 then (some ((-1), m)) else (if m 23 4 < 20 then (if m 23 4 = 0 then (mj_let (mj_wrs m 17 9 1) (fun m11 => f_X8_makeNewFrame_J58 m11)) else (f_X8_makeNewFrame_J58 m)) else (some ((-1), m))))
set_option maxHeartbeats 4000000 in
set_option maxRecDepth 20000 in
theorem C_X8_makeNewFrame {G : mj_G} {β : Nat} {M : mj_M} {m : mj_m} {x0 : Int32} {m0 : mj_m} (hB : mj_isL G β) (h : f_X8_makeNewFrame m = some (x0, m0)) : mj_S1 yX8_makeNewFrame cX8_makeNewFrame 1 (some .int) 2 G [mj_r (β, 17)] (va_up M β m) (some (.inl x0)) (va_up M β m0) := by
  refine mj_intro (by decide) (Nat.le_of_ble_eq_true rfl) ?_
  intro κ C hG hR hT
  subst hG
  have C : mj_C κ cX8_makeNewFrame 1 RX8 := C
  show mj_R κ (mj_F κ (fun r M' => r = (some (.inl x0)) ∧ M' = (va_up M β m0) ∧ mj_bb (some .int) (some (.inl x0)))) 0 [some (mj_r (β, 17))] [] (va_up M β m)
  unfold f_X8_makeNewFrame at h
  refine mj_aload_n C dX8_makeNewFrame_0 rfl ?_
  refine mj_getr (r := (β, 18)) C lF_X8_12 (sL17 hB) rfl dX8_makeNewFrame_1 ?_
  refine mj_bget C lF_X8_72 (sL18 hB) rfl dX8_makeNewFrame_4 ?_
  refine mj_if_eq (tgt := 41) C dX8_makeNewFrame_7 (by decide) (fun c7 => ?_) (fun c7 => ?_)
  · replace h := mj_if_t c7 h
    refine mj_iconst (v := (-1)) C dX8_makeNewFrame_41 (by decide) ?_
    cases h
    exact mj_iret C hT (vp_nar_int _) dX8_makeNewFrame_42 ⟨rfl, rfl, mj_bi _⟩
  · replace h := mj_if_f c7 h
    refine mj_aload_n C dX8_makeNewFrame_10 rfl ?_
    refine mj_getr (r := (β, 23)) C lF_X8_18 (sL17 hB) rfl dX8_makeNewFrame_11 ?_
    refine mj_bget C lF_X8_72 (sL23 hB) rfl dX8_makeNewFrame_14 ?_
    refine mj_aload_n C dX8_makeNewFrame_17 rfl ?_
    refine mj_getr (r := (β, 1)) C lF_X8_56 (sL17 hB) rfl dX8_makeNewFrame_18 ?_
    refine mj_getr (r := (β, 2)) C lF_X8_96 (sL1 hB) rfl dX8_makeNewFrame_21 ?_
    refine mj_iconst (v := 2) C dX8_makeNewFrame_24 (by decide) ?_
    refine mj_bald C (sL2 hB) (mj_okn 2 11 (Nat.le_of_ble_eq_true rfl) (Nat.le_of_ble_eq_true rfl)) (mj_cln 2 (Nat.le_of_ble_eq_true rfl)) dX8_makeNewFrame_25 ?_
    refine mj_icmp_ge (tgt := 41) C dX8_makeNewFrame_26 (by decide) (fun c8 => ?_) (fun c8 => ?_)
    · replace h := mj_if_t c8 h
      refine mj_iconst (v := (-1)) C dX8_makeNewFrame_41 (by decide) ?_
      cases h
      exact mj_iret C hT (vp_nar_int _) dX8_makeNewFrame_42 ⟨rfl, rfl, mj_bi _⟩
    · replace h := mj_if_f c8 h
      refine mj_aload_n C dX8_makeNewFrame_29 rfl ?_
      refine mj_getr (r := (β, 23)) C lF_X8_18 (sL17 hB) rfl dX8_makeNewFrame_30 ?_
      refine mj_bget C lF_X8_72 (sL23 hB) rfl dX8_makeNewFrame_33 ?_
      refine mj_bipush (v := 20) C dX8_makeNewFrame_36 (by decide) ?_
      refine mj_icmp_lt (tgt := 43) C dX8_makeNewFrame_38 (by decide) (fun c9 => ?_) (fun c9 => ?_)
      · replace h := mj_if_t c9 h
        refine mj_aload_n C dX8_makeNewFrame_43 rfl ?_
        refine mj_getr (r := (β, 23)) C lF_X8_18 (sL17 hB) rfl dX8_makeNewFrame_44 ?_
        refine mj_bget C lF_X8_72 (sL23 hB) rfl dX8_makeNewFrame_47 ?_
        refine mj_if_ne (tgt := 58) C dX8_makeNewFrame_50 (by decide) (fun c10 => ?_) (fun c10 => ?_)
        · replace h := mj_if_f c10 h
          refine mj_sub (L' := [some (mj_r (β, 17))]) ⟨rfl, trivial⟩ ?_
          exact C_X8_makeNewFrame_J58 C hB hR hT h
        · replace h := mj_if_t c10 h
          refine mj_aload_n C dX8_makeNewFrame_53 rfl ?_
          refine mj_iconst (v := 1) C dX8_makeNewFrame_54 (by decide) ?_
          obtain ⟨m11, hm11, h⟩ := mj_let_o h
          refine mj_bput C lF_X8_34 fP_9_9 (vp_nar_int _) rfl (sL17 hB) rfl dX8_makeNewFrame_55 hm11 ?_
          refine mj_sub (L' := [some (mj_r (β, 17))]) ⟨rfl, trivial⟩ ?_
          exact C_X8_makeNewFrame_J58 C hB hR hT h
      · replace h := mj_if_f c9 h
        refine mj_iconst (v := (-1)) C dX8_makeNewFrame_41 (by decide) ?_
        cases h
        exact mj_iret C hT (vp_nar_int _) dX8_makeNewFrame_42 ⟨rfl, rfl, mj_bi _⟩
def f_X8_haveTurn_J104 (l2 : Int32) (m : mj_m) : Option (mj_m) := if l2 = (-1) then (some m) else (mj_chk (mj_ok l2 20) (mj_let (mj_wrs m 27 (mj_cl l2) 0) (fun m3 => mj_chk (mj_ok l2 20) (mj_b1 (f_X2_noteWent (m3 26 (mj_cl l2)) m3) (fun m5 => mj_chk (mj_ok l2 20) (mj_chk (mj_ok l2 20) (mj_chk (mj_ok l2 20) (mj_b1 (f_X9_goes 33 ((0 ||| (mj_shl (m5 25 (mj_cl l2)) 16)) ||| (m5 24 (mj_cl l2))) (m5 26 (mj_cl l2)) m5) (fun m10 => some m10)))))))))
set_option maxHeartbeats 4000000 in
set_option maxRecDepth 20000 in
theorem C_X8_haveTurn_J104 {κ : mj_K} {β : Nat} {M : mj_M} {l2 : Int32} {m : mj_m} {m0 : mj_m} (C : mj_C κ cX8_haveTurn 3 RX8) (hB : mj_isL (mj_g κ) β) (hR : mj_dp κ 3) (hT : mj_rt κ = none) (h : f_X8_haveTurn_J104 l2 m = some m0) : mj_R κ (mj_F κ (fun r M' => r = none ∧ M' = (va_up M β m0) ∧ mj_bb none none)) 104 [some (mj_r (β, 17)), some (mj_r (β, 33)), some (.inl l2)] [] (va_up M β m) := by
  unfold f_X8_haveTurn_J104 at h
  refine mj_iload_n C dX8_haveTurn_104 rfl ?_
  refine mj_iconst (v := (-1)) C dX8_haveTurn_105 (by decide) ?_
  refine mj_icmp_eq (tgt := 172) C dX8_haveTurn_106 (by decide) (fun c1 => ?_) (fun c1 => ?_)
  · replace h := mj_if_t c1 h
    cases h
    exact mj_vret C hT dX8_haveTurn_172 ⟨rfl, rfl, mj_bv _⟩
  · replace h := mj_if_f c1 h
    refine mj_aload_n C dX8_haveTurn_109 rfl ?_
    refine mj_getr (r := (β, 23)) C lF_X8_18 (sL17 hB) rfl dX8_haveTurn_110 ?_
    refine mj_getr (r := (β, 27)) C lF_X8_143 (sL23 hB) rfl dX8_haveTurn_113 ?_
    refine mj_iload_n C dX8_haveTurn_116 rfl ?_
    refine mj_iconst (v := 0) C dX8_haveTurn_117 (by decide) ?_
    obtain ⟨k2, h⟩ := mj_chk_o h
    obtain ⟨m3, hm3, h⟩ := mj_let_o h
    refine mj_bast C (sL27 hB) k2 rfl dX8_haveTurn_118 hm3 ?_
    refine mj_aload_n C dX8_haveTurn_119 rfl ?_
    refine mj_getr (r := (β, 3)) C lF_X8_60 (sL17 hB) rfl dX8_haveTurn_120 ?_
    refine mj_aload_n C dX8_haveTurn_123 rfl ?_
    refine mj_getr (r := (β, 23)) C lF_X8_18 (sL17 hB) rfl dX8_haveTurn_124 ?_
    refine mj_getr (r := (β, 26)) C lF_X8_146 (sL23 hB) rfl dX8_haveTurn_127 ?_
    refine mj_iload_n C dX8_haveTurn_130 rfl ?_
    obtain ⟨k4, h⟩ := mj_chk_o h
    refine mj_bald C (sL26 hB) k4 rfl dX8_haveTurn_131 ?_
    obtain ⟨m5, em5, h⟩ := mj_b1_o h
    refine mj_callV0 (av := [.inl (m3 26 (mj_cl l2))]) C lM_X8_149 lV_X2_noteWent (sL3 hB) ⟨_, rfl, rfl⟩ rfl (C_X2_noteWent hB em5) (mj_rmok hR (by decide) (by decide)) rfl (Nat.le_of_ble_eq_true rfl) dX8_haveTurn_132 ?_
    refine mj_aload_n C dX8_haveTurn_135 rfl ?_
    refine mj_iconst (v := 0) C dX8_haveTurn_136 (by decide) ?_
    refine mj_aload_n C dX8_haveTurn_137 rfl ?_
    refine mj_getr (r := (β, 23)) C lF_X8_18 (sL17 hB) rfl dX8_haveTurn_138 ?_
    refine mj_getr (r := (β, 25)) C lF_X8_152 (sL23 hB) rfl dX8_haveTurn_141 ?_
    refine mj_iload_n C dX8_haveTurn_144 rfl ?_
    obtain ⟨k7, h⟩ := mj_chk_o h
    refine mj_bald C (sL25 hB) k7 rfl dX8_haveTurn_145 ?_
    refine mj_bipush (v := 16) C dX8_haveTurn_146 (by decide) ?_
    refine mj_ishl C dX8_haveTurn_148 ?_
    refine mj_ior C dX8_haveTurn_149 ?_
    refine mj_aload_n C dX8_haveTurn_150 rfl ?_
    refine mj_getr (r := (β, 23)) C lF_X8_18 (sL17 hB) rfl dX8_haveTurn_151 ?_
    refine mj_getr (r := (β, 24)) C lF_X8_123 (sL23 hB) rfl dX8_haveTurn_154 ?_
    refine mj_iload_n C dX8_haveTurn_157 rfl ?_
    obtain ⟨k8, h⟩ := mj_chk_o h
    refine mj_bald C (sL24 hB) k8 rfl dX8_haveTurn_158 ?_
    refine mj_ior C dX8_haveTurn_159 ?_
    refine mj_aload_n C dX8_haveTurn_160 rfl ?_
    refine mj_getr (r := (β, 23)) C lF_X8_18 (sL17 hB) rfl dX8_haveTurn_161 ?_
    refine mj_getr (r := (β, 26)) C lF_X8_146 (sL23 hB) rfl dX8_haveTurn_164 ?_
    refine mj_iload_n C dX8_haveTurn_167 rfl ?_
    obtain ⟨k9, h⟩ := mj_chk_o h
    refine mj_bald C (sL26 hB) k9 rfl dX8_haveTurn_168 ?_
    obtain ⟨m10, em10, h⟩ := mj_b1_o h
    refine mj_callV0 (av := [.inl ((0 ||| (mj_shl (m5 25 (mj_cl l2)) 16)) ||| (m5 24 (mj_cl l2))), .inl (m5 26 (mj_cl l2))]) C lM_X8_126 lV_X9_goes (sL33 hB) ⟨_, rfl, rfl⟩ rfl (C_X9_goes (sLw33 hB) em10) (mj_rmok hR (by decide) (by decide)) rfl (Nat.le_of_ble_eq_true rfl) dX8_haveTurn_169 ?_
    cases h
    exact mj_vret C hT dX8_haveTurn_172 ⟨rfl, rfl, mj_bv _⟩
def f_X8_haveTurn_J86 (m : mj_m) : Option (mj_m) := mj_b1 (f_X7_firstMarked 23 m) (fun r12 => if r12 = (-1) then (mj_b2 (f_X8_makeNewFrame m) (fun r15 m16 => f_X8_haveTurn_J104 r15 m16)) else (f_X8_haveTurn_J104 r12 m))
set_option maxHeartbeats 4000000 in
set_option maxRecDepth 20000 in
theorem C_X8_haveTurn_J86 {κ : mj_K} {β : Nat} {M : mj_M} {m : mj_m} {m0 : mj_m} (C : mj_C κ cX8_haveTurn 3 RX8) (hB : mj_isL (mj_g κ) β) (hR : mj_dp κ 3) (hT : mj_rt κ = none) (h : f_X8_haveTurn_J86 m = some m0) : mj_R κ (mj_F κ (fun r M' => r = none ∧ M' = (va_up M β m0) ∧ mj_bb none none)) 86 [some (mj_r (β, 17)), some (mj_r (β, 33)), none] [] (va_up M β m) := by
  unfold f_X8_haveTurn_J86 at h
  refine mj_aload_n C dX8_haveTurn_86 rfl ?_
  refine mj_getr (r := (β, 23)) C lF_X8_18 (sL17 hB) rfl dX8_haveTurn_87 ?_
  obtain ⟨r12, er12, h⟩ := mj_b1_o h
  refine mj_callV1 (av := []) C lM_X8_136 lV_X7_firstMarked (sL23 hB) ⟨_, rfl, rfl⟩ rfl (C_X7_firstMarked (sLr23 hB) er12) (mj_rmok hR (by decide) (by decide)) rfl (Nat.le_of_ble_eq_true rfl) dX8_haveTurn_90 (fun hb13 => ?_)
  refine mj_istore_n (L2 := [some (mj_r (β, 17)), some (mj_r (β, 33)), some (.inl r12)]) C dX8_haveTurn_93 (Nat.le_of_ble_eq_true rfl) rfl ?_
  refine mj_iload_n C dX8_haveTurn_94 rfl ?_
  refine mj_iconst (v := (-1)) C dX8_haveTurn_95 (by decide) ?_
  refine mj_icmp_ne (tgt := 104) C dX8_haveTurn_96 (by decide) (fun c14 => ?_) (fun c14 => ?_)
  · replace h := mj_if_f c14 h
    refine mj_sub (L' := [some (mj_r (β, 17)), some (mj_r (β, 33)), some (.inl r12)]) ⟨rfl, ⟨rfl, ⟨rfl, trivial⟩⟩⟩ ?_
    exact C_X8_haveTurn_J104 C hB hR hT h
  · replace h := mj_if_t c14 h
    refine mj_aload_n C dX8_haveTurn_99 rfl ?_
    obtain ⟨r15, m16, em16, h⟩ := mj_b2_o h
    refine mj_callV1 (av := []) C lM_X8_140 lV_X8_makeNewFrame (sL17 hB) ⟨_, rfl, rfl⟩ rfl (C_X8_makeNewFrame hB em16) (mj_rmok hR (by decide) (by decide)) rfl (Nat.le_of_ble_eq_true rfl) dX8_haveTurn_100 (fun hb17 => ?_)
    refine mj_istore_n (L2 := [some (mj_r (β, 17)), some (mj_r (β, 33)), some (.inl r15)]) C dX8_haveTurn_103 (Nat.le_of_ble_eq_true rfl) rfl ?_
    refine mj_sub (L' := [some (mj_r (β, 17)), some (mj_r (β, 33)), some (.inl r15)]) ⟨rfl, ⟨rfl, ⟨rfl, trivial⟩⟩⟩ ?_
    exact C_X8_haveTurn_J104 C hB hR hT h
def f_X8_haveTurn (m : mj_m) : Option (mj_m) := if m 28 4 ≤ 0 then (if m 17 6 = 5 then (if m 17 13 = 0 then (some m) else (mj_let (mj_wrs m 17 13 0) (fun m23 => mj_b1 (f_X9_goes 33 (33554432 ||| (m23 17 12)) (-1) m23) (fun m24 => some m24)))) else (if m 17 6 = 1 then (f_X8_haveTurn_J86 m) else (if m 17 6 = 2 then (f_X8_haveTurn_J86 m) else (some m)))) else (mj_b1 (f_X9_goes 33 (16777216 ||| (m 29 0)) (-1) m) (fun m26 => mj_b1 (f_X7_removeFirst 28 1 m26) (fun m28 => some m28)))
set_option maxHeartbeats 4000000 in
set_option maxRecDepth 20000 in
theorem C_X8_haveTurn {G : mj_G} {β : Nat} {M : mj_M} {m : mj_m} {m0 : mj_m} (hB : mj_isL G β) (h : f_X8_haveTurn m = some m0) : mj_S1 yX8_haveTurn cX8_haveTurn 3 none 3 G [mj_r (β, 17), mj_r (β, 33)] (va_up M β m) none (va_up M β m0) := by
  refine mj_intro (by decide) (Nat.le_of_ble_eq_true rfl) ?_
  intro κ C hG hR hT
  subst hG
  have C : mj_C κ cX8_haveTurn 3 RX8 := C
  show mj_R κ (mj_F κ (fun r M' => r = none ∧ M' = (va_up M β m0) ∧ mj_bb none none)) 0 [some (mj_r (β, 17)), some (mj_r (β, 33)), none] [] (va_up M β m)
  unfold f_X8_haveTurn at h
  refine mj_aload_n C dX8_haveTurn_0 rfl ?_
  refine mj_getr (r := (β, 28)) C lF_X8_21 (sL17 hB) rfl dX8_haveTurn_1 ?_
  refine mj_bget C lF_X8_72 (sL28 hB) rfl dX8_haveTurn_4 ?_
  refine mj_if_le (tgt := 36) C dX8_haveTurn_7 (by decide) (fun c18 => ?_) (fun c18 => ?_)
  · replace h := mj_if_t c18 h
    refine mj_aload_n C dX8_haveTurn_36 rfl ?_
    refine mj_bget C lF_X8_24 (sL17 hB) rfl dX8_haveTurn_37 ?_
    refine mj_iconst (v := 5) C dX8_haveTurn_40 (by decide) ?_
    refine mj_icmp_ne (tgt := 69) C dX8_haveTurn_41 (by decide) (fun c19 => ?_) (fun c19 => ?_)
    · replace h := mj_if_f c19 h
      refine mj_aload_n C dX8_haveTurn_69 rfl ?_
      refine mj_bget C lF_X8_24 (sL17 hB) rfl dX8_haveTurn_70 ?_
      refine mj_iconst (v := 1) C dX8_haveTurn_73 (by decide) ?_
      refine mj_icmp_eq (tgt := 86) C dX8_haveTurn_74 (by decide) (fun c20 => ?_) (fun c20 => ?_)
      · replace h := mj_if_t c20 h
        refine mj_sub (L' := [some (mj_r (β, 17)), some (mj_r (β, 33)), none]) ⟨rfl, ⟨rfl, trivial⟩⟩ ?_
        exact C_X8_haveTurn_J86 C hB hR hT h
      · replace h := mj_if_f c20 h
        refine mj_aload_n C dX8_haveTurn_77 rfl ?_
        refine mj_bget C lF_X8_24 (sL17 hB) rfl dX8_haveTurn_78 ?_
        refine mj_iconst (v := 2) C dX8_haveTurn_81 (by decide) ?_
        refine mj_icmp_eq (tgt := 86) C dX8_haveTurn_82 (by decide) (fun c21 => ?_) (fun c21 => ?_)
        · replace h := mj_if_t c21 h
          refine mj_sub (L' := [some (mj_r (β, 17)), some (mj_r (β, 33)), none]) ⟨rfl, ⟨rfl, trivial⟩⟩ ?_
          exact C_X8_haveTurn_J86 C hB hR hT h
        · replace h := mj_if_f c21 h
          cases h
          exact mj_vret C hT dX8_haveTurn_85 ⟨rfl, rfl, mj_bv _⟩
    · replace h := mj_if_t c19 h
      refine mj_aload_n C dX8_haveTurn_44 rfl ?_
      refine mj_bget C lF_X8_46 (sL17 hB) rfl dX8_haveTurn_45 ?_
      refine mj_if_eq (tgt := 68) C dX8_haveTurn_48 (by decide) (fun c22 => ?_) (fun c22 => ?_)
      · replace h := mj_if_t c22 h
        cases h
        exact mj_vret C hT dX8_haveTurn_68 ⟨rfl, rfl, mj_bv _⟩
      · replace h := mj_if_f c22 h
        refine mj_aload_n C dX8_haveTurn_51 rfl ?_
        refine mj_iconst (v := 0) C dX8_haveTurn_52 (by decide) ?_
        obtain ⟨m23, hm23, h⟩ := mj_let_o h
        refine mj_bput C lF_X8_46 fP_9_13 rfl rfl (sL17 hB) rfl dX8_haveTurn_53 hm23 ?_
        refine mj_aload_n C dX8_haveTurn_56 rfl ?_
        refine mj_ldc (v := 33554432) C lC_X8_135 dX8_haveTurn_57 ?_
        refine mj_aload_n C dX8_haveTurn_59 rfl ?_
        refine mj_bget C lF_X8_43 (sL17 hB) rfl dX8_haveTurn_60 ?_
        refine mj_ior C dX8_haveTurn_63 ?_
        refine mj_iconst (v := (-1)) C dX8_haveTurn_64 (by decide) ?_
        obtain ⟨m24, em24, h⟩ := mj_b1_o h
        refine mj_callV0 (av := [.inl (33554432 ||| (m23 17 12)), .inl (-1)]) C lM_X8_126 lV_X9_goes (sL33 hB) ⟨_, rfl, rfl⟩ rfl (C_X9_goes (sLw33 hB) em24) (mj_rmok hR (by decide) (by decide)) rfl (Nat.le_of_ble_eq_true rfl) dX8_haveTurn_65 ?_
        cases h
        exact mj_vret C hT dX8_haveTurn_68 ⟨rfl, rfl, mj_bv _⟩
  · replace h := mj_if_f c18 h
    refine mj_aload_n C dX8_haveTurn_10 rfl ?_
    refine mj_ldc (v := 16777216) C lC_X8_122 dX8_haveTurn_11 ?_
    refine mj_aload_n C dX8_haveTurn_13 rfl ?_
    refine mj_getr (r := (β, 28)) C lF_X8_21 (sL17 hB) rfl dX8_haveTurn_14 ?_
    refine mj_getr (r := (β, 29)) C lF_X8_123 (sL28 hB) rfl dX8_haveTurn_17 ?_
    refine mj_iconst (v := 0) C dX8_haveTurn_20 (by decide) ?_
    refine mj_bald C (sL29 hB) (mj_okn 0 20 (Nat.le_of_ble_eq_true rfl) (Nat.le_of_ble_eq_true rfl)) (mj_cln 0 (Nat.le_of_ble_eq_true rfl)) dX8_haveTurn_21 ?_
    refine mj_ior C dX8_haveTurn_22 ?_
    refine mj_iconst (v := (-1)) C dX8_haveTurn_23 (by decide) ?_
    obtain ⟨m26, em26, h⟩ := mj_b1_o h
    refine mj_callV0 (av := [.inl (16777216 ||| (m 29 0)), .inl (-1)]) C lM_X8_126 lV_X9_goes (sL33 hB) ⟨_, rfl, rfl⟩ rfl (C_X9_goes (sLw33 hB) em26) (mj_rmok hR (by decide) (by decide)) rfl (Nat.le_of_ble_eq_true rfl) dX8_haveTurn_24 ?_
    refine mj_aload_n C dX8_haveTurn_27 rfl ?_
    refine mj_getr (r := (β, 28)) C lF_X8_21 (sL17 hB) rfl dX8_haveTurn_28 ?_
    refine mj_iconst (v := 1) C dX8_haveTurn_31 (by decide) ?_
    obtain ⟨m28, em28, h⟩ := mj_b1_o h
    refine mj_callV0 (av := [.inl 1]) C lM_X8_132 lV_X7_removeFirst (sL28 hB) ⟨_, rfl, rfl⟩ rfl (C_X7_removeFirst (sLr28 hB) em28) (mj_rmok hR (by decide) (by decide)) rfl (Nat.le_of_ble_eq_true rfl) dX8_haveTurn_32 ?_
    cases h
    exact mj_vret C hT dX8_haveTurn_35 ⟨rfl, rfl, mj_bv _⟩
def f_X8_hearLocked (m : mj_m) : Option (mj_m) := if m 17 6 = 5 then (if m 17 12 = 0 then (some m) else (mj_b1 (f_X8_giveAlarm 1 m) (fun m5 => some m5))) else (mj_b1 (f_X8_giveAlarm 1 m) (fun m2 => some m2))
set_option maxHeartbeats 4000000 in
set_option maxRecDepth 20000 in
theorem C_X8_hearLocked {G : mj_G} {β : Nat} {M : mj_M} {m : mj_m} {m0 : mj_m} (hB : mj_isL G β) (h : f_X8_hearLocked m = some m0) : mj_S1 yX8_hearLocked cX8_hearLocked 1 none 2 G [mj_r (β, 17)] (va_up M β m) none (va_up M β m0) := by
  refine mj_intro (by decide) (Nat.le_of_ble_eq_true rfl) ?_
  intro κ C hG hR hT
  subst hG
  have C : mj_C κ cX8_hearLocked 1 RX8 := C
  show mj_R κ (mj_F κ (fun r M' => r = none ∧ M' = (va_up M β m0) ∧ mj_bb none none)) 0 [some (mj_r (β, 17))] [] (va_up M β m)
  unfold f_X8_hearLocked at h
  refine mj_aload_n C dX8_hearLocked_0 rfl ?_
  refine mj_bget C lF_X8_24 (sL17 hB) rfl dX8_hearLocked_1 ?_
  refine mj_iconst (v := 5) C dX8_hearLocked_4 (by decide) ?_
  refine mj_icmp_ne (tgt := 15) C dX8_hearLocked_5 (by decide) (fun c1 => ?_) (fun c1 => ?_)
  · replace h := mj_if_f c1 h
    refine mj_aload_n C dX8_hearLocked_15 rfl ?_
    refine mj_iconst (v := 1) C dX8_hearLocked_16 (by decide) ?_
    obtain ⟨m2, em2, h⟩ := mj_b1_o h
    refine mj_callV0 (av := [.inl 1]) C lM_X8_108 lV_X8_giveAlarm (sL17 hB) ⟨_, rfl, rfl⟩ rfl (C_X8_giveAlarm hB em2) (mj_rmok hR (by decide) (by decide)) rfl (Nat.le_of_ble_eq_true rfl) dX8_hearLocked_17 ?_
    cases h
    exact mj_vret C hT dX8_hearLocked_20 ⟨rfl, rfl, mj_bv _⟩
  · replace h := mj_if_t c1 h
    refine mj_aload_n C dX8_hearLocked_8 rfl ?_
    refine mj_bget C lF_X8_43 (sL17 hB) rfl dX8_hearLocked_9 ?_
    refine mj_if_eq (tgt := 20) C dX8_hearLocked_12 (by decide) (fun c4 => ?_) (fun c4 => ?_)
    · replace h := mj_if_t c4 h
      cases h
      exact mj_vret C hT dX8_hearLocked_20 ⟨rfl, rfl, mj_bv _⟩
    · replace h := mj_if_f c4 h
      refine mj_aload_n C dX8_hearLocked_15 rfl ?_
      refine mj_iconst (v := 1) C dX8_hearLocked_16 (by decide) ?_
      obtain ⟨m5, em5, h⟩ := mj_b1_o h
      refine mj_callV0 (av := [.inl 1]) C lM_X8_108 lV_X8_giveAlarm (sL17 hB) ⟨_, rfl, rfl⟩ rfl (C_X8_giveAlarm hB em5) (mj_rmok hR (by decide) (by decide)) rfl (Nat.le_of_ble_eq_true rfl) dX8_hearLocked_17 ?_
      cases h
      exact mj_vret C hT dX8_hearLocked_20 ⟨rfl, rfl, mj_bv _⟩
def f_X8_hearChecking (a1 : Int32) (a2 : Int32) (m : mj_m) : Option (mj_m) := if a1 = m 17 7 then (if a2 &&& 1 = 0 then (if a2 = 0 then (mj_b2 (f_X1_change (m 17 6) 1 m) (fun r6 m7 => mj_let (mj_wrs m7 17 6 r6) (fun m9 => mj_let (mj_wrs m9 17 10 0) (fun m10 => some m10)))) else (some m)) else (mj_b1 (f_X8_giveAlarm 2 m) (fun m11 => some m11))) else (mj_b1 (f_X8_giveAlarm 2 m) (fun m2 => some m2))
set_option maxHeartbeats 4000000 in
set_option maxRecDepth 20000 in
theorem C_X8_hearChecking {G : mj_G} {β : Nat} {M : mj_M} {a1 : Int32} {a2 : Int32} {m : mj_m} {m0 : mj_m} (hB : mj_isL G β) (h : f_X8_hearChecking a1 a2 m = some m0) : mj_S1 yX8_hearChecking cX8_hearChecking 3 none 2 G [mj_r (β, 17), .inl a1, .inl a2] (va_up M β m) none (va_up M β m0) := by
  refine mj_intro (by decide) (Nat.le_of_ble_eq_true rfl) ?_
  intro κ C hG hR hT
  subst hG
  have C : mj_C κ cX8_hearChecking 3 RX8 := C
  show mj_R κ (mj_F κ (fun r M' => r = none ∧ M' = (va_up M β m0) ∧ mj_bb none none)) 0 [some (mj_r (β, 17)), some (.inl a1), some (.inl a2)] [] (va_up M β m)
  unfold f_X8_hearChecking at h
  refine mj_iload_n C dX8_hearChecking_0 rfl ?_
  refine mj_aload_n C dX8_hearChecking_1 rfl ?_
  refine mj_bget C lF_X8_28 (sL17 hB) rfl dX8_hearChecking_2 ?_
  refine mj_icmp_ne (tgt := 14) C dX8_hearChecking_5 (by decide) (fun c1 => ?_) (fun c1 => ?_)
  · replace h := mj_if_f c1 h
    refine mj_aload_n C dX8_hearChecking_14 rfl ?_
    refine mj_iconst (v := 2) C dX8_hearChecking_15 (by decide) ?_
    obtain ⟨m2, em2, h⟩ := mj_b1_o h
    refine mj_callV0 (av := [.inl 2]) C lM_X8_108 lV_X8_giveAlarm (sL17 hB) ⟨_, rfl, rfl⟩ rfl (C_X8_giveAlarm hB em2) (mj_rmok hR (by decide) (by decide)) rfl (Nat.le_of_ble_eq_true rfl) dX8_hearChecking_16 ?_
    refine mj_goto (tgt := 47) C dX8_hearChecking_19 (by decide) ?_
    cases h
    exact mj_vret C hT dX8_hearChecking_47 ⟨rfl, rfl, mj_bv _⟩
  · replace h := mj_if_t c1 h
    refine mj_iload_n C dX8_hearChecking_8 rfl ?_
    refine mj_iconst (v := 1) C dX8_hearChecking_9 (by decide) ?_
    refine mj_iand C dX8_hearChecking_10 ?_
    refine mj_if_eq (tgt := 22) C dX8_hearChecking_11 (by decide) (fun c4 => ?_) (fun c4 => ?_)
    · replace h := mj_if_t c4 h
      refine mj_iload_n C dX8_hearChecking_22 rfl ?_
      refine mj_if_ne (tgt := 47) C dX8_hearChecking_23 (by decide) (fun c5 => ?_) (fun c5 => ?_)
      · replace h := mj_if_f c5 h
        cases h
        exact mj_vret C hT dX8_hearChecking_47 ⟨rfl, rfl, mj_bv _⟩
      · replace h := mj_if_t c5 h
        refine mj_aload_n C dX8_hearChecking_26 rfl ?_
        refine mj_aload_n C dX8_hearChecking_27 rfl ?_
        refine mj_getr (r := (β, 5)) C lF_X8_64 (sL17 hB) rfl dX8_hearChecking_28 ?_
        refine mj_aload_n C dX8_hearChecking_31 rfl ?_
        refine mj_bget C lF_X8_24 (sL17 hB) rfl dX8_hearChecking_32 ?_
        refine mj_iconst (v := 1) C dX8_hearChecking_35 (by decide) ?_
        obtain ⟨r6, m7, em7, h⟩ := mj_b2_o h
        refine mj_callV1 (av := [.inl (m 17 6), .inl 1]) C lM_X8_102 lV_X1_change (sL5 hB) ⟨_, rfl, rfl⟩ rfl (C_X1_change hB em7) (mj_rmok hR (by decide) (by decide)) rfl (Nat.le_of_ble_eq_true rfl) dX8_hearChecking_36 (fun hb8 => ?_)
        obtain ⟨m9, hm9, h⟩ := mj_let_o h
        refine mj_bput C lF_X8_24 fP_9_6 (vp_nar_int _) rfl (sL17 hB) rfl dX8_hearChecking_39 hm9 ?_
        refine mj_aload_n C dX8_hearChecking_42 rfl ?_
        refine mj_iconst (v := 0) C dX8_hearChecking_43 (by decide) ?_
        obtain ⟨m10, hm10, h⟩ := mj_let_o h
        refine mj_bput C lF_X8_37 fP_9_10 (vp_nar_int _) rfl (sL17 hB) rfl dX8_hearChecking_44 hm10 ?_
        cases h
        exact mj_vret C hT dX8_hearChecking_47 ⟨rfl, rfl, mj_bv _⟩
    · replace h := mj_if_f c4 h
      refine mj_aload_n C dX8_hearChecking_14 rfl ?_
      refine mj_iconst (v := 2) C dX8_hearChecking_15 (by decide) ?_
      obtain ⟨m11, em11, h⟩ := mj_b1_o h
      refine mj_callV0 (av := [.inl 2]) C lM_X8_108 lV_X8_giveAlarm (sL17 hB) ⟨_, rfl, rfl⟩ rfl (C_X8_giveAlarm hB em11) (mj_rmok hR (by decide) (by decide)) rfl (Nat.le_of_ble_eq_true rfl) dX8_hearChecking_16 ?_
      refine mj_goto (tgt := 47) C dX8_hearChecking_19 (by decide) ?_
      cases h
      exact mj_vret C hT dX8_hearChecking_47 ⟨rfl, rfl, mj_bv _⟩
def f_X8_hearDirecting (a1 : Int32) (a2 : Int32) (m : mj_m) : Option (mj_m) := if a1 = m 17 7 then (if a2 = 0 then (mj_b2 (f_X1_change (m 17 6) 1 m) (fun r3 m4 => mj_let (mj_wrs m4 17 6 r3) (fun m6 => mj_let (mj_wrs m6 17 12 (-1)) (fun m7 => mj_let (mj_wrs m7 17 13 0) (fun m8 => mj_let (mj_wrs m8 17 10 0) (fun m9 => some m9)))))) else (some m)) else (some m)
set_option maxHeartbeats 4000000 in
set_option maxRecDepth 20000 in
theorem C_X8_hearDirecting {G : mj_G} {β : Nat} {M : mj_M} {a1 : Int32} {a2 : Int32} {m : mj_m} {m0 : mj_m} (hB : mj_isL G β) (h : f_X8_hearDirecting a1 a2 m = some m0) : mj_S1 yX8_hearDirecting cX8_hearDirecting 3 none 1 G [mj_r (β, 17), .inl a1, .inl a2] (va_up M β m) none (va_up M β m0) := by
  refine mj_intro (by decide) (Nat.le_of_ble_eq_true rfl) ?_
  intro κ C hG hR hT
  subst hG
  have C : mj_C κ cX8_hearDirecting 3 RX8 := C
  show mj_R κ (mj_F κ (fun r M' => r = none ∧ M' = (va_up M β m0) ∧ mj_bb none none)) 0 [some (mj_r (β, 17)), some (.inl a1), some (.inl a2)] [] (va_up M β m)
  unfold f_X8_hearDirecting at h
  refine mj_iload_n C dX8_hearDirecting_0 rfl ?_
  refine mj_aload_n C dX8_hearDirecting_1 rfl ?_
  refine mj_bget C lF_X8_28 (sL17 hB) rfl dX8_hearDirecting_2 ?_
  refine mj_icmp_ne (tgt := 43) C dX8_hearDirecting_5 (by decide) (fun c1 => ?_) (fun c1 => ?_)
  · replace h := mj_if_f c1 h
    cases h
    exact mj_vret C hT dX8_hearDirecting_43 ⟨rfl, rfl, mj_bv _⟩
  · replace h := mj_if_t c1 h
    refine mj_iload_n C dX8_hearDirecting_8 rfl ?_
    refine mj_if_ne (tgt := 43) C dX8_hearDirecting_9 (by decide) (fun c2 => ?_) (fun c2 => ?_)
    · replace h := mj_if_f c2 h
      cases h
      exact mj_vret C hT dX8_hearDirecting_43 ⟨rfl, rfl, mj_bv _⟩
    · replace h := mj_if_t c2 h
      refine mj_aload_n C dX8_hearDirecting_12 rfl ?_
      refine mj_aload_n C dX8_hearDirecting_13 rfl ?_
      refine mj_getr (r := (β, 5)) C lF_X8_64 (sL17 hB) rfl dX8_hearDirecting_14 ?_
      refine mj_aload_n C dX8_hearDirecting_17 rfl ?_
      refine mj_bget C lF_X8_24 (sL17 hB) rfl dX8_hearDirecting_18 ?_
      refine mj_iconst (v := 1) C dX8_hearDirecting_21 (by decide) ?_
      obtain ⟨r3, m4, em4, h⟩ := mj_b2_o h
      refine mj_callV1 (av := [.inl (m 17 6), .inl 1]) C lM_X8_102 lV_X1_change (sL5 hB) ⟨_, rfl, rfl⟩ rfl (C_X1_change hB em4) (mj_rmok hR (by decide) (by decide)) rfl (Nat.le_of_ble_eq_true rfl) dX8_hearDirecting_22 (fun hb5 => ?_)
      obtain ⟨m6, hm6, h⟩ := mj_let_o h
      refine mj_bput C lF_X8_24 fP_9_6 (vp_nar_int _) rfl (sL17 hB) rfl dX8_hearDirecting_25 hm6 ?_
      refine mj_aload_n C dX8_hearDirecting_28 rfl ?_
      refine mj_iconst (v := (-1)) C dX8_hearDirecting_29 (by decide) ?_
      obtain ⟨m7, hm7, h⟩ := mj_let_o h
      refine mj_bput C lF_X8_43 fP_9_12 (vp_nar_int _) rfl (sL17 hB) rfl dX8_hearDirecting_30 hm7 ?_
      refine mj_aload_n C dX8_hearDirecting_33 rfl ?_
      refine mj_iconst (v := 0) C dX8_hearDirecting_34 (by decide) ?_
      obtain ⟨m8, hm8, h⟩ := mj_let_o h
      refine mj_bput C lF_X8_46 fP_9_13 rfl rfl (sL17 hB) rfl dX8_hearDirecting_35 hm8 ?_
      refine mj_aload_n C dX8_hearDirecting_38 rfl ?_
      refine mj_iconst (v := 0) C dX8_hearDirecting_39 (by decide) ?_
      obtain ⟨m9, hm9, h⟩ := mj_let_o h
      refine mj_bput C lF_X8_37 fP_9_10 (vp_nar_int _) rfl (sL17 hB) rfl dX8_hearDirecting_40 hm9 ?_
      cases h
      exact mj_vret C hT dX8_hearDirecting_43 ⟨rfl, rfl, mj_bv _⟩
def f_X8_standingOf (a1 : Int32) (m : mj_m) : Int32 := if a1 = m 17 7 then (0) else (if a1 = m 17 8 then (1) else (2))
set_option maxHeartbeats 4000000 in
set_option maxRecDepth 20000 in
theorem C_X8_standingOf {G : mj_G} {β : Nat} {M : mj_M} {a1 : Int32} {m : mj_m} {x0 : Int32} (hB : mj_isL G β) (h : f_X8_standingOf a1 m = x0) : mj_S1 yX8_standingOf cX8_standingOf 2 (some .int) 0 G [mj_r (β, 17), .inl a1] (va_up M β m) (some (.inl x0)) (va_up M β m) := by
  refine mj_intro (by decide) (Nat.le_of_ble_eq_true rfl) ?_
  intro κ C hG hR hT
  subst hG
  have C : mj_C κ cX8_standingOf 2 RX8 := C
  show mj_R κ (mj_F κ (fun r M' => r = (some (.inl x0)) ∧ M' = (va_up M β m) ∧ mj_bb (some .int) (some (.inl x0)))) 0 [some (mj_r (β, 17)), some (.inl a1)] [] (va_up M β m)
  unfold f_X8_standingOf at h
  refine mj_iload_n C dX8_standingOf_0 rfl ?_
  refine mj_aload_n C dX8_standingOf_1 rfl ?_
  refine mj_bget C lF_X8_28 (sL17 hB) rfl dX8_standingOf_2 ?_
  refine mj_icmp_ne (tgt := 10) C dX8_standingOf_5 (by decide) (fun c1 => ?_) (fun c1 => ?_)
  · replace h := mj_if_f c1 h
    refine mj_iload_n C dX8_standingOf_10 rfl ?_
    refine mj_aload_n C dX8_standingOf_11 rfl ?_
    refine mj_bget C lF_X8_31 (sL17 hB) rfl dX8_standingOf_12 ?_
    refine mj_icmp_ne (tgt := 22) C dX8_standingOf_15 (by decide) (fun c2 => ?_) (fun c2 => ?_)
    · replace h := mj_if_f c2 h
      refine mj_iconst (v := 2) C dX8_standingOf_22 (by decide) ?_
      cases h
      exact mj_iret C hT (vp_nar_int _) dX8_standingOf_23 ⟨rfl, rfl, mj_bi _⟩
    · replace h := mj_if_t c2 h
      refine mj_iconst (v := 1) C dX8_standingOf_18 (by decide) ?_
      refine mj_goto (tgt := 23) C dX8_standingOf_19 (by decide) ?_
      cases h
      exact mj_iret C hT (vp_nar_int _) dX8_standingOf_23 ⟨rfl, rfl, mj_bi _⟩
  · replace h := mj_if_t c1 h
    refine mj_iconst (v := 0) C dX8_standingOf_8 (by decide) ?_
    cases h
    exact mj_iret C hT (vp_nar_int _) dX8_standingOf_9 ⟨rfl, rfl, mj_bi _⟩
def f_X8_verdictOf_J54 (l0 : Int32) (l1 : Int32) (l3 : Int32) (l4 : Int32) (l5 : Int32) (l6 : Int32) : Int32 := if l5 = 0 then (if l1 = 2 then (2) else (if l0 = 1 then (0) else (8))) else (if l4 = 1 then (6) else (if l1 = 2 then (3) else (if l0 = 1 then (if l3 < l4 then (3) else (6)) else (if l0 = 2 then (if l6 = 0 then (0) else (4)) else (if l6 = 0 then (5) else (0))))))
set_option maxHeartbeats 4000000 in
set_option maxRecDepth 20000 in
theorem C_X8_verdictOf_J54 {κ : mj_K} {M : mj_M} {l0 : Int32} {l1 : Int32} {l3 : Int32} {l4 : Int32} {l5 : Int32} {l6 : Int32} {x0 : Int32} (C : mj_C κ cX8_verdictOf 7 RX8) (hR : mj_dp κ 0) (hT : mj_rt κ = (some .int)) (h : f_X8_verdictOf_J54 l0 l1 l3 l4 l5 l6 = x0) : mj_R κ (mj_F κ (fun r M' => r = (some (.inl x0)) ∧ M' = M ∧ mj_bb (some .int) (some (.inl x0)))) 54 [some (.inl l0), some (.inl l1), none, some (.inl l3), some (.inl l4), some (.inl l5), some (.inl l6)] [] M := by
  unfold f_X8_verdictOf_J54 at h
  refine mj_iload C dX8_verdictOf_54 rfl ?_
  refine mj_if_ne (tgt := 78) C dX8_verdictOf_56 (by decide) (fun c1 => ?_) (fun c1 => ?_)
  · replace h := mj_if_f c1 h
    refine mj_iload C dX8_verdictOf_78 rfl ?_
    refine mj_iconst (v := 1) C dX8_verdictOf_80 (by decide) ?_
    refine mj_icmp_ne (tgt := 87) C dX8_verdictOf_81 (by decide) (fun c2 => ?_) (fun c2 => ?_)
    · replace h := mj_if_f c2 h
      refine mj_iload_n C dX8_verdictOf_87 rfl ?_
      refine mj_iconst (v := 2) C dX8_verdictOf_88 (by decide) ?_
      refine mj_icmp_ne (tgt := 94) C dX8_verdictOf_89 (by decide) (fun c3 => ?_) (fun c3 => ?_)
      · replace h := mj_if_f c3 h
        refine mj_iload_n C dX8_verdictOf_94 rfl ?_
        refine mj_iconst (v := 1) C dX8_verdictOf_95 (by decide) ?_
        refine mj_icmp_ne (tgt := 112) C dX8_verdictOf_96 (by decide) (fun c4 => ?_) (fun c4 => ?_)
        · replace h := mj_if_f c4 h
          refine mj_iload_n C dX8_verdictOf_112 rfl ?_
          refine mj_iconst (v := 2) C dX8_verdictOf_113 (by decide) ?_
          refine mj_icmp_ne (tgt := 128) C dX8_verdictOf_114 (by decide) (fun c5 => ?_) (fun c5 => ?_)
          · replace h := mj_if_f c5 h
            refine mj_iload C dX8_verdictOf_128 rfl ?_
            refine mj_if_eq (tgt := 137) C dX8_verdictOf_130 (by decide) (fun c6 => ?_) (fun c6 => ?_)
            · replace h := mj_if_t c6 h
              refine mj_iconst (v := 5) C dX8_verdictOf_137 (by decide) ?_
              cases h
              exact mj_iret C hT (vp_nar_int _) dX8_verdictOf_138 ⟨rfl, rfl, mj_bi _⟩
            · replace h := mj_if_f c6 h
              refine mj_iconst (v := 0) C dX8_verdictOf_133 (by decide) ?_
              refine mj_goto (tgt := 138) C dX8_verdictOf_134 (by decide) ?_
              cases h
              exact mj_iret C hT (vp_nar_int _) dX8_verdictOf_138 ⟨rfl, rfl, mj_bi _⟩
          · replace h := mj_if_t c5 h
            refine mj_iload C dX8_verdictOf_117 rfl ?_
            refine mj_if_eq (tgt := 126) C dX8_verdictOf_119 (by decide) (fun c7 => ?_) (fun c7 => ?_)
            · replace h := mj_if_t c7 h
              refine mj_iconst (v := 0) C dX8_verdictOf_126 (by decide) ?_
              cases h
              exact mj_iret C hT (vp_nar_int _) dX8_verdictOf_127 ⟨rfl, rfl, mj_bi _⟩
            · replace h := mj_if_f c7 h
              refine mj_iconst (v := 4) C dX8_verdictOf_122 (by decide) ?_
              refine mj_goto (tgt := 127) C dX8_verdictOf_123 (by decide) ?_
              cases h
              exact mj_iret C hT (vp_nar_int _) dX8_verdictOf_127 ⟨rfl, rfl, mj_bi _⟩
        · replace h := mj_if_t c4 h
          refine mj_iload_n C dX8_verdictOf_99 rfl ?_
          refine mj_iload C dX8_verdictOf_100 rfl ?_
          refine mj_icmp_lt (tgt := 110) C dX8_verdictOf_102 (by decide) (fun c8 => ?_) (fun c8 => ?_)
          · replace h := mj_if_t c8 h
            refine mj_iconst (v := 3) C dX8_verdictOf_110 (by decide) ?_
            cases h
            exact mj_iret C hT (vp_nar_int _) dX8_verdictOf_111 ⟨rfl, rfl, mj_bi _⟩
          · replace h := mj_if_f c8 h
            refine mj_bipush (v := 6) C dX8_verdictOf_105 (by decide) ?_
            refine mj_goto (tgt := 111) C dX8_verdictOf_107 (by decide) ?_
            cases h
            exact mj_iret C hT (vp_nar_int _) dX8_verdictOf_111 ⟨rfl, rfl, mj_bi _⟩
      · replace h := mj_if_t c3 h
        refine mj_iconst (v := 3) C dX8_verdictOf_92 (by decide) ?_
        cases h
        exact mj_iret C hT (vp_nar_int _) dX8_verdictOf_93 ⟨rfl, rfl, mj_bi _⟩
    · replace h := mj_if_t c2 h
      refine mj_bipush (v := 6) C dX8_verdictOf_84 (by decide) ?_
      cases h
      exact mj_iret C hT (vp_nar_int _) dX8_verdictOf_86 ⟨rfl, rfl, mj_bi _⟩
  · replace h := mj_if_t c1 h
    refine mj_iload_n C dX8_verdictOf_59 rfl ?_
    refine mj_iconst (v := 2) C dX8_verdictOf_60 (by decide) ?_
    refine mj_icmp_ne (tgt := 66) C dX8_verdictOf_61 (by decide) (fun c9 => ?_) (fun c9 => ?_)
    · replace h := mj_if_f c9 h
      refine mj_iload_n C dX8_verdictOf_66 rfl ?_
      refine mj_iconst (v := 1) C dX8_verdictOf_67 (by decide) ?_
      refine mj_icmp_ne (tgt := 75) C dX8_verdictOf_68 (by decide) (fun c10 => ?_) (fun c10 => ?_)
      · replace h := mj_if_f c10 h
        refine mj_bipush (v := 8) C dX8_verdictOf_75 (by decide) ?_
        cases h
        exact mj_iret C hT (vp_nar_int _) dX8_verdictOf_77 ⟨rfl, rfl, mj_bi _⟩
      · replace h := mj_if_t c10 h
        refine mj_iconst (v := 0) C dX8_verdictOf_71 (by decide) ?_
        refine mj_goto (tgt := 77) C dX8_verdictOf_72 (by decide) ?_
        cases h
        exact mj_iret C hT (vp_nar_int _) dX8_verdictOf_77 ⟨rfl, rfl, mj_bi _⟩
    · replace h := mj_if_t c9 h
      refine mj_iconst (v := 2) C dX8_verdictOf_64 (by decide) ?_
      cases h
      exact mj_iret C hT (vp_nar_int _) dX8_verdictOf_65 ⟨rfl, rfl, mj_bi _⟩
def f_X8_verdictOf_J24 (l0 : Int32) (l1 : Int32) (l2 : Int32) (l3 : Int32) (l4 : Int32) (l5 : Int32) (s0 : Int32) : Int32 := if l1 = 0 then (if l2 = 0 then (1) else (7)) else (if s0 = 0 then (f_X8_verdictOf_J54 l0 l1 l3 l4 l5 s0) else (if l5 = 0 then (7) else (f_X8_verdictOf_J54 l0 l1 l3 l4 l5 s0)))
set_option maxHeartbeats 4000000 in
set_option maxRecDepth 20000 in
theorem C_X8_verdictOf_J24 {κ : mj_K} {M : mj_M} {l0 : Int32} {l1 : Int32} {l2 : Int32} {l3 : Int32} {l4 : Int32} {l5 : Int32} {s0 : Int32} {x0 : Int32} (C : mj_C κ cX8_verdictOf 7 RX8) (hR : mj_dp κ 0) (hT : mj_rt κ = (some .int)) (h : f_X8_verdictOf_J24 l0 l1 l2 l3 l4 l5 s0 = x0) : mj_R κ (mj_F κ (fun r M' => r = (some (.inl x0)) ∧ M' = M ∧ mj_bb (some .int) (some (.inl x0)))) 24 [some (.inl l0), some (.inl l1), some (.inl l2), some (.inl l3), some (.inl l4), some (.inl l5), none] [.inl s0] M := by
  unfold f_X8_verdictOf_J24 at h
  refine mj_istore (L2 := [some (.inl l0), some (.inl l1), some (.inl l2), some (.inl l3), some (.inl l4), some (.inl l5), some (.inl s0)]) C dX8_verdictOf_24 (Nat.le_of_ble_eq_true rfl) rfl ?_
  refine mj_iload_n C dX8_verdictOf_26 rfl ?_
  refine mj_if_ne (tgt := 41) C dX8_verdictOf_27 (by decide) (fun c11 => ?_) (fun c11 => ?_)
  · replace h := mj_if_f c11 h
    refine mj_iload C dX8_verdictOf_41 rfl ?_
    refine mj_if_eq (tgt := 54) C dX8_verdictOf_43 (by decide) (fun c12 => ?_) (fun c12 => ?_)
    · replace h := mj_if_t c12 h
      refine mj_sub (L' := [some (.inl l0), some (.inl l1), none, some (.inl l3), some (.inl l4), some (.inl l5), some (.inl s0)]) ⟨rfl, ⟨rfl, ⟨rfl, ⟨rfl, ⟨rfl, ⟨rfl, trivial⟩⟩⟩⟩⟩⟩ ?_
      exact C_X8_verdictOf_J54 C hR hT h
    · replace h := mj_if_f c12 h
      refine mj_iload C dX8_verdictOf_46 rfl ?_
      refine mj_if_ne (tgt := 54) C dX8_verdictOf_48 (by decide) (fun c13 => ?_) (fun c13 => ?_)
      · replace h := mj_if_f c13 h
        refine mj_sub (L' := [some (.inl l0), some (.inl l1), none, some (.inl l3), some (.inl l4), some (.inl l5), some (.inl s0)]) ⟨rfl, ⟨rfl, ⟨rfl, ⟨rfl, ⟨rfl, ⟨rfl, trivial⟩⟩⟩⟩⟩⟩ ?_
        exact C_X8_verdictOf_J54 C hR hT h
      · replace h := mj_if_t c13 h
        refine mj_bipush (v := 7) C dX8_verdictOf_51 (by decide) ?_
        cases h
        exact mj_iret C hT (vp_nar_int _) dX8_verdictOf_53 ⟨rfl, rfl, mj_bi _⟩
  · replace h := mj_if_t c11 h
    refine mj_iload_n C dX8_verdictOf_30 rfl ?_
    refine mj_if_ne (tgt := 38) C dX8_verdictOf_31 (by decide) (fun c14 => ?_) (fun c14 => ?_)
    · replace h := mj_if_f c14 h
      refine mj_bipush (v := 7) C dX8_verdictOf_38 (by decide) ?_
      cases h
      exact mj_iret C hT (vp_nar_int _) dX8_verdictOf_40 ⟨rfl, rfl, mj_bi _⟩
    · replace h := mj_if_t c14 h
      refine mj_iconst (v := 1) C dX8_verdictOf_34 (by decide) ?_
      refine mj_goto (tgt := 40) C dX8_verdictOf_35 (by decide) ?_
      cases h
      exact mj_iret C hT (vp_nar_int _) dX8_verdictOf_40 ⟨rfl, rfl, mj_bi _⟩
def f_X8_verdictOf_J11 (l0 : Int32) (l1 : Int32) (l2 : Int32) (l3 : Int32) (l4 : Int32) (s0 : Int32) : Int32 := if l2 &&& 2 = 0 then (f_X8_verdictOf_J24 l0 l1 l2 l3 l4 s0 0) else (f_X8_verdictOf_J24 l0 l1 l2 l3 l4 s0 1)
set_option maxHeartbeats 4000000 in
set_option maxRecDepth 20000 in
theorem C_X8_verdictOf_J11 {κ : mj_K} {M : mj_M} {l0 : Int32} {l1 : Int32} {l2 : Int32} {l3 : Int32} {l4 : Int32} {s0 : Int32} {x0 : Int32} (C : mj_C κ cX8_verdictOf 7 RX8) (hR : mj_dp κ 0) (hT : mj_rt κ = (some .int)) (h : f_X8_verdictOf_J11 l0 l1 l2 l3 l4 s0 = x0) : mj_R κ (mj_F κ (fun r M' => r = (some (.inl x0)) ∧ M' = M ∧ mj_bb (some .int) (some (.inl x0)))) 11 [some (.inl l0), some (.inl l1), some (.inl l2), some (.inl l3), some (.inl l4), none, none] [.inl s0] M := by
  unfold f_X8_verdictOf_J11 at h
  refine mj_istore (L2 := [some (.inl l0), some (.inl l1), some (.inl l2), some (.inl l3), some (.inl l4), some (.inl s0), none]) C dX8_verdictOf_11 (Nat.le_of_ble_eq_true rfl) rfl ?_
  refine mj_iload_n C dX8_verdictOf_13 rfl ?_
  refine mj_iconst (v := 2) C dX8_verdictOf_14 (by decide) ?_
  refine mj_iand C dX8_verdictOf_15 ?_
  refine mj_if_eq (tgt := 23) C dX8_verdictOf_16 (by decide) (fun c15 => ?_) (fun c15 => ?_)
  · replace h := mj_if_t c15 h
    refine mj_iconst (v := 0) C dX8_verdictOf_23 (by decide) ?_
    refine mj_sub (L' := [some (.inl l0), some (.inl l1), some (.inl l2), some (.inl l3), some (.inl l4), some (.inl s0), none]) ⟨rfl, ⟨rfl, ⟨rfl, ⟨rfl, ⟨rfl, ⟨rfl, trivial⟩⟩⟩⟩⟩⟩ ?_
    exact C_X8_verdictOf_J24 C hR hT h
  · replace h := mj_if_f c15 h
    refine mj_iconst (v := 1) C dX8_verdictOf_19 (by decide) ?_
    refine mj_goto (tgt := 24) C dX8_verdictOf_20 (by decide) ?_
    refine mj_sub (L' := [some (.inl l0), some (.inl l1), some (.inl l2), some (.inl l3), some (.inl l4), some (.inl s0), none]) ⟨rfl, ⟨rfl, ⟨rfl, ⟨rfl, ⟨rfl, ⟨rfl, trivial⟩⟩⟩⟩⟩⟩ ?_
    exact C_X8_verdictOf_J24 C hR hT h
def f_X8_verdictOf (a1 : Int32) (a2 : Int32) (a3 : Int32) (a4 : Int32) (a5 : Int32) : Int32 := if a3 &&& 1 = 0 then (f_X8_verdictOf_J11 a1 a2 a3 a4 a5 0) else (f_X8_verdictOf_J11 a1 a2 a3 a4 a5 1)
set_option maxHeartbeats 4000000 in
set_option maxRecDepth 20000 in
theorem C_X8_verdictOf {G : mj_G} {M : mj_M} {a1 : Int32} {a2 : Int32} {a3 : Int32} {a4 : Int32} {a5 : Int32} {x0 : Int32} (h : f_X8_verdictOf a1 a2 a3 a4 a5 = x0) : mj_S1 yX8_verdictOf cX8_verdictOf 7 (some .int) 0 G [.inl a1, .inl a2, .inl a3, .inl a4, .inl a5] M (some (.inl x0)) M := by
  refine mj_intro (by decide) (Nat.le_of_ble_eq_true rfl) ?_
  intro κ C hG hR hT
  subst hG
  have C : mj_C κ cX8_verdictOf 7 RX8 := C
  show mj_R κ (mj_F κ (fun r M' => r = (some (.inl x0)) ∧ M' = M ∧ mj_bb (some .int) (some (.inl x0)))) 0 [some (.inl a1), some (.inl a2), some (.inl a3), some (.inl a4), some (.inl a5), none, none] [] M
  unfold f_X8_verdictOf at h
  refine mj_iload_n C dX8_verdictOf_0 rfl ?_
  refine mj_iconst (v := 1) C dX8_verdictOf_1 (by decide) ?_
  refine mj_iand C dX8_verdictOf_2 ?_
  refine mj_if_eq (tgt := 10) C dX8_verdictOf_3 (by decide) (fun c16 => ?_) (fun c16 => ?_)
  · replace h := mj_if_t c16 h
    refine mj_iconst (v := 0) C dX8_verdictOf_10 (by decide) ?_
    refine mj_sub (L' := [some (.inl a1), some (.inl a2), some (.inl a3), some (.inl a4), some (.inl a5), none, none]) ⟨rfl, ⟨rfl, ⟨rfl, ⟨rfl, ⟨rfl, trivial⟩⟩⟩⟩⟩ ?_
    exact C_X8_verdictOf_J11 C hR hT h
  · replace h := mj_if_f c16 h
    refine mj_iconst (v := 1) C dX8_verdictOf_6 (by decide) ?_
    refine mj_goto (tgt := 11) C dX8_verdictOf_7 (by decide) ?_
    refine mj_sub (L' := [some (.inl a1), some (.inl a2), some (.inl a3), some (.inl a4), some (.inl a5), none, none]) ⟨rfl, ⟨rfl, ⟨rfl, ⟨rfl, ⟨rfl, trivial⟩⟩⟩⟩⟩ ?_
    exact C_X8_verdictOf_J11 C hR hT h
def f_X8_machineBehind (a1 : Int32) (a2 : Int32) (m : mj_m) : Int32 := if a1 = 1 then (1) else if a1 = 2 then (1) else if a1 = 3 then (if a2 = 0 then (2) else (3)) else if a1 = 4 then (3) else if a1 = 5 then (2) else ((m 17 6))
set_option maxHeartbeats 4000000 in
set_option maxRecDepth 20000 in
theorem C_X8_machineBehind {G : mj_G} {β : Nat} {M : mj_M} {a1 : Int32} {a2 : Int32} {m : mj_m} {x0 : Int32} (hB : mj_isL G β) (h : f_X8_machineBehind a1 a2 m = x0) : mj_S1 yX8_machineBehind cX8_machineBehind 3 (some .int) 0 G [mj_r (β, 17), .inl a1, .inl a2] (va_up M β m) (some (.inl x0)) (va_up M β m) := by
  refine mj_intro (by decide) (Nat.le_of_ble_eq_true rfl) ?_
  intro κ C hG hR hT
  subst hG
  have C : mj_C κ cX8_machineBehind 3 RX8 := C
  show mj_R κ (mj_F κ (fun r M' => r = (some (.inl x0)) ∧ M' = (va_up M β m) ∧ mj_bb (some .int) (some (.inl x0)))) 0 [some (mj_r (β, 17)), some (.inl a1), some (.inl a2)] [] (va_up M β m)
  unfold f_X8_machineBehind at h
  refine mj_iload_n C dX8_machineBehind_0 rfl ?_
  by_cases c1 : a1 = 1
  · replace h := mj_if_t c1 h
    refine mj_tin (off := 35) (tgt := 36) C dX8_machineBehind_1 (by rw [c1]; decide) (by rw [c1]; decide) (by rw [c1]; decide) (by decide) ?_
    refine mj_iconst (v := 1) C dX8_machineBehind_36 (by decide) ?_
    cases h
    exact mj_iret C hT (vp_nar_int _) dX8_machineBehind_37 ⟨rfl, rfl, mj_bi _⟩
  replace h := mj_if_f c1 h
  by_cases c2 : a1 = 2
  · replace h := mj_if_t c2 h
    refine mj_tin (off := 37) (tgt := 38) C dX8_machineBehind_1 (by rw [c2]; decide) (by rw [c2]; decide) (by rw [c2]; decide) (by decide) ?_
    refine mj_iconst (v := 1) C dX8_machineBehind_38 (by decide) ?_
    cases h
    exact mj_iret C hT (vp_nar_int _) dX8_machineBehind_39 ⟨rfl, rfl, mj_bi _⟩
  replace h := mj_if_f c2 h
  by_cases c3 : a1 = 3
  · replace h := mj_if_t c3 h
    refine mj_tin (off := 39) (tgt := 40) C dX8_machineBehind_1 (by rw [c3]; decide) (by rw [c3]; decide) (by rw [c3]; decide) (by decide) ?_
    refine mj_iload_n C dX8_machineBehind_40 rfl ?_
    refine mj_if_eq (tgt := 48) C dX8_machineBehind_41 (by decide) (fun c4 => ?_) (fun c4 => ?_)
    · replace h := mj_if_t c4 h
      refine mj_iconst (v := 2) C dX8_machineBehind_48 (by decide) ?_
      cases h
      exact mj_iret C hT (vp_nar_int _) dX8_machineBehind_49 ⟨rfl, rfl, mj_bi _⟩
    · replace h := mj_if_f c4 h
      refine mj_iconst (v := 3) C dX8_machineBehind_44 (by decide) ?_
      refine mj_goto (tgt := 49) C dX8_machineBehind_45 (by decide) ?_
      cases h
      exact mj_iret C hT (vp_nar_int _) dX8_machineBehind_49 ⟨rfl, rfl, mj_bi _⟩
  replace h := mj_if_f c3 h
  by_cases c5 : a1 = 4
  · replace h := mj_if_t c5 h
    refine mj_tin (off := 49) (tgt := 50) C dX8_machineBehind_1 (by rw [c5]; decide) (by rw [c5]; decide) (by rw [c5]; decide) (by decide) ?_
    refine mj_iconst (v := 3) C dX8_machineBehind_50 (by decide) ?_
    cases h
    exact mj_iret C hT (vp_nar_int _) dX8_machineBehind_51 ⟨rfl, rfl, mj_bi _⟩
  replace h := mj_if_f c5 h
  by_cases c6 : a1 = 5
  · replace h := mj_if_t c6 h
    refine mj_tin (off := 51) (tgt := 52) C dX8_machineBehind_1 (by rw [c6]; decide) (by rw [c6]; decide) (by rw [c6]; decide) (by decide) ?_
    refine mj_iconst (v := 2) C dX8_machineBehind_52 (by decide) ?_
    cases h
    exact mj_iret C hT (vp_nar_int _) dX8_machineBehind_53 ⟨rfl, rfl, mj_bi _⟩
  replace h := mj_if_f c6 h
  refine mj_tout (tgt := 54) C dX8_machineBehind_1 (by have := mj_neL 1 (by decide) c1; have := mj_neL 2 (by decide) c2; have := mj_neL 3 (by decide) c3; have := mj_neL 4 (by decide) c5; have := mj_neL 5 (by decide) c6; omega) (by decide) ?_
  refine mj_aload_n C dX8_machineBehind_54 rfl ?_
  refine mj_bget C lF_X8_24 (sL17 hB) rfl dX8_machineBehind_55 ?_
  cases h
  exact mj_iret C hT (vp_nar_int _) dX8_machineBehind_58 ⟨rfl, rfl, mj_bi _⟩
def f_X8_followTable_J163 (l2 : Int32) (l4 : Int32) (m : mj_m) : Option (mj_m) := if l2 &&& 2 = 0 then (mj_let (f_X8_machineBehind l4 0 m) (fun r2 => mj_b2 (f_X1_change (m 17 6) r2 m) (fun r4 m5 => mj_let (mj_wrs m5 17 6 r4) (fun m7 => some m7)))) else (mj_let (f_X8_machineBehind l4 1 m) (fun r8 => mj_b2 (f_X1_change (m 17 6) r8 m) (fun r10 m11 => mj_let (mj_wrs m11 17 6 r10) (fun m13 => some m13))))
set_option maxHeartbeats 4000000 in
set_option maxRecDepth 20000 in
theorem C_X8_followTable_J163 {κ : mj_K} {β : Nat} {M : mj_M} {l2 : Int32} {l4 : Int32} {m : mj_m} {m0 : mj_m} (C : mj_C κ cX8_followTable 5 RX8) (hB : mj_isL (mj_g κ) β) (hR : mj_dp κ 3) (hT : mj_rt κ = none) (h : f_X8_followTable_J163 l2 l4 m = some m0) : mj_R κ (mj_F κ (fun r M' => r = none ∧ M' = (va_up M β m0) ∧ mj_bb none none)) 163 [some (mj_r (β, 17)), none, some (.inl l2), none, some (.inl l4)] [] (va_up M β m) := by
  unfold f_X8_followTable_J163 at h
  refine mj_aload_n C dX8_followTable_163 rfl ?_
  refine mj_aload_n C dX8_followTable_164 rfl ?_
  refine mj_getr (r := (β, 5)) C lF_X8_64 (sL17 hB) rfl dX8_followTable_165 ?_
  refine mj_aload_n C dX8_followTable_168 rfl ?_
  refine mj_bget C lF_X8_24 (sL17 hB) rfl dX8_followTable_169 ?_
  refine mj_aload_n C dX8_followTable_172 rfl ?_
  refine mj_iload C dX8_followTable_173 rfl ?_
  refine mj_iload_n C dX8_followTable_175 rfl ?_
  refine mj_iconst (v := 2) C dX8_followTable_176 (by decide) ?_
  refine mj_iand C dX8_followTable_177 ?_
  refine mj_if_eq (tgt := 185) C dX8_followTable_178 (by decide) (fun c1 => ?_) (fun c1 => ?_)
  · replace h := mj_if_t c1 h
    refine mj_iconst (v := 0) C dX8_followTable_185 (by decide) ?_
    obtain ⟨r2, er2, h⟩ := mj_let_o h
    refine mj_callV1 (av := [.inl l4, .inl 0]) C lM_X8_187 lV_X8_machineBehind (sL17 hB) ⟨_, rfl, rfl⟩ rfl (C_X8_machineBehind hB er2) (mj_rmok hR (by decide) (by decide)) rfl (Nat.le_of_ble_eq_true rfl) dX8_followTable_186 (fun hb3 => ?_)
    obtain ⟨r4, m5, em5, h⟩ := mj_b2_o h
    refine mj_callV1 (av := [.inl (m 17 6), .inl r2]) C lM_X8_102 lV_X1_change (sL5 hB) ⟨_, rfl, rfl⟩ rfl (C_X1_change hB em5) (mj_rmok hR (by decide) (by decide)) rfl (Nat.le_of_ble_eq_true rfl) dX8_followTable_189 (fun hb6 => ?_)
    obtain ⟨m7, hm7, h⟩ := mj_let_o h
    refine mj_bput C lF_X8_24 fP_9_6 (vp_nar_int _) rfl (sL17 hB) rfl dX8_followTable_192 hm7 ?_
    cases h
    exact mj_vret C hT dX8_followTable_195 ⟨rfl, rfl, mj_bv _⟩
  · replace h := mj_if_f c1 h
    refine mj_iconst (v := 1) C dX8_followTable_181 (by decide) ?_
    refine mj_goto (tgt := 186) C dX8_followTable_182 (by decide) ?_
    obtain ⟨r8, er8, h⟩ := mj_let_o h
    refine mj_callV1 (av := [.inl l4, .inl 1]) C lM_X8_187 lV_X8_machineBehind (sL17 hB) ⟨_, rfl, rfl⟩ rfl (C_X8_machineBehind hB er8) (mj_rmok hR (by decide) (by decide)) rfl (Nat.le_of_ble_eq_true rfl) dX8_followTable_186 (fun hb9 => ?_)
    obtain ⟨r10, m11, em11, h⟩ := mj_b2_o h
    refine mj_callV1 (av := [.inl (m 17 6), .inl r8]) C lM_X8_102 lV_X1_change (sL5 hB) ⟨_, rfl, rfl⟩ rfl (C_X1_change hB em11) (mj_rmok hR (by decide) (by decide)) rfl (Nat.le_of_ble_eq_true rfl) dX8_followTable_189 (fun hb12 => ?_)
    obtain ⟨m13, hm13, h⟩ := mj_let_o h
    refine mj_bput C lF_X8_24 fP_9_6 (vp_nar_int _) rfl (sL17 hB) rfl dX8_followTable_192 hm13 ?_
    cases h
    exact mj_vret C hT dX8_followTable_195 ⟨rfl, rfl, mj_bv _⟩
def f_X8_followTable_J118 (l2 : Int32) (l4 : Int32) (m : mj_m) : Option (mj_m) := mj_b1 (f_X8_markAll m) (fun m14 => f_X8_followTable_J163 l2 l4 m14)
set_option maxHeartbeats 4000000 in
set_option maxRecDepth 20000 in
theorem C_X8_followTable_J118 {κ : mj_K} {β : Nat} {M : mj_M} {l2 : Int32} {l4 : Int32} {m : mj_m} {m0 : mj_m} (C : mj_C κ cX8_followTable 5 RX8) (hB : mj_isL (mj_g κ) β) (hR : mj_dp κ 3) (hT : mj_rt κ = none) (h : f_X8_followTable_J118 l2 l4 m = some m0) : mj_R κ (mj_F κ (fun r M' => r = none ∧ M' = (va_up M β m0) ∧ mj_bb none none)) 118 [some (mj_r (β, 17)), none, some (.inl l2), none, some (.inl l4)] [] (va_up M β m) := by
  unfold f_X8_followTable_J118 at h
  refine mj_aload_n C dX8_followTable_118 rfl ?_
  obtain ⟨m14, em14, h⟩ := mj_b1_o h
  refine mj_callV0 (av := []) C lM_X8_112 lV_X8_markAll (sL17 hB) ⟨_, rfl, rfl⟩ rfl (C_X8_markAll hB em14) (mj_rmok hR (by decide) (by decide)) rfl (Nat.le_of_ble_eq_true rfl) dX8_followTable_119 ?_
  refine mj_goto (tgt := 163) C dX8_followTable_122 (by decide) ?_
  refine mj_sub (L' := [some (mj_r (β, 17)), none, some (.inl l2), none, some (.inl l4)]) ⟨rfl, ⟨rfl, ⟨rfl, trivial⟩⟩⟩ ?_
  exact C_X8_followTable_J163 C hB hR hT h
def f_X8_followTable (a1 : Int32) (a2 : Int32) (m : mj_m) : Option (mj_m) := mj_let (f_X8_standingOf a1 m) (fun r16 => mj_let (f_X8_verdictOf (m 17 6) r16 a2 (m 17 9) (m 2 3)) (fun r18 => mj_b1 (f_X1_noteVerdict r18 m) (fun m20 => if r18 = 7 then (mj_b1 (f_X8_giveAlarm 4 m20) (fun m42 => some m42)) else (if r18 = 8 then (mj_b1 (f_X8_giveAlarm 2 m20) (fun m40 => some m40)) else (mj_let (f_X10_far a1 (m20 17 8)) (fun r24 => mj_b1 (f_X2_letGo r24 m20) (fun m26 => if r18 = 6 then (mj_b1 (f_X8_giveAlarm 5 m26) (fun m38 => some m38)) else (mj_let (mj_wrs m26 17 8 a1) (fun m29 => if r18 = 3 then (if r16 = 2 then (mj_let (mj_wrs m29 17 9 0) (fun m37 => f_X8_followTable_J118 a2 r18 m37)) else (f_X8_followTable_J118 a2 r18 m29)) else (if r18 = 1 then (mj_let (mj_wrs m29 17 10 0) (fun m35 => f_X8_followTable_J163 a2 r18 m35)) else (if r18 = 2 then (mj_let (mj_wrs m29 17 9 1) (fun m33 => mj_let (mj_wrs m33 17 10 (m33 2 4)) (fun m34 => f_X8_followTable_J163 a2 r18 m34))) else (f_X8_followTable_J163 a2 r18 m29))))))))))))
set_option maxHeartbeats 4000000 in
set_option maxRecDepth 20000 in
theorem C_X8_followTable {G : mj_G} {β : Nat} {M : mj_M} {a1 : Int32} {a2 : Int32} {m : mj_m} {m0 : mj_m} (hB : mj_isL G β) (h : f_X8_followTable a1 a2 m = some m0) : mj_S1 yX8_followTable cX8_followTable 5 none 3 G [mj_r (β, 17), .inl a1, .inl a2] (va_up M β m) none (va_up M β m0) := by
  refine mj_intro (by decide) (Nat.le_of_ble_eq_true rfl) ?_
  intro κ C hG hR hT
  subst hG
  have C : mj_C κ cX8_followTable 5 RX8 := C
  show mj_R κ (mj_F κ (fun r M' => r = none ∧ M' = (va_up M β m0) ∧ mj_bb none none)) 0 [some (mj_r (β, 17)), some (.inl a1), some (.inl a2), none, none] [] (va_up M β m)
  unfold f_X8_followTable at h
  refine mj_aload_n C dX8_followTable_0 rfl ?_
  refine mj_iload_n C dX8_followTable_1 rfl ?_
  obtain ⟨r16, er16, h⟩ := mj_let_o h
  refine mj_callV1 (av := [.inl a1]) C lM_X8_173 lV_X8_standingOf (sL17 hB) ⟨_, rfl, rfl⟩ rfl (C_X8_standingOf hB er16) (mj_rmok hR (by decide) (by decide)) rfl (Nat.le_of_ble_eq_true rfl) dX8_followTable_2 (fun hb17 => ?_)
  refine mj_istore_n (L2 := [some (mj_r (β, 17)), some (.inl a1), some (.inl a2), some (.inl r16), none]) C dX8_followTable_5 (Nat.le_of_ble_eq_true rfl) rfl ?_
  refine mj_aload_n C dX8_followTable_6 rfl ?_
  refine mj_bget C lF_X8_24 (sL17 hB) rfl dX8_followTable_7 ?_
  refine mj_iload_n C dX8_followTable_10 rfl ?_
  refine mj_iload_n C dX8_followTable_11 rfl ?_
  refine mj_aload_n C dX8_followTable_12 rfl ?_
  refine mj_bget C lF_X8_34 (sL17 hB) rfl dX8_followTable_13 ?_
  refine mj_aload_n C dX8_followTable_16 rfl ?_
  refine mj_getr (r := (β, 1)) C lF_X8_56 (sL17 hB) rfl dX8_followTable_17 ?_
  refine mj_getr (r := (β, 2)) C lF_X8_96 (sL1 hB) rfl dX8_followTable_20 ?_
  refine mj_iconst (v := 3) C dX8_followTable_23 (by decide) ?_
  refine mj_bald C (sL2 hB) (mj_okn 3 11 (Nat.le_of_ble_eq_true rfl) (Nat.le_of_ble_eq_true rfl)) (mj_cln 3 (Nat.le_of_ble_eq_true rfl)) dX8_followTable_24 ?_
  obtain ⟨r18, er18, h⟩ := mj_let_o h
  refine mj_callS1 (av := [.inl (m 17 6), .inl r16, .inl a2, .inl (m 17 9), .inl (m 2 3)]) C lM_X8_176 lS_X8_verdictOf rfl (C_X8_verdictOf  er18) (mj_rmok hR (by decide) (by decide)) rfl (Nat.le_of_ble_eq_true rfl) dX8_followTable_25 (fun hb19 => ?_)
  refine mj_istore (L2 := [some (mj_r (β, 17)), some (.inl a1), some (.inl a2), some (.inl r16), some (.inl r18)]) C dX8_followTable_28 (Nat.le_of_ble_eq_true rfl) rfl ?_
  refine mj_aload_n C dX8_followTable_30 rfl ?_
  refine mj_getr (r := (β, 5)) C lF_X8_64 (sL17 hB) rfl dX8_followTable_31 ?_
  refine mj_iload C dX8_followTable_34 rfl ?_
  obtain ⟨m20, em20, h⟩ := mj_b1_o h
  refine mj_callV0 (av := [.inl r18]) C lM_X8_180 lV_X1_noteVerdict (sL5 hB) ⟨_, rfl, rfl⟩ rfl (C_X1_noteVerdict hB em20) (mj_rmok hR (by decide) (by decide)) rfl (Nat.le_of_ble_eq_true rfl) dX8_followTable_36 ?_
  refine mj_iload C dX8_followTable_39 rfl ?_
  refine mj_bipush (v := 7) C dX8_followTable_41 (by decide) ?_
  refine mj_icmp_ne (tgt := 52) C dX8_followTable_43 (by decide) (fun c22 => ?_) (fun c22 => ?_)
  · replace h := mj_if_f c22 h
    refine mj_iload C dX8_followTable_52 rfl ?_
    refine mj_bipush (v := 8) C dX8_followTable_54 (by decide) ?_
    refine mj_icmp_ne (tgt := 65) C dX8_followTable_56 (by decide) (fun c23 => ?_) (fun c23 => ?_)
    · replace h := mj_if_f c23 h
      refine mj_aload_n C dX8_followTable_65 rfl ?_
      refine mj_getr (r := (β, 3)) C lF_X8_60 (sL17 hB) rfl dX8_followTable_66 ?_
      refine mj_aload_n C dX8_followTable_69 rfl ?_
      refine mj_getr (r := (β, 23)) C lF_X8_18 (sL17 hB) rfl dX8_followTable_70 ?_
      refine mj_iload_n C dX8_followTable_73 rfl ?_
      refine mj_aload_n C dX8_followTable_74 rfl ?_
      refine mj_bget C lF_X8_31 (sL17 hB) rfl dX8_followTable_75 ?_
      obtain ⟨r24, er24, h⟩ := mj_let_o h
      refine mj_callN1 (av := [.inl a1, .inl (m20 17 8)]) C lN_X8_167 lS_X10_far rfl (C_X10_far  er24) (mj_rmok hR (by decide) (by decide)) rfl (Nat.le_of_ble_eq_true rfl) dX8_followTable_78 (fun hb25 => ?_)
      obtain ⟨m26, em26, h⟩ := mj_b1_o h
      refine mj_callV0 (av := [mj_r (β, 23), .inl r24]) C lM_X8_183 lV_X2_letGo (sL3 hB) ⟨_, rfl, rfl⟩ rfl (C_X2_letGo hB em26) (mj_rmok hR (by decide) (by decide)) rfl (Nat.le_of_ble_eq_true rfl) dX8_followTable_81 ?_
      refine mj_iload C dX8_followTable_84 rfl ?_
      refine mj_bipush (v := 6) C dX8_followTable_86 (by decide) ?_
      refine mj_icmp_ne (tgt := 97) C dX8_followTable_88 (by decide) (fun c28 => ?_) (fun c28 => ?_)
      · replace h := mj_if_f c28 h
        refine mj_aload_n C dX8_followTable_97 rfl ?_
        refine mj_iload_n C dX8_followTable_98 rfl ?_
        obtain ⟨m29, hm29, h⟩ := mj_let_o h
        refine mj_bput C lF_X8_31 fP_9_8 (vp_nar_int _) rfl (sL17 hB) rfl dX8_followTable_99 hm29 ?_
        refine mj_iload C dX8_followTable_102 rfl ?_
        refine mj_iconst (v := 3) C dX8_followTable_104 (by decide) ?_
        refine mj_icmp_ne (tgt := 125) C dX8_followTable_105 (by decide) (fun c30 => ?_) (fun c30 => ?_)
        · replace h := mj_if_f c30 h
          refine mj_iload C dX8_followTable_125 rfl ?_
          refine mj_iconst (v := 1) C dX8_followTable_127 (by decide) ?_
          refine mj_icmp_ne (tgt := 139) C dX8_followTable_128 (by decide) (fun c31 => ?_) (fun c31 => ?_)
          · replace h := mj_if_f c31 h
            refine mj_iload C dX8_followTable_139 rfl ?_
            refine mj_iconst (v := 2) C dX8_followTable_141 (by decide) ?_
            refine mj_icmp_ne (tgt := 163) C dX8_followTable_142 (by decide) (fun c32 => ?_) (fun c32 => ?_)
            · replace h := mj_if_f c32 h
              refine mj_sub (L' := [some (mj_r (β, 17)), none, some (.inl a2), none, some (.inl r18)]) ⟨rfl, ⟨rfl, ⟨rfl, trivial⟩⟩⟩ ?_
              exact C_X8_followTable_J163 C hB hR hT h
            · replace h := mj_if_t c32 h
              refine mj_aload_n C dX8_followTable_145 rfl ?_
              refine mj_iconst (v := 1) C dX8_followTable_146 (by decide) ?_
              obtain ⟨m33, hm33, h⟩ := mj_let_o h
              refine mj_bput C lF_X8_34 fP_9_9 (vp_nar_int _) rfl (sL17 hB) rfl dX8_followTable_147 hm33 ?_
              refine mj_aload_n C dX8_followTable_150 rfl ?_
              refine mj_aload_n C dX8_followTable_151 rfl ?_
              refine mj_getr (r := (β, 1)) C lF_X8_56 (sL17 hB) rfl dX8_followTable_152 ?_
              refine mj_getr (r := (β, 2)) C lF_X8_96 (sL1 hB) rfl dX8_followTable_155 ?_
              refine mj_iconst (v := 4) C dX8_followTable_158 (by decide) ?_
              refine mj_bald C (sL2 hB) (mj_okn 4 11 (Nat.le_of_ble_eq_true rfl) (Nat.le_of_ble_eq_true rfl)) (mj_cln 4 (Nat.le_of_ble_eq_true rfl)) dX8_followTable_159 ?_
              obtain ⟨m34, hm34, h⟩ := mj_let_o h
              refine mj_bput C lF_X8_37 fP_9_10 (vp_nar_int _) rfl (sL17 hB) rfl dX8_followTable_160 hm34 ?_
              refine mj_sub (L' := [some (mj_r (β, 17)), none, some (.inl a2), none, some (.inl r18)]) ⟨rfl, ⟨rfl, ⟨rfl, trivial⟩⟩⟩ ?_
              exact C_X8_followTable_J163 C hB hR hT h
          · replace h := mj_if_t c31 h
            refine mj_aload_n C dX8_followTable_131 rfl ?_
            refine mj_iconst (v := 0) C dX8_followTable_132 (by decide) ?_
            obtain ⟨m35, hm35, h⟩ := mj_let_o h
            refine mj_bput C lF_X8_37 fP_9_10 (vp_nar_int _) rfl (sL17 hB) rfl dX8_followTable_133 hm35 ?_
            refine mj_goto (tgt := 163) C dX8_followTable_136 (by decide) ?_
            refine mj_sub (L' := [some (mj_r (β, 17)), none, some (.inl a2), none, some (.inl r18)]) ⟨rfl, ⟨rfl, ⟨rfl, trivial⟩⟩⟩ ?_
            exact C_X8_followTable_J163 C hB hR hT h
        · replace h := mj_if_t c30 h
          refine mj_iload_n C dX8_followTable_108 rfl ?_
          refine mj_iconst (v := 2) C dX8_followTable_109 (by decide) ?_
          refine mj_icmp_ne (tgt := 118) C dX8_followTable_110 (by decide) (fun c36 => ?_) (fun c36 => ?_)
          · replace h := mj_if_f c36 h
            refine mj_sub (L' := [some (mj_r (β, 17)), none, some (.inl a2), none, some (.inl r18)]) ⟨rfl, ⟨rfl, ⟨rfl, trivial⟩⟩⟩ ?_
            exact C_X8_followTable_J118 C hB hR hT h
          · replace h := mj_if_t c36 h
            refine mj_aload_n C dX8_followTable_113 rfl ?_
            refine mj_iconst (v := 0) C dX8_followTable_114 (by decide) ?_
            obtain ⟨m37, hm37, h⟩ := mj_let_o h
            refine mj_bput C lF_X8_34 fP_9_9 (vp_nar_int _) rfl (sL17 hB) rfl dX8_followTable_115 hm37 ?_
            refine mj_sub (L' := [some (mj_r (β, 17)), none, some (.inl a2), none, some (.inl r18)]) ⟨rfl, ⟨rfl, ⟨rfl, trivial⟩⟩⟩ ?_
            exact C_X8_followTable_J118 C hB hR hT h
      · replace h := mj_if_t c28 h
        refine mj_aload_n C dX8_followTable_91 rfl ?_
        refine mj_iconst (v := 5) C dX8_followTable_92 (by decide) ?_
        obtain ⟨m38, em38, h⟩ := mj_b1_o h
        refine mj_callV0 (av := [.inl 5]) C lM_X8_108 lV_X8_giveAlarm (sL17 hB) ⟨_, rfl, rfl⟩ rfl (C_X8_giveAlarm hB em38) (mj_rmok hR (by decide) (by decide)) rfl (Nat.le_of_ble_eq_true rfl) dX8_followTable_93 ?_
        cases h
        exact mj_vret C hT dX8_followTable_96 ⟨rfl, rfl, mj_bv _⟩
    · replace h := mj_if_t c23 h
      refine mj_aload_n C dX8_followTable_59 rfl ?_
      refine mj_iconst (v := 2) C dX8_followTable_60 (by decide) ?_
      obtain ⟨m40, em40, h⟩ := mj_b1_o h
      refine mj_callV0 (av := [.inl 2]) C lM_X8_108 lV_X8_giveAlarm (sL17 hB) ⟨_, rfl, rfl⟩ rfl (C_X8_giveAlarm hB em40) (mj_rmok hR (by decide) (by decide)) rfl (Nat.le_of_ble_eq_true rfl) dX8_followTable_61 ?_
      cases h
      exact mj_vret C hT dX8_followTable_64 ⟨rfl, rfl, mj_bv _⟩
  · replace h := mj_if_t c22 h
    refine mj_aload_n C dX8_followTable_46 rfl ?_
    refine mj_iconst (v := 4) C dX8_followTable_47 (by decide) ?_
    obtain ⟨m42, em42, h⟩ := mj_b1_o h
    refine mj_callV0 (av := [.inl 4]) C lM_X8_108 lV_X8_giveAlarm (sL17 hB) ⟨_, rfl, rfl⟩ rfl (C_X8_giveAlarm hB em42) (mj_rmok hR (by decide) (by decide)) rfl (Nat.le_of_ble_eq_true rfl) dX8_followTable_48 ?_
    cases h
    exact mj_vret C hT dX8_followTable_51 ⟨rfl, rfl, mj_bv _⟩
def f_X8_hear_J109 (l3 : Int32) (s0 : Int32) (s1 : Int32) (m : mj_m) : Option (mj_m) := mj_let (s1 + s0) (fun x1 => if m 17 6 = 4 then (mj_b1 (f_X8_hearChecking l3 x1 m) (fun m15 => some m15)) else (if m 17 6 = 5 then (mj_b1 (f_X8_hearDirecting l3 x1 m) (fun m13 => some m13)) else (mj_let (f_X10_far l3 (m 17 8)) (fun r4 => mj_let (f_X10_far (m 17 7) (m 17 8)) (fun r6 => if r4 ≤ r6 then (mj_b1 (f_X8_followTable l3 x1 m) (fun m9 => some m9)) else (mj_b1 (f_X8_giveAlarm 3 m) (fun m11 => some m11)))))))
set_option maxHeartbeats 4000000 in
set_option maxRecDepth 20000 in
theorem C_X8_hear_J109 {κ : mj_K} {β : Nat} {M : mj_M} {l3 : Int32} {s0 : Int32} {s1 : Int32} {m : mj_m} {m0 : mj_m} (C : mj_C κ cX8_hear 5 RX8) (hB : mj_isL (mj_g κ) β) (hR : mj_dp κ 4) (hT : mj_rt κ = none) (h : f_X8_hear_J109 l3 s0 s1 m = some m0) : mj_R κ (mj_F κ (fun r M' => r = none ∧ M' = (va_up M β m0) ∧ mj_bb none none)) 109 [some (mj_r (β, 17)), none, none, some (.inl l3), none] [.inl s0, .inl s1] (va_up M β m) := by
  unfold f_X8_hear_J109 at h
  refine mj_iadd C dX8_hear_109 ?_
  obtain ⟨x1, hx1, h⟩ := mj_let_o h
  refine mj_nm hx1 ?_
  refine mj_istore (L2 := [some (mj_r (β, 17)), none, none, some (.inl l3), some (.inl x1)]) C dX8_hear_110 (Nat.le_of_ble_eq_true rfl) rfl ?_
  refine mj_aload_n C dX8_hear_112 rfl ?_
  refine mj_bget C lF_X8_24 (sL17 hB) rfl dX8_hear_113 ?_
  refine mj_iconst (v := 4) C dX8_hear_116 (by decide) ?_
  refine mj_icmp_ne (tgt := 130) C dX8_hear_117 (by decide) (fun c2 => ?_) (fun c2 => ?_)
  · replace h := mj_if_f c2 h
    refine mj_aload_n C dX8_hear_130 rfl ?_
    refine mj_bget C lF_X8_24 (sL17 hB) rfl dX8_hear_131 ?_
    refine mj_iconst (v := 5) C dX8_hear_134 (by decide) ?_
    refine mj_icmp_ne (tgt := 148) C dX8_hear_135 (by decide) (fun c3 => ?_) (fun c3 => ?_)
    · replace h := mj_if_f c3 h
      refine mj_iload_n C dX8_hear_148 rfl ?_
      refine mj_aload_n C dX8_hear_149 rfl ?_
      refine mj_bget C lF_X8_31 (sL17 hB) rfl dX8_hear_150 ?_
      obtain ⟨r4, er4, h⟩ := mj_let_o h
      refine mj_callN1 (av := [.inl l3, .inl (m 17 8)]) C lN_X8_167 lS_X10_far rfl (C_X10_far  er4) (mj_rmok hR (by decide) (by decide)) rfl (Nat.le_of_ble_eq_true rfl) dX8_hear_153 (fun hb5 => ?_)
      refine mj_aload_n C dX8_hear_156 rfl ?_
      refine mj_bget C lF_X8_28 (sL17 hB) rfl dX8_hear_157 ?_
      refine mj_aload_n C dX8_hear_160 rfl ?_
      refine mj_bget C lF_X8_31 (sL17 hB) rfl dX8_hear_161 ?_
      obtain ⟨r6, er6, h⟩ := mj_let_o h
      refine mj_callN1 (av := [.inl (m 17 7), .inl (m 17 8)]) C lN_X8_167 lS_X10_far rfl (C_X10_far  er6) (mj_rmok hR (by decide) (by decide)) rfl (Nat.le_of_ble_eq_true rfl) dX8_hear_164 (fun hb7 => ?_)
      refine mj_icmp_le (tgt := 178) C dX8_hear_167 (by decide) (fun c8 => ?_) (fun c8 => ?_)
      · replace h := mj_if_t c8 h
        refine mj_aload_n C dX8_hear_178 rfl ?_
        refine mj_iload_n C dX8_hear_179 rfl ?_
        refine mj_iload C dX8_hear_180 rfl ?_
        obtain ⟨m9, em9, h⟩ := mj_b1_o h
        refine mj_callV0 (av := [.inl l3, .inl x1]) C lM_X8_170 lV_X8_followTable (sL17 hB) ⟨_, rfl, rfl⟩ rfl (C_X8_followTable hB em9) (mj_rmok hR (by decide) (by decide)) rfl (Nat.le_of_ble_eq_true rfl) dX8_hear_182 ?_
        cases h
        exact mj_vret C hT dX8_hear_185 ⟨rfl, rfl, mj_bv _⟩
      · replace h := mj_if_f c8 h
        refine mj_aload_n C dX8_hear_170 rfl ?_
        refine mj_iconst (v := 3) C dX8_hear_171 (by decide) ?_
        obtain ⟨m11, em11, h⟩ := mj_b1_o h
        refine mj_callV0 (av := [.inl 3]) C lM_X8_108 lV_X8_giveAlarm (sL17 hB) ⟨_, rfl, rfl⟩ rfl (C_X8_giveAlarm hB em11) (mj_rmok hR (by decide) (by decide)) rfl (Nat.le_of_ble_eq_true rfl) dX8_hear_172 ?_
        refine mj_goto (tgt := 185) C dX8_hear_175 (by decide) ?_
        cases h
        exact mj_vret C hT dX8_hear_185 ⟨rfl, rfl, mj_bv _⟩
    · replace h := mj_if_t c3 h
      refine mj_aload_n C dX8_hear_138 rfl ?_
      refine mj_iload_n C dX8_hear_139 rfl ?_
      refine mj_iload C dX8_hear_140 rfl ?_
      obtain ⟨m13, em13, h⟩ := mj_b1_o h
      refine mj_callV0 (av := [.inl l3, .inl x1]) C lM_X8_164 lV_X8_hearDirecting (sL17 hB) ⟨_, rfl, rfl⟩ rfl (C_X8_hearDirecting hB em13) (mj_rmok hR (by decide) (by decide)) rfl (Nat.le_of_ble_eq_true rfl) dX8_hear_142 ?_
      refine mj_goto (tgt := 185) C dX8_hear_145 (by decide) ?_
      cases h
      exact mj_vret C hT dX8_hear_185 ⟨rfl, rfl, mj_bv _⟩
  · replace h := mj_if_t c2 h
    refine mj_aload_n C dX8_hear_120 rfl ?_
    refine mj_iload_n C dX8_hear_121 rfl ?_
    refine mj_iload C dX8_hear_122 rfl ?_
    obtain ⟨m15, em15, h⟩ := mj_b1_o h
    refine mj_callV0 (av := [.inl l3, .inl x1]) C lM_X8_161 lV_X8_hearChecking (sL17 hB) ⟨_, rfl, rfl⟩ rfl (C_X8_hearChecking hB em15) (mj_rmok hR (by decide) (by decide)) rfl (Nat.le_of_ble_eq_true rfl) dX8_hear_124 ?_
    refine mj_goto (tgt := 185) C dX8_hear_127 (by decide) ?_
    cases h
    exact mj_vret C hT dX8_hear_185 ⟨rfl, rfl, mj_bv _⟩
def f_X8_hear_J98 (l2 : Int32) (l3 : Int32) (s0 : Int32) (m : mj_m) : Option (mj_m) := if l2 &&& 2 = 0 then (f_X8_hear_J109 l3 0 s0 m) else (f_X8_hear_J109 l3 2 s0 m)
set_option maxHeartbeats 4000000 in
set_option maxRecDepth 20000 in
theorem C_X8_hear_J98 {κ : mj_K} {β : Nat} {M : mj_M} {l2 : Int32} {l3 : Int32} {s0 : Int32} {m : mj_m} {m0 : mj_m} (C : mj_C κ cX8_hear 5 RX8) (hB : mj_isL (mj_g κ) β) (hR : mj_dp κ 4) (hT : mj_rt κ = none) (h : f_X8_hear_J98 l2 l3 s0 m = some m0) : mj_R κ (mj_F κ (fun r M' => r = none ∧ M' = (va_up M β m0) ∧ mj_bb none none)) 98 [some (mj_r (β, 17)), none, some (.inl l2), some (.inl l3), none] [.inl s0] (va_up M β m) := by
  unfold f_X8_hear_J98 at h
  refine mj_iload_n C dX8_hear_98 rfl ?_
  refine mj_iconst (v := 2) C dX8_hear_99 (by decide) ?_
  refine mj_iand C dX8_hear_100 ?_
  refine mj_if_eq (tgt := 108) C dX8_hear_101 (by decide) (fun c17 => ?_) (fun c17 => ?_)
  · replace h := mj_if_t c17 h
    refine mj_iconst (v := 0) C dX8_hear_108 (by decide) ?_
    refine mj_sub (L' := [some (mj_r (β, 17)), none, none, some (.inl l3), none]) ⟨rfl, ⟨rfl, trivial⟩⟩ ?_
    exact C_X8_hear_J109 C hB hR hT h
  · replace h := mj_if_f c17 h
    refine mj_iconst (v := 2) C dX8_hear_104 (by decide) ?_
    refine mj_goto (tgt := 109) C dX8_hear_105 (by decide) ?_
    refine mj_sub (L' := [some (mj_r (β, 17)), none, none, some (.inl l3), none]) ⟨rfl, ⟨rfl, trivial⟩⟩ ?_
    exact C_X8_hear_J109 C hB hR hT h
def f_X8_hear (m : mj_m) : Option (mj_m) := mj_b1 (f_X9_byteOf 38 0 0 m) (fun r18 => mj_b1 (f_X9_byteOf 38 0 1 m) (fun r20 => mj_b1 (f_X9_byteOf 38 0 2 m) (fun r22 => if ((r18 + r20) + 85) &&& 255 = r22 then (if r18 ≤ 31 then (mj_let (mj_wrs m 17 14 ((mj_shl r18 8) ||| r20)) (fun m27 => mj_let (mj_wrs m27 17 15 ((m27 17 15) + 1)) (fun m28 => if m28 17 6 = 6 then (some m28) else (if r18 &&& 1 = 0 then (if r18 &&& 4 = 0 then (f_X8_hear_J98 r18 r20 0 m28) else (f_X8_hear_J98 r18 r20 1 m28)) else (mj_b1 (f_X8_hearLocked m28) (fun m32 => some m32)))))) else (mj_let (mj_wrs m 17 14 (-2)) (fun m34 => some m34))) else (mj_let (mj_wrs m 17 14 (-2)) (fun m25 => some m25)))))
set_option maxHeartbeats 4000000 in
set_option maxRecDepth 20000 in
theorem C_X8_hear {G : mj_G} {β : Nat} {M : mj_M} {m : mj_m} {m0 : mj_m} (hB : mj_isL G β) (h : f_X8_hear m = some m0) : mj_S1 yX8_hear cX8_hear 5 none 4 G [mj_r (β, 17), mj_r (β, 38)] (va_up M β m) none (va_up M β m0) := by
  refine mj_intro (by decide) (Nat.le_of_ble_eq_true rfl) ?_
  intro κ C hG hR hT
  subst hG
  have C : mj_C κ cX8_hear 5 RX8 := C
  show mj_R κ (mj_F κ (fun r M' => r = none ∧ M' = (va_up M β m0) ∧ mj_bb none none)) 0 [some (mj_r (β, 17)), some (mj_r (β, 38)), none, none, none] [] (va_up M β m)
  unfold f_X8_hear at h
  refine mj_aload_n C dX8_hear_0 rfl ?_
  refine mj_iconst (v := 0) C dX8_hear_1 (by decide) ?_
  refine mj_iconst (v := 0) C dX8_hear_2 (by decide) ?_
  obtain ⟨r18, er18, h⟩ := mj_b1_o h
  refine mj_callV1 (av := [.inl 0, .inl 0]) C lM_X8_155 lV_X9_byteOf (sL38 hB) ⟨_, rfl, rfl⟩ rfl (C_X9_byteOf (sLw38 hB) er18) (mj_rmok hR (by decide) (by decide)) rfl (Nat.le_of_ble_eq_true rfl) dX8_hear_3 (fun hb19 => ?_)
  refine mj_istore_n (L2 := [some (mj_r (β, 17)), some (mj_r (β, 38)), some (.inl r18), none, none]) C dX8_hear_6 (Nat.le_of_ble_eq_true rfl) rfl ?_
  refine mj_aload_n C dX8_hear_7 rfl ?_
  refine mj_iconst (v := 0) C dX8_hear_8 (by decide) ?_
  refine mj_iconst (v := 1) C dX8_hear_9 (by decide) ?_
  obtain ⟨r20, er20, h⟩ := mj_b1_o h
  refine mj_callV1 (av := [.inl 0, .inl 1]) C lM_X8_155 lV_X9_byteOf (sL38 hB) ⟨_, rfl, rfl⟩ rfl (C_X9_byteOf (sLw38 hB) er20) (mj_rmok hR (by decide) (by decide)) rfl (Nat.le_of_ble_eq_true rfl) dX8_hear_10 (fun hb21 => ?_)
  refine mj_istore_n (L2 := [some (mj_r (β, 17)), some (mj_r (β, 38)), some (.inl r18), some (.inl r20), none]) C dX8_hear_13 (Nat.le_of_ble_eq_true rfl) rfl ?_
  refine mj_iload_n C dX8_hear_14 rfl ?_
  refine mj_iload_n C dX8_hear_15 rfl ?_
  refine mj_iadd C dX8_hear_16 ?_
  refine mj_bipush (v := 85) C dX8_hear_17 (by decide) ?_
  refine mj_iadd C dX8_hear_19 ?_
  refine mj_sipush (v := 255) C dX8_hear_20 (by decide) ?_
  refine mj_iand C dX8_hear_23 ?_
  refine mj_aload_n C dX8_hear_24 rfl ?_
  refine mj_iconst (v := 0) C dX8_hear_25 (by decide) ?_
  refine mj_iconst (v := 2) C dX8_hear_26 (by decide) ?_
  obtain ⟨r22, er22, h⟩ := mj_b1_o h
  refine mj_callV1 (av := [.inl 0, .inl 2]) C lM_X8_155 lV_X9_byteOf (sL38 hB) ⟨_, rfl, rfl⟩ rfl (C_X9_byteOf (sLw38 hB) er22) (mj_rmok hR (by decide) (by decide)) rfl (Nat.le_of_ble_eq_true rfl) dX8_hear_27 (fun hb23 => ?_)
  refine mj_icmp_ne (tgt := 39) C dX8_hear_30 (by decide) (fun c24 => ?_) (fun c24 => ?_)
  · replace h := mj_if_f c24 h
    refine mj_aload_n C dX8_hear_39 rfl ?_
    refine mj_bipush (v := (-2)) C dX8_hear_40 (by decide) ?_
    obtain ⟨m25, hm25, h⟩ := mj_let_o h
    refine mj_bput C lF_X8_50 fP_9_14 (vp_nar_int _) rfl (sL17 hB) rfl dX8_hear_42 hm25 ?_
    cases h
    exact mj_vret C hT dX8_hear_45 ⟨rfl, rfl, mj_bv _⟩
  · replace h := mj_if_t c24 h
    refine mj_iload_n C dX8_hear_33 rfl ?_
    refine mj_bipush (v := 31) C dX8_hear_34 (by decide) ?_
    refine mj_icmp_le (tgt := 46) C dX8_hear_36 (by decide) (fun c26 => ?_) (fun c26 => ?_)
    · replace h := mj_if_t c26 h
      refine mj_aload_n C dX8_hear_46 rfl ?_
      refine mj_iload_n C dX8_hear_47 rfl ?_
      refine mj_bipush (v := 8) C dX8_hear_48 (by decide) ?_
      refine mj_ishl C dX8_hear_50 ?_
      refine mj_iload_n C dX8_hear_51 rfl ?_
      refine mj_ior C dX8_hear_52 ?_
      obtain ⟨m27, hm27, h⟩ := mj_let_o h
      refine mj_bput C lF_X8_50 fP_9_14 (vp_nar_int _) rfl (sL17 hB) rfl dX8_hear_53 hm27 ?_
      refine mj_aload_n C dX8_hear_56 rfl ?_
      refine mj_dup C dX8_hear_57 ?_
      refine mj_bget C lF_X8_53 (sL17 hB) rfl dX8_hear_58 ?_
      refine mj_iconst (v := 1) C dX8_hear_61 (by decide) ?_
      refine mj_iadd C dX8_hear_62 ?_
      obtain ⟨m28, hm28, h⟩ := mj_let_o h
      refine mj_bput C lF_X8_53 fP_9_15 (vp_nar_int _) rfl (sL17 hB) rfl dX8_hear_63 hm28 ?_
      refine mj_aload_n C dX8_hear_66 rfl ?_
      refine mj_bget C lF_X8_24 (sL17 hB) rfl dX8_hear_67 ?_
      refine mj_bipush (v := 6) C dX8_hear_70 (by decide) ?_
      refine mj_icmp_ne (tgt := 76) C dX8_hear_72 (by decide) (fun c29 => ?_) (fun c29 => ?_)
      · replace h := mj_if_f c29 h
        refine mj_iload_n C dX8_hear_76 rfl ?_
        refine mj_iconst (v := 1) C dX8_hear_77 (by decide) ?_
        refine mj_iand C dX8_hear_78 ?_
        refine mj_if_eq (tgt := 87) C dX8_hear_79 (by decide) (fun c30 => ?_) (fun c30 => ?_)
        · replace h := mj_if_t c30 h
          refine mj_iload_n C dX8_hear_87 rfl ?_
          refine mj_iconst (v := 4) C dX8_hear_88 (by decide) ?_
          refine mj_iand C dX8_hear_89 ?_
          refine mj_if_eq (tgt := 97) C dX8_hear_90 (by decide) (fun c31 => ?_) (fun c31 => ?_)
          · replace h := mj_if_t c31 h
            refine mj_iconst (v := 0) C dX8_hear_97 (by decide) ?_
            refine mj_sub (L' := [some (mj_r (β, 17)), none, some (.inl r18), some (.inl r20), none]) ⟨rfl, ⟨rfl, ⟨rfl, trivial⟩⟩⟩ ?_
            exact C_X8_hear_J98 C hB hR hT h
          · replace h := mj_if_f c31 h
            refine mj_iconst (v := 1) C dX8_hear_93 (by decide) ?_
            refine mj_goto (tgt := 98) C dX8_hear_94 (by decide) ?_
            refine mj_sub (L' := [some (mj_r (β, 17)), none, some (.inl r18), some (.inl r20), none]) ⟨rfl, ⟨rfl, ⟨rfl, trivial⟩⟩⟩ ?_
            exact C_X8_hear_J98 C hB hR hT h
        · replace h := mj_if_f c30 h
          refine mj_aload_n C dX8_hear_82 rfl ?_
          obtain ⟨m32, em32, h⟩ := mj_b1_o h
          refine mj_callV0 (av := []) C lM_X8_158 lV_X8_hearLocked (sL17 hB) ⟨_, rfl, rfl⟩ rfl (C_X8_hearLocked hB em32) (mj_rmok hR (by decide) (by decide)) rfl (Nat.le_of_ble_eq_true rfl) dX8_hear_83 ?_
          cases h
          exact mj_vret C hT dX8_hear_86 ⟨rfl, rfl, mj_bv _⟩
      · replace h := mj_if_t c29 h
        cases h
        exact mj_vret C hT dX8_hear_75 ⟨rfl, rfl, mj_bv _⟩
    · replace h := mj_if_f c26 h
      refine mj_aload_n C dX8_hear_39 rfl ?_
      refine mj_bipush (v := (-2)) C dX8_hear_40 (by decide) ?_
      obtain ⟨m34, hm34, h⟩ := mj_let_o h
      refine mj_bput C lF_X8_50 fP_9_14 (vp_nar_int _) rfl (sL17 hB) rfl dX8_hear_42 hm34 ?_
      cases h
      exact mj_vret C hT dX8_hear_45 ⟨rfl, rfl, mj_bv _⟩
def f_X8_isIdle (m : mj_m) : Int32 := if m 17 6 = 1 then (if m 18 4 = 0 then (if m 23 4 = 0 then (1) else (0)) else (0)) else (0)
set_option maxHeartbeats 4000000 in
set_option maxRecDepth 20000 in
theorem C_X8_isIdle {G : mj_G} {β : Nat} {M : mj_M} {m : mj_m} {x0 : Int32} (hB : mj_isL G β) (h : f_X8_isIdle m = x0) : mj_S1 yX8_isIdle cX8_isIdle 1 (some .boolean) 0 G [mj_r (β, 17)] (va_up M β m) (some (.inl x0)) (va_up M β m) := by
  refine mj_intro (by decide) (Nat.le_of_ble_eq_true rfl) ?_
  intro κ C hG hR hT
  subst hG
  have C : mj_C κ cX8_isIdle 1 RX8 := C
  show mj_R κ (mj_F κ (fun r M' => r = (some (.inl x0)) ∧ M' = (va_up M β m) ∧ mj_bb (some .boolean) (some (.inl x0)))) 0 [some (mj_r (β, 17))] [] (va_up M β m)
  unfold f_X8_isIdle at h
  refine mj_aload_n C dX8_isIdle_0 rfl ?_
  refine mj_bget C lF_X8_24 (sL17 hB) rfl dX8_isIdle_1 ?_
  refine mj_iconst (v := 1) C dX8_isIdle_4 (by decide) ?_
  refine mj_icmp_ne (tgt := 32) C dX8_isIdle_5 (by decide) (fun c1 => ?_) (fun c1 => ?_)
  · replace h := mj_if_f c1 h
    refine mj_iconst (v := 0) C dX8_isIdle_32 (by decide) ?_
    cases h
    exact mj_iret C hT (mj_nb mj_b0) dX8_isIdle_33 ⟨rfl, rfl, mj_b0⟩
  · replace h := mj_if_t c1 h
    refine mj_aload_n C dX8_isIdle_8 rfl ?_
    refine mj_getr (r := (β, 18)) C lF_X8_12 (sL17 hB) rfl dX8_isIdle_9 ?_
    refine mj_bget C lF_X8_72 (sL18 hB) rfl dX8_isIdle_12 ?_
    refine mj_if_ne (tgt := 32) C dX8_isIdle_15 (by decide) (fun c2 => ?_) (fun c2 => ?_)
    · replace h := mj_if_f c2 h
      refine mj_iconst (v := 0) C dX8_isIdle_32 (by decide) ?_
      cases h
      exact mj_iret C hT (mj_nb mj_b0) dX8_isIdle_33 ⟨rfl, rfl, mj_b0⟩
    · replace h := mj_if_t c2 h
      refine mj_aload_n C dX8_isIdle_18 rfl ?_
      refine mj_getr (r := (β, 23)) C lF_X8_18 (sL17 hB) rfl dX8_isIdle_19 ?_
      refine mj_bget C lF_X8_72 (sL23 hB) rfl dX8_isIdle_22 ?_
      refine mj_if_ne (tgt := 32) C dX8_isIdle_25 (by decide) (fun c3 => ?_) (fun c3 => ?_)
      · replace h := mj_if_f c3 h
        refine mj_iconst (v := 0) C dX8_isIdle_32 (by decide) ?_
        cases h
        exact mj_iret C hT (mj_nb mj_b0) dX8_isIdle_33 ⟨rfl, rfl, mj_b0⟩
      · replace h := mj_if_t c3 h
        refine mj_iconst (v := 1) C dX8_isIdle_28 (by decide) ?_
        refine mj_goto (tgt := 33) C dX8_isIdle_29 (by decide) ?_
        cases h
        exact mj_iret C hT (mj_nb mj_b1') dX8_isIdle_33 ⟨rfl, rfl, mj_b1'⟩
def f_X8_directiveKind (m : mj_m) : Int32 := if m 17 12 = (-1) then ((-1)) else (if m 17 12 = 0 then (0) else (1))
set_option maxHeartbeats 4000000 in
set_option maxRecDepth 20000 in
theorem C_X8_directiveKind {G : mj_G} {β : Nat} {M : mj_M} {m : mj_m} {x0 : Int32} (hB : mj_isL G β) (h : f_X8_directiveKind m = x0) : mj_S1 yX8_directiveKind cX8_directiveKind 1 (some .int) 0 G [mj_r (β, 17)] (va_up M β m) (some (.inl x0)) (va_up M β m) := by
  refine mj_intro (by decide) (Nat.le_of_ble_eq_true rfl) ?_
  intro κ C hG hR hT
  subst hG
  have C : mj_C κ cX8_directiveKind 1 RX8 := C
  show mj_R κ (mj_F κ (fun r M' => r = (some (.inl x0)) ∧ M' = (va_up M β m) ∧ mj_bb (some .int) (some (.inl x0)))) 0 [some (mj_r (β, 17))] [] (va_up M β m)
  unfold f_X8_directiveKind at h
  refine mj_aload_n C dX8_directiveKind_0 rfl ?_
  refine mj_bget C lF_X8_43 (sL17 hB) rfl dX8_directiveKind_1 ?_
  refine mj_iconst (v := (-1)) C dX8_directiveKind_4 (by decide) ?_
  refine mj_icmp_ne (tgt := 10) C dX8_directiveKind_5 (by decide) (fun c1 => ?_) (fun c1 => ?_)
  · replace h := mj_if_f c1 h
    refine mj_aload_n C dX8_directiveKind_10 rfl ?_
    refine mj_bget C lF_X8_43 (sL17 hB) rfl dX8_directiveKind_11 ?_
    refine mj_if_ne (tgt := 21) C dX8_directiveKind_14 (by decide) (fun c2 => ?_) (fun c2 => ?_)
    · replace h := mj_if_f c2 h
      refine mj_iconst (v := 1) C dX8_directiveKind_21 (by decide) ?_
      cases h
      exact mj_iret C hT (vp_nar_int _) dX8_directiveKind_22 ⟨rfl, rfl, mj_bi _⟩
    · replace h := mj_if_t c2 h
      refine mj_iconst (v := 0) C dX8_directiveKind_17 (by decide) ?_
      refine mj_goto (tgt := 22) C dX8_directiveKind_18 (by decide) ?_
      cases h
      exact mj_iret C hT (vp_nar_int _) dX8_directiveKind_22 ⟨rfl, rfl, mj_bi _⟩
  · replace h := mj_if_t c1 h
    refine mj_iconst (v := (-1)) C dX8_directiveKind_8 (by decide) ?_
    cases h
    exact mj_iret C hT (vp_nar_int _) dX8_directiveKind_9 ⟨rfl, rfl, mj_bi _⟩
def f_X8_copyFrom (o : mj_m) (m : mj_m) : Option (mj_m) := mj_b1 (f_X7_copyFrom 18 18 o m) (fun m1 => mj_b1 (f_X7_copyFrom 23 23 o m1) (fun m3 => mj_b1 (f_X7_copyFrom 28 28 o m3) (fun m5 => mj_let (mj_wrs m5 17 6 (o 17 6)) (fun m7 => mj_let (mj_wrs m7 17 7 (o 17 7)) (fun m8 => mj_let (mj_wrs m8 17 8 (o 17 8)) (fun m9 => mj_let (mj_wrs m9 17 9 (o 17 9)) (fun m10 => mj_let (mj_wrs m10 17 10 (o 17 10)) (fun m11 => mj_let (mj_wrs m11 17 11 (o 17 11)) (fun m12 => mj_let (mj_wrs m12 17 12 (o 17 12)) (fun m13 => mj_chk (mj_isb (o 17 13)) (mj_let (mj_wrs m13 17 13 (o 17 13)) (fun m14 => mj_let (mj_wrs m14 17 14 (o 17 14)) (fun m16 => mj_let (mj_wrs m16 17 15 (o 17 15)) (fun m17 => some m17))))))))))))))
set_option maxHeartbeats 4000000 in
set_option maxRecDepth 20000 in
theorem C_X8_copyFrom {G : mj_G} {β : Nat} {γ : Nat} {o : mj_m} {M : mj_M} {m : mj_m} {m0 : mj_m} (hB : mj_isL G β) (hO : mj_isL G γ) (hne : γ ≠ β) (ho : M γ = o) (h : f_X8_copyFrom o m = some m0) : mj_S1 yX8_copyFrom cX8_copyFrom 2 none 2 G [mj_r (β, 17), mj_r (γ, 17)] (va_up M β m) none (va_up M β m0) := by
  refine mj_intro (by decide) (Nat.le_of_ble_eq_true rfl) ?_
  intro κ C hG hR hT
  subst hG
  have C : mj_C κ cX8_copyFrom 2 RX8 := C
  show mj_R κ (mj_F κ (fun r M' => r = none ∧ M' = (va_up M β m0) ∧ mj_bb none none)) 0 [some (mj_r (β, 17)), some (mj_r (γ, 17))] [] (va_up M β m)
  unfold f_X8_copyFrom at h
  refine mj_aload_n C dX8_copyFrom_0 rfl ?_
  refine mj_getr (r := (β, 18)) C lF_X8_12 (sL17 hB) rfl dX8_copyFrom_1 ?_
  refine mj_aload_n C dX8_copyFrom_4 rfl ?_
  refine mj_getr (r := (γ, 18)) C lF_X8_12 (sL17 hO) rfl dX8_copyFrom_5 ?_
  obtain ⟨m1, em1, h⟩ := mj_b1_o h
  refine mj_callV0 (av := [mj_r (γ, 18)]) C lM_X8_211 lV_X7_copyFrom (sL18 hB) ⟨_, rfl, rfl⟩ rfl (C_X7_copyFrom (sLr18 hB) (sLr18 hO) hne ho em1) (mj_rmok hR (by decide) (by decide)) rfl (Nat.le_of_ble_eq_true rfl) dX8_copyFrom_8 ?_
  refine mj_aload_n C dX8_copyFrom_11 rfl ?_
  refine mj_getr (r := (β, 23)) C lF_X8_18 (sL17 hB) rfl dX8_copyFrom_12 ?_
  refine mj_aload_n C dX8_copyFrom_15 rfl ?_
  refine mj_getr (r := (γ, 23)) C lF_X8_18 (sL17 hO) rfl dX8_copyFrom_16 ?_
  obtain ⟨m3, em3, h⟩ := mj_b1_o h
  refine mj_callV0 (av := [mj_r (γ, 23)]) C lM_X8_211 lV_X7_copyFrom (sL23 hB) ⟨_, rfl, rfl⟩ rfl (C_X7_copyFrom (sLr23 hB) (sLr23 hO) hne ho em3) (mj_rmok hR (by decide) (by decide)) rfl (Nat.le_of_ble_eq_true rfl) dX8_copyFrom_19 ?_
  refine mj_aload_n C dX8_copyFrom_22 rfl ?_
  refine mj_getr (r := (β, 28)) C lF_X8_21 (sL17 hB) rfl dX8_copyFrom_23 ?_
  refine mj_aload_n C dX8_copyFrom_26 rfl ?_
  refine mj_getr (r := (γ, 28)) C lF_X8_21 (sL17 hO) rfl dX8_copyFrom_27 ?_
  obtain ⟨m5, em5, h⟩ := mj_b1_o h
  refine mj_callV0 (av := [mj_r (γ, 28)]) C lM_X8_211 lV_X7_copyFrom (sL28 hB) ⟨_, rfl, rfl⟩ rfl (C_X7_copyFrom (sLr28 hB) (sLr28 hO) hne ho em5) (mj_rmok hR (by decide) (by decide)) rfl (Nat.le_of_ble_eq_true rfl) dX8_copyFrom_30 ?_
  refine mj_aload_n C dX8_copyFrom_33 rfl ?_
  refine mj_aload_n C dX8_copyFrom_34 rfl ?_
  refine mj_oget C hne ho lF_X8_24 (sL17 hO) rfl dX8_copyFrom_35 ?_
  obtain ⟨m7, hm7, h⟩ := mj_let_o h
  refine mj_bput C lF_X8_24 fP_9_6 (vp_nar_int _) rfl (sL17 hB) rfl dX8_copyFrom_38 hm7 ?_
  refine mj_aload_n C dX8_copyFrom_41 rfl ?_
  refine mj_aload_n C dX8_copyFrom_42 rfl ?_
  refine mj_oget C hne ho lF_X8_28 (sL17 hO) rfl dX8_copyFrom_43 ?_
  obtain ⟨m8, hm8, h⟩ := mj_let_o h
  refine mj_bput C lF_X8_28 fP_9_7 (vp_nar_int _) rfl (sL17 hB) rfl dX8_copyFrom_46 hm8 ?_
  refine mj_aload_n C dX8_copyFrom_49 rfl ?_
  refine mj_aload_n C dX8_copyFrom_50 rfl ?_
  refine mj_oget C hne ho lF_X8_31 (sL17 hO) rfl dX8_copyFrom_51 ?_
  obtain ⟨m9, hm9, h⟩ := mj_let_o h
  refine mj_bput C lF_X8_31 fP_9_8 (vp_nar_int _) rfl (sL17 hB) rfl dX8_copyFrom_54 hm9 ?_
  refine mj_aload_n C dX8_copyFrom_57 rfl ?_
  refine mj_aload_n C dX8_copyFrom_58 rfl ?_
  refine mj_oget C hne ho lF_X8_34 (sL17 hO) rfl dX8_copyFrom_59 ?_
  obtain ⟨m10, hm10, h⟩ := mj_let_o h
  refine mj_bput C lF_X8_34 fP_9_9 (vp_nar_int _) rfl (sL17 hB) rfl dX8_copyFrom_62 hm10 ?_
  refine mj_aload_n C dX8_copyFrom_65 rfl ?_
  refine mj_aload_n C dX8_copyFrom_66 rfl ?_
  refine mj_oget C hne ho lF_X8_37 (sL17 hO) rfl dX8_copyFrom_67 ?_
  obtain ⟨m11, hm11, h⟩ := mj_let_o h
  refine mj_bput C lF_X8_37 fP_9_10 (vp_nar_int _) rfl (sL17 hB) rfl dX8_copyFrom_70 hm11 ?_
  refine mj_aload_n C dX8_copyFrom_73 rfl ?_
  refine mj_aload_n C dX8_copyFrom_74 rfl ?_
  refine mj_oget C hne ho lF_X8_40 (sL17 hO) rfl dX8_copyFrom_75 ?_
  obtain ⟨m12, hm12, h⟩ := mj_let_o h
  refine mj_bput C lF_X8_40 fP_9_11 (vp_nar_int _) rfl (sL17 hB) rfl dX8_copyFrom_78 hm12 ?_
  refine mj_aload_n C dX8_copyFrom_81 rfl ?_
  refine mj_aload_n C dX8_copyFrom_82 rfl ?_
  refine mj_oget C hne ho lF_X8_43 (sL17 hO) rfl dX8_copyFrom_83 ?_
  obtain ⟨m13, hm13, h⟩ := mj_let_o h
  refine mj_bput C lF_X8_43 fP_9_12 (vp_nar_int _) rfl (sL17 hB) rfl dX8_copyFrom_86 hm13 ?_
  refine mj_aload_n C dX8_copyFrom_89 rfl ?_
  refine mj_aload_n C dX8_copyFrom_90 rfl ?_
  refine mj_oget C hne ho lF_X8_46 (sL17 hO) rfl dX8_copyFrom_91 ?_
  obtain ⟨k15, h⟩ := mj_chk_o h
  obtain ⟨m14, hm14, h⟩ := mj_let_o h
  refine mj_bput C lF_X8_46 fP_9_13 (mj_nb (mj_isb_b k15)) (mj_fb (mj_isb_b k15)) (sL17 hB) rfl dX8_copyFrom_94 hm14 ?_
  refine mj_aload_n C dX8_copyFrom_97 rfl ?_
  refine mj_aload_n C dX8_copyFrom_98 rfl ?_
  refine mj_oget C hne ho lF_X8_50 (sL17 hO) rfl dX8_copyFrom_99 ?_
  obtain ⟨m16, hm16, h⟩ := mj_let_o h
  refine mj_bput C lF_X8_50 fP_9_14 (vp_nar_int _) rfl (sL17 hB) rfl dX8_copyFrom_102 hm16 ?_
  refine mj_aload_n C dX8_copyFrom_105 rfl ?_
  refine mj_aload_n C dX8_copyFrom_106 rfl ?_
  refine mj_oget C hne ho lF_X8_53 (sL17 hO) rfl dX8_copyFrom_107 ?_
  obtain ⟨m17, hm17, h⟩ := mj_let_o h
  refine mj_bput C lF_X8_53 fP_9_15 (vp_nar_int _) rfl (sL17 hB) rfl dX8_copyFrom_110 hm17 ?_
  cases h
  exact mj_vret C hT dX8_copyFrom_113 ⟨rfl, rfl, mj_bv _⟩
def f_X3_wayOf (a1 : Int32) : Nat := if a1 = 0 then (38) else (33)
set_option maxHeartbeats 4000000 in
set_option maxRecDepth 20000 in
theorem C_X3_wayOf {G : mj_G} {β : Nat} {M : mj_M} {a1 : Int32} {m : mj_m} {x0 : Nat} (hB : mj_isL G β) (h : f_X3_wayOf a1 = x0) : mj_S1 yX3_wayOf cX3_wayOf 2 (some (.object "CommandLink$Way")) 0 G [mj_r (β, 0), .inl a1] (va_up M β m) (some (mj_r (β, x0))) (va_up M β m) := by
  refine mj_intro (by decide) (Nat.le_of_ble_eq_true rfl) ?_
  intro κ C hG hR hT
  subst hG
  have C : mj_C κ cX3_wayOf 2 RX3 := C
  show mj_R κ (mj_F κ (fun r M' => r = (some (mj_r (β, x0))) ∧ M' = (va_up M β m) ∧ mj_bb (some (.object "CommandLink$Way")) (some (mj_r (β, x0))))) 0 [some (mj_r (β, 0)), some (.inl a1)] [] (va_up M β m)
  unfold f_X3_wayOf at h
  refine mj_iload_n C dX3_wayOf_0 rfl ?_
  refine mj_if_eq (tgt := 11) C dX3_wayOf_1 (by decide) (fun c1 => ?_) (fun c1 => ?_)
  · replace h := mj_if_t c1 h
    refine mj_aload_n C dX3_wayOf_11 rfl ?_
    refine mj_getr (r := (β, 38)) C lF_X3_61 (sL0 hB) rfl dX3_wayOf_12 ?_
    cases h
    exact mj_aret C hT dX3_wayOf_15 ⟨rfl, rfl, fun h => by cases h⟩
  · replace h := mj_if_f c1 h
    refine mj_aload_n C dX3_wayOf_4 rfl ?_
    refine mj_getr (r := (β, 33)) C lF_X3_57 (sL0 hB) rfl dX3_wayOf_5 ?_
    refine mj_goto (tgt := 15) C dX3_wayOf_8 (by decide) ?_
    cases h
    exact mj_aret C hT dX3_wayOf_15 ⟨rfl, rfl, fun h => by cases h⟩
def f_X3_hasTimeFor (a1 : Int32) (m : mj_m) : Int32 := mj_let (f_X10_isWithin a1 1 60) (fun r1 => if r1 = 0 then (0) else (if 9999 < (m 1 0) + a1 then (0) else (1)))
set_option maxHeartbeats 4000000 in
set_option maxRecDepth 20000 in
theorem C_X3_hasTimeFor {G : mj_G} {β : Nat} {M : mj_M} {a1 : Int32} {m : mj_m} {x0 : Int32} (hB : mj_isL G β) (h : f_X3_hasTimeFor a1 m = x0) : mj_S1 yX3_hasTimeFor cX3_hasTimeFor 2 (some .boolean) 1 G [mj_r (β, 0), .inl a1] (va_up M β m) (some (.inl x0)) (va_up M β m) := by
  refine mj_intro (by decide) (Nat.le_of_ble_eq_true rfl) ?_
  intro κ C hG hR hT
  subst hG
  have C : mj_C κ cX3_hasTimeFor 2 RX3 := C
  show mj_R κ (mj_F κ (fun r M' => r = (some (.inl x0)) ∧ M' = (va_up M β m) ∧ mj_bb (some .boolean) (some (.inl x0)))) 0 [some (mj_r (β, 0)), some (.inl a1)] [] (va_up M β m)
  unfold f_X3_hasTimeFor at h
  refine mj_iload_n C dX3_hasTimeFor_0 rfl ?_
  refine mj_iconst (v := 1) C dX3_hasTimeFor_1 (by decide) ?_
  refine mj_bipush (v := 60) C dX3_hasTimeFor_2 (by decide) ?_
  obtain ⟨r1, er1, h⟩ := mj_let_o h
  refine mj_callN1 (av := [.inl a1, .inl 1, .inl 60]) C lN_X3_71 lS_X10_isWithin rfl (C_X10_isWithin  er1) (mj_rmok hR (by decide) (by decide)) rfl (Nat.le_of_ble_eq_true rfl) dX3_hasTimeFor_4 (fun hb2 => ?_)
  refine mj_if_eq (tgt := 29) C dX3_hasTimeFor_7 (by decide) (fun c3 => ?_) (fun c3 => ?_)
  · replace h := mj_if_t c3 h
    refine mj_iconst (v := 0) C dX3_hasTimeFor_29 (by decide) ?_
    cases h
    exact mj_iret C hT (mj_nb mj_b0) dX3_hasTimeFor_30 ⟨rfl, rfl, mj_b0⟩
  · replace h := mj_if_f c3 h
    refine mj_aload_n C dX3_hasTimeFor_10 rfl ?_
    refine mj_getr (r := (β, 1)) C lF_X3_12 (sL0 hB) rfl dX3_hasTimeFor_11 ?_
    refine mj_bget C lF_X3_75 (sL1 hB) rfl dX3_hasTimeFor_14 ?_
    refine mj_iload_n C dX3_hasTimeFor_17 rfl ?_
    refine mj_iadd C dX3_hasTimeFor_18 ?_
    refine mj_sipush (v := 9999) C dX3_hasTimeFor_19 (by decide) ?_
    refine mj_icmp_gt (tgt := 29) C dX3_hasTimeFor_22 (by decide) (fun c4 => ?_) (fun c4 => ?_)
    · replace h := mj_if_t c4 h
      refine mj_iconst (v := 0) C dX3_hasTimeFor_29 (by decide) ?_
      cases h
      exact mj_iret C hT (mj_nb mj_b0) dX3_hasTimeFor_30 ⟨rfl, rfl, mj_b0⟩
    · replace h := mj_if_f c4 h
      refine mj_iconst (v := 1) C dX3_hasTimeFor_25 (by decide) ?_
      refine mj_goto (tgt := 30) C dX3_hasTimeFor_26 (by decide) ?_
      cases h
      exact mj_iret C hT (mj_nb mj_b1') dX3_hasTimeFor_30 ⟨rfl, rfl, mj_b1'⟩
def f_X3_passTicks_L158 (l1 : Int32) (l2 : Int32) (l3 : Int32) : Nat → Int32 → mj_m → Option (mj_m)
  | 0, _, _ => none
  | n + 1, l4, m => if l2 = 0 then (some m) else (if 20 ≤ l4 then (some m) else (if m 10 4 ≤ 0 then (some m) else (mj_b2 (f_X6_handOver m) (fun r4 m5 => mj_let (l4 + 1) (fun x7 => f_X3_passTicks_L158 l1 l2 l3 n x7 m5)))))
set_option maxHeartbeats 4000000 in
set_option maxRecDepth 20000 in
theorem C_X3_passTicks_L158 {κ : mj_K} {Q : State → Prop} {β : Nat} {M : mj_M} {l1 : Int32} {l2 : Int32} {l3 : Int32} (C : mj_C κ cX3_passTicks 5 RX3) (hB : mj_isL (mj_g κ) β) (hR : mj_dp κ 5) : ∀ (n : Nat) (l4 : Int32) (m : mj_m) (mo : mj_m), f_X3_passTicks_L158 l1 l2 l3 n l4 m = some mo → (mj_R κ Q 196 [some (mj_r (β, 0)), some (.inl l1), some (.inl l2), some (.inl l3), none] [] (va_up M β mo)) → mj_R κ Q 158 [some (mj_r (β, 0)), some (.inl l1), some (.inl l2), some (.inl l3), some (.inl l4)] [] (va_up M β m) := by
  intro n
  induction n with
  | zero =>
    intro l4 m mo h
    cases h
  | succ n ih =>
    intro l4 m mo h hx196
    rw [f_X3_passTicks_L158] at h
    refine mj_iload_n C dX3_passTicks_158 rfl ?_
    refine mj_if_eq (tgt := 196) C dX3_passTicks_159 (by decide) (fun c1 => ?_) (fun c1 => ?_)
    · replace h := mj_if_t c1 h
      cases h
      refine mj_sub ?_ (hx196)
      exact ⟨rfl, ⟨rfl, ⟨rfl, ⟨rfl, trivial⟩⟩⟩⟩
    · replace h := mj_if_f c1 h
      refine mj_iload C dX3_passTicks_162 rfl ?_
      refine mj_bipush (v := 20) C dX3_passTicks_164 (by decide) ?_
      refine mj_icmp_ge (tgt := 196) C dX3_passTicks_166 (by decide) (fun c2 => ?_) (fun c2 => ?_)
      · replace h := mj_if_t c2 h
        cases h
        refine mj_sub ?_ (hx196)
        exact ⟨rfl, ⟨rfl, ⟨rfl, ⟨rfl, trivial⟩⟩⟩⟩
      · replace h := mj_if_f c2 h
        refine mj_aload_n C dX3_passTicks_169 rfl ?_
        refine mj_getr (r := (β, 9)) C lF_X3_39 (sL0 hB) rfl dX3_passTicks_170 ?_
        refine mj_getr (r := (β, 10)) C lF_X3_113 (sL9 hB) rfl dX3_passTicks_173 ?_
        refine mj_bget C lF_X3_117 (sL10 hB) rfl dX3_passTicks_176 ?_
        refine mj_if_le (tgt := 196) C dX3_passTicks_179 (by decide) (fun c3 => ?_) (fun c3 => ?_)
        · replace h := mj_if_t c3 h
          cases h
          refine mj_sub ?_ (hx196)
          exact ⟨rfl, ⟨rfl, ⟨rfl, ⟨rfl, trivial⟩⟩⟩⟩
        · replace h := mj_if_f c3 h
          refine mj_aload_n C dX3_passTicks_182 rfl ?_
          refine mj_getr (r := (β, 9)) C lF_X3_39 (sL0 hB) rfl dX3_passTicks_183 ?_
          obtain ⟨r4, m5, em5, h⟩ := mj_b2_o h
          refine mj_callV1 (av := []) C lM_X3_120 lV_X6_handOver (sL9 hB) ⟨_, rfl, rfl⟩ rfl (C_X6_handOver hB em5) (mj_rmok hR (by decide) (by decide)) rfl (Nat.le_of_ble_eq_true rfl) dX3_passTicks_186 (fun hb6 => ?_)
          refine mj_pop C dX3_passTicks_189 ?_
          obtain ⟨x7, hx7, h⟩ := mj_let_o h
          refine mj_iinc (L2 := [some (mj_r (β, 0)), some (.inl l1), some (.inl l2), some (.inl l3), some (.inl x7)]) C dX3_passTicks_190 rfl hx7 rfl ?_
          refine mj_goto (tgt := 158) C dX3_passTicks_193 (by decide) ?_
          refine mj_sub (L' := [some (mj_r (β, 0)), some (.inl l1), some (.inl l2), some (.inl l3), some (.inl x7)]) ⟨rfl, ⟨rfl, ⟨rfl, ⟨rfl, ⟨rfl, trivial⟩⟩⟩⟩⟩ ?_
          exact ih _ _ _ h hx196
def f_X3_passTicks_L23 (l1 : Int32) (l2 : Int32) (l3 : Int32) : Nat → Int32 → mj_m → Option (mj_m)
  | 0, _, _ => none
  | n + 1, l4, m => if 48 ≤ l4 then (some m) else (mj_let (f_X9_isDue 33 m) (fun r9 => if r9 = 0 then (some m) else (mj_b1 (f_X6_meet m) (fun m12 => mj_b2 (f_X9_takeOff 33 0 m12) (fun r14 m15 => mj_let (l4 + 1) (fun x17 => f_X3_passTicks_L23 l1 l2 l3 n x17 m15))))))
set_option maxHeartbeats 4000000 in
set_option maxRecDepth 20000 in
theorem C_X3_passTicks_L23 {κ : mj_K} {Q : State → Prop} {β : Nat} {M : mj_M} {l1 : Int32} {l2 : Int32} {l3 : Int32} (C : mj_C κ cX3_passTicks 5 RX3) (hB : mj_isL (mj_g κ) β) (hR : mj_dp κ 5) : ∀ (n : Nat) (l4 : Int32) (m : mj_m) (mo : mj_m), f_X3_passTicks_L23 l1 l2 l3 n l4 m = some mo → (mj_R κ Q 66 [some (mj_r (β, 0)), some (.inl l1), some (.inl l2), some (.inl l3), none] [] (va_up M β mo)) → mj_R κ Q 23 [some (mj_r (β, 0)), some (.inl l1), some (.inl l2), some (.inl l3), some (.inl l4)] [] (va_up M β m) := by
  intro n
  induction n with
  | zero =>
    intro l4 m mo h
    cases h
  | succ n ih =>
    intro l4 m mo h hx66
    rw [f_X3_passTicks_L23] at h
    refine mj_iload C dX3_passTicks_23 rfl ?_
    refine mj_bipush (v := 48) C dX3_passTicks_25 (by decide) ?_
    refine mj_icmp_ge (tgt := 66) C dX3_passTicks_27 (by decide) (fun c8 => ?_) (fun c8 => ?_)
    · replace h := mj_if_t c8 h
      cases h
      refine mj_sub ?_ (hx66)
      exact ⟨rfl, ⟨rfl, ⟨rfl, ⟨rfl, trivial⟩⟩⟩⟩
    · replace h := mj_if_f c8 h
      refine mj_aload_n C dX3_passTicks_30 rfl ?_
      refine mj_getr (r := (β, 33)) C lF_X3_57 (sL0 hB) rfl dX3_passTicks_31 ?_
      obtain ⟨r9, er9, h⟩ := mj_let_o h
      refine mj_callV1 (av := []) C lM_X3_79 lV_X9_isDue (sL33 hB) ⟨_, rfl, rfl⟩ rfl (C_X9_isDue (sLw33 hB) er9) (mj_rmok hR (by decide) (by decide)) rfl (Nat.le_of_ble_eq_true rfl) dX3_passTicks_34 (fun hb10 => ?_)
      refine mj_if_eq (tgt := 66) C dX3_passTicks_37 (by decide) (fun c11 => ?_) (fun c11 => ?_)
      · replace h := mj_if_t c11 h
        cases h
        refine mj_sub ?_ (hx66)
        exact ⟨rfl, ⟨rfl, ⟨rfl, ⟨rfl, trivial⟩⟩⟩⟩
      · replace h := mj_if_f c11 h
        refine mj_aload_n C dX3_passTicks_40 rfl ?_
        refine mj_getr (r := (β, 9)) C lF_X3_39 (sL0 hB) rfl dX3_passTicks_41 ?_
        refine mj_aload_n C dX3_passTicks_44 rfl ?_
        refine mj_getr (r := (β, 33)) C lF_X3_57 (sL0 hB) rfl dX3_passTicks_45 ?_
        obtain ⟨m12, em12, h⟩ := mj_b1_o h
        refine mj_callV0 (av := [mj_r (β, 33)]) C lM_X3_83 lV_X6_meet (sL9 hB) ⟨_, rfl, rfl⟩ rfl (C_X6_meet hB em12) (mj_rmok hR (by decide) (by decide)) rfl (Nat.le_of_ble_eq_true rfl) dX3_passTicks_48 ?_
        refine mj_aload_n C dX3_passTicks_51 rfl ?_
        refine mj_getr (r := (β, 33)) C lF_X3_57 (sL0 hB) rfl dX3_passTicks_52 ?_
        refine mj_iconst (v := 0) C dX3_passTicks_55 (by decide) ?_
        obtain ⟨r14, m15, em15, h⟩ := mj_b2_o h
        refine mj_callV1 (av := [.inl 0]) C lM_X3_87 lV_X9_takeOff (sL33 hB) ⟨_, rfl, rfl⟩ rfl (C_X9_takeOff (sLw33 hB) em15) (mj_rmok hR (by decide) (by decide)) rfl (Nat.le_of_ble_eq_true rfl) dX3_passTicks_56 (fun hb16 => ?_)
        refine mj_pop C dX3_passTicks_59 ?_
        obtain ⟨x17, hx17, h⟩ := mj_let_o h
        refine mj_iinc (L2 := [some (mj_r (β, 0)), some (.inl l1), some (.inl l2), some (.inl l3), some (.inl x17)]) C dX3_passTicks_60 rfl hx17 rfl ?_
        refine mj_goto (tgt := 23) C dX3_passTicks_63 (by decide) ?_
        refine mj_sub (L' := [some (mj_r (β, 0)), some (.inl l1), some (.inl l2), some (.inl l3), some (.inl x17)]) ⟨rfl, ⟨rfl, ⟨rfl, ⟨rfl, ⟨rfl, trivial⟩⟩⟩⟩⟩ ?_
        exact ih _ _ _ h hx66
def f_X3_passTicks_L94 (l1 : Int32) (l2 : Int32) (l3 : Int32) : Nat → Int32 → mj_m → Option (mj_m)
  | 0, _, _ => none
  | n + 1, l4, m => if 48 ≤ l4 then (some m) else (mj_let (f_X9_isDue 38 m) (fun r19 => if r19 = 0 then (some m) else (mj_b1 (f_X8_hear m) (fun m22 => mj_b2 (f_X9_takeOff 38 0 m22) (fun r24 m25 => mj_let (l4 + 1) (fun x27 => f_X3_passTicks_L94 l1 l2 l3 n x27 m25))))))
set_option maxHeartbeats 4000000 in
set_option maxRecDepth 20000 in
theorem C_X3_passTicks_L94 {κ : mj_K} {Q : State → Prop} {β : Nat} {M : mj_M} {l1 : Int32} {l2 : Int32} {l3 : Int32} (C : mj_C κ cX3_passTicks 5 RX3) (hB : mj_isL (mj_g κ) β) (hR : mj_dp κ 5) : ∀ (n : Nat) (l4 : Int32) (m : mj_m) (mo : mj_m), f_X3_passTicks_L94 l1 l2 l3 n l4 m = some mo → (mj_R κ Q 137 [some (mj_r (β, 0)), some (.inl l1), some (.inl l2), some (.inl l3), none] [] (va_up M β mo)) → mj_R κ Q 94 [some (mj_r (β, 0)), some (.inl l1), some (.inl l2), some (.inl l3), some (.inl l4)] [] (va_up M β m) := by
  intro n
  induction n with
  | zero =>
    intro l4 m mo h
    cases h
  | succ n ih =>
    intro l4 m mo h hx137
    rw [f_X3_passTicks_L94] at h
    refine mj_iload C dX3_passTicks_94 rfl ?_
    refine mj_bipush (v := 48) C dX3_passTicks_96 (by decide) ?_
    refine mj_icmp_ge (tgt := 137) C dX3_passTicks_98 (by decide) (fun c18 => ?_) (fun c18 => ?_)
    · replace h := mj_if_t c18 h
      cases h
      refine mj_sub ?_ (hx137)
      exact ⟨rfl, ⟨rfl, ⟨rfl, ⟨rfl, trivial⟩⟩⟩⟩
    · replace h := mj_if_f c18 h
      refine mj_aload_n C dX3_passTicks_101 rfl ?_
      refine mj_getr (r := (β, 38)) C lF_X3_61 (sL0 hB) rfl dX3_passTicks_102 ?_
      obtain ⟨r19, er19, h⟩ := mj_let_o h
      refine mj_callV1 (av := []) C lM_X3_79 lV_X9_isDue (sL38 hB) ⟨_, rfl, rfl⟩ rfl (C_X9_isDue (sLw38 hB) er19) (mj_rmok hR (by decide) (by decide)) rfl (Nat.le_of_ble_eq_true rfl) dX3_passTicks_105 (fun hb20 => ?_)
      refine mj_if_eq (tgt := 137) C dX3_passTicks_108 (by decide) (fun c21 => ?_) (fun c21 => ?_)
      · replace h := mj_if_t c21 h
        cases h
        refine mj_sub ?_ (hx137)
        exact ⟨rfl, ⟨rfl, ⟨rfl, ⟨rfl, trivial⟩⟩⟩⟩
      · replace h := mj_if_f c21 h
        refine mj_aload_n C dX3_passTicks_111 rfl ?_
        refine mj_getr (r := (β, 17)) C lF_X3_48 (sL0 hB) rfl dX3_passTicks_112 ?_
        refine mj_aload_n C dX3_passTicks_115 rfl ?_
        refine mj_getr (r := (β, 38)) C lF_X3_61 (sL0 hB) rfl dX3_passTicks_116 ?_
        obtain ⟨m22, em22, h⟩ := mj_b1_o h
        refine mj_callV0 (av := [mj_r (β, 38)]) C lM_X3_102 lV_X8_hear (sL17 hB) ⟨_, rfl, rfl⟩ rfl (C_X8_hear hB em22) (mj_rmok hR (by decide) (by decide)) rfl (Nat.le_of_ble_eq_true rfl) dX3_passTicks_119 ?_
        refine mj_aload_n C dX3_passTicks_122 rfl ?_
        refine mj_getr (r := (β, 38)) C lF_X3_61 (sL0 hB) rfl dX3_passTicks_123 ?_
        refine mj_iconst (v := 0) C dX3_passTicks_126 (by decide) ?_
        obtain ⟨r24, m25, em25, h⟩ := mj_b2_o h
        refine mj_callV1 (av := [.inl 0]) C lM_X3_87 lV_X9_takeOff (sL38 hB) ⟨_, rfl, rfl⟩ rfl (C_X9_takeOff (sLw38 hB) em25) (mj_rmok hR (by decide) (by decide)) rfl (Nat.le_of_ble_eq_true rfl) dX3_passTicks_127 (fun hb26 => ?_)
        refine mj_pop C dX3_passTicks_130 ?_
        obtain ⟨x27, hx27, h⟩ := mj_let_o h
        refine mj_iinc (L2 := [some (mj_r (β, 0)), some (.inl l1), some (.inl l2), some (.inl l3), some (.inl x27)]) C dX3_passTicks_131 rfl hx27 rfl ?_
        refine mj_goto (tgt := 94) C dX3_passTicks_134 (by decide) ?_
        refine mj_sub (L' := [some (mj_r (β, 0)), some (.inl l1), some (.inl l2), some (.inl l3), some (.inl x27)]) ⟨rfl, ⟨rfl, ⟨rfl, ⟨rfl, ⟨rfl, trivial⟩⟩⟩⟩⟩ ?_
        exact ih _ _ _ h hx137
def f_X3_passTicks_L2 (l1 : Int32) (l2 : Int32) : Nat → Int32 → mj_m → Option (mj_m)
  | 0, _, _ => none
  | n + 1, l3, m => if l1 ≤ l3 then (some m) else (mj_let (mj_wrs m 1 0 ((m 1 0) + 1)) (fun m29 => mj_b1 (f_X3_passTicks_L23 l1 l2 l3 mj_fu 0 m29) (fun m30 => mj_b1 (f_X0_isReportTime m30) (fun r32 => if r32 = 0 then (mj_b1 (f_X3_passTicks_L94 l1 l2 l3 mj_fu 0 m30) (fun m35 => mj_b1 (f_X8_runTimer m35) (fun m37 => mj_b1 (f_X8_haveTurn m37) (fun m39 => mj_b1 (f_X3_passTicks_L158 l1 l2 l3 mj_fu 0 m39) (fun m41 => mj_let (l3 + 1) (fun x43 => f_X3_passTicks_L2 l1 l2 n x43 m41)))))) else (mj_let (f_X6_reportWord m30) (fun r44 => mj_b1 (f_X9_goes 38 r44 (-1) m30) (fun m46 => mj_b1 (f_X3_passTicks_L94 l1 l2 l3 mj_fu 0 m46) (fun m48 => mj_b1 (f_X8_runTimer m48) (fun m50 => mj_b1 (f_X8_haveTurn m50) (fun m52 => mj_b1 (f_X3_passTicks_L158 l1 l2 l3 mj_fu 0 m52) (fun m54 => mj_let (l3 + 1) (fun x56 => f_X3_passTicks_L2 l1 l2 n x56 m54))))))))))))
set_option maxHeartbeats 4000000 in
set_option maxRecDepth 20000 in
theorem C_X3_passTicks_L2 {κ : mj_K} {Q : State → Prop} {β : Nat} {M : mj_M} {l1 : Int32} {l2 : Int32} (C : mj_C κ cX3_passTicks 5 RX3) (hB : mj_isL (mj_g κ) β) (hR : mj_dp κ 5) : ∀ (n : Nat) (l3 : Int32) (m : mj_m) (mo : mj_m), f_X3_passTicks_L2 l1 l2 n l3 m = some mo → (mj_R κ Q 202 [none, none, none, none, none] [] (va_up M β mo)) → mj_R κ Q 2 [some (mj_r (β, 0)), some (.inl l1), some (.inl l2), some (.inl l3), none] [] (va_up M β m) := by
  intro n
  induction n with
  | zero =>
    intro l3 m mo h
    cases h
  | succ n ih =>
    intro l3 m mo h hx202
    rw [f_X3_passTicks_L2] at h
    refine mj_iload_n C dX3_passTicks_2 rfl ?_
    refine mj_iload_n C dX3_passTicks_3 rfl ?_
    refine mj_icmp_ge (tgt := 202) C dX3_passTicks_4 (by decide) (fun c28 => ?_) (fun c28 => ?_)
    · replace h := mj_if_t c28 h
      cases h
      refine mj_sub ?_ (hx202)
      exact trivial
    · replace h := mj_if_f c28 h
      refine mj_aload_n C dX3_passTicks_7 rfl ?_
      refine mj_getr (r := (β, 1)) C lF_X3_12 (sL0 hB) rfl dX3_passTicks_8 ?_
      refine mj_dup C dX3_passTicks_11 ?_
      refine mj_bget C lF_X3_75 (sL1 hB) rfl dX3_passTicks_12 ?_
      refine mj_iconst (v := 1) C dX3_passTicks_15 (by decide) ?_
      refine mj_iadd C dX3_passTicks_16 ?_
      obtain ⟨m29, hm29, h⟩ := mj_let_o h
      refine mj_bput C lF_X3_75 fP_1_0 (vp_nar_int _) rfl (sL1 hB) rfl dX3_passTicks_17 hm29 ?_
      refine mj_iconst (v := 0) C dX3_passTicks_20 (by decide) ?_
      refine mj_istore (L2 := [some (mj_r (β, 0)), some (.inl l1), some (.inl l2), some (.inl l3), some (.inl 0)]) C dX3_passTicks_21 (Nat.le_of_ble_eq_true rfl) rfl ?_
      obtain ⟨m30, hl31, h⟩ := mj_b1_o h
      refine mj_sub (L' := [some (mj_r (β, 0)), some (.inl l1), some (.inl l2), some (.inl l3), some (.inl 0)]) ⟨rfl, ⟨rfl, ⟨rfl, ⟨rfl, ⟨rfl, trivial⟩⟩⟩⟩⟩ ?_
      refine C_X3_passTicks_L23 C hB hR _ _ _ _ hl31 ?_
      refine mj_aload_n C dX3_passTicks_66 rfl ?_
      refine mj_getr (r := (β, 1)) C lF_X3_12 (sL0 hB) rfl dX3_passTicks_67 ?_
      obtain ⟨r32, er32, h⟩ := mj_b1_o h
      refine mj_callV1 (av := []) C lM_X3_91 lV_X0_isReportTime (sL1 hB) ⟨_, rfl, rfl⟩ rfl (C_X0_isReportTime hB er32) (mj_rmok hR (by decide) (by decide)) rfl (Nat.le_of_ble_eq_true rfl) dX3_passTicks_70 (fun hb33 => ?_)
      refine mj_if_eq (tgt := 91) C dX3_passTicks_73 (by decide) (fun c34 => ?_) (fun c34 => ?_)
      · replace h := mj_if_t c34 h
        refine mj_iconst (v := 0) C dX3_passTicks_91 (by decide) ?_
        refine mj_istore (L2 := [some (mj_r (β, 0)), some (.inl l1), some (.inl l2), some (.inl l3), some (.inl 0)]) C dX3_passTicks_92 (Nat.le_of_ble_eq_true rfl) rfl ?_
        obtain ⟨m35, hl36, h⟩ := mj_b1_o h
        refine mj_sub (L' := [some (mj_r (β, 0)), some (.inl l1), some (.inl l2), some (.inl l3), some (.inl 0)]) ⟨rfl, ⟨rfl, ⟨rfl, ⟨rfl, ⟨rfl, trivial⟩⟩⟩⟩⟩ ?_
        refine C_X3_passTicks_L94 C hB hR _ _ _ _ hl36 ?_
        refine mj_aload_n C dX3_passTicks_137 rfl ?_
        refine mj_getr (r := (β, 17)) C lF_X3_48 (sL0 hB) rfl dX3_passTicks_138 ?_
        obtain ⟨m37, em37, h⟩ := mj_b1_o h
        refine mj_callV0 (av := []) C lM_X3_105 lV_X8_runTimer (sL17 hB) ⟨_, rfl, rfl⟩ rfl (C_X8_runTimer hB em37) (mj_rmok hR (by decide) (by decide)) rfl (Nat.le_of_ble_eq_true rfl) dX3_passTicks_141 ?_
        refine mj_aload_n C dX3_passTicks_144 rfl ?_
        refine mj_getr (r := (β, 17)) C lF_X3_48 (sL0 hB) rfl dX3_passTicks_145 ?_
        refine mj_aload_n C dX3_passTicks_148 rfl ?_
        refine mj_getr (r := (β, 33)) C lF_X3_57 (sL0 hB) rfl dX3_passTicks_149 ?_
        obtain ⟨m39, em39, h⟩ := mj_b1_o h
        refine mj_callV0 (av := [mj_r (β, 33)]) C lM_X3_108 lV_X8_haveTurn (sL17 hB) ⟨_, rfl, rfl⟩ rfl (C_X8_haveTurn hB em39) (mj_rmok hR (by decide) (by decide)) rfl (Nat.le_of_ble_eq_true rfl) dX3_passTicks_152 ?_
        refine mj_iconst (v := 0) C dX3_passTicks_155 (by decide) ?_
        refine mj_istore (L2 := [some (mj_r (β, 0)), some (.inl l1), some (.inl l2), some (.inl l3), some (.inl 0)]) C dX3_passTicks_156 (Nat.le_of_ble_eq_true rfl) rfl ?_
        obtain ⟨m41, hl42, h⟩ := mj_b1_o h
        refine mj_sub (L' := [some (mj_r (β, 0)), some (.inl l1), some (.inl l2), some (.inl l3), some (.inl 0)]) ⟨rfl, ⟨rfl, ⟨rfl, ⟨rfl, ⟨rfl, trivial⟩⟩⟩⟩⟩ ?_
        refine C_X3_passTicks_L158 C hB hR _ _ _ _ hl42 ?_
        obtain ⟨x43, hx43, h⟩ := mj_let_o h
        refine mj_iinc (L2 := [some (mj_r (β, 0)), some (.inl l1), some (.inl l2), some (.inl x43), none]) C dX3_passTicks_196 rfl hx43 rfl ?_
        refine mj_goto (tgt := 2) C dX3_passTicks_199 (by decide) ?_
        refine mj_sub (L' := [some (mj_r (β, 0)), some (.inl l1), some (.inl l2), some (.inl x43), none]) ⟨rfl, ⟨rfl, ⟨rfl, ⟨rfl, trivial⟩⟩⟩⟩ ?_
        exact ih _ _ _ h hx202
      · replace h := mj_if_f c34 h
        refine mj_aload_n C dX3_passTicks_76 rfl ?_
        refine mj_getr (r := (β, 38)) C lF_X3_61 (sL0 hB) rfl dX3_passTicks_77 ?_
        refine mj_aload_n C dX3_passTicks_80 rfl ?_
        refine mj_getr (r := (β, 9)) C lF_X3_39 (sL0 hB) rfl dX3_passTicks_81 ?_
        obtain ⟨r44, er44, h⟩ := mj_let_o h
        refine mj_callV1 (av := []) C lM_X3_94 lV_X6_reportWord (sL9 hB) ⟨_, rfl, rfl⟩ rfl (C_X6_reportWord hB er44) (mj_rmok hR (by decide) (by decide)) rfl (Nat.le_of_ble_eq_true rfl) dX3_passTicks_84 (fun hb45 => ?_)
        refine mj_iconst (v := (-1)) C dX3_passTicks_87 (by decide) ?_
        obtain ⟨m46, em46, h⟩ := mj_b1_o h
        refine mj_callV0 (av := [.inl r44, .inl (-1)]) C lM_X3_98 lV_X9_goes (sL38 hB) ⟨_, rfl, rfl⟩ rfl (C_X9_goes (sLw38 hB) em46) (mj_rmok hR (by decide) (by decide)) rfl (Nat.le_of_ble_eq_true rfl) dX3_passTicks_88 ?_
        refine mj_iconst (v := 0) C dX3_passTicks_91 (by decide) ?_
        refine mj_istore (L2 := [some (mj_r (β, 0)), some (.inl l1), some (.inl l2), some (.inl l3), some (.inl 0)]) C dX3_passTicks_92 (Nat.le_of_ble_eq_true rfl) rfl ?_
        obtain ⟨m48, hl49, h⟩ := mj_b1_o h
        refine mj_sub (L' := [some (mj_r (β, 0)), some (.inl l1), some (.inl l2), some (.inl l3), some (.inl 0)]) ⟨rfl, ⟨rfl, ⟨rfl, ⟨rfl, ⟨rfl, trivial⟩⟩⟩⟩⟩ ?_
        refine C_X3_passTicks_L94 C hB hR _ _ _ _ hl49 ?_
        refine mj_aload_n C dX3_passTicks_137 rfl ?_
        refine mj_getr (r := (β, 17)) C lF_X3_48 (sL0 hB) rfl dX3_passTicks_138 ?_
        obtain ⟨m50, em50, h⟩ := mj_b1_o h
        refine mj_callV0 (av := []) C lM_X3_105 lV_X8_runTimer (sL17 hB) ⟨_, rfl, rfl⟩ rfl (C_X8_runTimer hB em50) (mj_rmok hR (by decide) (by decide)) rfl (Nat.le_of_ble_eq_true rfl) dX3_passTicks_141 ?_
        refine mj_aload_n C dX3_passTicks_144 rfl ?_
        refine mj_getr (r := (β, 17)) C lF_X3_48 (sL0 hB) rfl dX3_passTicks_145 ?_
        refine mj_aload_n C dX3_passTicks_148 rfl ?_
        refine mj_getr (r := (β, 33)) C lF_X3_57 (sL0 hB) rfl dX3_passTicks_149 ?_
        obtain ⟨m52, em52, h⟩ := mj_b1_o h
        refine mj_callV0 (av := [mj_r (β, 33)]) C lM_X3_108 lV_X8_haveTurn (sL17 hB) ⟨_, rfl, rfl⟩ rfl (C_X8_haveTurn hB em52) (mj_rmok hR (by decide) (by decide)) rfl (Nat.le_of_ble_eq_true rfl) dX3_passTicks_152 ?_
        refine mj_iconst (v := 0) C dX3_passTicks_155 (by decide) ?_
        refine mj_istore (L2 := [some (mj_r (β, 0)), some (.inl l1), some (.inl l2), some (.inl l3), some (.inl 0)]) C dX3_passTicks_156 (Nat.le_of_ble_eq_true rfl) rfl ?_
        obtain ⟨m54, hl55, h⟩ := mj_b1_o h
        refine mj_sub (L' := [some (mj_r (β, 0)), some (.inl l1), some (.inl l2), some (.inl l3), some (.inl 0)]) ⟨rfl, ⟨rfl, ⟨rfl, ⟨rfl, ⟨rfl, trivial⟩⟩⟩⟩⟩ ?_
        refine C_X3_passTicks_L158 C hB hR _ _ _ _ hl55 ?_
        obtain ⟨x56, hx56, h⟩ := mj_let_o h
        refine mj_iinc (L2 := [some (mj_r (β, 0)), some (.inl l1), some (.inl l2), some (.inl x56), none]) C dX3_passTicks_196 rfl hx56 rfl ?_
        refine mj_goto (tgt := 2) C dX3_passTicks_199 (by decide) ?_
        refine mj_sub (L' := [some (mj_r (β, 0)), some (.inl l1), some (.inl l2), some (.inl x56), none]) ⟨rfl, ⟨rfl, ⟨rfl, ⟨rfl, trivial⟩⟩⟩⟩ ?_
        exact ih _ _ _ h hx202
def f_X3_passTicks (a1 : Int32) (a2 : Int32) (m : mj_m) : Option (mj_m) := mj_b1 (f_X3_passTicks_L2 a1 a2 mj_fu 0 m) (fun m57 => some m57)
set_option maxHeartbeats 4000000 in
set_option maxRecDepth 20000 in
theorem C_X3_passTicks {G : mj_G} {β : Nat} {M : mj_M} {a1 : Int32} {a2 : Int32} {m : mj_m} {m0 : mj_m} (hB : mj_isL G β) (h : f_X3_passTicks a1 a2 m = some m0) : mj_S1 yX3_passTicks cX3_passTicks 5 none 5 G [mj_r (β, 0), .inl a1, .inl a2] (va_up M β m) none (va_up M β m0) := by
  refine mj_intro (by decide) (Nat.le_of_ble_eq_true rfl) ?_
  intro κ C hG hR hT
  subst hG
  have C : mj_C κ cX3_passTicks 5 RX3 := C
  show mj_R κ (mj_F κ (fun r M' => r = none ∧ M' = (va_up M β m0) ∧ mj_bb none none)) 0 [some (mj_r (β, 0)), some (.inl a1), some (.inl a2), none, none] [] (va_up M β m)
  unfold f_X3_passTicks at h
  refine mj_iconst (v := 0) C dX3_passTicks_0 (by decide) ?_
  refine mj_istore_n (L2 := [some (mj_r (β, 0)), some (.inl a1), some (.inl a2), some (.inl 0), none]) C dX3_passTicks_1 (Nat.le_of_ble_eq_true rfl) rfl ?_
  obtain ⟨m57, hl58, h⟩ := mj_b1_o h
  refine mj_sub (L' := [some (mj_r (β, 0)), some (.inl a1), some (.inl a2), some (.inl 0), none]) ⟨rfl, ⟨rfl, ⟨rfl, ⟨rfl, trivial⟩⟩⟩⟩ ?_
  refine C_X3_passTicks_L2 C hB hR _ _ _ _ hl58 ?_
  cases h
  exact mj_vret C hT dX3_passTicks_202 ⟨rfl, rfl, mj_bv _⟩
def f_X3_directed_J33 (l1 : Int32) (m : mj_m) : Option (Int32 × mj_m) := mj_b2 (f_X8_begin l1 (m 9 2) m) (fun r1 m2 => some (r1, m2))
set_option maxHeartbeats 4000000 in
set_option maxRecDepth 20000 in
theorem C_X3_directed_J33 {κ : mj_K} {β : Nat} {M : mj_M} {l1 : Int32} {m : mj_m} {x0 : Int32} {m0 : mj_m} (C : mj_C κ cX3_directed 2 RX3) (hB : mj_isL (mj_g κ) β) (hR : mj_dp κ 3) (hT : mj_rt κ = (some .boolean)) (h : f_X3_directed_J33 l1 m = some (x0, m0)) : mj_R κ (mj_F κ (fun r M' => r = (some (.inl x0)) ∧ M' = (va_up M β m0) ∧ mj_bb (some .boolean) (some (.inl x0)))) 33 [some (mj_r (β, 0)), some (.inl l1)] [] (va_up M β m) := by
  unfold f_X3_directed_J33 at h
  refine mj_aload_n C dX3_directed_33 rfl ?_
  refine mj_getr (r := (β, 17)) C lF_X3_48 (sL0 hB) rfl dX3_directed_34 ?_
  refine mj_iload_n C dX3_directed_37 rfl ?_
  refine mj_aload_n C dX3_directed_38 rfl ?_
  refine mj_getr (r := (β, 9)) C lF_X3_39 (sL0 hB) rfl dX3_directed_39 ?_
  refine mj_bget C lF_X3_132 (sL9 hB) rfl dX3_directed_42 ?_
  obtain ⟨r1, m2, em2, h⟩ := mj_b2_o h
  refine mj_callV1 (av := [.inl l1, .inl (m 9 2)]) C lM_X3_135 lV_X8_begin (sL17 hB) ⟨_, rfl, rfl⟩ rfl (C_X8_begin hB em2) (mj_rmok hR (by decide) (by decide)) rfl (Nat.le_of_ble_eq_true rfl) dX3_directed_45 (fun hb3 => ?_)
  cases h
  exact mj_iret C hT (mj_nb hb3) dX3_directed_48 ⟨rfl, rfl, hb3⟩
def f_X3_directed (a1 : Int32) (m : mj_m) : Option (Int32 × mj_m) := if a1 = 4 then (mj_b2 (f_X8_goOn m) (fun r9 m10 => some (r9, m10))) else (if m 17 6 = 6 then (f_X3_directed_J33 a1 m) else (mj_b2 (f_X8_halt m) (fun r6 m7 => f_X3_directed_J33 a1 m7)))
set_option maxHeartbeats 4000000 in
set_option maxRecDepth 20000 in
theorem C_X3_directed {G : mj_G} {β : Nat} {M : mj_M} {a1 : Int32} {m : mj_m} {x0 : Int32} {m0 : mj_m} (hB : mj_isL G β) (h : f_X3_directed a1 m = some (x0, m0)) : mj_S1 yX3_directed cX3_directed 2 (some .boolean) 3 G [mj_r (β, 0), .inl a1] (va_up M β m) (some (.inl x0)) (va_up M β m0) := by
  refine mj_intro (by decide) (Nat.le_of_ble_eq_true rfl) ?_
  intro κ C hG hR hT
  subst hG
  have C : mj_C κ cX3_directed 2 RX3 := C
  show mj_R κ (mj_F κ (fun r M' => r = (some (.inl x0)) ∧ M' = (va_up M β m0) ∧ mj_bb (some .boolean) (some (.inl x0)))) 0 [some (mj_r (β, 0)), some (.inl a1)] [] (va_up M β m)
  unfold f_X3_directed at h
  refine mj_iload_n C dX3_directed_0 rfl ?_
  refine mj_iconst (v := 4) C dX3_directed_1 (by decide) ?_
  refine mj_icmp_ne (tgt := 13) C dX3_directed_2 (by decide) (fun c4 => ?_) (fun c4 => ?_)
  · replace h := mj_if_f c4 h
    refine mj_aload_n C dX3_directed_13 rfl ?_
    refine mj_getr (r := (β, 17)) C lF_X3_48 (sL0 hB) rfl dX3_directed_14 ?_
    refine mj_bget C lF_X3_126 (sL17 hB) rfl dX3_directed_17 ?_
    refine mj_bipush (v := 6) C dX3_directed_20 (by decide) ?_
    refine mj_icmp_eq (tgt := 33) C dX3_directed_22 (by decide) (fun c5 => ?_) (fun c5 => ?_)
    · replace h := mj_if_t c5 h
      refine mj_sub (L' := [some (mj_r (β, 0)), some (.inl a1)]) ⟨rfl, ⟨rfl, trivial⟩⟩ ?_
      exact C_X3_directed_J33 C hB hR hT h
    · replace h := mj_if_f c5 h
      refine mj_aload_n C dX3_directed_25 rfl ?_
      refine mj_getr (r := (β, 17)) C lF_X3_48 (sL0 hB) rfl dX3_directed_26 ?_
      obtain ⟨r6, m7, em7, h⟩ := mj_b2_o h
      refine mj_callV1 (av := []) C lM_X3_129 lV_X8_halt (sL17 hB) ⟨_, rfl, rfl⟩ rfl (C_X8_halt hB em7) (mj_rmok hR (by decide) (by decide)) rfl (Nat.le_of_ble_eq_true rfl) dX3_directed_29 (fun hb8 => ?_)
      refine mj_pop C dX3_directed_32 ?_
      refine mj_sub (L' := [some (mj_r (β, 0)), some (.inl a1)]) ⟨rfl, ⟨rfl, trivial⟩⟩ ?_
      exact C_X3_directed_J33 C hB hR hT h
  · replace h := mj_if_t c4 h
    refine mj_aload_n C dX3_directed_5 rfl ?_
    refine mj_getr (r := (β, 17)) C lF_X3_48 (sL0 hB) rfl dX3_directed_6 ?_
    obtain ⟨r9, m10, em10, h⟩ := mj_b2_o h
    refine mj_callV1 (av := []) C lM_X3_123 lV_X8_goOn (sL17 hB) ⟨_, rfl, rfl⟩ rfl (C_X8_goOn hB em10) (mj_rmok hR (by decide) (by decide)) rfl (Nat.le_of_ble_eq_true rfl) dX3_directed_9 (fun hb11 => ?_)
    cases h
    exact mj_iret C hT (mj_nb hb11) dX3_directed_12 ⟨rfl, rfl, hb11⟩
def f_X3_isInStep (m : mj_m) : Int32 := if m 17 6 = 1 then (if m 9 3 = 0 then (if m 23 4 = 0 then (if m 17 7 = m 9 2 then (1) else (0)) else (0)) else (0)) else (0)
set_option maxHeartbeats 4000000 in
set_option maxRecDepth 20000 in
theorem C_X3_isInStep {G : mj_G} {β : Nat} {M : mj_M} {m : mj_m} {x0 : Int32} (hB : mj_isL G β) (h : f_X3_isInStep m = x0) : mj_S1 yX3_isInStep cX3_isInStep 1 (some .boolean) 0 G [mj_r (β, 0)] (va_up M β m) (some (.inl x0)) (va_up M β m) := by
  refine mj_intro (by decide) (Nat.le_of_ble_eq_true rfl) ?_
  intro κ C hG hR hT
  subst hG
  have C : mj_C κ cX3_isInStep 1 RX3 := C
  show mj_R κ (mj_F κ (fun r M' => r = (some (.inl x0)) ∧ M' = (va_up M β m) ∧ mj_bb (some .boolean) (some (.inl x0)))) 0 [some (mj_r (β, 0))] [] (va_up M β m)
  unfold f_X3_isInStep at h
  refine mj_aload_n C dX3_isInStep_0 rfl ?_
  refine mj_getr (r := (β, 17)) C lF_X3_48 (sL0 hB) rfl dX3_isInStep_1 ?_
  refine mj_bget C lF_X3_126 (sL17 hB) rfl dX3_isInStep_4 ?_
  refine mj_iconst (v := 1) C dX3_isInStep_7 (by decide) ?_
  refine mj_icmp_ne (tgt := 55) C dX3_isInStep_8 (by decide) (fun c1 => ?_) (fun c1 => ?_)
  · replace h := mj_if_f c1 h
    refine mj_iconst (v := 0) C dX3_isInStep_55 (by decide) ?_
    cases h
    exact mj_iret C hT (mj_nb mj_b0) dX3_isInStep_56 ⟨rfl, rfl, mj_b0⟩
  · replace h := mj_if_t c1 h
    refine mj_aload_n C dX3_isInStep_11 rfl ?_
    refine mj_getr (r := (β, 9)) C lF_X3_39 (sL0 hB) rfl dX3_isInStep_12 ?_
    refine mj_bget C lF_X3_139 (sL9 hB) rfl dX3_isInStep_15 ?_
    refine mj_if_ne (tgt := 55) C dX3_isInStep_18 (by decide) (fun c2 => ?_) (fun c2 => ?_)
    · replace h := mj_if_f c2 h
      refine mj_iconst (v := 0) C dX3_isInStep_55 (by decide) ?_
      cases h
      exact mj_iret C hT (mj_nb mj_b0) dX3_isInStep_56 ⟨rfl, rfl, mj_b0⟩
    · replace h := mj_if_t c2 h
      refine mj_aload_n C dX3_isInStep_21 rfl ?_
      refine mj_getr (r := (β, 17)) C lF_X3_48 (sL0 hB) rfl dX3_isInStep_22 ?_
      refine mj_getr (r := (β, 23)) C lF_X3_143 (sL17 hB) rfl dX3_isInStep_25 ?_
      refine mj_bget C lF_X3_117 (sL23 hB) rfl dX3_isInStep_28 ?_
      refine mj_if_ne (tgt := 55) C dX3_isInStep_31 (by decide) (fun c3 => ?_) (fun c3 => ?_)
      · replace h := mj_if_f c3 h
        refine mj_iconst (v := 0) C dX3_isInStep_55 (by decide) ?_
        cases h
        exact mj_iret C hT (mj_nb mj_b0) dX3_isInStep_56 ⟨rfl, rfl, mj_b0⟩
      · replace h := mj_if_t c3 h
        refine mj_aload_n C dX3_isInStep_34 rfl ?_
        refine mj_getr (r := (β, 17)) C lF_X3_48 (sL0 hB) rfl dX3_isInStep_35 ?_
        refine mj_bget C lF_X3_146 (sL17 hB) rfl dX3_isInStep_38 ?_
        refine mj_aload_n C dX3_isInStep_41 rfl ?_
        refine mj_getr (r := (β, 9)) C lF_X3_39 (sL0 hB) rfl dX3_isInStep_42 ?_
        refine mj_bget C lF_X3_132 (sL9 hB) rfl dX3_isInStep_45 ?_
        refine mj_icmp_ne (tgt := 55) C dX3_isInStep_48 (by decide) (fun c4 => ?_) (fun c4 => ?_)
        · replace h := mj_if_f c4 h
          refine mj_iconst (v := 0) C dX3_isInStep_55 (by decide) ?_
          cases h
          exact mj_iret C hT (mj_nb mj_b0) dX3_isInStep_56 ⟨rfl, rfl, mj_b0⟩
        · replace h := mj_if_t c4 h
          refine mj_iconst (v := 1) C dX3_isInStep_51 (by decide) ?_
          refine mj_goto (tgt := 56) C dX3_isInStep_52 (by decide) ?_
          cases h
          exact mj_iret C hT (mj_nb mj_b1') dX3_isInStep_56 ⟨rfl, rfl, mj_b1'⟩
def f_X3_runNextLine (m : mj_m) : Option (Int32 × mj_m) := mj_let (m 43 3) (fun x1 => if x1 < 0 then (some (0, m)) else (if x1 < m 43 2 then (mj_let (mj_wrs m 43 3 ((m 43 3) + 1)) (fun m4 => mj_chk (mj_ok x1 24) (mj_let (m4 45 (mj_cl x1)) (fun x6 => mj_chk (mj_ok x1 24) (if m4 44 (mj_cl x1) = 0 then (mj_b2 (f_X8_queue x6 m4) (fun r9 m10 => if r9 = (-1) then (some (0, m10)) else (some (1, m10)))) else if m4 44 (mj_cl x1) = 1 then (mj_b2 (f_X8_queuePast x6 m4) (fun r14 m15 => if r14 = (-1) then (some (0, m15)) else (some (1, m15)))) else if m4 44 (mj_cl x1) = 2 then (mj_b2 (f_X8_begin 0 0 m4) (fun r19 m20 => some (r19, m20))) else if m4 44 (mj_cl x1) = 3 then (mj_b2 (f_X8_begin 1 0 m4) (fun r23 m24 => some (r23, m24))) else if m4 44 (mj_cl x1) = 4 then (mj_b2 (f_X8_begin 2 0 m4) (fun r27 m28 => some (r27, m28))) else if m4 44 (mj_cl x1) = 5 then (mj_b2 (f_X8_begin 3 x6 m4) (fun r31 m32 => some (r31, m32))) else if m4 44 (mj_cl x1) = 6 then (mj_b2 (f_X8_halt m4) (fun r35 m36 => some (r35, m36))) else if m4 44 (mj_cl x1) = 7 then (mj_b2 (f_X8_goOn m4) (fun r39 m40 => some (r39, m40))) else if m4 44 (mj_cl x1) = 8 then (mj_p2 (f_X8_countFrom x6 m4) (fun r43 m44 => some (r43, m44))) else if m4 44 (mj_cl x1) = 9 then (mj_b2 (f_X6_handOver m4) (fun r47 m48 => if r47 = (-1) then (some (0, m48)) else (some (1, m48)))) else if m4 44 (mj_cl x1) = 10 then (mj_let (f_X3_hasTimeFor x6 m4) (fun r52 => if r52 = 0 then (some (0, m4)) else (mj_b1 (f_X3_passTicks x6 0 m4) (fun m55 => some (1, m55))))) else if m4 44 (mj_cl x1) = 11 then (mj_b2 (f_X9_takeOff 33 ((m4 33 7) - 1) m4) (fun r58 m59 => some (r58, m59))) else if m4 44 (mj_cl x1) = 12 then (mj_b2 (f_X9_takeOff 38 (x6 - 1) m4) (fun r62 m63 => some (r62, m63))) else (mj_let (f_X3_hasTimeFor x6 m4) (fun r65 => if r65 = 0 then (some (0, m4)) else (mj_b1 (f_X3_passTicks x6 0 m4) (fun m68 => some (1, m68)))))))))) else (some (0, m))))
set_option maxHeartbeats 4000000 in
set_option maxRecDepth 20000 in
theorem C_X3_runNextLine {G : mj_G} {β : Nat} {M : mj_M} {m : mj_m} {x0 : Int32} {m0 : mj_m} (hB : mj_isL G β) (h : f_X3_runNextLine m = some (x0, m0)) : mj_S1 yX3_runNextLine cX3_runNextLine 3 (some .boolean) 6 G [mj_r (β, 0)] (va_up M β m) (some (.inl x0)) (va_up M β m0) := by
  refine mj_intro (by decide) (Nat.le_of_ble_eq_true rfl) ?_
  intro κ C hG hR hT
  subst hG
  have C : mj_C κ cX3_runNextLine 3 RX3 := C
  show mj_R κ (mj_F κ (fun r M' => r = (some (.inl x0)) ∧ M' = (va_up M β m0) ∧ mj_bb (some .boolean) (some (.inl x0)))) 0 [some (mj_r (β, 0)), none, none] [] (va_up M β m)
  unfold f_X3_runNextLine at h
  refine mj_aload_n C dX3_runNextLine_0 rfl ?_
  refine mj_getr (r := (β, 43)) C lF_X3_67 (sL0 hB) rfl dX3_runNextLine_1 ?_
  refine mj_bget C lF_X3_149 (sL43 hB) rfl dX3_runNextLine_4 ?_
  obtain ⟨x1, hx1, h⟩ := mj_let_o h
  refine mj_nm hx1 ?_
  refine mj_istore_n (L2 := [some (mj_r (β, 0)), some (.inl x1), none]) C dX3_runNextLine_7 (Nat.le_of_ble_eq_true rfl) rfl ?_
  refine mj_iload_n C dX3_runNextLine_8 rfl ?_
  refine mj_if_lt (tgt := 23) C dX3_runNextLine_9 (by decide) (fun c2 => ?_) (fun c2 => ?_)
  · replace h := mj_if_t c2 h
    refine mj_iconst (v := 0) C dX3_runNextLine_23 (by decide) ?_
    cases h
    exact mj_iret C hT (mj_nb mj_b0) dX3_runNextLine_24 ⟨rfl, rfl, mj_b0⟩
  · replace h := mj_if_f c2 h
    refine mj_iload_n C dX3_runNextLine_12 rfl ?_
    refine mj_aload_n C dX3_runNextLine_13 rfl ?_
    refine mj_getr (r := (β, 43)) C lF_X3_67 (sL0 hB) rfl dX3_runNextLine_14 ?_
    refine mj_bget C lF_X3_152 (sL43 hB) rfl dX3_runNextLine_17 ?_
    refine mj_icmp_lt (tgt := 25) C dX3_runNextLine_20 (by decide) (fun c3 => ?_) (fun c3 => ?_)
    · replace h := mj_if_t c3 h
      refine mj_aload_n C dX3_runNextLine_25 rfl ?_
      refine mj_getr (r := (β, 43)) C lF_X3_67 (sL0 hB) rfl dX3_runNextLine_26 ?_
      refine mj_dup C dX3_runNextLine_29 ?_
      refine mj_bget C lF_X3_149 (sL43 hB) rfl dX3_runNextLine_30 ?_
      refine mj_iconst (v := 1) C dX3_runNextLine_33 (by decide) ?_
      refine mj_iadd C dX3_runNextLine_34 ?_
      obtain ⟨m4, hm4, h⟩ := mj_let_o h
      refine mj_bput C lF_X3_149 fP_5_3 (vp_nar_int _) rfl (sL43 hB) rfl dX3_runNextLine_35 hm4 ?_
      refine mj_aload_n C dX3_runNextLine_38 rfl ?_
      refine mj_getr (r := (β, 43)) C lF_X3_67 (sL0 hB) rfl dX3_runNextLine_39 ?_
      refine mj_getr (r := (β, 45)) C lF_X3_153 (sL43 hB) rfl dX3_runNextLine_42 ?_
      refine mj_iload_n C dX3_runNextLine_45 rfl ?_
      obtain ⟨k5, h⟩ := mj_chk_o h
      refine mj_bald C (sL45 hB) k5 rfl dX3_runNextLine_46 ?_
      obtain ⟨x6, hx6, h⟩ := mj_let_o h
      refine mj_nm hx6 ?_
      refine mj_istore_n (L2 := [some (mj_r (β, 0)), some (.inl x1), some (.inl x6)]) C dX3_runNextLine_47 (Nat.le_of_ble_eq_true rfl) rfl ?_
      refine mj_aload_n C dX3_runNextLine_48 rfl ?_
      refine mj_getr (r := (β, 43)) C lF_X3_67 (sL0 hB) rfl dX3_runNextLine_49 ?_
      refine mj_getr (r := (β, 44)) C lF_X3_157 (sL43 hB) rfl dX3_runNextLine_52 ?_
      refine mj_iload_n C dX3_runNextLine_55 rfl ?_
      obtain ⟨k7, h⟩ := mj_chk_o h
      refine mj_bald C (sL44 hB) k7 rfl dX3_runNextLine_56 ?_
      by_cases c8 : m4 44 (mj_cl x1) = 0
      · replace h := mj_if_t c8 h
        refine mj_tin (off := 67) (tgt := 124) C dX3_runNextLine_57 (by rw [c8]; decide) (by rw [c8]; decide) (by rw [c8]; decide) (by decide) ?_
        refine mj_aload_n C dX3_runNextLine_124 rfl ?_
        refine mj_getr (r := (β, 17)) C lF_X3_48 (sL0 hB) rfl dX3_runNextLine_125 ?_
        refine mj_iload_n C dX3_runNextLine_128 rfl ?_
        obtain ⟨r9, m10, em10, h⟩ := mj_b2_o h
        refine mj_callV1 (av := [.inl x6]) C lM_X3_160 lV_X8_queue (sL17 hB) ⟨_, rfl, rfl⟩ rfl (C_X8_queue hB em10) (mj_rmok hR (by decide) (by decide)) rfl (Nat.le_of_ble_eq_true rfl) dX3_runNextLine_129 (fun hb11 => ?_)
        refine mj_iconst (v := (-1)) C dX3_runNextLine_132 (by decide) ?_
        refine mj_icmp_eq (tgt := 140) C dX3_runNextLine_133 (by decide) (fun c12 => ?_) (fun c12 => ?_)
        · replace h := mj_if_t c12 h
          refine mj_iconst (v := 0) C dX3_runNextLine_140 (by decide) ?_
          cases h
          exact mj_iret C hT (mj_nb mj_b0) dX3_runNextLine_141 ⟨rfl, rfl, mj_b0⟩
        · replace h := mj_if_f c12 h
          refine mj_iconst (v := 1) C dX3_runNextLine_136 (by decide) ?_
          refine mj_goto (tgt := 141) C dX3_runNextLine_137 (by decide) ?_
          cases h
          exact mj_iret C hT (mj_nb mj_b1') dX3_runNextLine_141 ⟨rfl, rfl, mj_b1'⟩
      replace h := mj_if_f c8 h
      by_cases c13 : m4 44 (mj_cl x1) = 1
      · replace h := mj_if_t c13 h
        refine mj_tin (off := 85) (tgt := 142) C dX3_runNextLine_57 (by rw [c13]; decide) (by rw [c13]; decide) (by rw [c13]; decide) (by decide) ?_
        refine mj_aload_n C dX3_runNextLine_142 rfl ?_
        refine mj_getr (r := (β, 17)) C lF_X3_48 (sL0 hB) rfl dX3_runNextLine_143 ?_
        refine mj_iload_n C dX3_runNextLine_146 rfl ?_
        obtain ⟨r14, m15, em15, h⟩ := mj_b2_o h
        refine mj_callV1 (av := [.inl x6]) C lM_X3_164 lV_X8_queuePast (sL17 hB) ⟨_, rfl, rfl⟩ rfl (C_X8_queuePast hB em15) (mj_rmok hR (by decide) (by decide)) rfl (Nat.le_of_ble_eq_true rfl) dX3_runNextLine_147 (fun hb16 => ?_)
        refine mj_iconst (v := (-1)) C dX3_runNextLine_150 (by decide) ?_
        refine mj_icmp_eq (tgt := 158) C dX3_runNextLine_151 (by decide) (fun c17 => ?_) (fun c17 => ?_)
        · replace h := mj_if_t c17 h
          refine mj_iconst (v := 0) C dX3_runNextLine_158 (by decide) ?_
          cases h
          exact mj_iret C hT (mj_nb mj_b0) dX3_runNextLine_159 ⟨rfl, rfl, mj_b0⟩
        · replace h := mj_if_f c17 h
          refine mj_iconst (v := 1) C dX3_runNextLine_154 (by decide) ?_
          refine mj_goto (tgt := 159) C dX3_runNextLine_155 (by decide) ?_
          cases h
          exact mj_iret C hT (mj_nb mj_b1') dX3_runNextLine_159 ⟨rfl, rfl, mj_b1'⟩
      replace h := mj_if_f c13 h
      by_cases c18 : m4 44 (mj_cl x1) = 2
      · replace h := mj_if_t c18 h
        refine mj_tin (off := 103) (tgt := 160) C dX3_runNextLine_57 (by rw [c18]; decide) (by rw [c18]; decide) (by rw [c18]; decide) (by decide) ?_
        refine mj_aload_n C dX3_runNextLine_160 rfl ?_
        refine mj_getr (r := (β, 17)) C lF_X3_48 (sL0 hB) rfl dX3_runNextLine_161 ?_
        refine mj_iconst (v := 0) C dX3_runNextLine_164 (by decide) ?_
        refine mj_iconst (v := 0) C dX3_runNextLine_165 (by decide) ?_
        obtain ⟨r19, m20, em20, h⟩ := mj_b2_o h
        refine mj_callV1 (av := [.inl 0, .inl 0]) C lM_X3_135 lV_X8_begin (sL17 hB) ⟨_, rfl, rfl⟩ rfl (C_X8_begin hB em20) (mj_rmok hR (by decide) (by decide)) rfl (Nat.le_of_ble_eq_true rfl) dX3_runNextLine_166 (fun hb21 => ?_)
        cases h
        exact mj_iret C hT (mj_nb hb21) dX3_runNextLine_169 ⟨rfl, rfl, hb21⟩
      replace h := mj_if_f c18 h
      by_cases c22 : m4 44 (mj_cl x1) = 3
      · replace h := mj_if_t c22 h
        refine mj_tin (off := 113) (tgt := 170) C dX3_runNextLine_57 (by rw [c22]; decide) (by rw [c22]; decide) (by rw [c22]; decide) (by decide) ?_
        refine mj_aload_n C dX3_runNextLine_170 rfl ?_
        refine mj_getr (r := (β, 17)) C lF_X3_48 (sL0 hB) rfl dX3_runNextLine_171 ?_
        refine mj_iconst (v := 1) C dX3_runNextLine_174 (by decide) ?_
        refine mj_iconst (v := 0) C dX3_runNextLine_175 (by decide) ?_
        obtain ⟨r23, m24, em24, h⟩ := mj_b2_o h
        refine mj_callV1 (av := [.inl 1, .inl 0]) C lM_X3_135 lV_X8_begin (sL17 hB) ⟨_, rfl, rfl⟩ rfl (C_X8_begin hB em24) (mj_rmok hR (by decide) (by decide)) rfl (Nat.le_of_ble_eq_true rfl) dX3_runNextLine_176 (fun hb25 => ?_)
        cases h
        exact mj_iret C hT (mj_nb hb25) dX3_runNextLine_179 ⟨rfl, rfl, hb25⟩
      replace h := mj_if_f c22 h
      by_cases c26 : m4 44 (mj_cl x1) = 4
      · replace h := mj_if_t c26 h
        refine mj_tin (off := 123) (tgt := 180) C dX3_runNextLine_57 (by rw [c26]; decide) (by rw [c26]; decide) (by rw [c26]; decide) (by decide) ?_
        refine mj_aload_n C dX3_runNextLine_180 rfl ?_
        refine mj_getr (r := (β, 17)) C lF_X3_48 (sL0 hB) rfl dX3_runNextLine_181 ?_
        refine mj_iconst (v := 2) C dX3_runNextLine_184 (by decide) ?_
        refine mj_iconst (v := 0) C dX3_runNextLine_185 (by decide) ?_
        obtain ⟨r27, m28, em28, h⟩ := mj_b2_o h
        refine mj_callV1 (av := [.inl 2, .inl 0]) C lM_X3_135 lV_X8_begin (sL17 hB) ⟨_, rfl, rfl⟩ rfl (C_X8_begin hB em28) (mj_rmok hR (by decide) (by decide)) rfl (Nat.le_of_ble_eq_true rfl) dX3_runNextLine_186 (fun hb29 => ?_)
        cases h
        exact mj_iret C hT (mj_nb hb29) dX3_runNextLine_189 ⟨rfl, rfl, hb29⟩
      replace h := mj_if_f c26 h
      by_cases c30 : m4 44 (mj_cl x1) = 5
      · replace h := mj_if_t c30 h
        refine mj_tin (off := 133) (tgt := 190) C dX3_runNextLine_57 (by rw [c30]; decide) (by rw [c30]; decide) (by rw [c30]; decide) (by decide) ?_
        refine mj_aload_n C dX3_runNextLine_190 rfl ?_
        refine mj_getr (r := (β, 17)) C lF_X3_48 (sL0 hB) rfl dX3_runNextLine_191 ?_
        refine mj_iconst (v := 3) C dX3_runNextLine_194 (by decide) ?_
        refine mj_iload_n C dX3_runNextLine_195 rfl ?_
        obtain ⟨r31, m32, em32, h⟩ := mj_b2_o h
        refine mj_callV1 (av := [.inl 3, .inl x6]) C lM_X3_135 lV_X8_begin (sL17 hB) ⟨_, rfl, rfl⟩ rfl (C_X8_begin hB em32) (mj_rmok hR (by decide) (by decide)) rfl (Nat.le_of_ble_eq_true rfl) dX3_runNextLine_196 (fun hb33 => ?_)
        cases h
        exact mj_iret C hT (mj_nb hb33) dX3_runNextLine_199 ⟨rfl, rfl, hb33⟩
      replace h := mj_if_f c30 h
      by_cases c34 : m4 44 (mj_cl x1) = 6
      · replace h := mj_if_t c34 h
        refine mj_tin (off := 143) (tgt := 200) C dX3_runNextLine_57 (by rw [c34]; decide) (by rw [c34]; decide) (by rw [c34]; decide) (by decide) ?_
        refine mj_aload_n C dX3_runNextLine_200 rfl ?_
        refine mj_getr (r := (β, 17)) C lF_X3_48 (sL0 hB) rfl dX3_runNextLine_201 ?_
        obtain ⟨r35, m36, em36, h⟩ := mj_b2_o h
        refine mj_callV1 (av := []) C lM_X3_129 lV_X8_halt (sL17 hB) ⟨_, rfl, rfl⟩ rfl (C_X8_halt hB em36) (mj_rmok hR (by decide) (by decide)) rfl (Nat.le_of_ble_eq_true rfl) dX3_runNextLine_204 (fun hb37 => ?_)
        cases h
        exact mj_iret C hT (mj_nb hb37) dX3_runNextLine_207 ⟨rfl, rfl, hb37⟩
      replace h := mj_if_f c34 h
      by_cases c38 : m4 44 (mj_cl x1) = 7
      · replace h := mj_if_t c38 h
        refine mj_tin (off := 151) (tgt := 208) C dX3_runNextLine_57 (by rw [c38]; decide) (by rw [c38]; decide) (by rw [c38]; decide) (by decide) ?_
        refine mj_aload_n C dX3_runNextLine_208 rfl ?_
        refine mj_getr (r := (β, 17)) C lF_X3_48 (sL0 hB) rfl dX3_runNextLine_209 ?_
        obtain ⟨r39, m40, em40, h⟩ := mj_b2_o h
        refine mj_callV1 (av := []) C lM_X3_123 lV_X8_goOn (sL17 hB) ⟨_, rfl, rfl⟩ rfl (C_X8_goOn hB em40) (mj_rmok hR (by decide) (by decide)) rfl (Nat.le_of_ble_eq_true rfl) dX3_runNextLine_212 (fun hb41 => ?_)
        cases h
        exact mj_iret C hT (mj_nb hb41) dX3_runNextLine_215 ⟨rfl, rfl, hb41⟩
      replace h := mj_if_f c38 h
      by_cases c42 : m4 44 (mj_cl x1) = 8
      · replace h := mj_if_t c42 h
        refine mj_tin (off := 159) (tgt := 216) C dX3_runNextLine_57 (by rw [c42]; decide) (by rw [c42]; decide) (by rw [c42]; decide) (by decide) ?_
        refine mj_aload_n C dX3_runNextLine_216 rfl ?_
        refine mj_getr (r := (β, 17)) C lF_X3_48 (sL0 hB) rfl dX3_runNextLine_217 ?_
        refine mj_iload_n C dX3_runNextLine_220 rfl ?_
        obtain ⟨r43, m44, em44, h⟩ := mj_p2_o h
        refine mj_callV1 (av := [.inl x6]) C lM_X3_167 lV_X8_countFrom (sL17 hB) ⟨_, rfl, rfl⟩ rfl (C_X8_countFrom hB em44) (mj_rmok hR (by decide) (by decide)) rfl (Nat.le_of_ble_eq_true rfl) dX3_runNextLine_221 (fun hb45 => ?_)
        cases h
        exact mj_iret C hT (mj_nb hb45) dX3_runNextLine_224 ⟨rfl, rfl, hb45⟩
      replace h := mj_if_f c42 h
      by_cases c46 : m4 44 (mj_cl x1) = 9
      · replace h := mj_if_t c46 h
        refine mj_tin (off := 168) (tgt := 225) C dX3_runNextLine_57 (by rw [c46]; decide) (by rw [c46]; decide) (by rw [c46]; decide) (by decide) ?_
        refine mj_aload_n C dX3_runNextLine_225 rfl ?_
        refine mj_getr (r := (β, 9)) C lF_X3_39 (sL0 hB) rfl dX3_runNextLine_226 ?_
        obtain ⟨r47, m48, em48, h⟩ := mj_b2_o h
        refine mj_callV1 (av := []) C lM_X3_120 lV_X6_handOver (sL9 hB) ⟨_, rfl, rfl⟩ rfl (C_X6_handOver hB em48) (mj_rmok hR (by decide) (by decide)) rfl (Nat.le_of_ble_eq_true rfl) dX3_runNextLine_229 (fun hb49 => ?_)
        refine mj_iconst (v := (-1)) C dX3_runNextLine_232 (by decide) ?_
        refine mj_icmp_eq (tgt := 240) C dX3_runNextLine_233 (by decide) (fun c50 => ?_) (fun c50 => ?_)
        · replace h := mj_if_t c50 h
          refine mj_iconst (v := 0) C dX3_runNextLine_240 (by decide) ?_
          cases h
          exact mj_iret C hT (mj_nb mj_b0) dX3_runNextLine_241 ⟨rfl, rfl, mj_b0⟩
        · replace h := mj_if_f c50 h
          refine mj_iconst (v := 1) C dX3_runNextLine_236 (by decide) ?_
          refine mj_goto (tgt := 241) C dX3_runNextLine_237 (by decide) ?_
          cases h
          exact mj_iret C hT (mj_nb mj_b1') dX3_runNextLine_241 ⟨rfl, rfl, mj_b1'⟩
      replace h := mj_if_f c46 h
      by_cases c51 : m4 44 (mj_cl x1) = 10
      · replace h := mj_if_t c51 h
        refine mj_tin (off := 213) (tgt := 270) C dX3_runNextLine_57 (by rw [c51]; decide) (by rw [c51]; decide) (by rw [c51]; decide) (by decide) ?_
        refine mj_aload_n C dX3_runNextLine_270 rfl ?_
        refine mj_iload_n C dX3_runNextLine_271 rfl ?_
        obtain ⟨r52, er52, h⟩ := mj_let_o h
        refine mj_callV1 (av := [.inl x6]) C lM_X3_171 lV_X3_hasTimeFor (sL0 hB) ⟨_, rfl, rfl⟩ rfl (C_X3_hasTimeFor hB er52) (mj_rmok hR (by decide) (by decide)) rfl (Nat.le_of_ble_eq_true rfl) dX3_runNextLine_272 (fun hb53 => ?_)
        refine mj_if_ne (tgt := 280) C dX3_runNextLine_275 (by decide) (fun c54 => ?_) (fun c54 => ?_)
        · replace h := mj_if_f c54 h
          refine mj_aload_n C dX3_runNextLine_280 rfl ?_
          refine mj_iload_n C dX3_runNextLine_281 rfl ?_
          refine mj_iconst (v := 0) C dX3_runNextLine_282 (by decide) ?_
          obtain ⟨m55, em55, h⟩ := mj_b1_o h
          refine mj_callV0 (av := [.inl x6, .inl 0]) C lM_X3_174 lV_X3_passTicks (sL0 hB) ⟨_, rfl, rfl⟩ rfl (C_X3_passTicks hB em55) (mj_rmok hR (by decide) (by decide)) rfl (Nat.le_of_ble_eq_true rfl) dX3_runNextLine_283 ?_
          refine mj_iconst (v := 1) C dX3_runNextLine_286 (by decide) ?_
          cases h
          exact mj_iret C hT (mj_nb mj_b1') dX3_runNextLine_287 ⟨rfl, rfl, mj_b1'⟩
        · replace h := mj_if_t c54 h
          refine mj_iconst (v := 0) C dX3_runNextLine_278 (by decide) ?_
          cases h
          exact mj_iret C hT (mj_nb mj_b0) dX3_runNextLine_279 ⟨rfl, rfl, mj_b0⟩
      replace h := mj_if_f c51 h
      by_cases c57 : m4 44 (mj_cl x1) = 11
      · replace h := mj_if_t c57 h
        refine mj_tin (off := 185) (tgt := 242) C dX3_runNextLine_57 (by rw [c57]; decide) (by rw [c57]; decide) (by rw [c57]; decide) (by decide) ?_
        refine mj_aload_n C dX3_runNextLine_242 rfl ?_
        refine mj_getr (r := (β, 33)) C lF_X3_57 (sL0 hB) rfl dX3_runNextLine_243 ?_
        refine mj_aload_n C dX3_runNextLine_246 rfl ?_
        refine mj_getr (r := (β, 33)) C lF_X3_57 (sL0 hB) rfl dX3_runNextLine_247 ?_
        refine mj_bget C lF_X3_170 (sL33 hB) rfl dX3_runNextLine_250 ?_
        refine mj_iconst (v := 1) C dX3_runNextLine_253 (by decide) ?_
        refine mj_isub C dX3_runNextLine_254 ?_
        obtain ⟨r58, m59, em59, h⟩ := mj_b2_o h
        refine mj_callV1 (av := [.inl ((m4 33 7) - 1)]) C lM_X3_87 lV_X9_takeOff (sL33 hB) ⟨_, rfl, rfl⟩ rfl (C_X9_takeOff (sLw33 hB) em59) (mj_rmok hR (by decide) (by decide)) rfl (Nat.le_of_ble_eq_true rfl) dX3_runNextLine_255 (fun hb60 => ?_)
        cases h
        exact mj_iret C hT (mj_nb hb60) dX3_runNextLine_258 ⟨rfl, rfl, hb60⟩
      replace h := mj_if_f c57 h
      by_cases c61 : m4 44 (mj_cl x1) = 12
      · replace h := mj_if_t c61 h
        refine mj_tin (off := 202) (tgt := 259) C dX3_runNextLine_57 (by rw [c61]; decide) (by rw [c61]; decide) (by rw [c61]; decide) (by decide) ?_
        refine mj_aload_n C dX3_runNextLine_259 rfl ?_
        refine mj_getr (r := (β, 38)) C lF_X3_61 (sL0 hB) rfl dX3_runNextLine_260 ?_
        refine mj_iload_n C dX3_runNextLine_263 rfl ?_
        refine mj_iconst (v := 1) C dX3_runNextLine_264 (by decide) ?_
        refine mj_isub C dX3_runNextLine_265 ?_
        obtain ⟨r62, m63, em63, h⟩ := mj_b2_o h
        refine mj_callV1 (av := [.inl (x6 - 1)]) C lM_X3_87 lV_X9_takeOff (sL38 hB) ⟨_, rfl, rfl⟩ rfl (C_X9_takeOff (sLw38 hB) em63) (mj_rmok hR (by decide) (by decide)) rfl (Nat.le_of_ble_eq_true rfl) dX3_runNextLine_266 (fun hb64 => ?_)
        cases h
        exact mj_iret C hT (mj_nb hb64) dX3_runNextLine_269 ⟨rfl, rfl, hb64⟩
      replace h := mj_if_f c61 h
      refine mj_tout (tgt := 270) C dX3_runNextLine_57 (by have := mj_neL 0 (by decide) c8; have := mj_neL 1 (by decide) c13; have := mj_neL 2 (by decide) c18; have := mj_neL 3 (by decide) c22; have := mj_neL 4 (by decide) c26; have := mj_neL 5 (by decide) c30; have := mj_neL 6 (by decide) c34; have := mj_neL 7 (by decide) c38; have := mj_neL 8 (by decide) c42; have := mj_neL 9 (by decide) c46; have := mj_neL 10 (by decide) c51; have := mj_neL 11 (by decide) c57; have := mj_neL 12 (by decide) c61; omega) (by decide) ?_
      refine mj_aload_n C dX3_runNextLine_270 rfl ?_
      refine mj_iload_n C dX3_runNextLine_271 rfl ?_
      obtain ⟨r65, er65, h⟩ := mj_let_o h
      refine mj_callV1 (av := [.inl x6]) C lM_X3_171 lV_X3_hasTimeFor (sL0 hB) ⟨_, rfl, rfl⟩ rfl (C_X3_hasTimeFor hB er65) (mj_rmok hR (by decide) (by decide)) rfl (Nat.le_of_ble_eq_true rfl) dX3_runNextLine_272 (fun hb66 => ?_)
      refine mj_if_ne (tgt := 280) C dX3_runNextLine_275 (by decide) (fun c67 => ?_) (fun c67 => ?_)
      · replace h := mj_if_f c67 h
        refine mj_aload_n C dX3_runNextLine_280 rfl ?_
        refine mj_iload_n C dX3_runNextLine_281 rfl ?_
        refine mj_iconst (v := 0) C dX3_runNextLine_282 (by decide) ?_
        obtain ⟨m68, em68, h⟩ := mj_b1_o h
        refine mj_callV0 (av := [.inl x6, .inl 0]) C lM_X3_174 lV_X3_passTicks (sL0 hB) ⟨_, rfl, rfl⟩ rfl (C_X3_passTicks hB em68) (mj_rmok hR (by decide) (by decide)) rfl (Nat.le_of_ble_eq_true rfl) dX3_runNextLine_283 ?_
        refine mj_iconst (v := 1) C dX3_runNextLine_286 (by decide) ?_
        cases h
        exact mj_iret C hT (mj_nb mj_b1') dX3_runNextLine_287 ⟨rfl, rfl, mj_b1'⟩
      · replace h := mj_if_t c67 h
        refine mj_iconst (v := 0) C dX3_runNextLine_278 (by decide) ?_
        cases h
        exact mj_iret C hT (mj_nb mj_b0) dX3_runNextLine_279 ⟨rfl, rfl, mj_b0⟩
    · replace h := mj_if_f c3 h
      refine mj_iconst (v := 0) C dX3_runNextLine_23 (by decide) ?_
      cases h
      exact mj_iret C hT (mj_nb mj_b0) dX3_runNextLine_24 ⟨rfl, rfl, mj_b0⟩
def f_X3_copyFrom (o : mj_m) (m : mj_m) : Option (mj_m) := mj_b1 (f_X0_copyFrom o m) (fun m1 => mj_b1 (f_X2_copyFrom o m1) (fun m3 => mj_b1 (f_X1_copyFrom o m3) (fun m5 => mj_b1 (f_X6_copyFrom o m5) (fun m7 => mj_b1 (f_X8_copyFrom o m7) (fun m9 => mj_b1 (f_X9_copyFrom 33 33 o m9) (fun m11 => mj_b1 (f_X9_copyFrom 38 38 o m11) (fun m13 => mj_b1 (f_X4_copyFrom 43 43 o m13) (fun m15 => some m15))))))))
set_option maxHeartbeats 4000000 in
set_option maxRecDepth 20000 in
theorem C_X3_copyFrom {G : mj_G} {β : Nat} {γ : Nat} {o : mj_m} {M : mj_M} {m : mj_m} {m0 : mj_m} (hB : mj_isL G β) (hO : mj_isL G γ) (hne : γ ≠ β) (ho : M γ = o) (h : f_X3_copyFrom o m = some m0) : mj_S1 yX3_copyFrom cX3_copyFrom 2 none 3 G [mj_r (β, 0), mj_r (γ, 0)] (va_up M β m) none (va_up M β m0) := by
  refine mj_intro (by decide) (Nat.le_of_ble_eq_true rfl) ?_
  intro κ C hG hR hT
  subst hG
  have C : mj_C κ cX3_copyFrom 2 RX3 := C
  show mj_R κ (mj_F κ (fun r M' => r = none ∧ M' = (va_up M β m0) ∧ mj_bb none none)) 0 [some (mj_r (β, 0)), some (mj_r (γ, 0))] [] (va_up M β m)
  unfold f_X3_copyFrom at h
  refine mj_aload_n C dX3_copyFrom_0 rfl ?_
  refine mj_getr (r := (β, 1)) C lF_X3_12 (sL0 hB) rfl dX3_copyFrom_1 ?_
  refine mj_aload_n C dX3_copyFrom_4 rfl ?_
  refine mj_getr (r := (γ, 1)) C lF_X3_12 (sL0 hO) rfl dX3_copyFrom_5 ?_
  obtain ⟨m1, em1, h⟩ := mj_b1_o h
  refine mj_callV0 (av := [mj_r (γ, 1)]) C lM_X3_178 lV_X0_copyFrom (sL1 hB) ⟨_, rfl, rfl⟩ rfl (C_X0_copyFrom hB hO hne ho em1) (mj_rmok hR (by decide) (by decide)) rfl (Nat.le_of_ble_eq_true rfl) dX3_copyFrom_8 ?_
  refine mj_aload_n C dX3_copyFrom_11 rfl ?_
  refine mj_getr (r := (β, 3)) C lF_X3_23 (sL0 hB) rfl dX3_copyFrom_12 ?_
  refine mj_aload_n C dX3_copyFrom_15 rfl ?_
  refine mj_getr (r := (γ, 3)) C lF_X3_23 (sL0 hO) rfl dX3_copyFrom_16 ?_
  obtain ⟨m3, em3, h⟩ := mj_b1_o h
  refine mj_callV0 (av := [mj_r (γ, 3)]) C lM_X3_181 lV_X2_copyFrom (sL3 hB) ⟨_, rfl, rfl⟩ rfl (C_X2_copyFrom hB hO hne ho em3) (mj_rmok hR (by decide) (by decide)) rfl (Nat.le_of_ble_eq_true rfl) dX3_copyFrom_19 ?_
  refine mj_aload_n C dX3_copyFrom_22 rfl ?_
  refine mj_getr (r := (β, 5)) C lF_X3_30 (sL0 hB) rfl dX3_copyFrom_23 ?_
  refine mj_aload_n C dX3_copyFrom_26 rfl ?_
  refine mj_getr (r := (γ, 5)) C lF_X3_30 (sL0 hO) rfl dX3_copyFrom_27 ?_
  obtain ⟨m5, em5, h⟩ := mj_b1_o h
  refine mj_callV0 (av := [mj_r (γ, 5)]) C lM_X3_184 lV_X1_copyFrom (sL5 hB) ⟨_, rfl, rfl⟩ rfl (C_X1_copyFrom hB hO hne ho em5) (mj_rmok hR (by decide) (by decide)) rfl (Nat.le_of_ble_eq_true rfl) dX3_copyFrom_30 ?_
  refine mj_aload_n C dX3_copyFrom_33 rfl ?_
  refine mj_getr (r := (β, 9)) C lF_X3_39 (sL0 hB) rfl dX3_copyFrom_34 ?_
  refine mj_aload_n C dX3_copyFrom_37 rfl ?_
  refine mj_getr (r := (γ, 9)) C lF_X3_39 (sL0 hO) rfl dX3_copyFrom_38 ?_
  obtain ⟨m7, em7, h⟩ := mj_b1_o h
  refine mj_callV0 (av := [mj_r (γ, 9)]) C lM_X3_187 lV_X6_copyFrom (sL9 hB) ⟨_, rfl, rfl⟩ rfl (C_X6_copyFrom hB hO hne ho em7) (mj_rmok hR (by decide) (by decide)) rfl (Nat.le_of_ble_eq_true rfl) dX3_copyFrom_41 ?_
  refine mj_aload_n C dX3_copyFrom_44 rfl ?_
  refine mj_getr (r := (β, 17)) C lF_X3_48 (sL0 hB) rfl dX3_copyFrom_45 ?_
  refine mj_aload_n C dX3_copyFrom_48 rfl ?_
  refine mj_getr (r := (γ, 17)) C lF_X3_48 (sL0 hO) rfl dX3_copyFrom_49 ?_
  obtain ⟨m9, em9, h⟩ := mj_b1_o h
  refine mj_callV0 (av := [mj_r (γ, 17)]) C lM_X3_190 lV_X8_copyFrom (sL17 hB) ⟨_, rfl, rfl⟩ rfl (C_X8_copyFrom hB hO hne ho em9) (mj_rmok hR (by decide) (by decide)) rfl (Nat.le_of_ble_eq_true rfl) dX3_copyFrom_52 ?_
  refine mj_aload_n C dX3_copyFrom_55 rfl ?_
  refine mj_getr (r := (β, 33)) C lF_X3_57 (sL0 hB) rfl dX3_copyFrom_56 ?_
  refine mj_aload_n C dX3_copyFrom_59 rfl ?_
  refine mj_getr (r := (γ, 33)) C lF_X3_57 (sL0 hO) rfl dX3_copyFrom_60 ?_
  obtain ⟨m11, em11, h⟩ := mj_b1_o h
  refine mj_callV0 (av := [mj_r (γ, 33)]) C lM_X3_193 lV_X9_copyFrom (sL33 hB) ⟨_, rfl, rfl⟩ rfl (C_X9_copyFrom (sLw33 hB) (sLw33 hO) hne ho em11) (mj_rmok hR (by decide) (by decide)) rfl (Nat.le_of_ble_eq_true rfl) dX3_copyFrom_63 ?_
  refine mj_aload_n C dX3_copyFrom_66 rfl ?_
  refine mj_getr (r := (β, 38)) C lF_X3_61 (sL0 hB) rfl dX3_copyFrom_67 ?_
  refine mj_aload_n C dX3_copyFrom_70 rfl ?_
  refine mj_getr (r := (γ, 38)) C lF_X3_61 (sL0 hO) rfl dX3_copyFrom_71 ?_
  obtain ⟨m13, em13, h⟩ := mj_b1_o h
  refine mj_callV0 (av := [mj_r (γ, 38)]) C lM_X3_193 lV_X9_copyFrom (sL38 hB) ⟨_, rfl, rfl⟩ rfl (C_X9_copyFrom (sLw38 hB) (sLw38 hO) hne ho em13) (mj_rmok hR (by decide) (by decide)) rfl (Nat.le_of_ble_eq_true rfl) dX3_copyFrom_74 ?_
  refine mj_aload_n C dX3_copyFrom_77 rfl ?_
  refine mj_getr (r := (β, 43)) C lF_X3_67 (sL0 hB) rfl dX3_copyFrom_78 ?_
  refine mj_aload_n C dX3_copyFrom_81 rfl ?_
  refine mj_getr (r := (γ, 43)) C lF_X3_67 (sL0 hO) rfl dX3_copyFrom_82 ?_
  obtain ⟨m15, em15, h⟩ := mj_b1_o h
  refine mj_callV0 (av := [mj_r (γ, 43)]) C lM_X3_195 lV_X4_copyFrom (sL43 hB) ⟨_, rfl, rfl⟩ rfl (C_X4_copyFrom (sLp43 hB) (sLp43 hO) hne ho em15) (mj_rmok hR (by decide) (by decide)) rfl (Nat.le_of_ble_eq_true rfl) dX3_copyFrom_85 ?_
  cases h
  exact mj_vret C hT dX3_copyFrom_88 ⟨rfl, rfl, mj_bv _⟩
