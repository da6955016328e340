def f_X0_draw (a1 : Int32) (m : mj_m) : Option (Int32 × mj_m) := mj_let (mj_wrs m 1 1 (((m 1 1) * 1664525) + 1013904223)) (fun m1 => if a1 ≤ 0 then (some (0, m1)) else (mj_chk (!(a1 == 0)) (some (mj_rem (mj_ush (m1 1 1) 8) a1, m1))))
set_option maxHeartbeats 4000000 in
set_option maxRecDepth 20000 in
theorem C_X0_draw {G : mj_G} {β : Nat} {M : mj_M} {a1 : Int32} {m : mj_m} {x0 : Int32} {m0 : mj_m} (hB : mj_isL G β) (h : f_X0_draw a1 m = some (x0, m0)) : mj_S1 yX0_draw cX0_draw 2 (some .int) 0 G [mj_r (β, 1), .inl a1] (va_up M β m) (some (.inl x0)) (va_up M β m0) := by
  refine mj_intro (by decide) (Nat.le_of_ble_eq_true rfl) ?_
  intro κ C hG hR hT
  subst hG
  have C : mj_C κ cX0_draw 2 RX0 := C
  show mj_R κ (mj_F κ (fun r M' => r = (some (.inl x0)) ∧ M' = (va_up M β m0) ∧ mj_bb (some .int) (some (.inl x0)))) 0 [some (mj_r (β, 1)), some (.inl a1)] [] (va_up M β m)
  unfold f_X0_draw at h
  refine mj_aload_n C dX0_draw_0 rfl ?_
  refine mj_aload_n C dX0_draw_1 rfl ?_
  refine mj_bget C lF_X0_15 (sL1 hB) rfl dX0_draw_2 ?_
  refine mj_ldc (v := 1664525) C lC_X0_30 dX0_draw_5 ?_
  refine mj_imul C dX0_draw_7 ?_
  refine mj_ldc (v := 1013904223) C lC_X0_31 dX0_draw_8 ?_
  refine mj_iadd C dX0_draw_10 ?_
  obtain ⟨m1, hm1, h⟩ := mj_let_o h
  refine mj_bput C lF_X0_15 fP_1_1 (vp_nar_int _) rfl (sL1 hB) rfl dX0_draw_11 hm1 ?_
  refine mj_iload_n C dX0_draw_14 rfl ?_
  refine mj_if_le (tgt := 30) C dX0_draw_15 (by decide) (fun c2 => ?_) (fun c2 => ?_)
  · replace h := mj_if_t c2 h
    refine mj_iconst (v := 0) C dX0_draw_30 (by decide) ?_
    cases h
    exact mj_iret C hT (vp_nar_int _) dX0_draw_31 ⟨rfl, rfl, mj_bi _⟩
  · replace h := mj_if_f c2 h
    refine mj_aload_n C dX0_draw_18 rfl ?_
    refine mj_bget C lF_X0_15 (sL1 hB) rfl dX0_draw_19 ?_
    refine mj_bipush (v := 8) C dX0_draw_22 (by decide) ?_
    refine mj_iushr C dX0_draw_24 ?_
    refine mj_iload_n C dX0_draw_25 rfl ?_
    obtain ⟨k3, h⟩ := mj_chk_o h
    refine mj_irem C dX0_draw_26 (mj_nz k3) ?_
    refine mj_goto (tgt := 31) C dX0_draw_27 (by decide) ?_
    cases h
    exact mj_iret C hT (vp_nar_int _) dX0_draw_31 ⟨rfl, rfl, mj_bi _⟩
def f_X0_change_J87 (l1 : Int32) (l2 : Int32) (m : mj_m) : Option (Int32 × mj_m) := mj_chk (mj_ok l1 11) (mj_let (mj_wrs m 2 (mj_cl l1) l2) (fun m2 => some (1, m2)))
set_option maxHeartbeats 4000000 in
set_option maxRecDepth 20000 in
theorem C_X0_change_J87 {κ : mj_K} {β : Nat} {M : mj_M} {l1 : Int32} {l2 : Int32} {m : mj_m} {x0 : Int32} {m0 : mj_m} (C : mj_C κ cX0_change 3 RX0) (hB : mj_isL (mj_g κ) β) (hR : mj_dp κ 1) (hT : mj_rt κ = (some .boolean)) (h : f_X0_change_J87 l1 l2 m = some (x0, m0)) : mj_R κ (mj_F κ (fun r M' => r = (some (.inl x0)) ∧ M' = (va_up M β m0) ∧ mj_bb (some .boolean) (some (.inl x0)))) 87 [some (mj_r (β, 1)), some (.inl l1), some (.inl l2)] [] (va_up M β m) := by
  unfold f_X0_change_J87 at h
  refine mj_aload_n C dX0_change_87 rfl ?_
  refine mj_getr (r := (β, 2)) C lF_X0_27 (sL1 hB) rfl dX0_change_88 ?_
  refine mj_iload_n C dX0_change_91 rfl ?_
  refine mj_iload_n C dX0_change_92 rfl ?_
  obtain ⟨k1, h⟩ := mj_chk_o h
  obtain ⟨m2, hm2, h⟩ := mj_let_o h
  refine mj_bast C (sL2 hB) k1 rfl dX0_change_93 hm2 ?_
  refine mj_iconst (v := 1) C dX0_change_94 (by decide) ?_
  cases h
  exact mj_iret C hT (mj_nb mj_b1') dX0_change_95 ⟨rfl, rfl, mj_b1'⟩
def f_X0_change_J65 (l1 : Int32) (l2 : Int32) (m : mj_m) : Option (Int32 × mj_m) := if l1 = 9 then (if l2 + (m 2 8) ≤ 90 then (f_X0_change_J87 l1 l2 m) else (some (0, m))) else (f_X0_change_J87 l1 l2 m)
set_option maxHeartbeats 4000000 in
set_option maxRecDepth 20000 in
theorem C_X0_change_J65 {κ : mj_K} {β : Nat} {M : mj_M} {l1 : Int32} {l2 : Int32} {m : mj_m} {x0 : Int32} {m0 : mj_m} (C : mj_C κ cX0_change 3 RX0) (hB : mj_isL (mj_g κ) β) (hR : mj_dp κ 1) (hT : mj_rt κ = (some .boolean)) (h : f_X0_change_J65 l1 l2 m = some (x0, m0)) : mj_R κ (mj_F κ (fun r M' => r = (some (.inl x0)) ∧ M' = (va_up M β m0) ∧ mj_bb (some .boolean) (some (.inl x0)))) 65 [some (mj_r (β, 1)), some (.inl l1), some (.inl l2)] [] (va_up M β m) := by
  unfold f_X0_change_J65 at h
  refine mj_iload_n C dX0_change_65 rfl ?_
  refine mj_bipush (v := 9) C dX0_change_66 (by decide) ?_
  refine mj_icmp_ne (tgt := 87) C dX0_change_68 (by decide) (fun c3 => ?_) (fun c3 => ?_)
  · replace h := mj_if_f c3 h
    refine mj_sub (L' := [some (mj_r (β, 1)), some (.inl l1), some (.inl l2)]) ⟨rfl, ⟨rfl, ⟨rfl, trivial⟩⟩⟩ ?_
    exact C_X0_change_J87 C hB hR hT h
  · replace h := mj_if_t c3 h
    refine mj_iload_n C dX0_change_71 rfl ?_
    refine mj_aload_n C dX0_change_72 rfl ?_
    refine mj_getr (r := (β, 2)) C lF_X0_27 (sL1 hB) rfl dX0_change_73 ?_
    refine mj_bipush (v := 8) C dX0_change_76 (by decide) ?_
    refine mj_bald C (sL2 hB) (mj_okn 8 11 (Nat.le_of_ble_eq_true rfl) (Nat.le_of_ble_eq_true rfl)) (mj_cln 8 (Nat.le_of_ble_eq_true rfl)) dX0_change_78 ?_
    refine mj_iadd C dX0_change_79 ?_
    refine mj_bipush (v := 90) C dX0_change_80 (by decide) ?_
    refine mj_icmp_le (tgt := 87) C dX0_change_82 (by decide) (fun c4 => ?_) (fun c4 => ?_)
    · replace h := mj_if_t c4 h
      refine mj_sub (L' := [some (mj_r (β, 1)), some (.inl l1), some (.inl l2)]) ⟨rfl, ⟨rfl, ⟨rfl, trivial⟩⟩⟩ ?_
      exact C_X0_change_J87 C hB hR hT h
    · replace h := mj_if_f c4 h
      refine mj_iconst (v := 0) C dX0_change_85 (by decide) ?_
      cases h
      exact mj_iret C hT (mj_nb mj_b0) dX0_change_86 ⟨rfl, rfl, mj_b0⟩
def f_X0_change_J43 (l1 : Int32) (l2 : Int32) (m : mj_m) : Option (Int32 × mj_m) := if l1 = 8 then (if l2 + (m 2 9) ≤ 90 then (f_X0_change_J65 l1 l2 m) else (some (0, m))) else (f_X0_change_J65 l1 l2 m)
set_option maxHeartbeats 4000000 in
set_option maxRecDepth 20000 in
theorem C_X0_change_J43 {κ : mj_K} {β : Nat} {M : mj_M} {l1 : Int32} {l2 : Int32} {m : mj_m} {x0 : Int32} {m0 : mj_m} (C : mj_C κ cX0_change 3 RX0) (hB : mj_isL (mj_g κ) β) (hR : mj_dp κ 1) (hT : mj_rt κ = (some .boolean)) (h : f_X0_change_J43 l1 l2 m = some (x0, m0)) : mj_R κ (mj_F κ (fun r M' => r = (some (.inl x0)) ∧ M' = (va_up M β m0) ∧ mj_bb (some .boolean) (some (.inl x0)))) 43 [some (mj_r (β, 1)), some (.inl l1), some (.inl l2)] [] (va_up M β m) := by
  unfold f_X0_change_J43 at h
  refine mj_iload_n C dX0_change_43 rfl ?_
  refine mj_bipush (v := 8) C dX0_change_44 (by decide) ?_
  refine mj_icmp_ne (tgt := 65) C dX0_change_46 (by decide) (fun c5 => ?_) (fun c5 => ?_)
  · replace h := mj_if_f c5 h
    refine mj_sub (L' := [some (mj_r (β, 1)), some (.inl l1), some (.inl l2)]) ⟨rfl, ⟨rfl, ⟨rfl, trivial⟩⟩⟩ ?_
    exact C_X0_change_J65 C hB hR hT h
  · replace h := mj_if_t c5 h
    refine mj_iload_n C dX0_change_49 rfl ?_
    refine mj_aload_n C dX0_change_50 rfl ?_
    refine mj_getr (r := (β, 2)) C lF_X0_27 (sL1 hB) rfl dX0_change_51 ?_
    refine mj_bipush (v := 9) C dX0_change_54 (by decide) ?_
    refine mj_bald C (sL2 hB) (mj_okn 9 11 (Nat.le_of_ble_eq_true rfl) (Nat.le_of_ble_eq_true rfl)) (mj_cln 9 (Nat.le_of_ble_eq_true rfl)) dX0_change_56 ?_
    refine mj_iadd C dX0_change_57 ?_
    refine mj_bipush (v := 90) C dX0_change_58 (by decide) ?_
    refine mj_icmp_le (tgt := 65) C dX0_change_60 (by decide) (fun c6 => ?_) (fun c6 => ?_)
    · replace h := mj_if_t c6 h
      refine mj_sub (L' := [some (mj_r (β, 1)), some (.inl l1), some (.inl l2)]) ⟨rfl, ⟨rfl, ⟨rfl, trivial⟩⟩⟩ ?_
      exact C_X0_change_J65 C hB hR hT h
    · replace h := mj_if_f c6 h
      refine mj_iconst (v := 0) C dX0_change_63 (by decide) ?_
      cases h
      exact mj_iret C hT (mj_nb mj_b0) dX0_change_64 ⟨rfl, rfl, mj_b0⟩
def f_X0_change (a1 : Int32) (a2 : Int32) (m : mj_m) : Option (Int32 × mj_m) := if a1 < 0 then (some (0, m)) else (if a1 < 11 then (mj_chk (mj_ok a1 11) (mj_chk (mj_ok a1 11) (mj_let (f_X10_isWithin a2 (mj_sa 1 (mj_cl a1)) (mj_sa 2 (mj_cl a1))) (fun r11 => if r11 = 0 then (some (0, m)) else (if a1 = 0 then (if mj_rem a2 2 = 0 then (f_X0_change_J43 a1 a2 m) else (some (0, m))) else (f_X0_change_J43 a1 a2 m)))))) else (some (0, m)))
set_option maxHeartbeats 4000000 in
set_option maxRecDepth 20000 in
theorem C_X0_change {G : mj_G} {β : Nat} {M : mj_M} {a1 : Int32} {a2 : Int32} {m : mj_m} {x0 : Int32} {m0 : mj_m} (hB : mj_isL G β) (h : f_X0_change a1 a2 m = some (x0, m0)) : mj_S1 yX0_change cX0_change 3 (some .boolean) 1 G [mj_r (β, 1), .inl a1, .inl a2] (va_up M β m) (some (.inl x0)) (va_up M β m0) := by
  refine mj_intro (by decide) (Nat.le_of_ble_eq_true rfl) ?_
  intro κ C hG hR hT
  subst hG
  have C : mj_C κ cX0_change 3 RX0 := C
  show mj_R κ (mj_F κ (fun r M' => r = (some (.inl x0)) ∧ M' = (va_up M β m0) ∧ mj_bb (some .boolean) (some (.inl x0)))) 0 [some (mj_r (β, 1)), some (.inl a1), some (.inl a2)] [] (va_up M β m)
  unfold f_X0_change at h
  refine mj_iload_n C dX0_change_0 rfl ?_
  refine mj_if_lt (tgt := 10) C dX0_change_1 (by decide) (fun c7 => ?_) (fun c7 => ?_)
  · replace h := mj_if_t c7 h
    refine mj_iconst (v := 0) C dX0_change_10 (by decide) ?_
    cases h
    exact mj_iret C hT (mj_nb mj_b0) dX0_change_11 ⟨rfl, rfl, mj_b0⟩
  · replace h := mj_if_f c7 h
    refine mj_iload_n C dX0_change_4 rfl ?_
    refine mj_bipush (v := 11) C dX0_change_5 (by decide) ?_
    refine mj_icmp_lt (tgt := 12) C dX0_change_7 (by decide) (fun c8 => ?_) (fun c8 => ?_)
    · replace h := mj_if_t c8 h
      refine mj_iload_n C dX0_change_12 rfl ?_
      refine mj_gst (i := 1) (ref := "CommandLink") (host := "CommandLink") C (Nat.le_of_ble_eq_true rfl) (List.mem_of_getElem? (i := 1) rfl) rfl dX0_change_13 ?_
      refine mj_iload_n C dX0_change_16 rfl ?_
      obtain ⟨k9, h⟩ := mj_chk_o h
      refine mj_aldS C (Nat.le_of_ble_eq_true rfl) rfl k9 dX0_change_17 ?_
      refine mj_gst (i := 2) (ref := "CommandLink") (host := "CommandLink") C (Nat.le_of_ble_eq_true rfl) (List.mem_of_getElem? (i := 2) rfl) rfl dX0_change_18 ?_
      refine mj_iload_n C dX0_change_21 rfl ?_
      obtain ⟨k10, h⟩ := mj_chk_o h
      refine mj_aldS C (Nat.le_of_ble_eq_true rfl) rfl k10 dX0_change_22 ?_
      obtain ⟨r11, er11, h⟩ := mj_let_o h
      refine mj_callN1 (av := [.inl a2, .inl (mj_sa 1 (mj_cl a1)), .inl (mj_sa 2 (mj_cl a1))]) C lN_X0_38 lS_X10_isWithin rfl (C_X10_isWithin  er11) (mj_rmok hR (by decide) (by decide)) rfl (Nat.le_of_ble_eq_true rfl) dX0_change_23 (fun hb12 => ?_)
      refine mj_if_ne (tgt := 31) C dX0_change_26 (by decide) (fun c13 => ?_) (fun c13 => ?_)
      · replace h := mj_if_f c13 h
        refine mj_iload_n C dX0_change_31 rfl ?_
        refine mj_if_ne (tgt := 43) C dX0_change_32 (by decide) (fun c14 => ?_) (fun c14 => ?_)
        · replace h := mj_if_f c14 h
          refine mj_sub (L' := [some (mj_r (β, 1)), some (.inl a1), some (.inl a2)]) ⟨rfl, ⟨rfl, ⟨rfl, trivial⟩⟩⟩ ?_
          exact C_X0_change_J43 C hB hR hT h
        · replace h := mj_if_t c14 h
          refine mj_iload_n C dX0_change_35 rfl ?_
          refine mj_iconst (v := 2) C dX0_change_36 (by decide) ?_
          refine mj_irem C dX0_change_37 (by decide) ?_
          refine mj_if_eq (tgt := 43) C dX0_change_38 (by decide) (fun c15 => ?_) (fun c15 => ?_)
          · replace h := mj_if_t c15 h
            refine mj_sub (L' := [some (mj_r (β, 1)), some (.inl a1), some (.inl a2)]) ⟨rfl, ⟨rfl, ⟨rfl, trivial⟩⟩⟩ ?_
            exact C_X0_change_J43 C hB hR hT h
          · replace h := mj_if_f c15 h
            refine mj_iconst (v := 0) C dX0_change_41 (by decide) ?_
            cases h
            exact mj_iret C hT (mj_nb mj_b0) dX0_change_42 ⟨rfl, rfl, mj_b0⟩
      · replace h := mj_if_t c13 h
        refine mj_iconst (v := 0) C dX0_change_29 (by decide) ?_
        cases h
        exact mj_iret C hT (mj_nb mj_b0) dX0_change_30 ⟨rfl, rfl, mj_b0⟩
    · replace h := mj_if_f c8 h
      refine mj_iconst (v := 0) C dX0_change_10 (by decide) ?_
      cases h
      exact mj_iret C hT (mj_nb mj_b0) dX0_change_11 ⟨rfl, rfl, mj_b0⟩
def f_X0_freeOfHurt (m : mj_m) : mj_m := mj_let (mj_wrs m 2 8 0) (fun m1 => mj_let (mj_wrs m1 2 9 0) (fun m2 => m2))
set_option maxHeartbeats 4000000 in
set_option maxRecDepth 20000 in
theorem C_X0_freeOfHurt {G : mj_G} {β : Nat} {M : mj_M} {m : mj_m} {m0 : mj_m} (hB : mj_isL G β) (h : f_X0_freeOfHurt m = m0) : mj_S1 yX0_freeOfHurt cX0_freeOfHurt 1 none 0 G [mj_r (β, 1)] (va_up M β m) none (va_up M β m0) := by
  refine mj_intro (by decide) (Nat.le_of_ble_eq_true rfl) ?_
  intro κ C hG hR hT
  subst hG
  have C : mj_C κ cX0_freeOfHurt 1 RX0 := C
  show mj_R κ (mj_F κ (fun r M' => r = none ∧ M' = (va_up M β m0) ∧ mj_bb none none)) 0 [some (mj_r (β, 1))] [] (va_up M β m)
  unfold f_X0_freeOfHurt at h
  refine mj_aload_n C dX0_freeOfHurt_0 rfl ?_
  refine mj_getr (r := (β, 2)) C lF_X0_27 (sL1 hB) rfl dX0_freeOfHurt_1 ?_
  refine mj_bipush (v := 8) C dX0_freeOfHurt_4 (by decide) ?_
  refine mj_iconst (v := 0) C dX0_freeOfHurt_6 (by decide) ?_
  obtain ⟨m1, hm1, h⟩ := mj_let_o h
  refine mj_bast C (sL2 hB) (mj_okn 8 11 (Nat.le_of_ble_eq_true rfl) (Nat.le_of_ble_eq_true rfl)) (mj_cln 8 (Nat.le_of_ble_eq_true rfl)) dX0_freeOfHurt_7 hm1 ?_
  refine mj_aload_n C dX0_freeOfHurt_8 rfl ?_
  refine mj_getr (r := (β, 2)) C lF_X0_27 (sL1 hB) rfl dX0_freeOfHurt_9 ?_
  refine mj_bipush (v := 9) C dX0_freeOfHurt_12 (by decide) ?_
  refine mj_iconst (v := 0) C dX0_freeOfHurt_14 (by decide) ?_
  obtain ⟨m2, hm2, h⟩ := mj_let_o h
  refine mj_bast C (sL2 hB) (mj_okn 9 11 (Nat.le_of_ble_eq_true rfl) (Nat.le_of_ble_eq_true rfl)) (mj_cln 9 (Nat.le_of_ble_eq_true rfl)) dX0_freeOfHurt_15 hm2 ?_
  cases h
  exact mj_vret C hT dX0_freeOfHurt_16 ⟨rfl, rfl, mj_bv _⟩
def f_X0_isReportTime (m : mj_m) : Option (Int32) := mj_let (m 2 10) (fun x1 => if x1 ≤ 0 then (some 0) else (mj_chk (!(x1 == 0)) (if mj_rem (m 1 0) x1 = 0 then (some 1) else (some 0))))
set_option maxHeartbeats 4000000 in
set_option maxRecDepth 20000 in
theorem C_X0_isReportTime {G : mj_G} {β : Nat} {M : mj_M} {m : mj_m} {x0 : Int32} (hB : mj_isL G β) (h : f_X0_isReportTime m = some x0) : mj_S1 yX0_isReportTime cX0_isReportTime 2 (some .boolean) 0 G [mj_r (β, 1)] (va_up M β m) (some (.inl x0)) (va_up M β m) := by
  refine mj_intro (by decide) (Nat.le_of_ble_eq_true rfl) ?_
  intro κ C hG hR hT
  subst hG
  have C : mj_C κ cX0_isReportTime 2 RX0 := C
  show mj_R κ (mj_F κ (fun r M' => r = (some (.inl x0)) ∧ M' = (va_up M β m) ∧ mj_bb (some .boolean) (some (.inl x0)))) 0 [some (mj_r (β, 1)), none] [] (va_up M β m)
  unfold f_X0_isReportTime at h
  refine mj_aload_n C dX0_isReportTime_0 rfl ?_
  refine mj_getr (r := (β, 2)) C lF_X0_27 (sL1 hB) rfl dX0_isReportTime_1 ?_
  refine mj_bipush (v := 10) C dX0_isReportTime_4 (by decide) ?_
  refine mj_bald C (sL2 hB) (mj_okn 10 11 (Nat.le_of_ble_eq_true rfl) (Nat.le_of_ble_eq_true rfl)) (mj_cln 10 (Nat.le_of_ble_eq_true rfl)) dX0_isReportTime_6 ?_
  obtain ⟨x1, hx1, h⟩ := mj_let_o h
  refine mj_nm hx1 ?_
  refine mj_istore_n (L2 := [some (mj_r (β, 1)), some (.inl x1)]) C dX0_isReportTime_7 (Nat.le_of_ble_eq_true rfl) rfl ?_
  refine mj_iload_n C dX0_isReportTime_8 rfl ?_
  refine mj_if_le (tgt := 25) C dX0_isReportTime_9 (by decide) (fun c2 => ?_) (fun c2 => ?_)
  · replace h := mj_if_t c2 h
    refine mj_iconst (v := 0) C dX0_isReportTime_25 (by decide) ?_
    cases h
    exact mj_iret C hT (mj_nb mj_b0) dX0_isReportTime_26 ⟨rfl, rfl, mj_b0⟩
  · replace h := mj_if_f c2 h
    refine mj_aload_n C dX0_isReportTime_12 rfl ?_
    refine mj_bget C lF_X0_9 (sL1 hB) rfl dX0_isReportTime_13 ?_
    refine mj_iload_n C dX0_isReportTime_16 rfl ?_
    obtain ⟨k3, h⟩ := mj_chk_o h
    refine mj_irem C dX0_isReportTime_17 (mj_nz k3) ?_
    refine mj_if_ne (tgt := 25) C dX0_isReportTime_18 (by decide) (fun c4 => ?_) (fun c4 => ?_)
    · replace h := mj_if_f c4 h
      refine mj_iconst (v := 0) C dX0_isReportTime_25 (by decide) ?_
      cases h
      exact mj_iret C hT (mj_nb mj_b0) dX0_isReportTime_26 ⟨rfl, rfl, mj_b0⟩
    · replace h := mj_if_t c4 h
      refine mj_iconst (v := 1) C dX0_isReportTime_21 (by decide) ?_
      refine mj_goto (tgt := 26) C dX0_isReportTime_22 (by decide) ?_
      cases h
      exact mj_iret C hT (mj_nb mj_b1') dX0_isReportTime_26 ⟨rfl, rfl, mj_b1'⟩
def f_X0_copyFrom (o : mj_m) (m : mj_m) : Option (mj_m) := mj_let (mj_wrs m 1 0 (o 1 0)) (fun m1 => mj_let (mj_wrs m1 1 1 (o 1 1)) (fun m2 => mj_chk (mj_cok 0 0 11 11 11) (mj_let (mj_cpo o m2 2 2 0 0 11) (fun m4 => some m4))))
set_option maxHeartbeats 4000000 in
set_option maxRecDepth 20000 in
theorem C_X0_copyFrom {G : mj_G} {β : Nat} {γ : Nat} {o : mj_m} {M : mj_M} {m : mj_m} {m0 : mj_m} (hB : mj_isL G β) (hO : mj_isL G γ) (hne : γ ≠ β) (ho : M γ = o) (h : f_X0_copyFrom o m = some m0) : mj_S1 yX0_copyFrom cX0_copyFrom 2 none 1 G [mj_r (β, 1), mj_r (γ, 1)] (va_up M β m) none (va_up M β m0) := by
  refine mj_intro (by decide) (Nat.le_of_ble_eq_true rfl) ?_
  intro κ C hG hR hT
  subst hG
  have C : mj_C κ cX0_copyFrom 2 RX0 := C
  show mj_R κ (mj_F κ (fun r M' => r = none ∧ M' = (va_up M β m0) ∧ mj_bb none none)) 0 [some (mj_r (β, 1)), some (mj_r (γ, 1))] [] (va_up M β m)
  unfold f_X0_copyFrom at h
  refine mj_aload_n C dX0_copyFrom_0 rfl ?_
  refine mj_aload_n C dX0_copyFrom_1 rfl ?_
  refine mj_oget C hne ho lF_X0_9 (sL1 hO) rfl dX0_copyFrom_2 ?_
  obtain ⟨m1, hm1, h⟩ := mj_let_o h
  refine mj_bput C lF_X0_9 fP_1_0 (vp_nar_int _) rfl (sL1 hB) rfl dX0_copyFrom_5 hm1 ?_
  refine mj_aload_n C dX0_copyFrom_8 rfl ?_
  refine mj_aload_n C dX0_copyFrom_9 rfl ?_
  refine mj_oget C hne ho lF_X0_15 (sL1 hO) rfl dX0_copyFrom_10 ?_
  obtain ⟨m2, hm2, h⟩ := mj_let_o h
  refine mj_bput C lF_X0_15 fP_1_1 (vp_nar_int _) rfl (sL1 hB) rfl dX0_copyFrom_13 hm2 ?_
  refine mj_aload_n C dX0_copyFrom_16 rfl ?_
  refine mj_getr (r := (γ, 2)) C lF_X0_27 (sL1 hO) rfl dX0_copyFrom_17 ?_
  refine mj_iconst (v := 0) C dX0_copyFrom_20 (by decide) ?_
  refine mj_aload_n C dX0_copyFrom_21 rfl ?_
  refine mj_getr (r := (β, 2)) C lF_X0_27 (sL1 hB) rfl dX0_copyFrom_22 ?_
  refine mj_iconst (v := 0) C dX0_copyFrom_25 (by decide) ?_
  refine mj_bipush (v := 11) C dX0_copyFrom_26 (by decide) ?_
  obtain ⟨k3, h⟩ := mj_chk_o h
  obtain ⟨m4, hm4, h⟩ := mj_let_o h
  refine mj_ocopy C hne ho lM_X0_42 rfl (sL2 hO) (sL2 hB) k3 (mj_rmc hR (by decide)) (Nat.le_of_ble_eq_true rfl) dX0_copyFrom_28 hm4 ?_
  cases h
  exact mj_vret C hT dX0_copyFrom_31 ⟨rfl, rfl, mj_bv _⟩
def f_X1_change (a1 : Int32) (a2 : Int32) (m : mj_m) : Option (Int32 × mj_m) := if a1 = a2 then (some (a2, m)) else (if 80 ≤ m 5 2 then (some (a2, m)) else (mj_let ((m 5 2) * 3) (fun x3 => mj_chk (mj_ok x3 240) (mj_let (mj_wrs m 6 (mj_cl x3) (m 1 0)) (fun m5 => mj_chk (mj_ok (x3 + 1) 240) (mj_let (mj_wrs m5 6 (mj_cl (x3 + 1)) a1) (fun m7 => mj_chk (mj_ok (x3 + 2) 240) (mj_let (mj_wrs m7 6 (mj_cl (x3 + 2)) a2) (fun m9 => mj_let (mj_wrs m9 5 2 ((m9 5 2) + 1)) (fun m10 => some (a2, m10)))))))))))
set_option maxHeartbeats 4000000 in
set_option maxRecDepth 20000 in
theorem C_X1_change {G : mj_G} {β : Nat} {M : mj_M} {a1 : Int32} {a2 : Int32} {m : mj_m} {x0 : Int32} {m0 : mj_m} (hB : mj_isL G β) (h : f_X1_change a1 a2 m = some (x0, m0)) : mj_S1 yX1_change cX1_change 4 (some .int) 0 G [mj_r (β, 5), .inl a1, .inl a2] (va_up M β m) (some (.inl x0)) (va_up M β m0) := by
  refine mj_intro (by decide) (Nat.le_of_ble_eq_true rfl) ?_
  intro κ C hG hR hT
  subst hG
  have C : mj_C κ cX1_change 4 RX1 := C
  show mj_R κ (mj_F κ (fun r M' => r = (some (.inl x0)) ∧ M' = (va_up M β m0) ∧ mj_bb (some .int) (some (.inl x0)))) 0 [some (mj_r (β, 5)), some (.inl a1), some (.inl a2), none] [] (va_up M β m)
  unfold f_X1_change at h
  refine mj_iload_n C dX1_change_0 rfl ?_
  refine mj_iload_n C dX1_change_1 rfl ?_
  refine mj_icmp_eq (tgt := 62) C dX1_change_2 (by decide) (fun c1 => ?_) (fun c1 => ?_)
  · replace h := mj_if_t c1 h
    refine mj_iload_n C dX1_change_62 rfl ?_
    cases h
    exact mj_iret C hT (vp_nar_int _) dX1_change_63 ⟨rfl, rfl, mj_bi _⟩
  · replace h := mj_if_f c1 h
    refine mj_aload_n C dX1_change_5 rfl ?_
    refine mj_bget C lF_X1_15 (sL5 hB) rfl dX1_change_6 ?_
    refine mj_bipush (v := 80) C dX1_change_9 (by decide) ?_
    refine mj_icmp_ge (tgt := 62) C dX1_change_11 (by decide) (fun c2 => ?_) (fun c2 => ?_)
    · replace h := mj_if_t c2 h
      refine mj_iload_n C dX1_change_62 rfl ?_
      cases h
      exact mj_iret C hT (vp_nar_int _) dX1_change_63 ⟨rfl, rfl, mj_bi _⟩
    · replace h := mj_if_f c2 h
      refine mj_aload_n C dX1_change_14 rfl ?_
      refine mj_bget C lF_X1_15 (sL5 hB) rfl dX1_change_15 ?_
      refine mj_iconst (v := 3) C dX1_change_18 (by decide) ?_
      refine mj_imul C dX1_change_19 ?_
      obtain ⟨x3, hx3, h⟩ := mj_let_o h
      refine mj_nm hx3 ?_
      refine mj_istore_n (L2 := [some (mj_r (β, 5)), some (.inl a1), some (.inl a2), some (.inl x3)]) C dX1_change_20 (Nat.le_of_ble_eq_true rfl) rfl ?_
      refine mj_aload_n C dX1_change_21 rfl ?_
      refine mj_getr (r := (β, 6)) C lF_X1_11 (sL5 hB) rfl dX1_change_22 ?_
      refine mj_iload_n C dX1_change_25 rfl ?_
      refine mj_aload_n C dX1_change_26 rfl ?_
      refine mj_getr (r := (β, 1)) C lF_X1_31 (sL5 hB) rfl dX1_change_27 ?_
      refine mj_bget C lF_X1_35 (sL1 hB) rfl dX1_change_30 ?_
      obtain ⟨k4, h⟩ := mj_chk_o h
      obtain ⟨m5, hm5, h⟩ := mj_let_o h
      refine mj_bast C (sL6 hB) k4 rfl dX1_change_33 hm5 ?_
      refine mj_aload_n C dX1_change_34 rfl ?_
      refine mj_getr (r := (β, 6)) C lF_X1_11 (sL5 hB) rfl dX1_change_35 ?_
      refine mj_iload_n C dX1_change_38 rfl ?_
      refine mj_iconst (v := 1) C dX1_change_39 (by decide) ?_
      refine mj_iadd C dX1_change_40 ?_
      refine mj_iload_n C dX1_change_41 rfl ?_
      obtain ⟨k6, h⟩ := mj_chk_o h
      obtain ⟨m7, hm7, h⟩ := mj_let_o h
      refine mj_bast C (sL6 hB) k6 rfl dX1_change_42 hm7 ?_
      refine mj_aload_n C dX1_change_43 rfl ?_
      refine mj_getr (r := (β, 6)) C lF_X1_11 (sL5 hB) rfl dX1_change_44 ?_
      refine mj_iload_n C dX1_change_47 rfl ?_
      refine mj_iconst (v := 2) C dX1_change_48 (by decide) ?_
      refine mj_iadd C dX1_change_49 ?_
      refine mj_iload_n C dX1_change_50 rfl ?_
      obtain ⟨k8, h⟩ := mj_chk_o h
      obtain ⟨m9, hm9, h⟩ := mj_let_o h
      refine mj_bast C (sL6 hB) k8 rfl dX1_change_51 hm9 ?_
      refine mj_aload_n C dX1_change_52 rfl ?_
      refine mj_dup C dX1_change_53 ?_
      refine mj_bget C lF_X1_15 (sL5 hB) rfl dX1_change_54 ?_
      refine mj_iconst (v := 1) C dX1_change_57 (by decide) ?_
      refine mj_iadd C dX1_change_58 ?_
      obtain ⟨m10, hm10, h⟩ := mj_let_o h
      refine mj_bput C lF_X1_15 fP_2_2 (vp_nar_int _) rfl (sL5 hB) rfl dX1_change_59 hm10 ?_
      refine mj_iload_n C dX1_change_62 rfl ?_
      cases h
      exact mj_iret C hT (vp_nar_int _) dX1_change_63 ⟨rfl, rfl, mj_bi _⟩
def f_X1_cell (a1 : Int32) (a2 : Int32) (m : mj_m) : Option (Int32) := if a1 < 0 then (some (-1)) else (if m 5 2 ≤ a1 then (some (-1)) else (if 80 ≤ a1 then (some (-1)) else (if a2 < 0 then (some (-1)) else (if a2 < 3 then (mj_chk (mj_ok ((a1 * 3) + a2) 240) (some (m 6 (mj_cl ((a1 * 3) + a2))))) else (some (-1))))))
set_option maxHeartbeats 4000000 in
set_option maxRecDepth 20000 in
theorem C_X1_cell {G : mj_G} {β : Nat} {M : mj_M} {a1 : Int32} {a2 : Int32} {m : mj_m} {x0 : Int32} (hB : mj_isL G β) (h : f_X1_cell a1 a2 m = some x0) : mj_S1 yX1_cell cX1_cell 3 (some .int) 0 G [mj_r (β, 5), .inl a1, .inl a2] (va_up M β m) (some (.inl x0)) (va_up M β m) := by
  refine mj_intro (by decide) (Nat.le_of_ble_eq_true rfl) ?_
  intro κ C hG hR hT
  subst hG
  have C : mj_C κ cX1_cell 3 RX1 := C
  show mj_R κ (mj_F κ (fun r M' => r = (some (.inl x0)) ∧ M' = (va_up M β m) ∧ mj_bb (some .int) (some (.inl x0)))) 0 [some (mj_r (β, 5)), some (.inl a1), some (.inl a2)] [] (va_up M β m)
  unfold f_X1_cell at h
  refine mj_iload_n C dX1_cell_0 rfl ?_
  refine mj_if_lt (tgt := 27) C dX1_cell_1 (by decide) (fun c1 => ?_) (fun c1 => ?_)
  · replace h := mj_if_t c1 h
    refine mj_iconst (v := (-1)) C dX1_cell_27 (by decide) ?_
    cases h
    exact mj_iret C hT (vp_nar_int _) dX1_cell_28 ⟨rfl, rfl, mj_bi _⟩
  · replace h := mj_if_f c1 h
    refine mj_iload_n C dX1_cell_4 rfl ?_
    refine mj_aload_n C dX1_cell_5 rfl ?_
    refine mj_bget C lF_X1_15 (sL5 hB) rfl dX1_cell_6 ?_
    refine mj_icmp_ge (tgt := 27) C dX1_cell_9 (by decide) (fun c2 => ?_) (fun c2 => ?_)
    · replace h := mj_if_t c2 h
      refine mj_iconst (v := (-1)) C dX1_cell_27 (by decide) ?_
      cases h
      exact mj_iret C hT (vp_nar_int _) dX1_cell_28 ⟨rfl, rfl, mj_bi _⟩
    · replace h := mj_if_f c2 h
      refine mj_iload_n C dX1_cell_12 rfl ?_
      refine mj_bipush (v := 80) C dX1_cell_13 (by decide) ?_
      refine mj_icmp_ge (tgt := 27) C dX1_cell_15 (by decide) (fun c3 => ?_) (fun c3 => ?_)
      · replace h := mj_if_t c3 h
        refine mj_iconst (v := (-1)) C dX1_cell_27 (by decide) ?_
        cases h
        exact mj_iret C hT (vp_nar_int _) dX1_cell_28 ⟨rfl, rfl, mj_bi _⟩
      · replace h := mj_if_f c3 h
        refine mj_iload_n C dX1_cell_18 rfl ?_
        refine mj_if_lt (tgt := 27) C dX1_cell_19 (by decide) (fun c4 => ?_) (fun c4 => ?_)
        · replace h := mj_if_t c4 h
          refine mj_iconst (v := (-1)) C dX1_cell_27 (by decide) ?_
          cases h
          exact mj_iret C hT (vp_nar_int _) dX1_cell_28 ⟨rfl, rfl, mj_bi _⟩
        · replace h := mj_if_f c4 h
          refine mj_iload_n C dX1_cell_22 rfl ?_
          refine mj_iconst (v := 3) C dX1_cell_23 (by decide) ?_
          refine mj_icmp_lt (tgt := 29) C dX1_cell_24 (by decide) (fun c5 => ?_) (fun c5 => ?_)
          · replace h := mj_if_t c5 h
            refine mj_aload_n C dX1_cell_29 rfl ?_
            refine mj_getr (r := (β, 6)) C lF_X1_11 (sL5 hB) rfl dX1_cell_30 ?_
            refine mj_iload_n C dX1_cell_33 rfl ?_
            refine mj_iconst (v := 3) C dX1_cell_34 (by decide) ?_
            refine mj_imul C dX1_cell_35 ?_
            refine mj_iload_n C dX1_cell_36 rfl ?_
            refine mj_iadd C dX1_cell_37 ?_
            obtain ⟨k6, h⟩ := mj_chk_o h
            refine mj_bald C (sL6 hB) k6 rfl dX1_cell_38 ?_
            cases h
            exact mj_iret C hT (vp_nar_int _) dX1_cell_39 ⟨rfl, rfl, mj_bi _⟩
          · replace h := mj_if_f c5 h
            refine mj_iconst (v := (-1)) C dX1_cell_27 (by decide) ?_
            cases h
            exact mj_iret C hT (vp_nar_int _) dX1_cell_28 ⟨rfl, rfl, mj_bi _⟩
def f_X1_noteAlarm_J19 (l1 : Int32) (m : mj_m) : Option (mj_m) := mj_let (mj_wrs m 5 4 ((m 5 4) + 1)) (fun m1 => mj_let (mj_wrs m1 5 5 l1) (fun m2 => some m2))
set_option maxHeartbeats 4000000 in
set_option maxRecDepth 20000 in
theorem C_X1_noteAlarm_J19 {κ : mj_K} {β : Nat} {M : mj_M} {l1 : Int32} {m : mj_m} {m0 : mj_m} (C : mj_C κ cX1_noteAlarm 2 RX1) (hB : mj_isL (mj_g κ) β) (hR : mj_dp κ 0) (hT : mj_rt κ = none) (h : f_X1_noteAlarm_J19 l1 m = some m0) : mj_R κ (mj_F κ (fun r M' => r = none ∧ M' = (va_up M β m0) ∧ mj_bb none none)) 19 [some (mj_r (β, 5)), some (.inl l1)] [] (va_up M β m) := by
  unfold f_X1_noteAlarm_J19 at h
  refine mj_aload_n C dX1_noteAlarm_19 rfl ?_
  refine mj_dup C dX1_noteAlarm_20 ?_
  refine mj_bget C lF_X1_22 (sL5 hB) rfl dX1_noteAlarm_21 ?_
  refine mj_iconst (v := 1) C dX1_noteAlarm_24 (by decide) ?_
  refine mj_iadd C dX1_noteAlarm_25 ?_
  obtain ⟨m1, hm1, h⟩ := mj_let_o h
  refine mj_bput C lF_X1_22 fP_2_4 (vp_nar_int _) rfl (sL5 hB) rfl dX1_noteAlarm_26 hm1 ?_
  refine mj_aload_n C dX1_noteAlarm_29 rfl ?_
  refine mj_iload_n C dX1_noteAlarm_30 rfl ?_
  obtain ⟨m2, hm2, h⟩ := mj_let_o h
  refine mj_bput C lF_X1_25 fP_2_5 (vp_nar_int _) rfl (sL5 hB) rfl dX1_noteAlarm_31 hm2 ?_
  cases h
  exact mj_vret C hT dX1_noteAlarm_34 ⟨rfl, rfl, mj_bv _⟩
def f_X1_noteAlarm (a1 : Int32) (m : mj_m) : Option (mj_m) := if 60 ≤ m 5 4 then (f_X1_noteAlarm_J19 a1 m) else (mj_chk (mj_ok (m 5 4) 60) (mj_let (mj_wrs m 7 (mj_cl (m 5 4)) a1) (fun m5 => f_X1_noteAlarm_J19 a1 m5)))
set_option maxHeartbeats 4000000 in
set_option maxRecDepth 20000 in
theorem C_X1_noteAlarm {G : mj_G} {β : Nat} {M : mj_M} {a1 : Int32} {m : mj_m} {m0 : mj_m} (hB : mj_isL G β) (h : f_X1_noteAlarm a1 m = some m0) : mj_S1 yX1_noteAlarm cX1_noteAlarm 2 none 0 G [mj_r (β, 5), .inl a1] (va_up M β m) none (va_up M β m0) := by
  refine mj_intro (by decide) (Nat.le_of_ble_eq_true rfl) ?_
  intro κ C hG hR hT
  subst hG
  have C : mj_C κ cX1_noteAlarm 2 RX1 := C
  show mj_R κ (mj_F κ (fun r M' => r = none ∧ M' = (va_up M β m0) ∧ mj_bb none none)) 0 [some (mj_r (β, 5)), some (.inl a1)] [] (va_up M β m)
  unfold f_X1_noteAlarm at h
  refine mj_aload_n C dX1_noteAlarm_0 rfl ?_
  refine mj_bget C lF_X1_22 (sL5 hB) rfl dX1_noteAlarm_1 ?_
  refine mj_bipush (v := 60) C dX1_noteAlarm_4 (by decide) ?_
  refine mj_icmp_ge (tgt := 19) C dX1_noteAlarm_6 (by decide) (fun c3 => ?_) (fun c3 => ?_)
  · replace h := mj_if_t c3 h
    refine mj_sub (L' := [some (mj_r (β, 5)), some (.inl a1)]) ⟨rfl, ⟨rfl, trivial⟩⟩ ?_
    exact C_X1_noteAlarm_J19 C hB hR hT h
  · replace h := mj_if_f c3 h
    refine mj_aload_n C dX1_noteAlarm_9 rfl ?_
    refine mj_getr (r := (β, 7)) C lF_X1_19 (sL5 hB) rfl dX1_noteAlarm_10 ?_
    refine mj_aload_n C dX1_noteAlarm_13 rfl ?_
    refine mj_bget C lF_X1_22 (sL5 hB) rfl dX1_noteAlarm_14 ?_
    refine mj_iload_n C dX1_noteAlarm_17 rfl ?_
    obtain ⟨k4, h⟩ := mj_chk_o h
    obtain ⟨m5, hm5, h⟩ := mj_let_o h
    refine mj_bast C (sL7 hB) k4 rfl dX1_noteAlarm_18 hm5 ?_
    refine mj_sub (L' := [some (mj_r (β, 5)), some (.inl a1)]) ⟨rfl, ⟨rfl, trivial⟩⟩ ?_
    exact C_X1_noteAlarm_J19 C hB hR hT h
def f_X1_alarmAt (a1 : Int32) (m : mj_m) : Option (Int32) := if a1 < 0 then (some (-1)) else (if m 5 4 ≤ a1 then (some (-1)) else (if 60 ≤ a1 then (some (-1)) else (mj_chk (mj_ok a1 60) (some (m 7 (mj_cl a1))))))
set_option maxHeartbeats 4000000 in
set_option maxRecDepth 20000 in
theorem C_X1_alarmAt {G : mj_G} {β : Nat} {M : mj_M} {a1 : Int32} {m : mj_m} {x0 : Int32} (hB : mj_isL G β) (h : f_X1_alarmAt a1 m = some x0) : mj_S1 yX1_alarmAt cX1_alarmAt 2 (some .int) 0 G [mj_r (β, 5), .inl a1] (va_up M β m) (some (.inl x0)) (va_up M β m) := by
  refine mj_intro (by decide) (Nat.le_of_ble_eq_true rfl) ?_
  intro κ C hG hR hT
  subst hG
  have C : mj_C κ cX1_alarmAt 2 RX1 := C
  show mj_R κ (mj_F κ (fun r M' => r = (some (.inl x0)) ∧ M' = (va_up M β m) ∧ mj_bb (some .int) (some (.inl x0)))) 0 [some (mj_r (β, 5)), some (.inl a1)] [] (va_up M β m)
  unfold f_X1_alarmAt at h
  refine mj_iload_n C dX1_alarmAt_0 rfl ?_
  refine mj_if_lt (tgt := 27) C dX1_alarmAt_1 (by decide) (fun c1 => ?_) (fun c1 => ?_)
  · replace h := mj_if_t c1 h
    refine mj_iconst (v := (-1)) C dX1_alarmAt_27 (by decide) ?_
    cases h
    exact mj_iret C hT (vp_nar_int _) dX1_alarmAt_28 ⟨rfl, rfl, mj_bi _⟩
  · replace h := mj_if_f c1 h
    refine mj_iload_n C dX1_alarmAt_4 rfl ?_
    refine mj_aload_n C dX1_alarmAt_5 rfl ?_
    refine mj_bget C lF_X1_22 (sL5 hB) rfl dX1_alarmAt_6 ?_
    refine mj_icmp_ge (tgt := 27) C dX1_alarmAt_9 (by decide) (fun c2 => ?_) (fun c2 => ?_)
    · replace h := mj_if_t c2 h
      refine mj_iconst (v := (-1)) C dX1_alarmAt_27 (by decide) ?_
      cases h
      exact mj_iret C hT (vp_nar_int _) dX1_alarmAt_28 ⟨rfl, rfl, mj_bi _⟩
    · replace h := mj_if_f c2 h
      refine mj_iload_n C dX1_alarmAt_12 rfl ?_
      refine mj_bipush (v := 60) C dX1_alarmAt_13 (by decide) ?_
      refine mj_icmp_ge (tgt := 27) C dX1_alarmAt_15 (by decide) (fun c3 => ?_) (fun c3 => ?_)
      · replace h := mj_if_t c3 h
        refine mj_iconst (v := (-1)) C dX1_alarmAt_27 (by decide) ?_
        cases h
        exact mj_iret C hT (vp_nar_int _) dX1_alarmAt_28 ⟨rfl, rfl, mj_bi _⟩
      · replace h := mj_if_f c3 h
        refine mj_aload_n C dX1_alarmAt_18 rfl ?_
        refine mj_getr (r := (β, 7)) C lF_X1_19 (sL5 hB) rfl dX1_alarmAt_19 ?_
        refine mj_iload_n C dX1_alarmAt_22 rfl ?_
        obtain ⟨k4, h⟩ := mj_chk_o h
        refine mj_bald C (sL7 hB) k4 rfl dX1_alarmAt_23 ?_
        refine mj_goto (tgt := 28) C dX1_alarmAt_24 (by decide) ?_
        cases h
        exact mj_iret C hT (vp_nar_int _) dX1_alarmAt_28 ⟨rfl, rfl, mj_bi _⟩
def f_X1_noteVerdict (a1 : Int32) (m : mj_m) : Option (mj_m) := if a1 < 0 then (some m) else (if 9 ≤ a1 then (some m) else (mj_chk (mj_ok a1 9) (mj_chk (mj_ok a1 9) (mj_let (mj_wrs m 8 (mj_cl a1) ((m 8 (mj_cl a1)) + 1)) (fun m5 => some m5)))))
set_option maxHeartbeats 4000000 in
set_option maxRecDepth 20000 in
theorem C_X1_noteVerdict {G : mj_G} {β : Nat} {M : mj_M} {a1 : Int32} {m : mj_m} {m0 : mj_m} (hB : mj_isL G β) (h : f_X1_noteVerdict a1 m = some m0) : mj_S1 yX1_noteVerdict cX1_noteVerdict 2 none 0 G [mj_r (β, 5), .inl a1] (va_up M β m) none (va_up M β m0) := by
  refine mj_intro (by decide) (Nat.le_of_ble_eq_true rfl) ?_
  intro κ C hG hR hT
  subst hG
  have C : mj_C κ cX1_noteVerdict 2 RX1 := C
  show mj_R κ (mj_F κ (fun r M' => r = none ∧ M' = (va_up M β m0) ∧ mj_bb none none)) 0 [some (mj_r (β, 5)), some (.inl a1)] [] (va_up M β m)
  unfold f_X1_noteVerdict at h
  refine mj_iload_n C dX1_noteVerdict_0 rfl ?_
  refine mj_if_lt (tgt := 20) C dX1_noteVerdict_1 (by decide) (fun c1 => ?_) (fun c1 => ?_)
  · replace h := mj_if_t c1 h
    cases h
    exact mj_vret C hT dX1_noteVerdict_20 ⟨rfl, rfl, mj_bv _⟩
  · replace h := mj_if_f c1 h
    refine mj_iload_n C dX1_noteVerdict_4 rfl ?_
    refine mj_bipush (v := 9) C dX1_noteVerdict_5 (by decide) ?_
    refine mj_icmp_ge (tgt := 20) C dX1_noteVerdict_7 (by decide) (fun c2 => ?_) (fun c2 => ?_)
    · replace h := mj_if_t c2 h
      cases h
      exact mj_vret C hT dX1_noteVerdict_20 ⟨rfl, rfl, mj_bv _⟩
    · replace h := mj_if_f c2 h
      refine mj_aload_n C dX1_noteVerdict_10 rfl ?_
      refine mj_getr (r := (β, 8)) C lF_X1_28 (sL5 hB) rfl dX1_noteVerdict_11 ?_
      refine mj_iload_n C dX1_noteVerdict_14 rfl ?_
      refine mj_dup2 C dX1_noteVerdict_15 ?_
      obtain ⟨k3, h⟩ := mj_chk_o h
      refine mj_bald C (sL8 hB) k3 rfl dX1_noteVerdict_16 ?_
      refine mj_iconst (v := 1) C dX1_noteVerdict_17 (by decide) ?_
      refine mj_iadd C dX1_noteVerdict_18 ?_
      obtain ⟨k4, h⟩ := mj_chk_o h
      obtain ⟨m5, hm5, h⟩ := mj_let_o h
      refine mj_bast C (sL8 hB) k4 rfl dX1_noteVerdict_19 hm5 ?_
      cases h
      exact mj_vret C hT dX1_noteVerdict_20 ⟨rfl, rfl, mj_bv _⟩
def f_X1_copyFrom (o : mj_m) (m : mj_m) : Option (mj_m) := mj_let (mj_wrs m 5 2 (o 5 2)) (fun m1 => mj_chk (mj_cok 0 0 240 240 240) (mj_let (mj_cpo o m1 6 6 0 0 240) (fun m3 => mj_chk (mj_cok 0 0 60 60 60) (mj_let (mj_cpo o m3 7 7 0 0 60) (fun m5 => mj_let (mj_wrs m5 5 4 (o 5 4)) (fun m6 => mj_let (mj_wrs m6 5 5 (o 5 5)) (fun m7 => mj_chk (mj_cok 0 0 9 9 9) (mj_let (mj_cpo o m7 8 8 0 0 9) (fun m9 => some m9)))))))))
set_option maxHeartbeats 4000000 in
set_option maxRecDepth 20000 in
theorem C_X1_copyFrom {G : mj_G} {β : Nat} {γ : Nat} {o : mj_m} {M : mj_M} {m : mj_m} {m0 : mj_m} (hB : mj_isL G β) (hO : mj_isL G γ) (hne : γ ≠ β) (ho : M γ = o) (h : f_X1_copyFrom o m = some m0) : mj_S1 yX1_copyFrom cX1_copyFrom 2 none 1 G [mj_r (β, 5), mj_r (γ, 5)] (va_up M β m) none (va_up M β m0) := by
  refine mj_intro (by decide) (Nat.le_of_ble_eq_true rfl) ?_
  intro κ C hG hR hT
  subst hG
  have C : mj_C κ cX1_copyFrom 2 RX1 := C
  show mj_R κ (mj_F κ (fun r M' => r = none ∧ M' = (va_up M β m0) ∧ mj_bb none none)) 0 [some (mj_r (β, 5)), some (mj_r (γ, 5))] [] (va_up M β m)
  unfold f_X1_copyFrom at h
  refine mj_aload_n C dX1_copyFrom_0 rfl ?_
  refine mj_aload_n C dX1_copyFrom_1 rfl ?_
  refine mj_oget C hne ho lF_X1_15 (sL5 hO) rfl dX1_copyFrom_2 ?_
  obtain ⟨m1, hm1, h⟩ := mj_let_o h
  refine mj_bput C lF_X1_15 fP_2_2 (vp_nar_int _) rfl (sL5 hB) rfl dX1_copyFrom_5 hm1 ?_
  refine mj_aload_n C dX1_copyFrom_8 rfl ?_
  refine mj_getr (r := (γ, 6)) C lF_X1_11 (sL5 hO) rfl dX1_copyFrom_9 ?_
  refine mj_iconst (v := 0) C dX1_copyFrom_12 (by decide) ?_
  refine mj_aload_n C dX1_copyFrom_13 rfl ?_
  refine mj_getr (r := (β, 6)) C lF_X1_11 (sL5 hB) rfl dX1_copyFrom_14 ?_
  refine mj_iconst (v := 0) C dX1_copyFrom_17 (by decide) ?_
  refine mj_sipush (v := 240) C dX1_copyFrom_18 (by decide) ?_
  obtain ⟨k2, h⟩ := mj_chk_o h
  obtain ⟨m3, hm3, h⟩ := mj_let_o h
  refine mj_ocopy C hne ho lM_X1_40 rfl (sL6 hO) (sL6 hB) k2 (mj_rmc hR (by decide)) (Nat.le_of_ble_eq_true rfl) dX1_copyFrom_21 hm3 ?_
  refine mj_aload_n C dX1_copyFrom_24 rfl ?_
  refine mj_getr (r := (γ, 7)) C lF_X1_19 (sL5 hO) rfl dX1_copyFrom_25 ?_
  refine mj_iconst (v := 0) C dX1_copyFrom_28 (by decide) ?_
  refine mj_aload_n C dX1_copyFrom_29 rfl ?_
  refine mj_getr (r := (β, 7)) C lF_X1_19 (sL5 hB) rfl dX1_copyFrom_30 ?_
  refine mj_iconst (v := 0) C dX1_copyFrom_33 (by decide) ?_
  refine mj_bipush (v := 60) C dX1_copyFrom_34 (by decide) ?_
  obtain ⟨k4, h⟩ := mj_chk_o h
  obtain ⟨m5, hm5, h⟩ := mj_let_o h
  refine mj_ocopy C hne ho lM_X1_40 rfl (sL7 hO) (sL7 hB) k4 (mj_rmc hR (by decide)) (Nat.le_of_ble_eq_true rfl) dX1_copyFrom_36 hm5 ?_
  refine mj_aload_n C dX1_copyFrom_39 rfl ?_
  refine mj_aload_n C dX1_copyFrom_40 rfl ?_
  refine mj_oget C hne ho lF_X1_22 (sL5 hO) rfl dX1_copyFrom_41 ?_
  obtain ⟨m6, hm6, h⟩ := mj_let_o h
  refine mj_bput C lF_X1_22 fP_2_4 (vp_nar_int _) rfl (sL5 hB) rfl dX1_copyFrom_44 hm6 ?_
  refine mj_aload_n C dX1_copyFrom_47 rfl ?_
  refine mj_aload_n C dX1_copyFrom_48 rfl ?_
  refine mj_oget C hne ho lF_X1_25 (sL5 hO) rfl dX1_copyFrom_49 ?_
  obtain ⟨m7, hm7, h⟩ := mj_let_o h
  refine mj_bput C lF_X1_25 fP_2_5 (vp_nar_int _) rfl (sL5 hB) rfl dX1_copyFrom_52 hm7 ?_
  refine mj_aload_n C dX1_copyFrom_55 rfl ?_
  refine mj_getr (r := (γ, 8)) C lF_X1_28 (sL5 hO) rfl dX1_copyFrom_56 ?_
  refine mj_iconst (v := 0) C dX1_copyFrom_59 (by decide) ?_
  refine mj_aload_n C dX1_copyFrom_60 rfl ?_
  refine mj_getr (r := (β, 8)) C lF_X1_28 (sL5 hB) rfl dX1_copyFrom_61 ?_
  refine mj_iconst (v := 0) C dX1_copyFrom_64 (by decide) ?_
  refine mj_bipush (v := 9) C dX1_copyFrom_65 (by decide) ?_
  obtain ⟨k8, h⟩ := mj_chk_o h
  obtain ⟨m9, hm9, h⟩ := mj_let_o h
  refine mj_ocopy C hne ho lM_X1_40 rfl (sL8 hO) (sL8 hB) k8 (mj_rmc hR (by decide)) (Nat.le_of_ble_eq_true rfl) dX1_copyFrom_67 hm9 ?_
  cases h
  exact mj_vret C hT dX1_copyFrom_70 ⟨rfl, rfl, mj_bv _⟩
def f_X2_has (a1 : Int32) (m : mj_m) : Int32 := if a1 < 0 then (0) else (if m 3 2 ≤ a1 then (0) else (if 100 ≤ a1 then (0) else (1)))
set_option maxHeartbeats 4000000 in
set_option maxRecDepth 20000 in
theorem C_X2_has {G : mj_G} {β : Nat} {M : mj_M} {a1 : Int32} {m : mj_m} {x0 : Int32} (hB : mj_isL G β) (h : f_X2_has a1 m = x0) : mj_S1 yX2_has cX2_has 2 (some .boolean) 0 G [mj_r (β, 3), .inl a1] (va_up M β m) (some (.inl x0)) (va_up M β m) := by
  refine mj_intro (by decide) (Nat.le_of_ble_eq_true rfl) ?_
  intro κ C hG hR hT
  subst hG
  have C : mj_C κ cX2_has 2 RX2 := C
  show mj_R κ (mj_F κ (fun r M' => r = (some (.inl x0)) ∧ M' = (va_up M β m) ∧ mj_bb (some .boolean) (some (.inl x0)))) 0 [some (mj_r (β, 3)), some (.inl a1)] [] (va_up M β m)
  unfold f_X2_has at h
  refine mj_iload_n C dX2_has_0 rfl ?_
  refine mj_if_lt (tgt := 22) C dX2_has_1 (by decide) (fun c1 => ?_) (fun c1 => ?_)
  · replace h := mj_if_t c1 h
    refine mj_iconst (v := 0) C dX2_has_22 (by decide) ?_
    cases h
    exact mj_iret C hT (mj_nb mj_b0) dX2_has_23 ⟨rfl, rfl, mj_b0⟩
  · replace h := mj_if_f c1 h
    refine mj_iload_n C dX2_has_4 rfl ?_
    refine mj_aload_n C dX2_has_5 rfl ?_
    refine mj_bget C lF_X2_15 (sL3 hB) rfl dX2_has_6 ?_
    refine mj_icmp_ge (tgt := 22) C dX2_has_9 (by decide) (fun c2 => ?_) (fun c2 => ?_)
    · replace h := mj_if_t c2 h
      refine mj_iconst (v := 0) C dX2_has_22 (by decide) ?_
      cases h
      exact mj_iret C hT (mj_nb mj_b0) dX2_has_23 ⟨rfl, rfl, mj_b0⟩
    · replace h := mj_if_f c2 h
      refine mj_iload_n C dX2_has_12 rfl ?_
      refine mj_bipush (v := 100) C dX2_has_13 (by decide) ?_
      refine mj_icmp_ge (tgt := 22) C dX2_has_15 (by decide) (fun c3 => ?_) (fun c3 => ?_)
      · replace h := mj_if_t c3 h
        refine mj_iconst (v := 0) C dX2_has_22 (by decide) ?_
        cases h
        exact mj_iret C hT (mj_nb mj_b0) dX2_has_23 ⟨rfl, rfl, mj_b0⟩
      · replace h := mj_if_f c3 h
        refine mj_iconst (v := 1) C dX2_has_18 (by decide) ?_
        refine mj_goto (tgt := 23) C dX2_has_19 (by decide) ?_
        cases h
        exact mj_iret C hT (mj_nb mj_b1') dX2_has_23 ⟨rfl, rfl, mj_b1'⟩
def f_X2_cell (a1 : Int32) (a2 : Int32) (m : mj_m) : Option (Int32) := mj_let (f_X2_has a1 m) (fun r1 => if r1 = 0 then (some (-1)) else (if a2 < 0 then (some (-1)) else (if a2 < 7 then (mj_chk (mj_ok ((a1 * 7) + a2) 700) (some (m 4 (mj_cl ((a1 * 7) + a2))))) else (some (-1)))))
set_option maxHeartbeats 4000000 in
set_option maxRecDepth 20000 in
theorem C_X2_cell {G : mj_G} {β : Nat} {M : mj_M} {a1 : Int32} {a2 : Int32} {m : mj_m} {x0 : Int32} (hB : mj_isL G β) (h : f_X2_cell a1 a2 m = some x0) : mj_S1 yX2_cell cX2_cell 3 (some .int) 1 G [mj_r (β, 3), .inl a1, .inl a2] (va_up M β m) (some (.inl x0)) (va_up M β m) := by
  refine mj_intro (by decide) (Nat.le_of_ble_eq_true rfl) ?_
  intro κ C hG hR hT
  subst hG
  have C : mj_C κ cX2_cell 3 RX2 := C
  show mj_R κ (mj_F κ (fun r M' => r = (some (.inl x0)) ∧ M' = (va_up M β m) ∧ mj_bb (some .int) (some (.inl x0)))) 0 [some (mj_r (β, 3)), some (.inl a1), some (.inl a2)] [] (va_up M β m)
  unfold f_X2_cell at h
  refine mj_aload_n C dX2_cell_0 rfl ?_
  refine mj_iload_n C dX2_cell_1 rfl ?_
  obtain ⟨r1, er1, h⟩ := mj_let_o h
  refine mj_callV1 (av := [.inl a1]) C lM_X2_32 lV_X2_has (sL3 hB) ⟨_, rfl, rfl⟩ rfl (C_X2_has hB er1) (mj_rmok hR (by decide) (by decide)) rfl (Nat.le_of_ble_eq_true rfl) dX2_cell_2 (fun hb2 => ?_)
  refine mj_if_eq (tgt := 18) C dX2_cell_5 (by decide) (fun c3 => ?_) (fun c3 => ?_)
  · replace h := mj_if_t c3 h
    refine mj_iconst (v := (-1)) C dX2_cell_18 (by decide) ?_
    cases h
    exact mj_iret C hT (vp_nar_int _) dX2_cell_19 ⟨rfl, rfl, mj_bi _⟩
  · replace h := mj_if_f c3 h
    refine mj_iload_n C dX2_cell_8 rfl ?_
    refine mj_if_lt (tgt := 18) C dX2_cell_9 (by decide) (fun c4 => ?_) (fun c4 => ?_)
    · replace h := mj_if_t c4 h
      refine mj_iconst (v := (-1)) C dX2_cell_18 (by decide) ?_
      cases h
      exact mj_iret C hT (vp_nar_int _) dX2_cell_19 ⟨rfl, rfl, mj_bi _⟩
    · replace h := mj_if_f c4 h
      refine mj_iload_n C dX2_cell_12 rfl ?_
      refine mj_bipush (v := 7) C dX2_cell_13 (by decide) ?_
      refine mj_icmp_lt (tgt := 20) C dX2_cell_15 (by decide) (fun c5 => ?_) (fun c5 => ?_)
      · replace h := mj_if_t c5 h
        refine mj_aload_n C dX2_cell_20 rfl ?_
        refine mj_getr (r := (β, 4)) C lF_X2_11 (sL3 hB) rfl dX2_cell_21 ?_
        refine mj_iload_n C dX2_cell_24 rfl ?_
        refine mj_bipush (v := 7) C dX2_cell_25 (by decide) ?_
        refine mj_imul C dX2_cell_27 ?_
        refine mj_iload_n C dX2_cell_28 rfl ?_
        refine mj_iadd C dX2_cell_29 ?_
        obtain ⟨k6, h⟩ := mj_chk_o h
        refine mj_bald C (sL4 hB) k6 rfl dX2_cell_30 ?_
        cases h
        exact mj_iret C hT (vp_nar_int _) dX2_cell_31 ⟨rfl, rfl, mj_bi _⟩
      · replace h := mj_if_f c5 h
        refine mj_iconst (v := (-1)) C dX2_cell_18 (by decide) ?_
        cases h
        exact mj_iret C hT (vp_nar_int _) dX2_cell_19 ⟨rfl, rfl, mj_bi _⟩
def f_X2_open (a1 : Int32) (m : mj_m) : Option (Int32 × mj_m) := mj_let (mj_wrs m 3 5 ((m 3 5) + 1)) (fun m1 => if m1 3 2 < 100 then (mj_let ((m1 3 2) * 7) (fun x3 => mj_chk (mj_ok (x3 + 0) 700) (mj_let (mj_wrs m1 4 (mj_cl (x3 + 0)) a1) (fun m5 => mj_chk (mj_ok (x3 + 1) 700) (mj_let (mj_wrs m5 4 (mj_cl (x3 + 1)) (m5 1 0)) (fun m7 => mj_chk (mj_ok (x3 + 2) 700) (mj_let (mj_wrs m7 4 (mj_cl (x3 + 2)) 0) (fun m9 => mj_chk (mj_ok (x3 + 3) 700) (mj_let (mj_wrs m9 4 (mj_cl (x3 + 3)) (-1)) (fun m11 => mj_chk (mj_ok (x3 + 4) 700) (mj_let (mj_wrs m11 4 (mj_cl (x3 + 4)) 0) (fun m13 => mj_chk (mj_ok (x3 + 5) 700) (mj_let (mj_wrs m13 4 (mj_cl (x3 + 5)) (-1)) (fun m15 => mj_chk (mj_ok (x3 + 6) 700) (mj_let (mj_wrs m15 4 (mj_cl (x3 + 6)) 0) (fun m17 => mj_let (mj_wrs m17 3 2 ((m17 3 2) + 1)) (fun m18 => some ((m18 3 2) - 1, m18)))))))))))))))))) else (some ((-1), m1)))
set_option maxHeartbeats 4000000 in
set_option maxRecDepth 20000 in
theorem C_X2_open {G : mj_G} {β : Nat} {M : mj_M} {a1 : Int32} {m : mj_m} {x0 : Int32} {m0 : mj_m} (hB : mj_isL G β) (h : f_X2_open a1 m = some (x0, m0)) : mj_S1 yX2_open cX2_open 3 (some .int) 0 G [mj_r (β, 3), .inl a1] (va_up M β m) (some (.inl x0)) (va_up M β m0) := by
  refine mj_intro (by decide) (Nat.le_of_ble_eq_true rfl) ?_
  intro κ C hG hR hT
  subst hG
  have C : mj_C κ cX2_open 3 RX2 := C
  show mj_R κ (mj_F κ (fun r M' => r = (some (.inl x0)) ∧ M' = (va_up M β m0) ∧ mj_bb (some .int) (some (.inl x0)))) 0 [some (mj_r (β, 3)), some (.inl a1), none] [] (va_up M β m)
  unfold f_X2_open at h
  refine mj_aload_n C dX2_open_0 rfl ?_
  refine mj_dup C dX2_open_1 ?_
  refine mj_bget C lF_X2_25 (sL3 hB) rfl dX2_open_2 ?_
  refine mj_iconst (v := 1) C dX2_open_5 (by decide) ?_
  refine mj_iadd C dX2_open_6 ?_
  obtain ⟨m1, hm1, h⟩ := mj_let_o h
  refine mj_bput C lF_X2_25 fP_3_5 (vp_nar_int _) rfl (sL3 hB) rfl dX2_open_7 hm1 ?_
  refine mj_aload_n C dX2_open_10 rfl ?_
  refine mj_bget C lF_X2_15 (sL3 hB) rfl dX2_open_11 ?_
  refine mj_bipush (v := 100) C dX2_open_14 (by decide) ?_
  refine mj_icmp_lt (tgt := 21) C dX2_open_16 (by decide) (fun c2 => ?_) (fun c2 => ?_)
  · replace h := mj_if_t c2 h
    refine mj_aload_n C dX2_open_21 rfl ?_
    refine mj_bget C lF_X2_15 (sL3 hB) rfl dX2_open_22 ?_
    refine mj_bipush (v := 7) C dX2_open_25 (by decide) ?_
    refine mj_imul C dX2_open_27 ?_
    obtain ⟨x3, hx3, h⟩ := mj_let_o h
    refine mj_nm hx3 ?_
    refine mj_istore_n (L2 := [some (mj_r (β, 3)), some (.inl a1), some (.inl x3)]) C dX2_open_28 (Nat.le_of_ble_eq_true rfl) rfl ?_
    refine mj_aload_n C dX2_open_29 rfl ?_
    refine mj_getr (r := (β, 4)) C lF_X2_11 (sL3 hB) rfl dX2_open_30 ?_
    refine mj_iload_n C dX2_open_33 rfl ?_
    refine mj_iconst (v := 0) C dX2_open_34 (by decide) ?_
    refine mj_iadd C dX2_open_35 ?_
    refine mj_iload_n C dX2_open_36 rfl ?_
    obtain ⟨k4, h⟩ := mj_chk_o h
    obtain ⟨m5, hm5, h⟩ := mj_let_o h
    refine mj_bast C (sL4 hB) k4 rfl dX2_open_37 hm5 ?_
    refine mj_aload_n C dX2_open_38 rfl ?_
    refine mj_getr (r := (β, 4)) C lF_X2_11 (sL3 hB) rfl dX2_open_39 ?_
    refine mj_iload_n C dX2_open_42 rfl ?_
    refine mj_iconst (v := 1) C dX2_open_43 (by decide) ?_
    refine mj_iadd C dX2_open_44 ?_
    refine mj_aload_n C dX2_open_45 rfl ?_
    refine mj_getr (r := (β, 1)) C lF_X2_28 (sL3 hB) rfl dX2_open_46 ?_
    refine mj_bget C lF_X2_36 (sL1 hB) rfl dX2_open_49 ?_
    obtain ⟨k6, h⟩ := mj_chk_o h
    obtain ⟨m7, hm7, h⟩ := mj_let_o h
    refine mj_bast C (sL4 hB) k6 rfl dX2_open_52 hm7 ?_
    refine mj_aload_n C dX2_open_53 rfl ?_
    refine mj_getr (r := (β, 4)) C lF_X2_11 (sL3 hB) rfl dX2_open_54 ?_
    refine mj_iload_n C dX2_open_57 rfl ?_
    refine mj_iconst (v := 2) C dX2_open_58 (by decide) ?_
    refine mj_iadd C dX2_open_59 ?_
    refine mj_iconst (v := 0) C dX2_open_60 (by decide) ?_
    obtain ⟨k8, h⟩ := mj_chk_o h
    obtain ⟨m9, hm9, h⟩ := mj_let_o h
    refine mj_bast C (sL4 hB) k8 rfl dX2_open_61 hm9 ?_
    refine mj_aload_n C dX2_open_62 rfl ?_
    refine mj_getr (r := (β, 4)) C lF_X2_11 (sL3 hB) rfl dX2_open_63 ?_
    refine mj_iload_n C dX2_open_66 rfl ?_
    refine mj_iconst (v := 3) C dX2_open_67 (by decide) ?_
    refine mj_iadd C dX2_open_68 ?_
    refine mj_iconst (v := (-1)) C dX2_open_69 (by decide) ?_
    obtain ⟨k10, h⟩ := mj_chk_o h
    obtain ⟨m11, hm11, h⟩ := mj_let_o h
    refine mj_bast C (sL4 hB) k10 rfl dX2_open_70 hm11 ?_
    refine mj_aload_n C dX2_open_71 rfl ?_
    refine mj_getr (r := (β, 4)) C lF_X2_11 (sL3 hB) rfl dX2_open_72 ?_
    refine mj_iload_n C dX2_open_75 rfl ?_
    refine mj_iconst (v := 4) C dX2_open_76 (by decide) ?_
    refine mj_iadd C dX2_open_77 ?_
    refine mj_iconst (v := 0) C dX2_open_78 (by decide) ?_
    obtain ⟨k12, h⟩ := mj_chk_o h
    obtain ⟨m13, hm13, h⟩ := mj_let_o h
    refine mj_bast C (sL4 hB) k12 rfl dX2_open_79 hm13 ?_
    refine mj_aload_n C dX2_open_80 rfl ?_
    refine mj_getr (r := (β, 4)) C lF_X2_11 (sL3 hB) rfl dX2_open_81 ?_
    refine mj_iload_n C dX2_open_84 rfl ?_
    refine mj_iconst (v := 5) C dX2_open_85 (by decide) ?_
    refine mj_iadd C dX2_open_86 ?_
    refine mj_iconst (v := (-1)) C dX2_open_87 (by decide) ?_
    obtain ⟨k14, h⟩ := mj_chk_o h
    obtain ⟨m15, hm15, h⟩ := mj_let_o h
    refine mj_bast C (sL4 hB) k14 rfl dX2_open_88 hm15 ?_
    refine mj_aload_n C dX2_open_89 rfl ?_
    refine mj_getr (r := (β, 4)) C lF_X2_11 (sL3 hB) rfl dX2_open_90 ?_
    refine mj_iload_n C dX2_open_93 rfl ?_
    refine mj_bipush (v := 6) C dX2_open_94 (by decide) ?_
    refine mj_iadd C dX2_open_96 ?_
    refine mj_iconst (v := 0) C dX2_open_97 (by decide) ?_
    obtain ⟨k16, h⟩ := mj_chk_o h
    obtain ⟨m17, hm17, h⟩ := mj_let_o h
    refine mj_bast C (sL4 hB) k16 rfl dX2_open_98 hm17 ?_
    refine mj_aload_n C dX2_open_99 rfl ?_
    refine mj_dup C dX2_open_100 ?_
    refine mj_bget C lF_X2_15 (sL3 hB) rfl dX2_open_101 ?_
    refine mj_iconst (v := 1) C dX2_open_104 (by decide) ?_
    refine mj_iadd C dX2_open_105 ?_
    obtain ⟨m18, hm18, h⟩ := mj_let_o h
    refine mj_bput C lF_X2_15 fP_3_2 (vp_nar_int _) rfl (sL3 hB) rfl dX2_open_106 hm18 ?_
    refine mj_aload_n C dX2_open_109 rfl ?_
    refine mj_bget C lF_X2_15 (sL3 hB) rfl dX2_open_110 ?_
    refine mj_iconst (v := 1) C dX2_open_113 (by decide) ?_
    refine mj_isub C dX2_open_114 ?_
    cases h
    exact mj_iret C hT (vp_nar_int _) dX2_open_115 ⟨rfl, rfl, mj_bi _⟩
  · replace h := mj_if_f c2 h
    refine mj_iconst (v := (-1)) C dX2_open_19 (by decide) ?_
    cases h
    exact mj_iret C hT (vp_nar_int _) dX2_open_20 ⟨rfl, rfl, mj_bi _⟩
def f_X2_noteWent_J40 (l2 : Int32) (m : mj_m) : Option (mj_m) := mj_chk (mj_ok (l2 + 2) 700) (mj_chk (mj_ok (l2 + 2) 700) (mj_let (mj_wrs m 4 (mj_cl (l2 + 2)) ((m 4 (mj_cl (l2 + 2))) + 1)) (fun m3 => mj_chk (mj_ok (l2 + 6) 700) (mj_let (mj_wrs m3 4 (mj_cl (l2 + 6)) 1) (fun m5 => some m5)))))
set_option maxHeartbeats 4000000 in
set_option maxRecDepth 20000 in
theorem C_X2_noteWent_J40 {κ : mj_K} {β : Nat} {M : mj_M} {l2 : Int32} {m : mj_m} {m0 : mj_m} (C : mj_C κ cX2_noteWent 3 RX2) (hB : mj_isL (mj_g κ) β) (hR : mj_dp κ 1) (hT : mj_rt κ = none) (h : f_X2_noteWent_J40 l2 m = some m0) : mj_R κ (mj_F κ (fun r M' => r = none ∧ M' = (va_up M β m0) ∧ mj_bb none none)) 40 [some (mj_r (β, 3)), none, some (.inl l2)] [] (va_up M β m) := by
  unfold f_X2_noteWent_J40 at h
  refine mj_aload_n C dX2_noteWent_40 rfl ?_
  refine mj_getr (r := (β, 4)) C lF_X2_11 (sL3 hB) rfl dX2_noteWent_41 ?_
  refine mj_iload_n C dX2_noteWent_44 rfl ?_
  refine mj_iconst (v := 2) C dX2_noteWent_45 (by decide) ?_
  refine mj_iadd C dX2_noteWent_46 ?_
  refine mj_dup2 C dX2_noteWent_47 ?_
  obtain ⟨k1, h⟩ := mj_chk_o h
  refine mj_bald C (sL4 hB) k1 rfl dX2_noteWent_48 ?_
  refine mj_iconst (v := 1) C dX2_noteWent_49 (by decide) ?_
  refine mj_iadd C dX2_noteWent_50 ?_
  obtain ⟨k2, h⟩ := mj_chk_o h
  obtain ⟨m3, hm3, h⟩ := mj_let_o h
  refine mj_bast C (sL4 hB) k2 rfl dX2_noteWent_51 hm3 ?_
  refine mj_aload_n C dX2_noteWent_52 rfl ?_
  refine mj_getr (r := (β, 4)) C lF_X2_11 (sL3 hB) rfl dX2_noteWent_53 ?_
  refine mj_iload_n C dX2_noteWent_56 rfl ?_
  refine mj_bipush (v := 6) C dX2_noteWent_57 (by decide) ?_
  refine mj_iadd C dX2_noteWent_59 ?_
  refine mj_iconst (v := 1) C dX2_noteWent_60 (by decide) ?_
  obtain ⟨k4, h⟩ := mj_chk_o h
  obtain ⟨m5, hm5, h⟩ := mj_let_o h
  refine mj_bast C (sL4 hB) k4 rfl dX2_noteWent_61 hm5 ?_
  cases h
  exact mj_vret C hT dX2_noteWent_62 ⟨rfl, rfl, mj_bv _⟩
def f_X2_noteWent (a1 : Int32) (m : mj_m) : Option (mj_m) := mj_let (f_X2_has a1 m) (fun r6 => if r6 = 0 then (some m) else (mj_let (a1 * 7) (fun x9 => mj_chk (mj_ok (x9 + 2) 700) (if m 4 (mj_cl (x9 + 2)) = 0 then (mj_chk (mj_ok (x9 + 3) 700) (mj_let (mj_wrs m 4 (mj_cl (x9 + 3)) (m 1 0)) (fun m13 => f_X2_noteWent_J40 x9 m13))) else (f_X2_noteWent_J40 x9 m)))))
set_option maxHeartbeats 4000000 in
set_option maxRecDepth 20000 in
theorem C_X2_noteWent {G : mj_G} {β : Nat} {M : mj_M} {a1 : Int32} {m : mj_m} {m0 : mj_m} (hB : mj_isL G β) (h : f_X2_noteWent a1 m = some m0) : mj_S1 yX2_noteWent cX2_noteWent 3 none 1 G [mj_r (β, 3), .inl a1] (va_up M β m) none (va_up M β m0) := by
  refine mj_intro (by decide) (Nat.le_of_ble_eq_true rfl) ?_
  intro κ C hG hR hT
  subst hG
  have C : mj_C κ cX2_noteWent 3 RX2 := C
  show mj_R κ (mj_F κ (fun r M' => r = none ∧ M' = (va_up M β m0) ∧ mj_bb none none)) 0 [some (mj_r (β, 3)), some (.inl a1), none] [] (va_up M β m)
  unfold f_X2_noteWent at h
  refine mj_aload_n C dX2_noteWent_0 rfl ?_
  refine mj_iload_n C dX2_noteWent_1 rfl ?_
  obtain ⟨r6, er6, h⟩ := mj_let_o h
  refine mj_callV1 (av := [.inl a1]) C lM_X2_32 lV_X2_has (sL3 hB) ⟨_, rfl, rfl⟩ rfl (C_X2_has hB er6) (mj_rmok hR (by decide) (by decide)) rfl (Nat.le_of_ble_eq_true rfl) dX2_noteWent_2 (fun hb7 => ?_)
  refine mj_if_ne (tgt := 9) C dX2_noteWent_5 (by decide) (fun c8 => ?_) (fun c8 => ?_)
  · replace h := mj_if_f c8 h
    refine mj_iload_n C dX2_noteWent_9 rfl ?_
    refine mj_bipush (v := 7) C dX2_noteWent_10 (by decide) ?_
    refine mj_imul C dX2_noteWent_12 ?_
    obtain ⟨x9, hx9, h⟩ := mj_let_o h
    refine mj_nm hx9 ?_
    refine mj_istore_n (L2 := [some (mj_r (β, 3)), some (.inl a1), some (.inl x9)]) C dX2_noteWent_13 (Nat.le_of_ble_eq_true rfl) rfl ?_
    refine mj_aload_n C dX2_noteWent_14 rfl ?_
    refine mj_getr (r := (β, 4)) C lF_X2_11 (sL3 hB) rfl dX2_noteWent_15 ?_
    refine mj_iload_n C dX2_noteWent_18 rfl ?_
    refine mj_iconst (v := 2) C dX2_noteWent_19 (by decide) ?_
    refine mj_iadd C dX2_noteWent_20 ?_
    obtain ⟨k10, h⟩ := mj_chk_o h
    refine mj_bald C (sL4 hB) k10 rfl dX2_noteWent_21 ?_
    refine mj_if_ne (tgt := 40) C dX2_noteWent_22 (by decide) (fun c11 => ?_) (fun c11 => ?_)
    · replace h := mj_if_f c11 h
      refine mj_sub (L' := [some (mj_r (β, 3)), none, some (.inl x9)]) ⟨rfl, ⟨rfl, trivial⟩⟩ ?_
      exact C_X2_noteWent_J40 C hB hR hT h
    · replace h := mj_if_t c11 h
      refine mj_aload_n C dX2_noteWent_25 rfl ?_
      refine mj_getr (r := (β, 4)) C lF_X2_11 (sL3 hB) rfl dX2_noteWent_26 ?_
      refine mj_iload_n C dX2_noteWent_29 rfl ?_
      refine mj_iconst (v := 3) C dX2_noteWent_30 (by decide) ?_
      refine mj_iadd C dX2_noteWent_31 ?_
      refine mj_aload_n C dX2_noteWent_32 rfl ?_
      refine mj_getr (r := (β, 1)) C lF_X2_28 (sL3 hB) rfl dX2_noteWent_33 ?_
      refine mj_bget C lF_X2_36 (sL1 hB) rfl dX2_noteWent_36 ?_
      obtain ⟨k12, h⟩ := mj_chk_o h
      obtain ⟨m13, hm13, h⟩ := mj_let_o h
      refine mj_bast C (sL4 hB) k12 rfl dX2_noteWent_39 hm13 ?_
      refine mj_sub (L' := [some (mj_r (β, 3)), none, some (.inl x9)]) ⟨rfl, ⟨rfl, trivial⟩⟩ ?_
      exact C_X2_noteWent_J40 C hB hR hT h
  · replace h := mj_if_t c8 h
    cases h
    exact mj_vret C hT dX2_noteWent_8 ⟨rfl, rfl, mj_bv _⟩
def f_X2_noteTakenIn_J60 (l2 : Int32) (m : mj_m) : Option (mj_m) := mj_chk (mj_ok (l2 + 4) 700) (mj_chk (mj_ok (l2 + 4) 700) (mj_let (mj_wrs m 4 (mj_cl (l2 + 4)) ((m 4 (mj_cl (l2 + 4))) + 1)) (fun m3 => some m3)))
set_option maxHeartbeats 4000000 in
set_option maxRecDepth 20000 in
theorem C_X2_noteTakenIn_J60 {κ : mj_K} {β : Nat} {M : mj_M} {l2 : Int32} {m : mj_m} {m0 : mj_m} (C : mj_C κ cX2_noteTakenIn 3 RX2) (hB : mj_isL (mj_g κ) β) (hR : mj_dp κ 1) (hT : mj_rt κ = none) (h : f_X2_noteTakenIn_J60 l2 m = some m0) : mj_R κ (mj_F κ (fun r M' => r = none ∧ M' = (va_up M β m0) ∧ mj_bb none none)) 60 [some (mj_r (β, 3)), none, some (.inl l2)] [] (va_up M β m) := by
  unfold f_X2_noteTakenIn_J60 at h
  refine mj_aload_n C dX2_noteTakenIn_60 rfl ?_
  refine mj_getr (r := (β, 4)) C lF_X2_11 (sL3 hB) rfl dX2_noteTakenIn_61 ?_
  refine mj_iload_n C dX2_noteTakenIn_64 rfl ?_
  refine mj_iconst (v := 4) C dX2_noteTakenIn_65 (by decide) ?_
  refine mj_iadd C dX2_noteTakenIn_66 ?_
  refine mj_dup2 C dX2_noteTakenIn_67 ?_
  obtain ⟨k1, h⟩ := mj_chk_o h
  refine mj_bald C (sL4 hB) k1 rfl dX2_noteTakenIn_68 ?_
  refine mj_iconst (v := 1) C dX2_noteTakenIn_69 (by decide) ?_
  refine mj_iadd C dX2_noteTakenIn_70 ?_
  obtain ⟨k2, h⟩ := mj_chk_o h
  obtain ⟨m3, hm3, h⟩ := mj_let_o h
  refine mj_bast C (sL4 hB) k2 rfl dX2_noteTakenIn_71 hm3 ?_
  cases h
  exact mj_vret C hT dX2_noteTakenIn_72 ⟨rfl, rfl, mj_bv _⟩
def f_X2_noteTakenIn (a1 : Int32) (m : mj_m) : Option (mj_m) := mj_let (f_X2_has a1 m) (fun r4 => if r4 = 0 then (some m) else (mj_let (a1 * 7) (fun x7 => mj_chk (mj_ok (x7 + 4) 700) (if m 4 (mj_cl (x7 + 4)) = 0 then (mj_chk (mj_ok (x7 + 5) 700) (mj_let (mj_wrs m 4 (mj_cl (x7 + 5)) (m 1 0)) (fun m11 => mj_chk (mj_ok a1 100) (mj_let (mj_wrs m11 46 (mj_cl a1) (m11 3 4)) (fun m13 => mj_let (mj_wrs m13 3 4 ((m13 3 4) + 1)) (fun m14 => f_X2_noteTakenIn_J60 x7 m14)))))) else (f_X2_noteTakenIn_J60 x7 m)))))
set_option maxHeartbeats 4000000 in
set_option maxRecDepth 20000 in
theorem C_X2_noteTakenIn {G : mj_G} {β : Nat} {M : mj_M} {a1 : Int32} {m : mj_m} {m0 : mj_m} (hB : mj_isL G β) (h : f_X2_noteTakenIn a1 m = some m0) : mj_S1 yX2_noteTakenIn cX2_noteTakenIn 3 none 1 G [mj_r (β, 3), .inl a1] (va_up M β m) none (va_up M β m0) := by
  refine mj_intro (by decide) (Nat.le_of_ble_eq_true rfl) ?_
  intro κ C hG hR hT
  subst hG
  have C : mj_C κ cX2_noteTakenIn 3 RX2 := C
  show mj_R κ (mj_F κ (fun r M' => r = none ∧ M' = (va_up M β m0) ∧ mj_bb none none)) 0 [some (mj_r (β, 3)), some (.inl a1), none] [] (va_up M β m)
  unfold f_X2_noteTakenIn at h
  refine mj_aload_n C dX2_noteTakenIn_0 rfl ?_
  refine mj_iload_n C dX2_noteTakenIn_1 rfl ?_
  obtain ⟨r4, er4, h⟩ := mj_let_o h
  refine mj_callV1 (av := [.inl a1]) C lM_X2_32 lV_X2_has (sL3 hB) ⟨_, rfl, rfl⟩ rfl (C_X2_has hB er4) (mj_rmok hR (by decide) (by decide)) rfl (Nat.le_of_ble_eq_true rfl) dX2_noteTakenIn_2 (fun hb5 => ?_)
  refine mj_if_ne (tgt := 9) C dX2_noteTakenIn_5 (by decide) (fun c6 => ?_) (fun c6 => ?_)
  · replace h := mj_if_f c6 h
    refine mj_iload_n C dX2_noteTakenIn_9 rfl ?_
    refine mj_bipush (v := 7) C dX2_noteTakenIn_10 (by decide) ?_
    refine mj_imul C dX2_noteTakenIn_12 ?_
    obtain ⟨x7, hx7, h⟩ := mj_let_o h
    refine mj_nm hx7 ?_
    refine mj_istore_n (L2 := [some (mj_r (β, 3)), some (.inl a1), some (.inl x7)]) C dX2_noteTakenIn_13 (Nat.le_of_ble_eq_true rfl) rfl ?_
    refine mj_aload_n C dX2_noteTakenIn_14 rfl ?_
    refine mj_getr (r := (β, 4)) C lF_X2_11 (sL3 hB) rfl dX2_noteTakenIn_15 ?_
    refine mj_iload_n C dX2_noteTakenIn_18 rfl ?_
    refine mj_iconst (v := 4) C dX2_noteTakenIn_19 (by decide) ?_
    refine mj_iadd C dX2_noteTakenIn_20 ?_
    obtain ⟨k8, h⟩ := mj_chk_o h
    refine mj_bald C (sL4 hB) k8 rfl dX2_noteTakenIn_21 ?_
    refine mj_if_ne (tgt := 60) C dX2_noteTakenIn_22 (by decide) (fun c9 => ?_) (fun c9 => ?_)
    · replace h := mj_if_f c9 h
      refine mj_sub (L' := [some (mj_r (β, 3)), none, some (.inl x7)]) ⟨rfl, ⟨rfl, trivial⟩⟩ ?_
      exact C_X2_noteTakenIn_J60 C hB hR hT h
    · replace h := mj_if_t c9 h
      refine mj_aload_n C dX2_noteTakenIn_25 rfl ?_
      refine mj_getr (r := (β, 4)) C lF_X2_11 (sL3 hB) rfl dX2_noteTakenIn_26 ?_
      refine mj_iload_n C dX2_noteTakenIn_29 rfl ?_
      refine mj_iconst (v := 5) C dX2_noteTakenIn_30 (by decide) ?_
      refine mj_iadd C dX2_noteTakenIn_31 ?_
      refine mj_aload_n C dX2_noteTakenIn_32 rfl ?_
      refine mj_getr (r := (β, 1)) C lF_X2_28 (sL3 hB) rfl dX2_noteTakenIn_33 ?_
      refine mj_bget C lF_X2_36 (sL1 hB) rfl dX2_noteTakenIn_36 ?_
      obtain ⟨k10, h⟩ := mj_chk_o h
      obtain ⟨m11, hm11, h⟩ := mj_let_o h
      refine mj_bast C (sL4 hB) k10 rfl dX2_noteTakenIn_39 hm11 ?_
      refine mj_aload_n C dX2_noteTakenIn_40 rfl ?_
      refine mj_getr (r := (β, 46)) C lF_X2_19 (sL3 hB) rfl dX2_noteTakenIn_41 ?_
      refine mj_iload_n C dX2_noteTakenIn_44 rfl ?_
      refine mj_aload_n C dX2_noteTakenIn_45 rfl ?_
      refine mj_bget C lF_X2_22 (sL3 hB) rfl dX2_noteTakenIn_46 ?_
      obtain ⟨k12, h⟩ := mj_chk_o h
      obtain ⟨m13, hm13, h⟩ := mj_let_o h
      refine mj_bast C (sL46 hB) k12 rfl dX2_noteTakenIn_49 hm13 ?_
      refine mj_aload_n C dX2_noteTakenIn_50 rfl ?_
      refine mj_dup C dX2_noteTakenIn_51 ?_
      refine mj_bget C lF_X2_22 (sL3 hB) rfl dX2_noteTakenIn_52 ?_
      refine mj_iconst (v := 1) C dX2_noteTakenIn_55 (by decide) ?_
      refine mj_iadd C dX2_noteTakenIn_56 ?_
      obtain ⟨m14, hm14, h⟩ := mj_let_o h
      refine mj_bput C lF_X2_22 fP_3_4 (vp_nar_int _) rfl (sL3 hB) rfl dX2_noteTakenIn_57 hm14 ?_
      refine mj_sub (L' := [some (mj_r (β, 3)), none, some (.inl x7)]) ⟨rfl, ⟨rfl, trivial⟩⟩ ?_
      exact C_X2_noteTakenIn_J60 C hB hR hT h
  · replace h := mj_if_t c6 h
    cases h
    exact mj_vret C hT dX2_noteTakenIn_8 ⟨rfl, rfl, mj_bv _⟩
def f_X2_lose_L2 (b : Nat) : Nat → Int32 → mj_m → Option (mj_m)
  | 0, _, _ => none
  | n + 1, l2, m => if m b 4 ≤ l2 then (some m) else (mj_chk (mj_ok l2 20) (mj_let (m (b + 3) (mj_cl l2)) (fun x3 => if x3 < 0 then (mj_let (l2 + 1) (fun x5 => f_X2_lose_L2 b n x5 m)) else (if 100 ≤ x3 then (mj_let (l2 + 1) (fun x7 => f_X2_lose_L2 b n x7 m)) else (mj_chk (mj_ok ((x3 * 7) + 6) 700) (mj_let (mj_wrs m 4 (mj_cl ((x3 * 7) + 6)) 3) (fun m9 => mj_let (l2 + 1) (fun x10 => f_X2_lose_L2 b n x10 m9))))))))
set_option maxHeartbeats 4000000 in
set_option maxRecDepth 20000 in
theorem C_X2_lose_L2 {κ : mj_K} {Q : State → Prop} {β : Nat} {M : mj_M} {b : Nat} (C : mj_C κ cX2_lose 4 RX2) (hB : mj_isL (mj_g κ) β) (hb : mj_isRow (mj_g κ) β b) (hR : mj_dp κ 0) : ∀ (n : Nat) (l2 : Int32) (m : mj_m) (mo : mj_m), f_X2_lose_L2 b n l2 m = some mo → (mj_R κ Q 46 [none, some (mj_r (β, b)), none, none] [] (va_up M β mo)) → mj_R κ Q 2 [some (mj_r (β, 3)), some (mj_r (β, b)), some (.inl l2), none] [] (va_up M β m) := by
  intro n
  induction n with
  | zero =>
    intro l2 m mo h
    cases h
  | succ n ih =>
    intro l2 m mo h hx46
    rw [f_X2_lose_L2] at h
    refine mj_iload_n C dX2_lose_2 rfl ?_
    refine mj_aload_n C dX2_lose_3 rfl ?_
    refine mj_bget C lF_X2_41 hb.1 rfl dX2_lose_4 ?_
    refine mj_icmp_ge (tgt := 46) C dX2_lose_7 (by decide) (fun c1 => ?_) (fun c1 => ?_)
    · replace h := mj_if_t c1 h
      cases h
      refine mj_sub ?_ (hx46)
      exact ⟨rfl, trivial⟩
    · replace h := mj_if_f c1 h
      refine mj_aload_n C dX2_lose_10 rfl ?_
      refine mj_getr (r := (β, (b + 3))) C lF_X2_44 hb.1 rfl dX2_lose_11 ?_
      refine mj_iload_n C dX2_lose_14 rfl ?_
      obtain ⟨k2, h⟩ := mj_chk_o h
      refine mj_bald C hb.2.2.2.1 k2 rfl dX2_lose_15 ?_
      obtain ⟨x3, hx3, h⟩ := mj_let_o h
      refine mj_nm hx3 ?_
      refine mj_istore_n (L2 := [some (mj_r (β, 3)), some (mj_r (β, b)), some (.inl l2), some (.inl x3)]) C dX2_lose_16 (Nat.le_of_ble_eq_true rfl) rfl ?_
      refine mj_iload_n C dX2_lose_17 rfl ?_
      refine mj_if_lt (tgt := 40) C dX2_lose_18 (by decide) (fun c4 => ?_) (fun c4 => ?_)
      · replace h := mj_if_t c4 h
        obtain ⟨x5, hx5, h⟩ := mj_let_o h
        refine mj_iinc (L2 := [some (mj_r (β, 3)), some (mj_r (β, b)), some (.inl x5), some (.inl x3)]) C dX2_lose_40 rfl hx5 rfl ?_
        refine mj_goto (tgt := 2) C dX2_lose_43 (by decide) ?_
        refine mj_sub (L' := [some (mj_r (β, 3)), some (mj_r (β, b)), some (.inl x5), none]) ⟨rfl, ⟨rfl, ⟨rfl, trivial⟩⟩⟩ ?_
        exact ih _ _ _ h hx46
      · replace h := mj_if_f c4 h
        refine mj_iload_n C dX2_lose_21 rfl ?_
        refine mj_bipush (v := 100) C dX2_lose_22 (by decide) ?_
        refine mj_icmp_ge (tgt := 40) C dX2_lose_24 (by decide) (fun c6 => ?_) (fun c6 => ?_)
        · replace h := mj_if_t c6 h
          obtain ⟨x7, hx7, h⟩ := mj_let_o h
          refine mj_iinc (L2 := [some (mj_r (β, 3)), some (mj_r (β, b)), some (.inl x7), some (.inl x3)]) C dX2_lose_40 rfl hx7 rfl ?_
          refine mj_goto (tgt := 2) C dX2_lose_43 (by decide) ?_
          refine mj_sub (L' := [some (mj_r (β, 3)), some (mj_r (β, b)), some (.inl x7), none]) ⟨rfl, ⟨rfl, ⟨rfl, trivial⟩⟩⟩ ?_
          exact ih _ _ _ h hx46
        · replace h := mj_if_f c6 h
          refine mj_aload_n C dX2_lose_27 rfl ?_
          refine mj_getr (r := (β, 4)) C lF_X2_11 (sL3 hB) rfl dX2_lose_28 ?_
          refine mj_iload_n C dX2_lose_31 rfl ?_
          refine mj_bipush (v := 7) C dX2_lose_32 (by decide) ?_
          refine mj_imul C dX2_lose_34 ?_
          refine mj_bipush (v := 6) C dX2_lose_35 (by decide) ?_
          refine mj_iadd C dX2_lose_37 ?_
          refine mj_iconst (v := 3) C dX2_lose_38 (by decide) ?_
          obtain ⟨k8, h⟩ := mj_chk_o h
          obtain ⟨m9, hm9, h⟩ := mj_let_o h
          refine mj_bast C (sL4 hB) k8 rfl dX2_lose_39 hm9 ?_
          obtain ⟨x10, hx10, h⟩ := mj_let_o h
          refine mj_iinc (L2 := [some (mj_r (β, 3)), some (mj_r (β, b)), some (.inl x10), some (.inl x3)]) C dX2_lose_40 rfl hx10 rfl ?_
          refine mj_goto (tgt := 2) C dX2_lose_43 (by decide) ?_
          refine mj_sub (L' := [some (mj_r (β, 3)), some (mj_r (β, b)), some (.inl x10), none]) ⟨rfl, ⟨rfl, ⟨rfl, trivial⟩⟩⟩ ?_
          exact ih _ _ _ h hx46
def f_X2_lose (b : Nat) (m : mj_m) : Option (mj_m) := mj_b1 (f_X2_lose_L2 b mj_fu 0 m) (fun m11 => mj_let (mj_wrs m11 b 4 0) (fun m13 => some m13))
set_option maxHeartbeats 4000000 in
set_option maxRecDepth 20000 in
theorem C_X2_lose {G : mj_G} {β : Nat} {M : mj_M} {b : Nat} {m : mj_m} {m0 : mj_m} (hB : mj_isL G β) (hb : mj_isRow G β b) (h : f_X2_lose b m = some m0) : mj_S1 yX2_lose cX2_lose 4 none 0 G [mj_r (β, 3), mj_r (β, b)] (va_up M β m) none (va_up M β m0) := by
  refine mj_intro (by decide) (Nat.le_of_ble_eq_true rfl) ?_
  intro κ C hG hR hT
  subst hG
  have C : mj_C κ cX2_lose 4 RX2 := C
  show mj_R κ (mj_F κ (fun r M' => r = none ∧ M' = (va_up M β m0) ∧ mj_bb none none)) 0 [some (mj_r (β, 3)), some (mj_r (β, b)), none, none] [] (va_up M β m)
  unfold f_X2_lose at h
  refine mj_iconst (v := 0) C dX2_lose_0 (by decide) ?_
  refine mj_istore_n (L2 := [some (mj_r (β, 3)), some (mj_r (β, b)), some (.inl 0), none]) C dX2_lose_1 (Nat.le_of_ble_eq_true rfl) rfl ?_
  obtain ⟨m11, hl12, h⟩ := mj_b1_o h
  refine mj_sub (L' := [some (mj_r (β, 3)), some (mj_r (β, b)), some (.inl 0), none]) ⟨rfl, ⟨rfl, ⟨rfl, trivial⟩⟩⟩ ?_
  refine C_X2_lose_L2 C hB hb hR _ _ _ _ hl12 ?_
  refine mj_aload_n C dX2_lose_46 rfl ?_
  refine mj_iconst (v := 0) C dX2_lose_47 (by decide) ?_
  obtain ⟨m13, hm13, h⟩ := mj_let_o h
  refine mj_bput C lF_X2_41 fP_8_4 (vp_nar_int _) rfl hb.1 rfl dX2_lose_48 hm13 ?_
  cases h
  exact mj_vret C hT dX2_lose_51 ⟨rfl, rfl, mj_bv _⟩
def f_X2_letGo_L2 (l2 : Int32) : Nat → Int32 → mj_m → Option (mj_m)
  | 0, _, _ => none
  | n + 1, l3, m => if l2 ≤ l3 then (some m) else (if m 23 4 ≤ l3 then (some m) else (mj_chk (mj_ok l3 20) (mj_let (m 26 (mj_cl l3)) (fun x4 => if x4 < 0 then (mj_let (l3 + 1) (fun x6 => f_X2_letGo_L2 l2 n x6 m)) else (if 100 ≤ x4 then (mj_let (l3 + 1) (fun x8 => f_X2_letGo_L2 l2 n x8 m)) else (mj_chk (mj_ok ((x4 * 7) + 6) 700) (mj_let (mj_wrs m 4 (mj_cl ((x4 * 7) + 6)) 2) (fun m10 => mj_let (l3 + 1) (fun x11 => f_X2_letGo_L2 l2 n x11 m10)))))))))
set_option maxHeartbeats 4000000 in
set_option maxRecDepth 20000 in
theorem C_X2_letGo_L2 {κ : mj_K} {Q : State → Prop} {β : Nat} {M : mj_M} {l2 : Int32} (C : mj_C κ cX2_letGo 5 RX2) (hB : mj_isL (mj_g κ) β) (hR : mj_dp κ 2) : ∀ (n : Nat) (l3 : Int32) (m : mj_m) (mo : mj_m), f_X2_letGo_L2 l2 n l3 m = some mo → (mj_R κ Q 55 [none, some (mj_r (β, 23)), some (.inl l2), none, none] [] (va_up M β mo)) → mj_R κ Q 2 [some (mj_r (β, 3)), some (mj_r (β, 23)), some (.inl l2), some (.inl l3), none] [] (va_up M β m) := by
  intro n
  induction n with
  | zero =>
    intro l3 m mo h
    cases h
  | succ n ih =>
    intro l3 m mo h hx55
    rw [f_X2_letGo_L2] at h
    refine mj_iload_n C dX2_letGo_2 rfl ?_
    refine mj_iload_n C dX2_letGo_3 rfl ?_
    refine mj_icmp_ge (tgt := 55) C dX2_letGo_4 (by decide) (fun c1 => ?_) (fun c1 => ?_)
    · replace h := mj_if_t c1 h
      cases h
      refine mj_sub ?_ (hx55)
      exact ⟨rfl, ⟨rfl, trivial⟩⟩
    · replace h := mj_if_f c1 h
      refine mj_iload_n C dX2_letGo_7 rfl ?_
      refine mj_aload_n C dX2_letGo_8 rfl ?_
      refine mj_bget C lF_X2_41 (sL23 hB) rfl dX2_letGo_9 ?_
      refine mj_icmp_ge (tgt := 55) C dX2_letGo_12 (by decide) (fun c2 => ?_) (fun c2 => ?_)
      · replace h := mj_if_t c2 h
        cases h
        refine mj_sub ?_ (hx55)
        exact ⟨rfl, ⟨rfl, trivial⟩⟩
      · replace h := mj_if_f c2 h
        refine mj_aload_n C dX2_letGo_15 rfl ?_
        refine mj_getr (r := (β, 26)) C lF_X2_44 (sL23 hB) rfl dX2_letGo_16 ?_
        refine mj_iload_n C dX2_letGo_19 rfl ?_
        obtain ⟨k3, h⟩ := mj_chk_o h
        refine mj_bald C (sL26 hB) k3 rfl dX2_letGo_20 ?_
        obtain ⟨x4, hx4, h⟩ := mj_let_o h
        refine mj_nm hx4 ?_
        refine mj_istore (L2 := [some (mj_r (β, 3)), some (mj_r (β, 23)), some (.inl l2), some (.inl l3), some (.inl x4)]) C dX2_letGo_21 (Nat.le_of_ble_eq_true rfl) rfl ?_
        refine mj_iload C dX2_letGo_23 rfl ?_
        refine mj_if_lt (tgt := 49) C dX2_letGo_25 (by decide) (fun c5 => ?_) (fun c5 => ?_)
        · replace h := mj_if_t c5 h
          obtain ⟨x6, hx6, h⟩ := mj_let_o h
          refine mj_iinc (L2 := [some (mj_r (β, 3)), some (mj_r (β, 23)), some (.inl l2), some (.inl x6), some (.inl x4)]) C dX2_letGo_49 rfl hx6 rfl ?_
          refine mj_goto (tgt := 2) C dX2_letGo_52 (by decide) ?_
          refine mj_sub (L' := [some (mj_r (β, 3)), some (mj_r (β, 23)), some (.inl l2), some (.inl x6), none]) ⟨rfl, ⟨rfl, ⟨rfl, ⟨rfl, trivial⟩⟩⟩⟩ ?_
          exact ih _ _ _ h hx55
        · replace h := mj_if_f c5 h
          refine mj_iload C dX2_letGo_28 rfl ?_
          refine mj_bipush (v := 100) C dX2_letGo_30 (by decide) ?_
          refine mj_icmp_ge (tgt := 49) C dX2_letGo_32 (by decide) (fun c7 => ?_) (fun c7 => ?_)
          · replace h := mj_if_t c7 h
            obtain ⟨x8, hx8, h⟩ := mj_let_o h
            refine mj_iinc (L2 := [some (mj_r (β, 3)), some (mj_r (β, 23)), some (.inl l2), some (.inl x8), some (.inl x4)]) C dX2_letGo_49 rfl hx8 rfl ?_
            refine mj_goto (tgt := 2) C dX2_letGo_52 (by decide) ?_
            refine mj_sub (L' := [some (mj_r (β, 3)), some (mj_r (β, 23)), some (.inl l2), some (.inl x8), none]) ⟨rfl, ⟨rfl, ⟨rfl, ⟨rfl, trivial⟩⟩⟩⟩ ?_
            exact ih _ _ _ h hx55
          · replace h := mj_if_f c7 h
            refine mj_aload_n C dX2_letGo_35 rfl ?_
            refine mj_getr (r := (β, 4)) C lF_X2_11 (sL3 hB) rfl dX2_letGo_36 ?_
            refine mj_iload C dX2_letGo_39 rfl ?_
            refine mj_bipush (v := 7) C dX2_letGo_41 (by decide) ?_
            refine mj_imul C dX2_letGo_43 ?_
            refine mj_bipush (v := 6) C dX2_letGo_44 (by decide) ?_
            refine mj_iadd C dX2_letGo_46 ?_
            refine mj_iconst (v := 2) C dX2_letGo_47 (by decide) ?_
            obtain ⟨k9, h⟩ := mj_chk_o h
            obtain ⟨m10, hm10, h⟩ := mj_let_o h
            refine mj_bast C (sL4 hB) k9 rfl dX2_letGo_48 hm10 ?_
            obtain ⟨x11, hx11, h⟩ := mj_let_o h
            refine mj_iinc (L2 := [some (mj_r (β, 3)), some (mj_r (β, 23)), some (.inl l2), some (.inl x11), some (.inl x4)]) C dX2_letGo_49 rfl hx11 rfl ?_
            refine mj_goto (tgt := 2) C dX2_letGo_52 (by decide) ?_
            refine mj_sub (L' := [some (mj_r (β, 3)), some (mj_r (β, 23)), some (.inl l2), some (.inl x11), none]) ⟨rfl, ⟨rfl, ⟨rfl, ⟨rfl, trivial⟩⟩⟩⟩ ?_
            exact ih _ _ _ h hx55
def f_X2_letGo_J55 (l2 : Int32) (m : mj_m) : Option (mj_m) := mj_b1 (f_X7_removeFirst 23 (if m 23 4 < l2 then m 23 4 else l2) m) (fun m12 => some m12)
set_option maxHeartbeats 4000000 in
set_option maxRecDepth 20000 in
theorem C_X2_letGo_J55 {κ : mj_K} {β : Nat} {M : mj_M} {l2 : Int32} {m : mj_m} {m0 : mj_m} (C : mj_C κ cX2_letGo 5 RX2) (hB : mj_isL (mj_g κ) β) (hR : mj_dp κ 2) (hT : mj_rt κ = none) (h : f_X2_letGo_J55 l2 m = some m0) : mj_R κ (mj_F κ (fun r M' => r = none ∧ M' = (va_up M β m0) ∧ mj_bb none none)) 55 [none, some (mj_r (β, 23)), some (.inl l2), none, none] [] (va_up M β m) := by
  unfold f_X2_letGo_J55 at h
  refine mj_aload_n C dX2_letGo_55 rfl ?_
  refine mj_iload_n C dX2_letGo_56 rfl ?_
  refine mj_aload_n C dX2_letGo_57 rfl ?_
  refine mj_bget C lF_X2_41 (sL23 hB) rfl dX2_letGo_58 ?_
  refine mj_imin C lM_X2_47 rfl (mj_rmc hR (by decide)) (Nat.le_of_ble_eq_true rfl) dX2_letGo_61 ?_
  obtain ⟨m12, em12, h⟩ := mj_b1_o h
  refine mj_callV0 (av := [.inl (if m 23 4 < l2 then m 23 4 else l2)]) C lM_X2_53 lV_X7_removeFirst (sL23 hB) ⟨_, rfl, rfl⟩ rfl (C_X7_removeFirst (sLr23 hB) em12) (mj_rmok hR (by decide) (by decide)) rfl (Nat.le_of_ble_eq_true rfl) dX2_letGo_64 ?_
  cases h
  exact mj_vret C hT dX2_letGo_67 ⟨rfl, rfl, mj_bv _⟩
def f_X2_letGo (a1 : Int32) (m : mj_m) : Option (mj_m) := mj_b1 (f_X2_letGo_L2 a1 mj_fu 0 m) (fun m14 => f_X2_letGo_J55 a1 m14)
set_option maxHeartbeats 4000000 in
set_option maxRecDepth 20000 in
theorem C_X2_letGo {G : mj_G} {β : Nat} {M : mj_M} {a1 : Int32} {m : mj_m} {m0 : mj_m} (hB : mj_isL G β) (h : f_X2_letGo a1 m = some m0) : mj_S1 yX2_letGo cX2_letGo 5 none 2 G [mj_r (β, 3), mj_r (β, 23), .inl a1] (va_up M β m) none (va_up M β m0) := by
  refine mj_intro (by decide) (Nat.le_of_ble_eq_true rfl) ?_
  intro κ C hG hR hT
  subst hG
  have C : mj_C κ cX2_letGo 5 RX2 := C
  show mj_R κ (mj_F κ (fun r M' => r = none ∧ M' = (va_up M β m0) ∧ mj_bb none none)) 0 [some (mj_r (β, 3)), some (mj_r (β, 23)), some (.inl a1), none, none] [] (va_up M β m)
  unfold f_X2_letGo at h
  refine mj_iconst (v := 0) C dX2_letGo_0 (by decide) ?_
  refine mj_istore_n (L2 := [some (mj_r (β, 3)), some (mj_r (β, 23)), some (.inl a1), some (.inl 0), none]) C dX2_letGo_1 (Nat.le_of_ble_eq_true rfl) rfl ?_
  obtain ⟨m14, hl15, h⟩ := mj_b1_o h
  refine mj_sub (L' := [some (mj_r (β, 3)), some (mj_r (β, 23)), some (.inl a1), some (.inl 0), none]) ⟨rfl, ⟨rfl, ⟨rfl, ⟨rfl, trivial⟩⟩⟩⟩ ?_
  refine C_X2_letGo_L2 C hB hR _ _ _ _ hl15 ?_
  refine mj_sub (L' := [none, some (mj_r (β, 23)), some (.inl a1), none, none]) ⟨rfl, ⟨rfl, trivial⟩⟩ ?_
  exact C_X2_letGo_J55 C hB hR hT h
def f_X2_howManyReach_L5 (l1 : Int32) (l2 : Int32) : Nat → Int32 → Int32 → mj_m → Option (Int32)
  | 0, _, _, _ => none
  | n + 1, l3, l4, m => if m 3 2 ≤ l4 then (some l3) else (mj_b1 (f_X2_cell l4 l1 m) (fun r2 => if r2 < l2 then (mj_let (l4 + 1) (fun x5 => f_X2_howManyReach_L5 l1 l2 n l3 x5 m)) else (mj_let (l3 + 1) (fun x6 => mj_let (l4 + 1) (fun x7 => f_X2_howManyReach_L5 l1 l2 n x6 x7 m)))))
set_option maxHeartbeats 4000000 in
set_option maxRecDepth 20000 in
theorem C_X2_howManyReach_L5 {κ : mj_K} {Q : State → Prop} {β : Nat} {M : mj_M} {l1 : Int32} {l2 : Int32} (C : mj_C κ cX2_howManyReach 5 RX2) (hB : mj_isL (mj_g κ) β) (hR : mj_dp κ 2) : ∀ (n : Nat) (l3 : Int32) (l4 : Int32) (m : mj_m) (o3 : Int32), f_X2_howManyReach_L5 l1 l2 n l3 l4 m = some o3 → (mj_R κ Q 34 [none, none, none, some (.inl o3), none] [] (va_up M β m)) → mj_R κ Q 5 [some (mj_r (β, 3)), some (.inl l1), some (.inl l2), some (.inl l3), some (.inl l4)] [] (va_up M β m) := by
  intro n
  induction n with
  | zero =>
    intro l3 l4 m o3 h
    cases h
  | succ n ih =>
    intro l3 l4 m o3 h hx34
    rw [f_X2_howManyReach_L5] at h
    refine mj_iload C dX2_howManyReach_5 rfl ?_
    refine mj_aload_n C dX2_howManyReach_7 rfl ?_
    refine mj_bget C lF_X2_15 (sL3 hB) rfl dX2_howManyReach_8 ?_
    refine mj_icmp_ge (tgt := 34) C dX2_howManyReach_11 (by decide) (fun c1 => ?_) (fun c1 => ?_)
    · replace h := mj_if_t c1 h
      cases h
      refine mj_sub ?_ (hx34)
      exact ⟨rfl, trivial⟩
    · replace h := mj_if_f c1 h
      refine mj_aload_n C dX2_howManyReach_14 rfl ?_
      refine mj_iload C dX2_howManyReach_15 rfl ?_
      refine mj_iload_n C dX2_howManyReach_17 rfl ?_
      obtain ⟨r2, er2, h⟩ := mj_b1_o h
      refine mj_callV1 (av := [.inl l4, .inl l1]) C lM_X2_57 lV_X2_cell (sL3 hB) ⟨_, rfl, rfl⟩ rfl (C_X2_cell hB er2) (mj_rmok hR (by decide) (by decide)) rfl (Nat.le_of_ble_eq_true rfl) dX2_howManyReach_18 (fun hb3 => ?_)
      refine mj_iload_n C dX2_howManyReach_21 rfl ?_
      refine mj_icmp_lt (tgt := 28) C dX2_howManyReach_22 (by decide) (fun c4 => ?_) (fun c4 => ?_)
      · replace h := mj_if_t c4 h
        obtain ⟨x5, hx5, h⟩ := mj_let_o h
        refine mj_iinc (L2 := [some (mj_r (β, 3)), some (.inl l1), some (.inl l2), some (.inl l3), some (.inl x5)]) C dX2_howManyReach_28 rfl hx5 rfl ?_
        refine mj_goto (tgt := 5) C dX2_howManyReach_31 (by decide) ?_
        refine mj_sub (L' := [some (mj_r (β, 3)), some (.inl l1), some (.inl l2), some (.inl l3), some (.inl x5)]) ⟨rfl, ⟨rfl, ⟨rfl, ⟨rfl, ⟨rfl, trivial⟩⟩⟩⟩⟩ ?_
        exact ih _ _ _ _ h hx34
      · replace h := mj_if_f c4 h
        obtain ⟨x6, hx6, h⟩ := mj_let_o h
        refine mj_iinc (L2 := [some (mj_r (β, 3)), some (.inl l1), some (.inl l2), some (.inl x6), some (.inl l4)]) C dX2_howManyReach_25 rfl hx6 rfl ?_
        obtain ⟨x7, hx7, h⟩ := mj_let_o h
        refine mj_iinc (L2 := [some (mj_r (β, 3)), some (.inl l1), some (.inl l2), some (.inl x6), some (.inl x7)]) C dX2_howManyReach_28 rfl hx7 rfl ?_
        refine mj_goto (tgt := 5) C dX2_howManyReach_31 (by decide) ?_
        refine mj_sub (L' := [some (mj_r (β, 3)), some (.inl l1), some (.inl l2), some (.inl x6), some (.inl x7)]) ⟨rfl, ⟨rfl, ⟨rfl, ⟨rfl, ⟨rfl, trivial⟩⟩⟩⟩⟩ ?_
        exact ih _ _ _ _ h hx34
def f_X2_howManyReach (a1 : Int32) (a2 : Int32) (m : mj_m) : Option (Int32) := mj_b1 (f_X2_howManyReach_L5 a1 a2 mj_fu 0 0 m) (fun x8 => some x8)
set_option maxHeartbeats 4000000 in
set_option maxRecDepth 20000 in
theorem C_X2_howManyReach {G : mj_G} {β : Nat} {M : mj_M} {a1 : Int32} {a2 : Int32} {m : mj_m} {x0 : Int32} (hB : mj_isL G β) (h : f_X2_howManyReach a1 a2 m = some x0) : mj_S1 yX2_howManyReach cX2_howManyReach 5 (some .int) 2 G [mj_r (β, 3), .inl a1, .inl a2] (va_up M β m) (some (.inl x0)) (va_up M β m) := by
  refine mj_intro (by decide) (Nat.le_of_ble_eq_true rfl) ?_
  intro κ C hG hR hT
  subst hG
  have C : mj_C κ cX2_howManyReach 5 RX2 := C
  show mj_R κ (mj_F κ (fun r M' => r = (some (.inl x0)) ∧ M' = (va_up M β m) ∧ mj_bb (some .int) (some (.inl x0)))) 0 [some (mj_r (β, 3)), some (.inl a1), some (.inl a2), none, none] [] (va_up M β m)
  unfold f_X2_howManyReach at h
  refine mj_iconst (v := 0) C dX2_howManyReach_0 (by decide) ?_
  refine mj_istore_n (L2 := [some (mj_r (β, 3)), some (.inl a1), some (.inl a2), some (.inl 0), none]) C dX2_howManyReach_1 (Nat.le_of_ble_eq_true rfl) rfl ?_
  refine mj_iconst (v := 0) C dX2_howManyReach_2 (by decide) ?_
  refine mj_istore (L2 := [some (mj_r (β, 3)), some (.inl a1), some (.inl a2), some (.inl 0), some (.inl 0)]) C dX2_howManyReach_3 (Nat.le_of_ble_eq_true rfl) rfl ?_
  obtain ⟨x8, hl9, h⟩ := mj_b1_o h
  refine mj_sub (L' := [some (mj_r (β, 3)), some (.inl a1), some (.inl a2), some (.inl 0), some (.inl 0)]) ⟨rfl, ⟨rfl, ⟨rfl, ⟨rfl, ⟨rfl, trivial⟩⟩⟩⟩⟩ ?_
  refine C_X2_howManyReach_L5 C hB hR _ _ _ _ _ hl9 ?_
  refine mj_iload_n C dX2_howManyReach_34 rfl ?_
  cases h
  exact mj_iret C hT (vp_nar_int _) dX2_howManyReach_35 ⟨rfl, rfl, mj_bi _⟩
def f_X2_waitOf (a1 : Int32) (m : mj_m) : Option (Int32) := mj_b1 (f_X2_cell a1 5 m) (fun r1 => if r1 = (-1) then (some (-1)) else (mj_b1 (f_X2_cell a1 1 m) (fun r4 => some (r1 - r4))))
set_option maxHeartbeats 4000000 in
set_option maxRecDepth 20000 in
theorem C_X2_waitOf {G : mj_G} {β : Nat} {M : mj_M} {a1 : Int32} {m : mj_m} {x0 : Int32} (hB : mj_isL G β) (h : f_X2_waitOf a1 m = some x0) : mj_S1 yX2_waitOf cX2_waitOf 3 (some .int) 2 G [mj_r (β, 3), .inl a1] (va_up M β m) (some (.inl x0)) (va_up M β m) := by
  refine mj_intro (by decide) (Nat.le_of_ble_eq_true rfl) ?_
  intro κ C hG hR hT
  subst hG
  have C : mj_C κ cX2_waitOf 3 RX2 := C
  show mj_R κ (mj_F κ (fun r M' => r = (some (.inl x0)) ∧ M' = (va_up M β m) ∧ mj_bb (some .int) (some (.inl x0)))) 0 [some (mj_r (β, 3)), some (.inl a1), none] [] (va_up M β m)
  unfold f_X2_waitOf at h
  refine mj_aload_n C dX2_waitOf_0 rfl ?_
  refine mj_iload_n C dX2_waitOf_1 rfl ?_
  refine mj_iconst (v := 5) C dX2_waitOf_2 (by decide) ?_
  obtain ⟨r1, er1, h⟩ := mj_b1_o h
  refine mj_callV1 (av := [.inl a1, .inl 5]) C lM_X2_57 lV_X2_cell (sL3 hB) ⟨_, rfl, rfl⟩ rfl (C_X2_cell hB er1) (mj_rmok hR (by decide) (by decide)) rfl (Nat.le_of_ble_eq_true rfl) dX2_waitOf_3 (fun hb2 => ?_)
  refine mj_istore_n (L2 := [some (mj_r (β, 3)), some (.inl a1), some (.inl r1)]) C dX2_waitOf_6 (Nat.le_of_ble_eq_true rfl) rfl ?_
  refine mj_iload_n C dX2_waitOf_7 rfl ?_
  refine mj_iconst (v := (-1)) C dX2_waitOf_8 (by decide) ?_
  refine mj_icmp_ne (tgt := 16) C dX2_waitOf_9 (by decide) (fun c3 => ?_) (fun c3 => ?_)
  · replace h := mj_if_f c3 h
    refine mj_iload_n C dX2_waitOf_16 rfl ?_
    refine mj_aload_n C dX2_waitOf_17 rfl ?_
    refine mj_iload_n C dX2_waitOf_18 rfl ?_
    refine mj_iconst (v := 1) C dX2_waitOf_19 (by decide) ?_
    obtain ⟨r4, er4, h⟩ := mj_b1_o h
    refine mj_callV1 (av := [.inl a1, .inl 1]) C lM_X2_57 lV_X2_cell (sL3 hB) ⟨_, rfl, rfl⟩ rfl (C_X2_cell hB er4) (mj_rmok hR (by decide) (by decide)) rfl (Nat.le_of_ble_eq_true rfl) dX2_waitOf_20 (fun hb5 => ?_)
    refine mj_isub C dX2_waitOf_23 ?_
    cases h
    exact mj_iret C hT (vp_nar_int _) dX2_waitOf_24 ⟨rfl, rfl, mj_bi _⟩
  · replace h := mj_if_t c3 h
    refine mj_iconst (v := (-1)) C dX2_waitOf_12 (by decide) ?_
    refine mj_goto (tgt := 24) C dX2_waitOf_13 (by decide) ?_
    cases h
    exact mj_iret C hT (vp_nar_int _) dX2_waitOf_24 ⟨rfl, rfl, mj_bi _⟩
def f_X2_longestWait_L4 : Nat → Int32 → Int32 → mj_m → Option (Int32)
  | 0, _, _, _ => none
  | n + 1, l1, l2, m => if m 3 2 ≤ l2 then (some l1) else (mj_b1 (f_X2_waitOf l2 m) (fun r2 => mj_let (if l1 < r2 then r2 else l1) (fun x4 => mj_let (l2 + 1) (fun x5 => f_X2_longestWait_L4 n x4 x5 m))))
set_option maxHeartbeats 4000000 in
set_option maxRecDepth 20000 in
theorem C_X2_longestWait_L4 {κ : mj_K} {Q : State → Prop} {β : Nat} {M : mj_M} (C : mj_C κ cX2_longestWait 3 RX2) (hB : mj_isL (mj_g κ) β) (hR : mj_dp κ 3) : ∀ (n : Nat) (l1 : Int32) (l2 : Int32) (m : mj_m) (o1 : Int32), f_X2_longestWait_L4 n l1 l2 m = some o1 → (mj_R κ Q 28 [none, some (.inl o1), none] [] (va_up M β m)) → mj_R κ Q 4 [some (mj_r (β, 3)), some (.inl l1), some (.inl l2)] [] (va_up M β m) := by
  intro n
  induction n with
  | zero =>
    intro l1 l2 m o1 h
    cases h
  | succ n ih =>
    intro l1 l2 m o1 h hx28
    rw [f_X2_longestWait_L4] at h
    refine mj_iload_n C dX2_longestWait_4 rfl ?_
    refine mj_aload_n C dX2_longestWait_5 rfl ?_
    refine mj_bget C lF_X2_15 (sL3 hB) rfl dX2_longestWait_6 ?_
    refine mj_icmp_ge (tgt := 28) C dX2_longestWait_9 (by decide) (fun c1 => ?_) (fun c1 => ?_)
    · replace h := mj_if_t c1 h
      cases h
      refine mj_sub ?_ (hx28)
      exact ⟨rfl, trivial⟩
    · replace h := mj_if_f c1 h
      refine mj_iload_n C dX2_longestWait_12 rfl ?_
      refine mj_aload_n C dX2_longestWait_13 rfl ?_
      refine mj_iload_n C dX2_longestWait_14 rfl ?_
      obtain ⟨r2, er2, h⟩ := mj_b1_o h
      refine mj_callV1 (av := [.inl l2]) C lM_X2_60 lV_X2_waitOf (sL3 hB) ⟨_, rfl, rfl⟩ rfl (C_X2_waitOf hB er2) (mj_rmok hR (by decide) (by decide)) rfl (Nat.le_of_ble_eq_true rfl) dX2_longestWait_15 (fun hb3 => ?_)
      refine mj_imax C lM_X2_64 rfl (mj_rmc hR (by decide)) (Nat.le_of_ble_eq_true rfl) dX2_longestWait_18 ?_
      obtain ⟨x4, hx4, h⟩ := mj_let_o h
      refine mj_nm hx4 ?_
      refine mj_istore_n (L2 := [some (mj_r (β, 3)), some (.inl x4), some (.inl l2)]) C dX2_longestWait_21 (Nat.le_of_ble_eq_true rfl) rfl ?_
      obtain ⟨x5, hx5, h⟩ := mj_let_o h
      refine mj_iinc (L2 := [some (mj_r (β, 3)), some (.inl x4), some (.inl x5)]) C dX2_longestWait_22 rfl hx5 rfl ?_
      refine mj_goto (tgt := 4) C dX2_longestWait_25 (by decide) ?_
      refine mj_sub (L' := [some (mj_r (β, 3)), some (.inl x4), some (.inl x5)]) ⟨rfl, ⟨rfl, ⟨rfl, trivial⟩⟩⟩ ?_
      exact ih _ _ _ _ h hx28
def f_X2_longestWait (m : mj_m) : Option (Int32) := mj_b1 (f_X2_longestWait_L4 mj_fu (-1) 0 m) (fun x6 => some x6)
set_option maxHeartbeats 4000000 in
set_option maxRecDepth 20000 in
theorem C_X2_longestWait {G : mj_G} {β : Nat} {M : mj_M} {m : mj_m} {x0 : Int32} (hB : mj_isL G β) (h : f_X2_longestWait m = some x0) : mj_S1 yX2_longestWait cX2_longestWait 3 (some .int) 3 G [mj_r (β, 3)] (va_up M β m) (some (.inl x0)) (va_up M β m) := by
  refine mj_intro (by decide) (Nat.le_of_ble_eq_true rfl) ?_
  intro κ C hG hR hT
  subst hG
  have C : mj_C κ cX2_longestWait 3 RX2 := C
  show mj_R κ (mj_F κ (fun r M' => r = (some (.inl x0)) ∧ M' = (va_up M β m) ∧ mj_bb (some .int) (some (.inl x0)))) 0 [some (mj_r (β, 3)), none, none] [] (va_up M β m)
  unfold f_X2_longestWait at h
  refine mj_iconst (v := (-1)) C dX2_longestWait_0 (by decide) ?_
  refine mj_istore_n (L2 := [some (mj_r (β, 3)), some (.inl (-1)), none]) C dX2_longestWait_1 (Nat.le_of_ble_eq_true rfl) rfl ?_
  refine mj_iconst (v := 0) C dX2_longestWait_2 (by decide) ?_
  refine mj_istore_n (L2 := [some (mj_r (β, 3)), some (.inl (-1)), some (.inl 0)]) C dX2_longestWait_3 (Nat.le_of_ble_eq_true rfl) rfl ?_
  obtain ⟨x6, hl7, h⟩ := mj_b1_o h
  refine mj_sub (L' := [some (mj_r (β, 3)), some (.inl (-1)), some (.inl 0)]) ⟨rfl, ⟨rfl, ⟨rfl, trivial⟩⟩⟩ ?_
  refine C_X2_longestWait_L4 C hB hR _ _ _ _ _ hl7 ?_
  refine mj_iload_n C dX2_longestWait_28 rfl ?_
  cases h
  exact mj_iret C hT (vp_nar_int _) dX2_longestWait_29 ⟨rfl, rfl, mj_bi _⟩
def f_X2_allWaits_L4 : Nat → Int32 → Int32 → mj_m → Option (Int32)
  | 0, _, _, _ => none
  | n + 1, l1, l2, m => if m 3 2 ≤ l2 then (some l1) else (mj_b1 (f_X2_waitOf l2 m) (fun r2 => mj_let (l1 + (if 0 < r2 then r2 else 0)) (fun x4 => mj_let (l2 + 1) (fun x5 => f_X2_allWaits_L4 n x4 x5 m))))
set_option maxHeartbeats 4000000 in
set_option maxRecDepth 20000 in
theorem C_X2_allWaits_L4 {κ : mj_K} {Q : State → Prop} {β : Nat} {M : mj_M} (C : mj_C κ cX2_allWaits 3 RX2) (hB : mj_isL (mj_g κ) β) (hR : mj_dp κ 3) : ∀ (n : Nat) (l1 : Int32) (l2 : Int32) (m : mj_m) (o1 : Int32), f_X2_allWaits_L4 n l1 l2 m = some o1 → (mj_R κ Q 30 [none, some (.inl o1), none] [] (va_up M β m)) → mj_R κ Q 4 [some (mj_r (β, 3)), some (.inl l1), some (.inl l2)] [] (va_up M β m) := by
  intro n
  induction n with
  | zero =>
    intro l1 l2 m o1 h
    cases h
  | succ n ih =>
    intro l1 l2 m o1 h hx30
    rw [f_X2_allWaits_L4] at h
    refine mj_iload_n C dX2_allWaits_4 rfl ?_
    refine mj_aload_n C dX2_allWaits_5 rfl ?_
    refine mj_bget C lF_X2_15 (sL3 hB) rfl dX2_allWaits_6 ?_
    refine mj_icmp_ge (tgt := 30) C dX2_allWaits_9 (by decide) (fun c1 => ?_) (fun c1 => ?_)
    · replace h := mj_if_t c1 h
      cases h
      refine mj_sub ?_ (hx30)
      exact ⟨rfl, trivial⟩
    · replace h := mj_if_f c1 h
      refine mj_iload_n C dX2_allWaits_12 rfl ?_
      refine mj_iconst (v := 0) C dX2_allWaits_13 (by decide) ?_
      refine mj_aload_n C dX2_allWaits_14 rfl ?_
      refine mj_iload_n C dX2_allWaits_15 rfl ?_
      obtain ⟨r2, er2, h⟩ := mj_b1_o h
      refine mj_callV1 (av := [.inl l2]) C lM_X2_60 lV_X2_waitOf (sL3 hB) ⟨_, rfl, rfl⟩ rfl (C_X2_waitOf hB er2) (mj_rmok hR (by decide) (by decide)) rfl (Nat.le_of_ble_eq_true rfl) dX2_allWaits_16 (fun hb3 => ?_)
      refine mj_imax C lM_X2_64 rfl (mj_rmc hR (by decide)) (Nat.le_of_ble_eq_true rfl) dX2_allWaits_19 ?_
      refine mj_iadd C dX2_allWaits_22 ?_
      obtain ⟨x4, hx4, h⟩ := mj_let_o h
      refine mj_nm hx4 ?_
      refine mj_istore_n (L2 := [some (mj_r (β, 3)), some (.inl x4), some (.inl l2)]) C dX2_allWaits_23 (Nat.le_of_ble_eq_true rfl) rfl ?_
      obtain ⟨x5, hx5, h⟩ := mj_let_o h
      refine mj_iinc (L2 := [some (mj_r (β, 3)), some (.inl x4), some (.inl x5)]) C dX2_allWaits_24 rfl hx5 rfl ?_
      refine mj_goto (tgt := 4) C dX2_allWaits_27 (by decide) ?_
      refine mj_sub (L' := [some (mj_r (β, 3)), some (.inl x4), some (.inl x5)]) ⟨rfl, ⟨rfl, ⟨rfl, trivial⟩⟩⟩ ?_
      exact ih _ _ _ _ h hx30
def f_X2_allWaits (m : mj_m) : Option (Int32) := mj_b1 (f_X2_allWaits_L4 mj_fu 0 0 m) (fun x6 => some x6)
set_option maxHeartbeats 4000000 in
set_option maxRecDepth 20000 in
theorem C_X2_allWaits {G : mj_G} {β : Nat} {M : mj_M} {m : mj_m} {x0 : Int32} (hB : mj_isL G β) (h : f_X2_allWaits m = some x0) : mj_S1 yX2_allWaits cX2_allWaits 3 (some .int) 3 G [mj_r (β, 3)] (va_up M β m) (some (.inl x0)) (va_up M β m) := by
  refine mj_intro (by decide) (Nat.le_of_ble_eq_true rfl) ?_
  intro κ C hG hR hT
  subst hG
  have C : mj_C κ cX2_allWaits 3 RX2 := C
  show mj_R κ (mj_F κ (fun r M' => r = (some (.inl x0)) ∧ M' = (va_up M β m) ∧ mj_bb (some .int) (some (.inl x0)))) 0 [some (mj_r (β, 3)), none, none] [] (va_up M β m)
  unfold f_X2_allWaits at h
  refine mj_iconst (v := 0) C dX2_allWaits_0 (by decide) ?_
  refine mj_istore_n (L2 := [some (mj_r (β, 3)), some (.inl 0), none]) C dX2_allWaits_1 (Nat.le_of_ble_eq_true rfl) rfl ?_
  refine mj_iconst (v := 0) C dX2_allWaits_2 (by decide) ?_
  refine mj_istore_n (L2 := [some (mj_r (β, 3)), some (.inl 0), some (.inl 0)]) C dX2_allWaits_3 (Nat.le_of_ble_eq_true rfl) rfl ?_
  obtain ⟨x6, hl7, h⟩ := mj_b1_o h
  refine mj_sub (L' := [some (mj_r (β, 3)), some (.inl 0), some (.inl 0)]) ⟨rfl, ⟨rfl, ⟨rfl, trivial⟩⟩⟩ ?_
  refine C_X2_allWaits_L4 C hB hR _ _ _ _ _ hl7 ?_
  refine mj_iload_n C dX2_allWaits_30 rfl ?_
  cases h
  exact mj_iret C hT (vp_nar_int _) dX2_allWaits_31 ⟨rfl, rfl, mj_bi _⟩
def f_X2_howManyVanished_L4 : Nat → Int32 → Int32 → mj_m → Option (Int32)
  | 0, _, _, _ => none
  | n + 1, l1, l2, m => if m 3 2 ≤ l2 then (some l1) else (mj_b1 (f_X2_cell l2 6 m) (fun r2 => if r2 = 2 then (mj_b1 (f_X2_cell l2 4 m) (fun r6 => if r6 = 0 then (mj_let (l1 + 1) (fun x10 => mj_let (l2 + 1) (fun x11 => f_X2_howManyVanished_L4 n x10 x11 m))) else (mj_let (l2 + 1) (fun x9 => f_X2_howManyVanished_L4 n l1 x9 m)))) else (mj_let (l2 + 1) (fun x5 => f_X2_howManyVanished_L4 n l1 x5 m))))
set_option maxHeartbeats 4000000 in
set_option maxRecDepth 20000 in
theorem C_X2_howManyVanished_L4 {κ : mj_K} {Q : State → Prop} {β : Nat} {M : mj_M} (C : mj_C κ cX2_howManyVanished 3 RX2) (hB : mj_isL (mj_g κ) β) (hR : mj_dp κ 2) : ∀ (n : Nat) (l1 : Int32) (l2 : Int32) (m : mj_m) (o1 : Int32), f_X2_howManyVanished_L4 n l1 l2 m = some o1 → (mj_R κ Q 41 [none, some (.inl o1), none] [] (va_up M β m)) → mj_R κ Q 4 [some (mj_r (β, 3)), some (.inl l1), some (.inl l2)] [] (va_up M β m) := by
  intro n
  induction n with
  | zero =>
    intro l1 l2 m o1 h
    cases h
  | succ n ih =>
    intro l1 l2 m o1 h hx41
    rw [f_X2_howManyVanished_L4] at h
    refine mj_iload_n C dX2_howManyVanished_4 rfl ?_
    refine mj_aload_n C dX2_howManyVanished_5 rfl ?_
    refine mj_bget C lF_X2_15 (sL3 hB) rfl dX2_howManyVanished_6 ?_
    refine mj_icmp_ge (tgt := 41) C dX2_howManyVanished_9 (by decide) (fun c1 => ?_) (fun c1 => ?_)
    · replace h := mj_if_t c1 h
      cases h
      refine mj_sub ?_ (hx41)
      exact ⟨rfl, trivial⟩
    · replace h := mj_if_f c1 h
      refine mj_aload_n C dX2_howManyVanished_12 rfl ?_
      refine mj_iload_n C dX2_howManyVanished_13 rfl ?_
      refine mj_bipush (v := 6) C dX2_howManyVanished_14 (by decide) ?_
      obtain ⟨r2, er2, h⟩ := mj_b1_o h
      refine mj_callV1 (av := [.inl l2, .inl 6]) C lM_X2_57 lV_X2_cell (sL3 hB) ⟨_, rfl, rfl⟩ rfl (C_X2_cell hB er2) (mj_rmok hR (by decide) (by decide)) rfl (Nat.le_of_ble_eq_true rfl) dX2_howManyVanished_16 (fun hb3 => ?_)
      refine mj_iconst (v := 2) C dX2_howManyVanished_19 (by decide) ?_
      refine mj_icmp_ne (tgt := 35) C dX2_howManyVanished_20 (by decide) (fun c4 => ?_) (fun c4 => ?_)
      · replace h := mj_if_f c4 h
        obtain ⟨x5, hx5, h⟩ := mj_let_o h
        refine mj_iinc (L2 := [some (mj_r (β, 3)), some (.inl l1), some (.inl x5)]) C dX2_howManyVanished_35 rfl hx5 rfl ?_
        refine mj_goto (tgt := 4) C dX2_howManyVanished_38 (by decide) ?_
        refine mj_sub (L' := [some (mj_r (β, 3)), some (.inl l1), some (.inl x5)]) ⟨rfl, ⟨rfl, ⟨rfl, trivial⟩⟩⟩ ?_
        exact ih _ _ _ _ h hx41
      · replace h := mj_if_t c4 h
        refine mj_aload_n C dX2_howManyVanished_23 rfl ?_
        refine mj_iload_n C dX2_howManyVanished_24 rfl ?_
        refine mj_iconst (v := 4) C dX2_howManyVanished_25 (by decide) ?_
        obtain ⟨r6, er6, h⟩ := mj_b1_o h
        refine mj_callV1 (av := [.inl l2, .inl 4]) C lM_X2_57 lV_X2_cell (sL3 hB) ⟨_, rfl, rfl⟩ rfl (C_X2_cell hB er6) (mj_rmok hR (by decide) (by decide)) rfl (Nat.le_of_ble_eq_true rfl) dX2_howManyVanished_26 (fun hb7 => ?_)
        refine mj_if_ne (tgt := 35) C dX2_howManyVanished_29 (by decide) (fun c8 => ?_) (fun c8 => ?_)
        · replace h := mj_if_f c8 h
          obtain ⟨x9, hx9, h⟩ := mj_let_o h
          refine mj_iinc (L2 := [some (mj_r (β, 3)), some (.inl l1), some (.inl x9)]) C dX2_howManyVanished_35 rfl hx9 rfl ?_
          refine mj_goto (tgt := 4) C dX2_howManyVanished_38 (by decide) ?_
          refine mj_sub (L' := [some (mj_r (β, 3)), some (.inl l1), some (.inl x9)]) ⟨rfl, ⟨rfl, ⟨rfl, trivial⟩⟩⟩ ?_
          exact ih _ _ _ _ h hx41
        · replace h := mj_if_t c8 h
          obtain ⟨x10, hx10, h⟩ := mj_let_o h
          refine mj_iinc (L2 := [some (mj_r (β, 3)), some (.inl x10), some (.inl l2)]) C dX2_howManyVanished_32 rfl hx10 rfl ?_
          obtain ⟨x11, hx11, h⟩ := mj_let_o h
          refine mj_iinc (L2 := [some (mj_r (β, 3)), some (.inl x10), some (.inl x11)]) C dX2_howManyVanished_35 rfl hx11 rfl ?_
          refine mj_goto (tgt := 4) C dX2_howManyVanished_38 (by decide) ?_
          refine mj_sub (L' := [some (mj_r (β, 3)), some (.inl x10), some (.inl x11)]) ⟨rfl, ⟨rfl, ⟨rfl, trivial⟩⟩⟩ ?_
          exact ih _ _ _ _ h hx41
def f_X2_howManyVanished (m : mj_m) : Option (Int32) := mj_b1 (f_X2_howManyVanished_L4 mj_fu 0 0 m) (fun x12 => some x12)
set_option maxHeartbeats 4000000 in
set_option maxRecDepth 20000 in
theorem C_X2_howManyVanished {G : mj_G} {β : Nat} {M : mj_M} {m : mj_m} {x0 : Int32} (hB : mj_isL G β) (h : f_X2_howManyVanished m = some x0) : mj_S1 yX2_howManyVanished cX2_howManyVanished 3 (some .int) 2 G [mj_r (β, 3)] (va_up M β m) (some (.inl x0)) (va_up M β m) := by
  refine mj_intro (by decide) (Nat.le_of_ble_eq_true rfl) ?_
  intro κ C hG hR hT
  subst hG
  have C : mj_C κ cX2_howManyVanished 3 RX2 := C
  show mj_R κ (mj_F κ (fun r M' => r = (some (.inl x0)) ∧ M' = (va_up M β m) ∧ mj_bb (some .int) (some (.inl x0)))) 0 [some (mj_r (β, 3)), none, none] [] (va_up M β m)
  unfold f_X2_howManyVanished at h
  refine mj_iconst (v := 0) C dX2_howManyVanished_0 (by decide) ?_
  refine mj_istore_n (L2 := [some (mj_r (β, 3)), some (.inl 0), none]) C dX2_howManyVanished_1 (Nat.le_of_ble_eq_true rfl) rfl ?_
  refine mj_iconst (v := 0) C dX2_howManyVanished_2 (by decide) ?_
  refine mj_istore_n (L2 := [some (mj_r (β, 3)), some (.inl 0), some (.inl 0)]) C dX2_howManyVanished_3 (Nat.le_of_ble_eq_true rfl) rfl ?_
  obtain ⟨x12, hl13, h⟩ := mj_b1_o h
  refine mj_sub (L' := [some (mj_r (β, 3)), some (.inl 0), some (.inl 0)]) ⟨rfl, ⟨rfl, ⟨rfl, trivial⟩⟩⟩ ?_
  refine C_X2_howManyVanished_L4 C hB hR _ _ _ _ _ hl13 ?_
  refine mj_iload_n C dX2_howManyVanished_41 rfl ?_
  cases h
  exact mj_iret C hT (vp_nar_int _) dX2_howManyVanished_42 ⟨rfl, rfl, mj_bi _⟩
def f_X2_howManyOvertaken_L19 : Nat → Int32 → Int32 → Int32 → mj_m → Option (Int32)
  | 0, _, _, _, _ => none
  | n + 1, l1, l2, l3, m => if l3 < 0 then (some l1) else (mj_b1 (f_X2_cell l3 4 m) (fun r2 => if r2 = 0 then (mj_let (l3 + (-1)) (fun x14 => f_X2_howManyOvertaken_L19 n l1 l2 x14 m)) else (mj_chk (mj_ok l3 100) (if m 46 (mj_cl l3) ≤ l2 then (mj_chk (mj_ok l3 100) (mj_let (if m 46 (mj_cl l3) < l2 then m 46 (mj_cl l3) else l2) (fun x8 => mj_let (l3 + (-1)) (fun x9 => f_X2_howManyOvertaken_L19 n l1 x8 x9 m)))) else (mj_let (l1 + 1) (fun x10 => mj_chk (mj_ok l3 100) (mj_let (if m 46 (mj_cl l3) < l2 then m 46 (mj_cl l3) else l2) (fun x12 => mj_let (l3 + (-1)) (fun x13 => f_X2_howManyOvertaken_L19 n x10 x12 x13 m)))))))))
set_option maxHeartbeats 4000000 in
set_option maxRecDepth 20000 in
theorem C_X2_howManyOvertaken_L19 {κ : mj_K} {Q : State → Prop} {β : Nat} {M : mj_M} (C : mj_C κ cX2_howManyOvertaken 4 RX2) (hB : mj_isL (mj_g κ) β) (hR : mj_dp κ 2) : ∀ (n : Nat) (l1 : Int32) (l2 : Int32) (l3 : Int32) (m : mj_m) (o1 : Int32), f_X2_howManyOvertaken_L19 n l1 l2 l3 m = some o1 → (mj_R κ Q 65 [none, some (.inl o1), none, none] [] (va_up M β m)) → mj_R κ Q 19 [some (mj_r (β, 3)), some (.inl l1), some (.inl l2), some (.inl l3)] [] (va_up M β m) := by
  intro n
  induction n with
  | zero =>
    intro l1 l2 l3 m o1 h
    cases h
  | succ n ih =>
    intro l1 l2 l3 m o1 h hx65
    rw [f_X2_howManyOvertaken_L19] at h
    refine mj_iload_n C dX2_howManyOvertaken_19 rfl ?_
    refine mj_if_lt (tgt := 65) C dX2_howManyOvertaken_20 (by decide) (fun c1 => ?_) (fun c1 => ?_)
    · replace h := mj_if_t c1 h
      cases h
      refine mj_sub ?_ (hx65)
      exact ⟨rfl, trivial⟩
    · replace h := mj_if_f c1 h
      refine mj_aload_n C dX2_howManyOvertaken_23 rfl ?_
      refine mj_iload_n C dX2_howManyOvertaken_24 rfl ?_
      refine mj_iconst (v := 4) C dX2_howManyOvertaken_25 (by decide) ?_
      obtain ⟨r2, er2, h⟩ := mj_b1_o h
      refine mj_callV1 (av := [.inl l3, .inl 4]) C lM_X2_57 lV_X2_cell (sL3 hB) ⟨_, rfl, rfl⟩ rfl (C_X2_cell hB er2) (mj_rmok hR (by decide) (by decide)) rfl (Nat.le_of_ble_eq_true rfl) dX2_howManyOvertaken_26 (fun hb3 => ?_)
      refine mj_if_ne (tgt := 35) C dX2_howManyOvertaken_29 (by decide) (fun c4 => ?_) (fun c4 => ?_)
      · replace h := mj_if_f c4 h
        refine mj_aload_n C dX2_howManyOvertaken_35 rfl ?_
        refine mj_getr (r := (β, 46)) C lF_X2_19 (sL3 hB) rfl dX2_howManyOvertaken_36 ?_
        refine mj_iload_n C dX2_howManyOvertaken_39 rfl ?_
        obtain ⟨k5, h⟩ := mj_chk_o h
        refine mj_bald C (sL46 hB) k5 rfl dX2_howManyOvertaken_40 ?_
        refine mj_iload_n C dX2_howManyOvertaken_41 rfl ?_
        refine mj_icmp_le (tgt := 48) C dX2_howManyOvertaken_42 (by decide) (fun c6 => ?_) (fun c6 => ?_)
        · replace h := mj_if_t c6 h
          refine mj_iload_n C dX2_howManyOvertaken_48 rfl ?_
          refine mj_aload_n C dX2_howManyOvertaken_49 rfl ?_
          refine mj_getr (r := (β, 46)) C lF_X2_19 (sL3 hB) rfl dX2_howManyOvertaken_50 ?_
          refine mj_iload_n C dX2_howManyOvertaken_53 rfl ?_
          obtain ⟨k7, h⟩ := mj_chk_o h
          refine mj_bald C (sL46 hB) k7 rfl dX2_howManyOvertaken_54 ?_
          refine mj_imin C lM_X2_47 rfl (mj_rmc hR (by decide)) (Nat.le_of_ble_eq_true rfl) dX2_howManyOvertaken_55 ?_
          obtain ⟨x8, hx8, h⟩ := mj_let_o h
          refine mj_nm hx8 ?_
          refine mj_istore_n (L2 := [some (mj_r (β, 3)), some (.inl l1), some (.inl x8), some (.inl l3)]) C dX2_howManyOvertaken_58 (Nat.le_of_ble_eq_true rfl) rfl ?_
          obtain ⟨x9, hx9, h⟩ := mj_let_o h
          refine mj_iinc (L2 := [some (mj_r (β, 3)), some (.inl l1), some (.inl x8), some (.inl x9)]) C dX2_howManyOvertaken_59 rfl hx9 rfl ?_
          refine mj_goto (tgt := 19) C dX2_howManyOvertaken_62 (by decide) ?_
          refine mj_sub (L' := [some (mj_r (β, 3)), some (.inl l1), some (.inl x8), some (.inl x9)]) ⟨rfl, ⟨rfl, ⟨rfl, ⟨rfl, trivial⟩⟩⟩⟩ ?_
          exact ih _ _ _ _ _ h hx65
        · replace h := mj_if_f c6 h
          obtain ⟨x10, hx10, h⟩ := mj_let_o h
          refine mj_iinc (L2 := [some (mj_r (β, 3)), some (.inl x10), some (.inl l2), some (.inl l3)]) C dX2_howManyOvertaken_45 rfl hx10 rfl ?_
          refine mj_iload_n C dX2_howManyOvertaken_48 rfl ?_
          refine mj_aload_n C dX2_howManyOvertaken_49 rfl ?_
          refine mj_getr (r := (β, 46)) C lF_X2_19 (sL3 hB) rfl dX2_howManyOvertaken_50 ?_
          refine mj_iload_n C dX2_howManyOvertaken_53 rfl ?_
          obtain ⟨k11, h⟩ := mj_chk_o h
          refine mj_bald C (sL46 hB) k11 rfl dX2_howManyOvertaken_54 ?_
          refine mj_imin C lM_X2_47 rfl (mj_rmc hR (by decide)) (Nat.le_of_ble_eq_true rfl) dX2_howManyOvertaken_55 ?_
          obtain ⟨x12, hx12, h⟩ := mj_let_o h
          refine mj_nm hx12 ?_
          refine mj_istore_n (L2 := [some (mj_r (β, 3)), some (.inl x10), some (.inl x12), some (.inl l3)]) C dX2_howManyOvertaken_58 (Nat.le_of_ble_eq_true rfl) rfl ?_
          obtain ⟨x13, hx13, h⟩ := mj_let_o h
          refine mj_iinc (L2 := [some (mj_r (β, 3)), some (.inl x10), some (.inl x12), some (.inl x13)]) C dX2_howManyOvertaken_59 rfl hx13 rfl ?_
          refine mj_goto (tgt := 19) C dX2_howManyOvertaken_62 (by decide) ?_
          refine mj_sub (L' := [some (mj_r (β, 3)), some (.inl x10), some (.inl x12), some (.inl x13)]) ⟨rfl, ⟨rfl, ⟨rfl, ⟨rfl, trivial⟩⟩⟩⟩ ?_
          exact ih _ _ _ _ _ h hx65
      · replace h := mj_if_t c4 h
        refine mj_goto (tgt := 59) C dX2_howManyOvertaken_32 (by decide) ?_
        obtain ⟨x14, hx14, h⟩ := mj_let_o h
        refine mj_iinc (L2 := [some (mj_r (β, 3)), some (.inl l1), some (.inl l2), some (.inl x14)]) C dX2_howManyOvertaken_59 rfl hx14 rfl ?_
        refine mj_goto (tgt := 19) C dX2_howManyOvertaken_62 (by decide) ?_
        refine mj_sub (L' := [some (mj_r (β, 3)), some (.inl l1), some (.inl l2), some (.inl x14)]) ⟨rfl, ⟨rfl, ⟨rfl, ⟨rfl, trivial⟩⟩⟩⟩ ?_
        exact ih _ _ _ _ _ h hx65
def f_X2_howManyOvertaken (m : mj_m) : Option (Int32) := mj_let (m 3 4) (fun x15 => mj_let ((if 100 < m 3 2 then 100 else m 3 2) - 1) (fun x16 => mj_b1 (f_X2_howManyOvertaken_L19 mj_fu 0 x15 x16 m) (fun x17 => some x17)))
set_option maxHeartbeats 4000000 in
set_option maxRecDepth 20000 in
theorem C_X2_howManyOvertaken {G : mj_G} {β : Nat} {M : mj_M} {m : mj_m} {x0 : Int32} (hB : mj_isL G β) (h : f_X2_howManyOvertaken m = some x0) : mj_S1 yX2_howManyOvertaken cX2_howManyOvertaken 4 (some .int) 2 G [mj_r (β, 3)] (va_up M β m) (some (.inl x0)) (va_up M β m) := by
  refine mj_intro (by decide) (Nat.le_of_ble_eq_true rfl) ?_
  intro κ C hG hR hT
  subst hG
  have C : mj_C κ cX2_howManyOvertaken 4 RX2 := C
  show mj_R κ (mj_F κ (fun r M' => r = (some (.inl x0)) ∧ M' = (va_up M β m) ∧ mj_bb (some .int) (some (.inl x0)))) 0 [some (mj_r (β, 3)), none, none, none] [] (va_up M β m)
  unfold f_X2_howManyOvertaken at h
  refine mj_iconst (v := 0) C dX2_howManyOvertaken_0 (by decide) ?_
  refine mj_istore_n (L2 := [some (mj_r (β, 3)), some (.inl 0), none, none]) C dX2_howManyOvertaken_1 (Nat.le_of_ble_eq_true rfl) rfl ?_
  refine mj_aload_n C dX2_howManyOvertaken_2 rfl ?_
  refine mj_bget C lF_X2_22 (sL3 hB) rfl dX2_howManyOvertaken_3 ?_
  obtain ⟨x15, hx15, h⟩ := mj_let_o h
  refine mj_nm hx15 ?_
  refine mj_istore_n (L2 := [some (mj_r (β, 3)), some (.inl 0), some (.inl x15), none]) C dX2_howManyOvertaken_6 (Nat.le_of_ble_eq_true rfl) rfl ?_
  refine mj_aload_n C dX2_howManyOvertaken_7 rfl ?_
  refine mj_bget C lF_X2_15 (sL3 hB) rfl dX2_howManyOvertaken_8 ?_
  refine mj_bipush (v := 100) C dX2_howManyOvertaken_11 (by decide) ?_
  refine mj_imin C lM_X2_47 rfl (mj_rmc hR (by decide)) (Nat.le_of_ble_eq_true rfl) dX2_howManyOvertaken_13 ?_
  refine mj_iconst (v := 1) C dX2_howManyOvertaken_16 (by decide) ?_
  refine mj_isub C dX2_howManyOvertaken_17 ?_
  obtain ⟨x16, hx16, h⟩ := mj_let_o h
  refine mj_nm hx16 ?_
  refine mj_istore_n (L2 := [some (mj_r (β, 3)), some (.inl 0), some (.inl x15), some (.inl x16)]) C dX2_howManyOvertaken_18 (Nat.le_of_ble_eq_true rfl) rfl ?_
  obtain ⟨x17, hl18, h⟩ := mj_b1_o h
  refine mj_sub (L' := [some (mj_r (β, 3)), some (.inl 0), some (.inl x15), some (.inl x16)]) ⟨rfl, ⟨rfl, ⟨rfl, ⟨rfl, trivial⟩⟩⟩⟩ ?_
  refine C_X2_howManyOvertaken_L19 C hB hR _ _ _ _ _ _ hl18 ?_
  refine mj_iload_n C dX2_howManyOvertaken_65 rfl ?_
  cases h
  exact mj_iret C hT (vp_nar_int _) dX2_howManyOvertaken_66 ⟨rfl, rfl, mj_bi _⟩
def f_X2_copyFrom (o : mj_m) (m : mj_m) : Option (mj_m) := mj_let (mj_wrs m 3 2 (o 3 2)) (fun m1 => mj_let (mj_wrs m1 3 5 (o 3 5)) (fun m2 => mj_let (mj_wrs m2 3 4 (o 3 4)) (fun m3 => mj_chk (mj_cok 0 0 100 100 100) (mj_let (mj_cpo o m3 46 46 0 0 100) (fun m5 => mj_chk (mj_cok 0 0 700 700 700) (mj_let (mj_cpo o m5 4 4 0 0 700) (fun m7 => some m7)))))))
set_option maxHeartbeats 4000000 in
set_option maxRecDepth 20000 in
theorem C_X2_copyFrom {G : mj_G} {β : Nat} {γ : Nat} {o : mj_m} {M : mj_M} {m : mj_m} {m0 : mj_m} (hB : mj_isL G β) (hO : mj_isL G γ) (hne : γ ≠ β) (ho : M γ = o) (h : f_X2_copyFrom o m = some m0) : mj_S1 yX2_copyFrom cX2_copyFrom 2 none 1 G [mj_r (β, 3), mj_r (γ, 3)] (va_up M β m) none (va_up M β m0) := by
  refine mj_intro (by decide) (Nat.le_of_ble_eq_true rfl) ?_
  intro κ C hG hR hT
  subst hG
  have C : mj_C κ cX2_copyFrom 2 RX2 := C
  show mj_R κ (mj_F κ (fun r M' => r = none ∧ M' = (va_up M β m0) ∧ mj_bb none none)) 0 [some (mj_r (β, 3)), some (mj_r (γ, 3))] [] (va_up M β m)
  unfold f_X2_copyFrom at h
  refine mj_aload_n C dX2_copyFrom_0 rfl ?_
  refine mj_aload_n C dX2_copyFrom_1 rfl ?_
  refine mj_oget C hne ho lF_X2_15 (sL3 hO) rfl dX2_copyFrom_2 ?_
  obtain ⟨m1, hm1, h⟩ := mj_let_o h
  refine mj_bput C lF_X2_15 fP_3_2 (vp_nar_int _) rfl (sL3 hB) rfl dX2_copyFrom_5 hm1 ?_
  refine mj_aload_n C dX2_copyFrom_8 rfl ?_
  refine mj_aload_n C dX2_copyFrom_9 rfl ?_
  refine mj_oget C hne ho lF_X2_25 (sL3 hO) rfl dX2_copyFrom_10 ?_
  obtain ⟨m2, hm2, h⟩ := mj_let_o h
  refine mj_bput C lF_X2_25 fP_3_5 (vp_nar_int _) rfl (sL3 hB) rfl dX2_copyFrom_13 hm2 ?_
  refine mj_aload_n C dX2_copyFrom_16 rfl ?_
  refine mj_aload_n C dX2_copyFrom_17 rfl ?_
  refine mj_oget C hne ho lF_X2_22 (sL3 hO) rfl dX2_copyFrom_18 ?_
  obtain ⟨m3, hm3, h⟩ := mj_let_o h
  refine mj_bput C lF_X2_22 fP_3_4 (vp_nar_int _) rfl (sL3 hB) rfl dX2_copyFrom_21 hm3 ?_
  refine mj_aload_n C dX2_copyFrom_24 rfl ?_
  refine mj_getr (r := (γ, 46)) C lF_X2_19 (sL3 hO) rfl dX2_copyFrom_25 ?_
  refine mj_iconst (v := 0) C dX2_copyFrom_28 (by decide) ?_
  refine mj_aload_n C dX2_copyFrom_29 rfl ?_
  refine mj_getr (r := (β, 46)) C lF_X2_19 (sL3 hB) rfl dX2_copyFrom_30 ?_
  refine mj_iconst (v := 0) C dX2_copyFrom_33 (by decide) ?_
  refine mj_bipush (v := 100) C dX2_copyFrom_34 (by decide) ?_
  obtain ⟨k4, h⟩ := mj_chk_o h
  obtain ⟨m5, hm5, h⟩ := mj_let_o h
  refine mj_ocopy C hne ho lM_X2_67 rfl (sL46 hO) (sL46 hB) k4 (mj_rmc hR (by decide)) (Nat.le_of_ble_eq_true rfl) dX2_copyFrom_36 hm5 ?_
  refine mj_aload_n C dX2_copyFrom_39 rfl ?_
  refine mj_getr (r := (γ, 4)) C lF_X2_11 (sL3 hO) rfl dX2_copyFrom_40 ?_
  refine mj_iconst (v := 0) C dX2_copyFrom_43 (by decide) ?_
  refine mj_aload_n C dX2_copyFrom_44 rfl ?_
  refine mj_getr (r := (β, 4)) C lF_X2_11 (sL3 hB) rfl dX2_copyFrom_45 ?_
  refine mj_iconst (v := 0) C dX2_copyFrom_48 (by decide) ?_
  refine mj_sipush (v := 700) C dX2_copyFrom_49 (by decide) ?_
  obtain ⟨k6, h⟩ := mj_chk_o h
  obtain ⟨m7, hm7, h⟩ := mj_let_o h
  refine mj_ocopy C hne ho lM_X2_67 rfl (sL4 hO) (sL4 hB) k6 (mj_rmc hR (by decide)) (Nat.le_of_ble_eq_true rfl) dX2_copyFrom_52 hm7 ?_
  cases h
  exact mj_vret C hT dX2_copyFrom_55 ⟨rfl, rfl, mj_bv _⟩
def f_X4_clear (pb : Nat) (m : mj_m) : mj_m := mj_let (mj_wrs m pb 2 0) (fun m1 => mj_let (mj_wrs m1 pb 3 0) (fun m2 => m2))
set_option maxHeartbeats 4000000 in
set_option maxRecDepth 20000 in
theorem C_X4_clear {G : mj_G} {β : Nat} {M : mj_M} {pb : Nat} {m : mj_m} {m0 : mj_m} (hp : mj_isPlan G β pb) (h : f_X4_clear pb m = m0) : mj_S1 yX4_clear cX4_clear 1 none 0 G [mj_r (β, pb)] (va_up M β m) none (va_up M β m0) := by
  refine mj_intro (by decide) (Nat.le_of_ble_eq_true rfl) ?_
  intro κ C hG hR hT
  subst hG
  have C : mj_C κ cX4_clear 1 RX4 := C
  show mj_R κ (mj_F κ (fun r M' => r = none ∧ M' = (va_up M β m0) ∧ mj_bb none none)) 0 [some (mj_r (β, pb))] [] (va_up M β m)
  unfold f_X4_clear at h
  refine mj_aload_n C dX4_clear_0 rfl ?_
  refine mj_iconst (v := 0) C dX4_clear_1 (by decide) ?_
  obtain ⟨m1, hm1, h⟩ := mj_let_o h
  refine mj_bput C lF_X4_18 fP_5_2 (vp_nar_int _) rfl hp.1 rfl dX4_clear_2 hm1 ?_
  refine mj_aload_n C dX4_clear_5 rfl ?_
  refine mj_iconst (v := 0) C dX4_clear_6 (by decide) ?_
  obtain ⟨m2, hm2, h⟩ := mj_let_o h
  refine mj_bput C lF_X4_22 fP_5_3 (vp_nar_int _) rfl hp.1 rfl dX4_clear_7 hm2 ?_
  cases h
  exact mj_vret C hT dX4_clear_10 ⟨rfl, rfl, mj_bv _⟩
def f_X4_add (pb : Nat) (a1 : Int32) (a2 : Int32) (m : mj_m) : Option (mj_m) := if 24 ≤ m pb 2 then (some m) else (mj_chk (mj_ok (m pb 2) 24) (mj_let (mj_wrs m (pb + 1) (mj_cl (m pb 2)) a1) (fun m3 => mj_chk (mj_ok (m3 pb 2) 24) (mj_let (mj_wrs m3 (pb + 2) (mj_cl (m3 pb 2)) a2) (fun m5 => mj_let (mj_wrs m5 pb 2 ((m5 pb 2) + 1)) (fun m6 => some m6))))))
set_option maxHeartbeats 4000000 in
set_option maxRecDepth 20000 in
theorem C_X4_add {G : mj_G} {β : Nat} {M : mj_M} {pb : Nat} {a1 : Int32} {a2 : Int32} {m : mj_m} {m0 : mj_m} (hp : mj_isPlan G β pb) (h : f_X4_add pb a1 a2 m = some m0) : mj_S1 yX4_add cX4_add 3 none 0 G [mj_r (β, pb), .inl a1, .inl a2] (va_up M β m) none (va_up M β m0) := by
  refine mj_intro (by decide) (Nat.le_of_ble_eq_true rfl) ?_
  intro κ C hG hR hT
  subst hG
  have C : mj_C κ cX4_add 3 RX4 := C
  show mj_R κ (mj_F κ (fun r M' => r = none ∧ M' = (va_up M β m0) ∧ mj_bb none none)) 0 [some (mj_r (β, pb)), some (.inl a1), some (.inl a2)] [] (va_up M β m)
  unfold f_X4_add at h
  refine mj_aload_n C dX4_add_0 rfl ?_
  refine mj_bget C lF_X4_18 hp.1 rfl dX4_add_1 ?_
  refine mj_bipush (v := 24) C dX4_add_4 (by decide) ?_
  refine mj_icmp_ge (tgt := 39) C dX4_add_6 (by decide) (fun c1 => ?_) (fun c1 => ?_)
  · replace h := mj_if_t c1 h
    cases h
    exact mj_vret C hT dX4_add_39 ⟨rfl, rfl, mj_bv _⟩
  · replace h := mj_if_f c1 h
    refine mj_aload_n C dX4_add_9 rfl ?_
    refine mj_getr (r := (β, (pb + 1))) C lF_X4_9 hp.1 rfl dX4_add_10 ?_
    refine mj_aload_n C dX4_add_13 rfl ?_
    refine mj_bget C lF_X4_18 hp.1 rfl dX4_add_14 ?_
    refine mj_iload_n C dX4_add_17 rfl ?_
    obtain ⟨k2, h⟩ := mj_chk_o h
    obtain ⟨m3, hm3, h⟩ := mj_let_o h
    refine mj_bast C hp.2.1 k2 rfl dX4_add_18 hm3 ?_
    refine mj_aload_n C dX4_add_19 rfl ?_
    refine mj_getr (r := (β, (pb + 2))) C lF_X4_15 hp.1 rfl dX4_add_20 ?_
    refine mj_aload_n C dX4_add_23 rfl ?_
    refine mj_bget C lF_X4_18 hp.1 rfl dX4_add_24 ?_
    refine mj_iload_n C dX4_add_27 rfl ?_
    obtain ⟨k4, h⟩ := mj_chk_o h
    obtain ⟨m5, hm5, h⟩ := mj_let_o h
    refine mj_bast C hp.2.2 k4 rfl dX4_add_28 hm5 ?_
    refine mj_aload_n C dX4_add_29 rfl ?_
    refine mj_dup C dX4_add_30 ?_
    refine mj_bget C lF_X4_18 hp.1 rfl dX4_add_31 ?_
    refine mj_iconst (v := 1) C dX4_add_34 (by decide) ?_
    refine mj_iadd C dX4_add_35 ?_
    obtain ⟨m6, hm6, h⟩ := mj_let_o h
    refine mj_bput C lF_X4_18 fP_5_2 (vp_nar_int _) rfl hp.1 rfl dX4_add_36 hm6 ?_
    cases h
    exact mj_vret C hT dX4_add_39 ⟨rfl, rfl, mj_bv _⟩
def f_X4_copyFrom (pb : Nat) (pb' : Nat) (o : mj_m) (m : mj_m) : Option (mj_m) := mj_chk (mj_cok 0 0 24 24 24) (mj_let (mj_cpo o m (pb' + 1) (pb + 1) 0 0 24) (fun m2 => mj_chk (mj_cok 0 0 24 24 24) (mj_let (mj_cpo o m2 (pb' + 2) (pb + 2) 0 0 24) (fun m4 => mj_let (mj_wrs m4 pb 2 (o pb' 2)) (fun m5 => mj_let (mj_wrs m5 pb 3 (o pb' 3)) (fun m6 => some m6))))))
set_option maxHeartbeats 4000000 in
set_option maxRecDepth 20000 in
theorem C_X4_copyFrom {G : mj_G} {β : Nat} {γ : Nat} {o : mj_m} {M : mj_M} {pb : Nat} {pb' : Nat} {m : mj_m} {m0 : mj_m} (hp : mj_isPlan G β pb) (hO : mj_isPlan G γ pb') (hne : γ ≠ β) (ho : M γ = o) (h : f_X4_copyFrom pb pb' o m = some m0) : mj_S1 yX4_copyFrom cX4_copyFrom 2 none 1 G [mj_r (β, pb), mj_r (γ, pb')] (va_up M β m) none (va_up M β m0) := by
  refine mj_intro (by decide) (Nat.le_of_ble_eq_true rfl) ?_
  intro κ C hG hR hT
  subst hG
  have C : mj_C κ cX4_copyFrom 2 RX4 := C
  show mj_R κ (mj_F κ (fun r M' => r = none ∧ M' = (va_up M β m0) ∧ mj_bb none none)) 0 [some (mj_r (β, pb)), some (mj_r (γ, pb'))] [] (va_up M β m)
  unfold f_X4_copyFrom at h
  refine mj_aload_n C dX4_copyFrom_0 rfl ?_
  refine mj_getr (r := (γ, (pb' + 1))) C lF_X4_9 hO.1 rfl dX4_copyFrom_1 ?_
  refine mj_iconst (v := 0) C dX4_copyFrom_4 (by decide) ?_
  refine mj_aload_n C dX4_copyFrom_5 rfl ?_
  refine mj_getr (r := (β, (pb + 1))) C lF_X4_9 hp.1 rfl dX4_copyFrom_6 ?_
  refine mj_iconst (v := 0) C dX4_copyFrom_9 (by decide) ?_
  refine mj_bipush (v := 24) C dX4_copyFrom_10 (by decide) ?_
  obtain ⟨k1, h⟩ := mj_chk_o h
  obtain ⟨m2, hm2, h⟩ := mj_let_o h
  refine mj_ocopy C hne ho lM_X4_25 rfl hO.2.1 hp.2.1 k1 (mj_rmc hR (by decide)) (Nat.le_of_ble_eq_true rfl) dX4_copyFrom_12 hm2 ?_
  refine mj_aload_n C dX4_copyFrom_15 rfl ?_
  refine mj_getr (r := (γ, (pb' + 2))) C lF_X4_15 hO.1 rfl dX4_copyFrom_16 ?_
  refine mj_iconst (v := 0) C dX4_copyFrom_19 (by decide) ?_
  refine mj_aload_n C dX4_copyFrom_20 rfl ?_
  refine mj_getr (r := (β, (pb + 2))) C lF_X4_15 hp.1 rfl dX4_copyFrom_21 ?_
  refine mj_iconst (v := 0) C dX4_copyFrom_24 (by decide) ?_
  refine mj_bipush (v := 24) C dX4_copyFrom_25 (by decide) ?_
  obtain ⟨k3, h⟩ := mj_chk_o h
  obtain ⟨m4, hm4, h⟩ := mj_let_o h
  refine mj_ocopy C hne ho lM_X4_25 rfl hO.2.2 hp.2.2 k3 (mj_rmc hR (by decide)) (Nat.le_of_ble_eq_true rfl) dX4_copyFrom_27 hm4 ?_
  refine mj_aload_n C dX4_copyFrom_30 rfl ?_
  refine mj_aload_n C dX4_copyFrom_31 rfl ?_
  refine mj_oget C hne ho lF_X4_18 hO.1 rfl dX4_copyFrom_32 ?_
  obtain ⟨m5, hm5, h⟩ := mj_let_o h
  refine mj_bput C lF_X4_18 fP_5_2 (vp_nar_int _) rfl hp.1 rfl dX4_copyFrom_35 hm5 ?_
  refine mj_aload_n C dX4_copyFrom_38 rfl ?_
  refine mj_aload_n C dX4_copyFrom_39 rfl ?_
  refine mj_oget C hne ho lF_X4_22 hO.1 rfl dX4_copyFrom_40 ?_
  obtain ⟨m6, hm6, h⟩ := mj_let_o h
  refine mj_bput C lF_X4_22 fP_5_3 (vp_nar_int _) rfl hp.1 rfl dX4_copyFrom_43 hm6 ?_
  cases h
  exact mj_vret C hT dX4_copyFrom_46 ⟨rfl, rfl, mj_bv _⟩
def f_X9_has (w : Nat) (a1 : Int32) (m : mj_m) : Int32 := if a1 < 0 then (0) else (if m w 7 ≤ a1 then (0) else (if 48 ≤ a1 then (0) else (1)))
set_option maxHeartbeats 4000000 in
set_option maxRecDepth 20000 in
theorem C_X9_has {G : mj_G} {β : Nat} {M : mj_M} {w : Nat} {a1 : Int32} {m : mj_m} {x0 : Int32} (hw : mj_isWay G β w) (h : f_X9_has w a1 m = x0) : mj_S1 yX9_has cX9_has 2 (some .boolean) 0 G [mj_r (β, w), .inl a1] (va_up M β m) (some (.inl x0)) (va_up M β m) := by
  refine mj_intro (by decide) (Nat.le_of_ble_eq_true rfl) ?_
  intro κ C hG hR hT
  subst hG
  have C : mj_C κ cX9_has 2 RX9 := C
  show mj_R κ (mj_F κ (fun r M' => r = (some (.inl x0)) ∧ M' = (va_up M β m) ∧ mj_bb (some .boolean) (some (.inl x0)))) 0 [some (mj_r (β, w)), some (.inl a1)] [] (va_up M β m)
  unfold f_X9_has at h
  refine mj_iload_n C dX9_has_0 rfl ?_
  refine mj_if_lt (tgt := 22) C dX9_has_1 (by decide) (fun c1 => ?_) (fun c1 => ?_)
  · replace h := mj_if_t c1 h
    refine mj_iconst (v := 0) C dX9_has_22 (by decide) ?_
    cases h
    exact mj_iret C hT (mj_nb mj_b0) dX9_has_23 ⟨rfl, rfl, mj_b0⟩
  · replace h := mj_if_f c1 h
    refine mj_iload_n C dX9_has_4 rfl ?_
    refine mj_aload_n C dX9_has_5 rfl ?_
    refine mj_bget C lF_X9_24 hw.2.1 rfl dX9_has_6 ?_
    refine mj_icmp_ge (tgt := 22) C dX9_has_9 (by decide) (fun c2 => ?_) (fun c2 => ?_)
    · replace h := mj_if_t c2 h
      refine mj_iconst (v := 0) C dX9_has_22 (by decide) ?_
      cases h
      exact mj_iret C hT (mj_nb mj_b0) dX9_has_23 ⟨rfl, rfl, mj_b0⟩
    · replace h := mj_if_f c2 h
      refine mj_iload_n C dX9_has_12 rfl ?_
      refine mj_bipush (v := 48) C dX9_has_13 (by decide) ?_
      refine mj_icmp_ge (tgt := 22) C dX9_has_15 (by decide) (fun c3 => ?_) (fun c3 => ?_)
      · replace h := mj_if_t c3 h
        refine mj_iconst (v := 0) C dX9_has_22 (by decide) ?_
        cases h
        exact mj_iret C hT (mj_nb mj_b0) dX9_has_23 ⟨rfl, rfl, mj_b0⟩
      · replace h := mj_if_f c3 h
        refine mj_iconst (v := 1) C dX9_has_18 (by decide) ?_
        refine mj_goto (tgt := 23) C dX9_has_19 (by decide) ?_
        cases h
        exact mj_iret C hT (mj_nb mj_b1') dX9_has_23 ⟨rfl, rfl, mj_b1'⟩
def f_X9_hasByte (w : Nat) (a1 : Int32) (a2 : Int32) (m : mj_m) : Int32 := if a1 < 0 then (0) else (if m w 7 ≤ a1 then (0) else (if 48 ≤ a1 then (0) else (if a2 < 0 then (0) else (if m w 1 ≤ a2 then (0) else (1)))))
set_option maxHeartbeats 4000000 in
set_option maxRecDepth 20000 in
theorem C_X9_hasByte {G : mj_G} {β : Nat} {M : mj_M} {w : Nat} {a1 : Int32} {a2 : Int32} {m : mj_m} {x0 : Int32} (hw : mj_isWay G β w) (h : f_X9_hasByte w a1 a2 m = x0) : mj_S1 yX9_hasByte cX9_hasByte 3 (some .boolean) 0 G [mj_r (β, w), .inl a1, .inl a2] (va_up M β m) (some (.inl x0)) (va_up M β m) := by
  refine mj_intro (by decide) (Nat.le_of_ble_eq_true rfl) ?_
  intro κ C hG hR hT
  subst hG
  have C : mj_C κ cX9_hasByte 3 RX9 := C
  show mj_R κ (mj_F κ (fun r M' => r = (some (.inl x0)) ∧ M' = (va_up M β m) ∧ mj_bb (some .boolean) (some (.inl x0)))) 0 [some (mj_r (β, w)), some (.inl a1), some (.inl a2)] [] (va_up M β m)
  unfold f_X9_hasByte at h
  refine mj_iload_n C dX9_hasByte_0 rfl ?_
  refine mj_if_lt (tgt := 34) C dX9_hasByte_1 (by decide) (fun c1 => ?_) (fun c1 => ?_)
  · replace h := mj_if_t c1 h
    refine mj_iconst (v := 0) C dX9_hasByte_34 (by decide) ?_
    cases h
    exact mj_iret C hT (mj_nb mj_b0) dX9_hasByte_35 ⟨rfl, rfl, mj_b0⟩
  · replace h := mj_if_f c1 h
    refine mj_iload_n C dX9_hasByte_4 rfl ?_
    refine mj_aload_n C dX9_hasByte_5 rfl ?_
    refine mj_bget C lF_X9_24 hw.2.1 rfl dX9_hasByte_6 ?_
    refine mj_icmp_ge (tgt := 34) C dX9_hasByte_9 (by decide) (fun c2 => ?_) (fun c2 => ?_)
    · replace h := mj_if_t c2 h
      refine mj_iconst (v := 0) C dX9_hasByte_34 (by decide) ?_
      cases h
      exact mj_iret C hT (mj_nb mj_b0) dX9_hasByte_35 ⟨rfl, rfl, mj_b0⟩
    · replace h := mj_if_f c2 h
      refine mj_iload_n C dX9_hasByte_12 rfl ?_
      refine mj_bipush (v := 48) C dX9_hasByte_13 (by decide) ?_
      refine mj_icmp_ge (tgt := 34) C dX9_hasByte_15 (by decide) (fun c3 => ?_) (fun c3 => ?_)
      · replace h := mj_if_t c3 h
        refine mj_iconst (v := 0) C dX9_hasByte_34 (by decide) ?_
        cases h
        exact mj_iret C hT (mj_nb mj_b0) dX9_hasByte_35 ⟨rfl, rfl, mj_b0⟩
      · replace h := mj_if_f c3 h
        refine mj_iload_n C dX9_hasByte_18 rfl ?_
        refine mj_if_lt (tgt := 34) C dX9_hasByte_19 (by decide) (fun c4 => ?_) (fun c4 => ?_)
        · replace h := mj_if_t c4 h
          refine mj_iconst (v := 0) C dX9_hasByte_34 (by decide) ?_
          cases h
          exact mj_iret C hT (mj_nb mj_b0) dX9_hasByte_35 ⟨rfl, rfl, mj_b0⟩
        · replace h := mj_if_f c4 h
          refine mj_iload_n C dX9_hasByte_22 rfl ?_
          refine mj_aload_n C dX9_hasByte_23 rfl ?_
          refine mj_bget C lF_X9_41 hw.2.1 rfl dX9_hasByte_24 ?_
          refine mj_icmp_ge (tgt := 34) C dX9_hasByte_27 (by decide) (fun c5 => ?_) (fun c5 => ?_)
          · replace h := mj_if_t c5 h
            refine mj_iconst (v := 0) C dX9_hasByte_34 (by decide) ?_
            cases h
            exact mj_iret C hT (mj_nb mj_b0) dX9_hasByte_35 ⟨rfl, rfl, mj_b0⟩
          · replace h := mj_if_f c5 h
            refine mj_iconst (v := 1) C dX9_hasByte_30 (by decide) ?_
            refine mj_goto (tgt := 35) C dX9_hasByte_31 (by decide) ?_
            cases h
            exact mj_iret C hT (mj_nb mj_b1') dX9_hasByte_35 ⟨rfl, rfl, mj_b1'⟩
def f_X9_isDue (w : Nat) (m : mj_m) : Int32 := if m w 7 ≤ 0 then (0) else (if m 1 0 < m (w + 2) 0 then (0) else (1))
set_option maxHeartbeats 4000000 in
set_option maxRecDepth 20000 in
theorem C_X9_isDue {G : mj_G} {β : Nat} {M : mj_M} {w : Nat} {m : mj_m} {x0 : Int32} (hw : mj_isWay G β w) (h : f_X9_isDue w m = x0) : mj_S1 yX9_isDue cX9_isDue 1 (some .boolean) 0 G [mj_r (β, w)] (va_up M β m) (some (.inl x0)) (va_up M β m) := by
  refine mj_intro (by decide) (Nat.le_of_ble_eq_true rfl) ?_
  intro κ C hG hR hT
  subst hG
  have C : mj_C κ cX9_isDue 1 RX9 := C
  show mj_R κ (mj_F κ (fun r M' => r = (some (.inl x0)) ∧ M' = (va_up M β m) ∧ mj_bb (some .boolean) (some (.inl x0)))) 0 [some (mj_r (β, w))] [] (va_up M β m)
  unfold f_X9_isDue at h
  refine mj_aload_n C dX9_isDue_0 rfl ?_
  refine mj_bget C lF_X9_24 hw.2.1 rfl dX9_isDue_1 ?_
  refine mj_if_le (tgt := 27) C dX9_isDue_4 (by decide) (fun c1 => ?_) (fun c1 => ?_)
  · replace h := mj_if_t c1 h
    refine mj_iconst (v := 0) C dX9_isDue_27 (by decide) ?_
    cases h
    exact mj_iret C hT (mj_nb mj_b0) dX9_isDue_28 ⟨rfl, rfl, mj_b0⟩
  · replace h := mj_if_f c1 h
    refine mj_aload_n C dX9_isDue_7 rfl ?_
    refine mj_getr (r := (β, (w + 2))) C lF_X9_15 hw.2.1 rfl dX9_isDue_8 ?_
    refine mj_iconst (v := 0) C dX9_isDue_11 (by decide) ?_
    refine mj_bald C hw.2.2.2.1 (mj_okn 0 48 (Nat.le_of_ble_eq_true rfl) (Nat.le_of_ble_eq_true rfl)) (mj_cln 0 (Nat.le_of_ble_eq_true rfl)) dX9_isDue_12 ?_
    refine mj_aload_n C dX9_isDue_13 rfl ?_
    refine mj_getr (r := (β, 1)) C lF_X9_37 hw.2.1 rfl dX9_isDue_14 ?_
    refine mj_bget C lF_X9_47 (sL1 hw.1) rfl dX9_isDue_17 ?_
    refine mj_icmp_gt (tgt := 27) C dX9_isDue_20 (by decide) (fun c2 => ?_) (fun c2 => ?_)
    · replace h := mj_if_t c2 h
      refine mj_iconst (v := 0) C dX9_isDue_27 (by decide) ?_
      cases h
      exact mj_iret C hT (mj_nb mj_b0) dX9_isDue_28 ⟨rfl, rfl, mj_b0⟩
    · replace h := mj_if_f c2 h
      refine mj_iconst (v := 1) C dX9_isDue_23 (by decide) ?_
      refine mj_goto (tgt := 28) C dX9_isDue_24 (by decide) ?_
      cases h
      exact mj_iret C hT (mj_nb mj_b1') dX9_isDue_28 ⟨rfl, rfl, mj_b1'⟩
def f_X9_tickOf (w : Nat) (a1 : Int32) (m : mj_m) : Option (Int32) := mj_let (f_X9_has w a1 m) (fun r1 => if r1 = 0 then (some (-1)) else (mj_chk (mj_ok a1 48) (some (m (w + 2) (mj_cl a1)))))
set_option maxHeartbeats 4000000 in
set_option maxRecDepth 20000 in
theorem C_X9_tickOf {G : mj_G} {β : Nat} {M : mj_M} {w : Nat} {a1 : Int32} {m : mj_m} {x0 : Int32} (hw : mj_isWay G β w) (h : f_X9_tickOf w a1 m = some x0) : mj_S1 yX9_tickOf cX9_tickOf 2 (some .int) 1 G [mj_r (β, w), .inl a1] (va_up M β m) (some (.inl x0)) (va_up M β m) := by
  refine mj_intro (by decide) (Nat.le_of_ble_eq_true rfl) ?_
  intro κ C hG hR hT
  subst hG
  have C : mj_C κ cX9_tickOf 2 RX9 := C
  show mj_R κ (mj_F κ (fun r M' => r = (some (.inl x0)) ∧ M' = (va_up M β m) ∧ mj_bb (some .int) (some (.inl x0)))) 0 [some (mj_r (β, w)), some (.inl a1)] [] (va_up M β m)
  unfold f_X9_tickOf at h
  refine mj_aload_n C dX9_tickOf_0 rfl ?_
  refine mj_iload_n C dX9_tickOf_1 rfl ?_
  obtain ⟨r1, er1, h⟩ := mj_let_o h
  refine mj_callV1 (av := [.inl a1]) C lM_X9_52 lV_X9_has hw.2.1 ⟨_, rfl, rfl⟩ rfl (C_X9_has hw er1) (mj_rmok hR (by decide) (by decide)) rfl (Nat.le_of_ble_eq_true rfl) dX9_tickOf_2 (fun hb2 => ?_)
  refine mj_if_eq (tgt := 17) C dX9_tickOf_5 (by decide) (fun c3 => ?_) (fun c3 => ?_)
  · replace h := mj_if_t c3 h
    refine mj_iconst (v := (-1)) C dX9_tickOf_17 (by decide) ?_
    cases h
    exact mj_iret C hT (vp_nar_int _) dX9_tickOf_18 ⟨rfl, rfl, mj_bi _⟩
  · replace h := mj_if_f c3 h
    refine mj_aload_n C dX9_tickOf_8 rfl ?_
    refine mj_getr (r := (β, (w + 2))) C lF_X9_15 hw.2.1 rfl dX9_tickOf_9 ?_
    refine mj_iload_n C dX9_tickOf_12 rfl ?_
    obtain ⟨k4, h⟩ := mj_chk_o h
    refine mj_bald C hw.2.2.2.1 k4 rfl dX9_tickOf_13 ?_
    refine mj_goto (tgt := 18) C dX9_tickOf_14 (by decide) ?_
    cases h
    exact mj_iret C hT (vp_nar_int _) dX9_tickOf_18 ⟨rfl, rfl, mj_bi _⟩
def f_X9_byteOf (w : Nat) (a1 : Int32) (a2 : Int32) (m : mj_m) : Option (Int32) := mj_let (f_X9_hasByte w a1 a2 m) (fun r1 => if r1 = 0 then (some (-1)) else (mj_chk (mj_ok ((a1 * 5) + a2) 240) (some (m (w + 1) (mj_cl ((a1 * 5) + a2))))))
set_option maxHeartbeats 4000000 in
set_option maxRecDepth 20000 in
theorem C_X9_byteOf {G : mj_G} {β : Nat} {M : mj_M} {w : Nat} {a1 : Int32} {a2 : Int32} {m : mj_m} {x0 : Int32} (hw : mj_isWay G β w) (h : f_X9_byteOf w a1 a2 m = some x0) : mj_S1 yX9_byteOf cX9_byteOf 3 (some .int) 1 G [mj_r (β, w), .inl a1, .inl a2] (va_up M β m) (some (.inl x0)) (va_up M β m) := by
  refine mj_intro (by decide) (Nat.le_of_ble_eq_true rfl) ?_
  intro κ C hG hR hT
  subst hG
  have C : mj_C κ cX9_byteOf 3 RX9 := C
  show mj_R κ (mj_F κ (fun r M' => r = (some (.inl x0)) ∧ M' = (va_up M β m) ∧ mj_bb (some .int) (some (.inl x0)))) 0 [some (mj_r (β, w)), some (.inl a1), some (.inl a2)] [] (va_up M β m)
  unfold f_X9_byteOf at h
  refine mj_aload_n C dX9_byteOf_0 rfl ?_
  refine mj_iload_n C dX9_byteOf_1 rfl ?_
  refine mj_iload_n C dX9_byteOf_2 rfl ?_
  obtain ⟨r1, er1, h⟩ := mj_let_o h
  refine mj_callV1 (av := [.inl a1, .inl a2]) C lM_X9_56 lV_X9_hasByte hw.2.1 ⟨_, rfl, rfl⟩ rfl (C_X9_hasByte hw er1) (mj_rmok hR (by decide) (by decide)) rfl (Nat.le_of_ble_eq_true rfl) dX9_byteOf_3 (fun hb2 => ?_)
  refine mj_if_eq (tgt := 22) C dX9_byteOf_6 (by decide) (fun c3 => ?_) (fun c3 => ?_)
  · replace h := mj_if_t c3 h
    refine mj_iconst (v := (-1)) C dX9_byteOf_22 (by decide) ?_
    cases h
    exact mj_iret C hT (vp_nar_int _) dX9_byteOf_23 ⟨rfl, rfl, mj_bi _⟩
  · replace h := mj_if_f c3 h
    refine mj_aload_n C dX9_byteOf_9 rfl ?_
    refine mj_getr (r := (β, (w + 1))) C lF_X9_11 hw.2.1 rfl dX9_byteOf_10 ?_
    refine mj_iload_n C dX9_byteOf_13 rfl ?_
    refine mj_iconst (v := 5) C dX9_byteOf_14 (by decide) ?_
    refine mj_imul C dX9_byteOf_15 ?_
    refine mj_iload_n C dX9_byteOf_16 rfl ?_
    refine mj_iadd C dX9_byteOf_17 ?_
    obtain ⟨k4, h⟩ := mj_chk_o h
    refine mj_bald C hw.2.2.1 k4 rfl dX9_byteOf_18 ?_
    refine mj_goto (tgt := 23) C dX9_byteOf_19 (by decide) ?_
    cases h
    exact mj_iret C hT (vp_nar_int _) dX9_byteOf_23 ⟨rfl, rfl, mj_bi _⟩
def f_X9_lineOf (w : Nat) (a1 : Int32) (m : mj_m) : Option (Int32) := mj_let (f_X9_has w a1 m) (fun r1 => if r1 = 0 then (some (-1)) else (mj_chk (mj_ok a1 48) (some (m (w + 3) (mj_cl a1)))))
set_option maxHeartbeats 4000000 in
set_option maxRecDepth 20000 in
theorem C_X9_lineOf {G : mj_G} {β : Nat} {M : mj_M} {w : Nat} {a1 : Int32} {m : mj_m} {x0 : Int32} (hw : mj_isWay G β w) (h : f_X9_lineOf w a1 m = some x0) : mj_S1 yX9_lineOf cX9_lineOf 2 (some .int) 1 G [mj_r (β, w), .inl a1] (va_up M β m) (some (.inl x0)) (va_up M β m) := by
  refine mj_intro (by decide) (Nat.le_of_ble_eq_true rfl) ?_
  intro κ C hG hR hT
  subst hG
  have C : mj_C κ cX9_lineOf 2 RX9 := C
  show mj_R κ (mj_F κ (fun r M' => r = (some (.inl x0)) ∧ M' = (va_up M β m) ∧ mj_bb (some .int) (some (.inl x0)))) 0 [some (mj_r (β, w)), some (.inl a1)] [] (va_up M β m)
  unfold f_X9_lineOf at h
  refine mj_aload_n C dX9_lineOf_0 rfl ?_
  refine mj_iload_n C dX9_lineOf_1 rfl ?_
  obtain ⟨r1, er1, h⟩ := mj_let_o h
  refine mj_callV1 (av := [.inl a1]) C lM_X9_52 lV_X9_has hw.2.1 ⟨_, rfl, rfl⟩ rfl (C_X9_has hw er1) (mj_rmok hR (by decide) (by decide)) rfl (Nat.le_of_ble_eq_true rfl) dX9_lineOf_2 (fun hb2 => ?_)
  refine mj_if_eq (tgt := 17) C dX9_lineOf_5 (by decide) (fun c3 => ?_) (fun c3 => ?_)
  · replace h := mj_if_t c3 h
    refine mj_iconst (v := (-1)) C dX9_lineOf_17 (by decide) ?_
    cases h
    exact mj_iret C hT (vp_nar_int _) dX9_lineOf_18 ⟨rfl, rfl, mj_bi _⟩
  · replace h := mj_if_f c3 h
    refine mj_aload_n C dX9_lineOf_8 rfl ?_
    refine mj_getr (r := (β, (w + 3))) C lF_X9_18 hw.2.1 rfl dX9_lineOf_9 ?_
    refine mj_iload_n C dX9_lineOf_12 rfl ?_
    obtain ⟨k4, h⟩ := mj_chk_o h
    refine mj_bald C hw.2.2.2.2.1 k4 rfl dX9_lineOf_13 ?_
    refine mj_goto (tgt := 18) C dX9_lineOf_14 (by decide) ?_
    cases h
    exact mj_iret C hT (vp_nar_int _) dX9_lineOf_18 ⟨rfl, rfl, mj_bi _⟩
def f_X9_putByte (w : Nat) (a1 : Int32) (a2 : Int32) (a3 : Int32) (m : mj_m) : Option (Int32 × mj_m) := mj_let (f_X9_hasByte w a1 a2 m) (fun r1 => if r1 = 0 then (some (0, m)) else (mj_let (f_X10_isWithin a3 0 255) (fun r4 => if r4 = 0 then (some (0, m)) else (mj_chk (mj_ok ((a1 * 5) + a2) 240) (mj_let (mj_wrs m (w + 1) (mj_cl ((a1 * 5) + a2)) a3) (fun m8 => some (1, m8)))))))
set_option maxHeartbeats 4000000 in
set_option maxRecDepth 20000 in
theorem C_X9_putByte {G : mj_G} {β : Nat} {M : mj_M} {w : Nat} {a1 : Int32} {a2 : Int32} {a3 : Int32} {m : mj_m} {x0 : Int32} {m0 : mj_m} (hw : mj_isWay G β w) (h : f_X9_putByte w a1 a2 a3 m = some (x0, m0)) : mj_S1 yX9_putByte cX9_putByte 4 (some .boolean) 1 G [mj_r (β, w), .inl a1, .inl a2, .inl a3] (va_up M β m) (some (.inl x0)) (va_up M β m0) := by
  refine mj_intro (by decide) (Nat.le_of_ble_eq_true rfl) ?_
  intro κ C hG hR hT
  subst hG
  have C : mj_C κ cX9_putByte 4 RX9 := C
  show mj_R κ (mj_F κ (fun r M' => r = (some (.inl x0)) ∧ M' = (va_up M β m0) ∧ mj_bb (some .boolean) (some (.inl x0)))) 0 [some (mj_r (β, w)), some (.inl a1), some (.inl a2), some (.inl a3)] [] (va_up M β m)
  unfold f_X9_putByte at h
  refine mj_aload_n C dX9_putByte_0 rfl ?_
  refine mj_iload_n C dX9_putByte_1 rfl ?_
  refine mj_iload_n C dX9_putByte_2 rfl ?_
  obtain ⟨r1, er1, h⟩ := mj_let_o h
  refine mj_callV1 (av := [.inl a1, .inl a2]) C lM_X9_56 lV_X9_hasByte hw.2.1 ⟨_, rfl, rfl⟩ rfl (C_X9_hasByte hw er1) (mj_rmok hR (by decide) (by decide)) rfl (Nat.le_of_ble_eq_true rfl) dX9_putByte_3 (fun hb2 => ?_)
  refine mj_if_eq (tgt := 20) C dX9_putByte_6 (by decide) (fun c3 => ?_) (fun c3 => ?_)
  · replace h := mj_if_t c3 h
    refine mj_iconst (v := 0) C dX9_putByte_20 (by decide) ?_
    cases h
    exact mj_iret C hT (mj_nb mj_b0) dX9_putByte_21 ⟨rfl, rfl, mj_b0⟩
  · replace h := mj_if_f c3 h
    refine mj_iload_n C dX9_putByte_9 rfl ?_
    refine mj_iconst (v := 0) C dX9_putByte_10 (by decide) ?_
    refine mj_sipush (v := 255) C dX9_putByte_11 (by decide) ?_
    obtain ⟨r4, er4, h⟩ := mj_let_o h
    refine mj_callN1 (av := [.inl a3, .inl 0, .inl 255]) C lN_X9_60 lS_X10_isWithin rfl (C_X10_isWithin  er4) (mj_rmok hR (by decide) (by decide)) rfl (Nat.le_of_ble_eq_true rfl) dX9_putByte_14 (fun hb5 => ?_)
    refine mj_if_ne (tgt := 22) C dX9_putByte_17 (by decide) (fun c6 => ?_) (fun c6 => ?_)
    · replace h := mj_if_f c6 h
      refine mj_aload_n C dX9_putByte_22 rfl ?_
      refine mj_getr (r := (β, (w + 1))) C lF_X9_11 hw.2.1 rfl dX9_putByte_23 ?_
      refine mj_iload_n C dX9_putByte_26 rfl ?_
      refine mj_iconst (v := 5) C dX9_putByte_27 (by decide) ?_
      refine mj_imul C dX9_putByte_28 ?_
      refine mj_iload_n C dX9_putByte_29 rfl ?_
      refine mj_iadd C dX9_putByte_30 ?_
      refine mj_iload_n C dX9_putByte_31 rfl ?_
      obtain ⟨k7, h⟩ := mj_chk_o h
      obtain ⟨m8, hm8, h⟩ := mj_let_o h
      refine mj_bast C hw.2.2.1 k7 rfl dX9_putByte_32 hm8 ?_
      refine mj_iconst (v := 1) C dX9_putByte_33 (by decide) ?_
      cases h
      exact mj_iret C hT (mj_nb mj_b1') dX9_putByte_34 ⟨rfl, rfl, mj_b1'⟩
    · replace h := mj_if_t c6 h
      refine mj_iconst (v := 0) C dX9_putByte_20 (by decide) ?_
      cases h
      exact mj_iret C hT (mj_nb mj_b0) dX9_putByte_21 ⟨rfl, rfl, mj_b0⟩
def f_X9_takeOff (w : Nat) (a1 : Int32) (m : mj_m) : Option (Int32 × mj_m) := mj_let (f_X9_has w a1 m) (fun r1 => if r1 = 0 then (some (0, m)) else (mj_let (mj_wrs m w 7 ((m w 7) - 1)) (fun m4 => mj_let ((m4 w 7) - a1) (fun x5 => mj_chk (mj_cok (a1 + 1) a1 x5 48 48) (mj_let (mj_cpw m4 (w + 2) (w + 2) (a1 + 1) a1 x5) (fun m7 => mj_chk (mj_cok (a1 + 1) a1 x5 48 48) (mj_let (mj_cpw m7 (w + 3) (w + 3) (a1 + 1) a1 x5) (fun m9 => mj_chk (mj_cok ((a1 + 1) * 5) (a1 * 5) (x5 * 5) 240 240) (mj_let (mj_cpw m9 (w + 1) (w + 1) ((a1 + 1) * 5) (a1 * 5) (x5 * 5)) (fun m11 => some (1, m11)))))))))))
set_option maxHeartbeats 4000000 in
set_option maxRecDepth 20000 in
theorem C_X9_takeOff {G : mj_G} {β : Nat} {M : mj_M} {w : Nat} {a1 : Int32} {m : mj_m} {x0 : Int32} {m0 : mj_m} (hw : mj_isWay G β w) (h : f_X9_takeOff w a1 m = some (x0, m0)) : mj_S1 yX9_takeOff cX9_takeOff 3 (some .boolean) 1 G [mj_r (β, w), .inl a1] (va_up M β m) (some (.inl x0)) (va_up M β m0) := by
  refine mj_intro (by decide) (Nat.le_of_ble_eq_true rfl) ?_
  intro κ C hG hR hT
  subst hG
  have C : mj_C κ cX9_takeOff 3 RX9 := C
  show mj_R κ (mj_F κ (fun r M' => r = (some (.inl x0)) ∧ M' = (va_up M β m0) ∧ mj_bb (some .boolean) (some (.inl x0)))) 0 [some (mj_r (β, w)), some (.inl a1), none] [] (va_up M β m)
  unfold f_X9_takeOff at h
  refine mj_aload_n C dX9_takeOff_0 rfl ?_
  refine mj_iload_n C dX9_takeOff_1 rfl ?_
  obtain ⟨r1, er1, h⟩ := mj_let_o h
  refine mj_callV1 (av := [.inl a1]) C lM_X9_52 lV_X9_has hw.2.1 ⟨_, rfl, rfl⟩ rfl (C_X9_has hw er1) (mj_rmok hR (by decide) (by decide)) rfl (Nat.le_of_ble_eq_true rfl) dX9_takeOff_2 (fun hb2 => ?_)
  refine mj_if_ne (tgt := 10) C dX9_takeOff_5 (by decide) (fun c3 => ?_) (fun c3 => ?_)
  · replace h := mj_if_f c3 h
    refine mj_aload_n C dX9_takeOff_10 rfl ?_
    refine mj_dup C dX9_takeOff_11 ?_
    refine mj_bget C lF_X9_24 hw.2.1 rfl dX9_takeOff_12 ?_
    refine mj_iconst (v := 1) C dX9_takeOff_15 (by decide) ?_
    refine mj_isub C dX9_takeOff_16 ?_
    obtain ⟨m4, hm4, h⟩ := mj_let_o h
    refine mj_bput C lF_X9_24 fP_10_7 (vp_nar_int _) rfl hw.2.1 rfl dX9_takeOff_17 hm4 ?_
    refine mj_aload_n C dX9_takeOff_20 rfl ?_
    refine mj_bget C lF_X9_24 hw.2.1 rfl dX9_takeOff_21 ?_
    refine mj_iload_n C dX9_takeOff_24 rfl ?_
    refine mj_isub C dX9_takeOff_25 ?_
    obtain ⟨x5, hx5, h⟩ := mj_let_o h
    refine mj_nm hx5 ?_
    refine mj_istore_n (L2 := [some (mj_r (β, w)), some (.inl a1), some (.inl x5)]) C dX9_takeOff_26 (Nat.le_of_ble_eq_true rfl) rfl ?_
    refine mj_aload_n C dX9_takeOff_27 rfl ?_
    refine mj_getr (r := (β, (w + 2))) C lF_X9_15 hw.2.1 rfl dX9_takeOff_28 ?_
    refine mj_iload_n C dX9_takeOff_31 rfl ?_
    refine mj_iconst (v := 1) C dX9_takeOff_32 (by decide) ?_
    refine mj_iadd C dX9_takeOff_33 ?_
    refine mj_aload_n C dX9_takeOff_34 rfl ?_
    refine mj_getr (r := (β, (w + 2))) C lF_X9_15 hw.2.1 rfl dX9_takeOff_35 ?_
    refine mj_iload_n C dX9_takeOff_38 rfl ?_
    refine mj_iload_n C dX9_takeOff_39 rfl ?_
    obtain ⟨k6, h⟩ := mj_chk_o h
    obtain ⟨m7, hm7, h⟩ := mj_let_o h
    refine mj_bcopy C lM_X9_64 rfl hw.2.2.2.1 hw.2.2.2.1 k6 (mj_rmc hR (by decide)) (Nat.le_of_ble_eq_true rfl) dX9_takeOff_40 hm7 ?_
    refine mj_aload_n C dX9_takeOff_43 rfl ?_
    refine mj_getr (r := (β, (w + 3))) C lF_X9_18 hw.2.1 rfl dX9_takeOff_44 ?_
    refine mj_iload_n C dX9_takeOff_47 rfl ?_
    refine mj_iconst (v := 1) C dX9_takeOff_48 (by decide) ?_
    refine mj_iadd C dX9_takeOff_49 ?_
    refine mj_aload_n C dX9_takeOff_50 rfl ?_
    refine mj_getr (r := (β, (w + 3))) C lF_X9_18 hw.2.1 rfl dX9_takeOff_51 ?_
    refine mj_iload_n C dX9_takeOff_54 rfl ?_
    refine mj_iload_n C dX9_takeOff_55 rfl ?_
    obtain ⟨k8, h⟩ := mj_chk_o h
    obtain ⟨m9, hm9, h⟩ := mj_let_o h
    refine mj_bcopy C lM_X9_64 rfl hw.2.2.2.2.1 hw.2.2.2.2.1 k8 (mj_rmc hR (by decide)) (Nat.le_of_ble_eq_true rfl) dX9_takeOff_56 hm9 ?_
    refine mj_aload_n C dX9_takeOff_59 rfl ?_
    refine mj_getr (r := (β, (w + 1))) C lF_X9_11 hw.2.1 rfl dX9_takeOff_60 ?_
    refine mj_iload_n C dX9_takeOff_63 rfl ?_
    refine mj_iconst (v := 1) C dX9_takeOff_64 (by decide) ?_
    refine mj_iadd C dX9_takeOff_65 ?_
    refine mj_iconst (v := 5) C dX9_takeOff_66 (by decide) ?_
    refine mj_imul C dX9_takeOff_67 ?_
    refine mj_aload_n C dX9_takeOff_68 rfl ?_
    refine mj_getr (r := (β, (w + 1))) C lF_X9_11 hw.2.1 rfl dX9_takeOff_69 ?_
    refine mj_iload_n C dX9_takeOff_72 rfl ?_
    refine mj_iconst (v := 5) C dX9_takeOff_73 (by decide) ?_
    refine mj_imul C dX9_takeOff_74 ?_
    refine mj_iload_n C dX9_takeOff_75 rfl ?_
    refine mj_iconst (v := 5) C dX9_takeOff_76 (by decide) ?_
    refine mj_imul C dX9_takeOff_77 ?_
    obtain ⟨k10, h⟩ := mj_chk_o h
    obtain ⟨m11, hm11, h⟩ := mj_let_o h
    refine mj_bcopy C lM_X9_64 rfl hw.2.2.1 hw.2.2.1 k10 (mj_rmc hR (by decide)) (Nat.le_of_ble_eq_true rfl) dX9_takeOff_78 hm11 ?_
    refine mj_iconst (v := 1) C dX9_takeOff_81 (by decide) ?_
    cases h
    exact mj_iret C hT (mj_nb mj_b1') dX9_takeOff_82 ⟨rfl, rfl, mj_b1'⟩
  · replace h := mj_if_t c3 h
    refine mj_iconst (v := 0) C dX9_takeOff_8 (by decide) ?_
    cases h
    exact mj_iret C hT (mj_nb mj_b0) dX9_takeOff_9 ⟨rfl, rfl, mj_b0⟩
def f_X9_doom_L23 (w : Nat) (l1 : Int32) : Nat → Int32 → mj_m → Option (Nat)
  | 0, _, _ => none
  | n + 1, l2, m => if m w 8 ≤ l2 then (some 54) else (mj_chk (mj_ok l2 8) (if m (w + 4) (mj_cl l2) = (m w 9) + l1 then (some 46) else (mj_let (l2 + 1) (fun x4 => f_X9_doom_L23 w l1 n x4 m))))
set_option maxHeartbeats 4000000 in
set_option maxRecDepth 20000 in
theorem C_X9_doom_L23 {κ : mj_K} {Q : State → Prop} {β : Nat} {M : mj_M} {w : Nat} {l1 : Int32} (C : mj_C κ cX9_doom 3 RX9) (hw : mj_isWay (mj_g κ) β w) (hR : mj_dp κ 1) : ∀ (n : Nat) (l2 : Int32) (m : mj_m) (tg : Nat), f_X9_doom_L23 w l1 n l2 m = some tg → (tg = 46 → mj_R κ Q 46 [none, none, none] [] (va_up M β m)) → (tg = 54 → mj_R κ Q 54 [some (mj_r (β, w)), some (.inl l1), none] [] (va_up M β m)) → mj_R κ Q 23 [some (mj_r (β, w)), some (.inl l1), some (.inl l2)] [] (va_up M β m) := by
  intro n
  induction n with
  | zero =>
    intro l2 m tg h
    cases h
  | succ n ih =>
    intro l2 m tg h hx46 hx54
    rw [f_X9_doom_L23] at h
    refine mj_iload_n C dX9_doom_23 rfl ?_
    refine mj_aload_n C dX9_doom_24 rfl ?_
    refine mj_bget C lF_X9_28 hw.2.1 rfl dX9_doom_25 ?_
    refine mj_icmp_ge (tgt := 54) C dX9_doom_28 (by decide) (fun c1 => ?_) (fun c1 => ?_)
    · replace h := mj_if_t c1 h
      cases h
      refine mj_sub ?_ (hx54 rfl)
      exact ⟨rfl, ⟨rfl, trivial⟩⟩
    · replace h := mj_if_f c1 h
      refine mj_aload_n C dX9_doom_31 rfl ?_
      refine mj_getr (r := (β, (w + 4))) C lF_X9_21 hw.2.1 rfl dX9_doom_32 ?_
      refine mj_iload_n C dX9_doom_35 rfl ?_
      obtain ⟨k2, h⟩ := mj_chk_o h
      refine mj_bald C hw.2.2.2.2.2 k2 rfl dX9_doom_36 ?_
      refine mj_aload_n C dX9_doom_37 rfl ?_
      refine mj_bget C lF_X9_31 hw.2.1 rfl dX9_doom_38 ?_
      refine mj_iload_n C dX9_doom_41 rfl ?_
      refine mj_iadd C dX9_doom_42 ?_
      refine mj_icmp_ne (tgt := 48) C dX9_doom_43 (by decide) (fun c3 => ?_) (fun c3 => ?_)
      · replace h := mj_if_f c3 h
        obtain ⟨x4, hx4, h⟩ := mj_let_o h
        refine mj_iinc (L2 := [some (mj_r (β, w)), some (.inl l1), some (.inl x4)]) C dX9_doom_48 rfl hx4 rfl ?_
        refine mj_goto (tgt := 23) C dX9_doom_51 (by decide) ?_
        refine mj_sub (L' := [some (mj_r (β, w)), some (.inl l1), some (.inl x4)]) ⟨rfl, ⟨rfl, ⟨rfl, trivial⟩⟩⟩ ?_
        exact ih _ _ _ h hx46 hx54
      · replace h := mj_if_t c3 h
        cases h
        refine mj_sub ?_ (hx46 rfl)
        exact trivial
def f_X9_doom (w : Nat) (a1 : Int32) (m : mj_m) : Option (Int32 × mj_m) := mj_let (f_X10_isWithin a1 1 99) (fun r5 => if r5 = 0 then (some ((-1), m)) else (if m w 8 < 8 then (mj_b1 (f_X9_doom_L23 w a1 mj_fu 0 m) (fun t9 => if t9 = 46 then (some ((-1), m)) else (mj_chk (mj_ok (m w 8) 8) (mj_let (mj_wrs m (w + 4) (mj_cl (m w 8)) ((m w 9) + a1)) (fun m12 => mj_let (mj_wrs m12 w 8 ((m12 w 8) + 1)) (fun m13 => some (m13 w 8, m13))))))) else (some ((-1), m))))
set_option maxHeartbeats 4000000 in
set_option maxRecDepth 20000 in
theorem C_X9_doom {G : mj_G} {β : Nat} {M : mj_M} {w : Nat} {a1 : Int32} {m : mj_m} {x0 : Int32} {m0 : mj_m} (hw : mj_isWay G β w) (h : f_X9_doom w a1 m = some (x0, m0)) : mj_S1 yX9_doom cX9_doom 3 (some .int) 1 G [mj_r (β, w), .inl a1] (va_up M β m) (some (.inl x0)) (va_up M β m0) := by
  refine mj_intro (by decide) (Nat.le_of_ble_eq_true rfl) ?_
  intro κ C hG hR hT
  subst hG
  have C : mj_C κ cX9_doom 3 RX9 := C
  show mj_R κ (mj_F κ (fun r M' => r = (some (.inl x0)) ∧ M' = (va_up M β m0) ∧ mj_bb (some .int) (some (.inl x0)))) 0 [some (mj_r (β, w)), some (.inl a1), none] [] (va_up M β m)
  unfold f_X9_doom at h
  refine mj_iload_n C dX9_doom_0 rfl ?_
  refine mj_iconst (v := 1) C dX9_doom_1 (by decide) ?_
  refine mj_bipush (v := 99) C dX9_doom_2 (by decide) ?_
  obtain ⟨r5, er5, h⟩ := mj_let_o h
  refine mj_callN1 (av := [.inl a1, .inl 1, .inl 99]) C lN_X9_60 lS_X10_isWithin rfl (C_X10_isWithin  er5) (mj_rmok hR (by decide) (by decide)) rfl (Nat.le_of_ble_eq_true rfl) dX9_doom_4 (fun hb6 => ?_)
  refine mj_if_eq (tgt := 19) C dX9_doom_7 (by decide) (fun c7 => ?_) (fun c7 => ?_)
  · replace h := mj_if_t c7 h
    refine mj_iconst (v := (-1)) C dX9_doom_19 (by decide) ?_
    cases h
    exact mj_iret C hT (vp_nar_int _) dX9_doom_20 ⟨rfl, rfl, mj_bi _⟩
  · replace h := mj_if_f c7 h
    refine mj_aload_n C dX9_doom_10 rfl ?_
    refine mj_bget C lF_X9_28 hw.2.1 rfl dX9_doom_11 ?_
    refine mj_bipush (v := 8) C dX9_doom_14 (by decide) ?_
    refine mj_icmp_lt (tgt := 21) C dX9_doom_16 (by decide) (fun c8 => ?_) (fun c8 => ?_)
    · replace h := mj_if_t c8 h
      refine mj_iconst (v := 0) C dX9_doom_21 (by decide) ?_
      refine mj_istore_n (L2 := [some (mj_r (β, w)), some (.inl a1), some (.inl 0)]) C dX9_doom_22 (Nat.le_of_ble_eq_true rfl) rfl ?_
      obtain ⟨t9, hl10, h⟩ := mj_b1_o h
      refine mj_sub (L' := [some (mj_r (β, w)), some (.inl a1), some (.inl 0)]) ⟨rfl, ⟨rfl, ⟨rfl, trivial⟩⟩⟩ ?_
      refine C_X9_doom_L23 C hw hR _ _ _ _ hl10 (fun te => ?_) (fun te => ?_)
      · subst te
        replace h := mj_if_t rfl h
        refine mj_iconst (v := (-1)) C dX9_doom_46 (by decide) ?_
        cases h
        exact mj_iret C hT (vp_nar_int _) dX9_doom_47 ⟨rfl, rfl, mj_bi _⟩
      · subst te
        replace h := mj_if_f (by decide) h
        refine mj_aload_n C dX9_doom_54 rfl ?_
        refine mj_getr (r := (β, (w + 4))) C lF_X9_21 hw.2.1 rfl dX9_doom_55 ?_
        refine mj_aload_n C dX9_doom_58 rfl ?_
        refine mj_bget C lF_X9_28 hw.2.1 rfl dX9_doom_59 ?_
        refine mj_aload_n C dX9_doom_62 rfl ?_
        refine mj_bget C lF_X9_31 hw.2.1 rfl dX9_doom_63 ?_
        refine mj_iload_n C dX9_doom_66 rfl ?_
        refine mj_iadd C dX9_doom_67 ?_
        obtain ⟨k11, h⟩ := mj_chk_o h
        obtain ⟨m12, hm12, h⟩ := mj_let_o h
        refine mj_bast C hw.2.2.2.2.2 k11 rfl dX9_doom_68 hm12 ?_
        refine mj_aload_n C dX9_doom_69 rfl ?_
        refine mj_dup C dX9_doom_70 ?_
        refine mj_bget C lF_X9_28 hw.2.1 rfl dX9_doom_71 ?_
        refine mj_iconst (v := 1) C dX9_doom_74 (by decide) ?_
        refine mj_iadd C dX9_doom_75 ?_
        obtain ⟨m13, hm13, h⟩ := mj_let_o h
        refine mj_bput C lF_X9_28 fP_10_8 (vp_nar_int _) rfl hw.2.1 rfl dX9_doom_76 hm13 ?_
        refine mj_aload_n C dX9_doom_79 rfl ?_
        refine mj_bget C lF_X9_28 hw.2.1 rfl dX9_doom_80 ?_
        cases h
        exact mj_iret C hT (vp_nar_int _) dX9_doom_83 ⟨rfl, rfl, mj_bi _⟩
    · replace h := mj_if_f c8 h
      refine mj_iconst (v := (-1)) C dX9_doom_19 (by decide) ?_
      cases h
      exact mj_iret C hT (vp_nar_int _) dX9_doom_20 ⟨rfl, rfl, mj_bi _⟩
def f_X9_meetsFate_L2 (w : Nat) : Nat → Int32 → mj_m → Option (Nat × Int32)
  | 0, _, _ => none
  | n + 1, l1, m => if m w 8 ≤ l1 then (some (56, 0)) else (mj_chk (mj_ok l1 8) (if m (w + 4) (mj_cl l1) = m w 9 then (some (23, l1)) else (mj_let (l1 + 1) (fun x4 => f_X9_meetsFate_L2 w n x4 m))))
set_option maxHeartbeats 4000000 in
set_option maxRecDepth 20000 in
theorem C_X9_meetsFate_L2 {κ : mj_K} {Q : State → Prop} {β : Nat} {M : mj_M} {w : Nat} (C : mj_C κ cX9_meetsFate 2 RX9) (hw : mj_isWay (mj_g κ) β w) (hR : mj_dp κ 0) : ∀ (n : Nat) (l1 : Int32) (m : mj_m) (tg : Nat) (o1 : Int32), f_X9_meetsFate_L2 w n l1 m = some (tg, o1) → (tg = 23 → mj_R κ Q 23 [some (mj_r (β, w)), some (.inl o1)] [] (va_up M β m)) → (tg = 56 → mj_R κ Q 56 [none, none] [] (va_up M β m)) → mj_R κ Q 2 [some (mj_r (β, w)), some (.inl l1)] [] (va_up M β m) := by
  intro n
  induction n with
  | zero =>
    intro l1 m tg o1 h
    cases h
  | succ n ih =>
    intro l1 m tg o1 h hx23 hx56
    rw [f_X9_meetsFate_L2] at h
    refine mj_iload_n C dX9_meetsFate_2 rfl ?_
    refine mj_aload_n C dX9_meetsFate_3 rfl ?_
    refine mj_bget C lF_X9_28 hw.2.1 rfl dX9_meetsFate_4 ?_
    refine mj_icmp_ge (tgt := 56) C dX9_meetsFate_7 (by decide) (fun c1 => ?_) (fun c1 => ?_)
    · replace h := mj_if_t c1 h
      cases h
      refine mj_sub ?_ (hx56 rfl)
      exact trivial
    · replace h := mj_if_f c1 h
      refine mj_aload_n C dX9_meetsFate_10 rfl ?_
      refine mj_getr (r := (β, (w + 4))) C lF_X9_21 hw.2.1 rfl dX9_meetsFate_11 ?_
      refine mj_iload_n C dX9_meetsFate_14 rfl ?_
      obtain ⟨k2, h⟩ := mj_chk_o h
      refine mj_bald C hw.2.2.2.2.2 k2 rfl dX9_meetsFate_15 ?_
      refine mj_aload_n C dX9_meetsFate_16 rfl ?_
      refine mj_bget C lF_X9_31 hw.2.1 rfl dX9_meetsFate_17 ?_
      refine mj_icmp_ne (tgt := 50) C dX9_meetsFate_20 (by decide) (fun c3 => ?_) (fun c3 => ?_)
      · replace h := mj_if_f c3 h
        obtain ⟨x4, hx4, h⟩ := mj_let_o h
        refine mj_iinc (L2 := [some (mj_r (β, w)), some (.inl x4)]) C dX9_meetsFate_50 rfl hx4 rfl ?_
        refine mj_goto (tgt := 2) C dX9_meetsFate_53 (by decide) ?_
        refine mj_sub (L' := [some (mj_r (β, w)), some (.inl x4)]) ⟨rfl, ⟨rfl, trivial⟩⟩ ?_
        exact ih _ _ _ _ h hx23 hx56
      · replace h := mj_if_t c3 h
        cases h
        refine mj_sub ?_ (hx23 rfl)
        exact ⟨rfl, ⟨rfl, trivial⟩⟩
def f_X9_meetsFate (w : Nat) (m : mj_m) : Option (Int32 × mj_m) := mj_b2 (f_X9_meetsFate_L2 w mj_fu 0 m) (fun t5 x6 => if t5 = 23 then (mj_let (mj_wrs m w 8 ((m w 8) - 1)) (fun m8 => mj_chk (mj_ok (m8 w 8) 8) (mj_chk (mj_ok x6 8) (mj_let (mj_wrs m8 (w + 4) (mj_cl x6) (m8 (w + 4) (mj_cl (m8 w 8)))) (fun m11 => some (1, m11)))))) else (some (0, m)))
set_option maxHeartbeats 4000000 in
set_option maxRecDepth 20000 in
theorem C_X9_meetsFate {G : mj_G} {β : Nat} {M : mj_M} {w : Nat} {m : mj_m} {x0 : Int32} {m0 : mj_m} (hw : mj_isWay G β w) (h : f_X9_meetsFate w m = some (x0, m0)) : mj_S1 yX9_meetsFate cX9_meetsFate 2 (some .boolean) 0 G [mj_r (β, w)] (va_up M β m) (some (.inl x0)) (va_up M β m0) := by
  refine mj_intro (by decide) (Nat.le_of_ble_eq_true rfl) ?_
  intro κ C hG hR hT
  subst hG
  have C : mj_C κ cX9_meetsFate 2 RX9 := C
  show mj_R κ (mj_F κ (fun r M' => r = (some (.inl x0)) ∧ M' = (va_up M β m0) ∧ mj_bb (some .boolean) (some (.inl x0)))) 0 [some (mj_r (β, w)), none] [] (va_up M β m)
  unfold f_X9_meetsFate at h
  refine mj_iconst (v := 0) C dX9_meetsFate_0 (by decide) ?_
  refine mj_istore_n (L2 := [some (mj_r (β, w)), some (.inl 0)]) C dX9_meetsFate_1 (Nat.le_of_ble_eq_true rfl) rfl ?_
  obtain ⟨t5, x6, hl7, h⟩ := mj_b2_o h
  refine mj_sub (L' := [some (mj_r (β, w)), some (.inl 0)]) ⟨rfl, ⟨rfl, trivial⟩⟩ ?_
  refine C_X9_meetsFate_L2 C hw hR _ _ _ _ _ hl7 (fun te => ?_) (fun te => ?_)
  · subst te
    replace h := mj_if_t rfl h
    refine mj_aload_n C dX9_meetsFate_23 rfl ?_
    refine mj_dup C dX9_meetsFate_24 ?_
    refine mj_bget C lF_X9_28 hw.2.1 rfl dX9_meetsFate_25 ?_
    refine mj_iconst (v := 1) C dX9_meetsFate_28 (by decide) ?_
    refine mj_isub C dX9_meetsFate_29 ?_
    obtain ⟨m8, hm8, h⟩ := mj_let_o h
    refine mj_bput C lF_X9_28 fP_10_8 (vp_nar_int _) rfl hw.2.1 rfl dX9_meetsFate_30 hm8 ?_
    refine mj_aload_n C dX9_meetsFate_33 rfl ?_
    refine mj_getr (r := (β, (w + 4))) C lF_X9_21 hw.2.1 rfl dX9_meetsFate_34 ?_
    refine mj_iload_n C dX9_meetsFate_37 rfl ?_
    refine mj_aload_n C dX9_meetsFate_38 rfl ?_
    refine mj_getr (r := (β, (w + 4))) C lF_X9_21 hw.2.1 rfl dX9_meetsFate_39 ?_
    refine mj_aload_n C dX9_meetsFate_42 rfl ?_
    refine mj_bget C lF_X9_28 hw.2.1 rfl dX9_meetsFate_43 ?_
    obtain ⟨k9, h⟩ := mj_chk_o h
    refine mj_bald C hw.2.2.2.2.2 k9 rfl dX9_meetsFate_46 ?_
    obtain ⟨k10, h⟩ := mj_chk_o h
    obtain ⟨m11, hm11, h⟩ := mj_let_o h
    refine mj_bast C hw.2.2.2.2.2 k10 rfl dX9_meetsFate_47 hm11 ?_
    refine mj_iconst (v := 1) C dX9_meetsFate_48 (by decide) ?_
    cases h
    exact mj_iret C hT (mj_nb mj_b1') dX9_meetsFate_49 ⟨rfl, rfl, mj_b1'⟩
  · subst te
    replace h := mj_if_f (by decide) h
    refine mj_iconst (v := 0) C dX9_meetsFate_56 (by decide) ?_
    cases h
    exact mj_iret C hT (mj_nb mj_b0) dX9_meetsFate_57 ⟨rfl, rfl, mj_b0⟩
def f_X9_put_L14 (w : Nat) (l1 : Int32) (l2 : Int32) (l3 : Int32) : Nat → Int32 → Int32 → mj_m → Option (Int32 × mj_m)
  | 0, _, _, _ => none
  | n + 1, l4, l5, m => if (m w 1) - 1 ≤ l5 then (some (l4, m)) else (mj_let ((mj_ush l1 (8 * (((m w 1) - 2) - l5))) &&& 255) (fun x2 => mj_chk (mj_ok (l3 + l5) 240) (mj_let (mj_wrs m (w + 1) (mj_cl (l3 + l5)) x2) (fun m4 => mj_let (l4 + x2) (fun x5 => mj_let (l5 + 1) (fun x6 => f_X9_put_L14 w l1 l2 l3 n x5 x6 m4))))))
set_option maxHeartbeats 4000000 in
set_option maxRecDepth 20000 in
theorem C_X9_put_L14 {κ : mj_K} {Q : State → Prop} {β : Nat} {M : mj_M} {w : Nat} {l1 : Int32} {l2 : Int32} {l3 : Int32} (C : mj_C κ cX9_put 7 RX9) (hw : mj_isWay (mj_g κ) β w) (hR : mj_dp κ 0) : ∀ (n : Nat) (l4 : Int32) (l5 : Int32) (m : mj_m) (o4 : Int32) (mo : mj_m), f_X9_put_L14 w l1 l2 l3 n l4 l5 m = some (o4, mo) → (mj_R κ Q 69 [some (mj_r (β, w)), none, some (.inl l2), some (.inl l3), some (.inl o4), none, none] [] (va_up M β mo)) → mj_R κ Q 14 [some (mj_r (β, w)), some (.inl l1), some (.inl l2), some (.inl l3), some (.inl l4), some (.inl l5), none] [] (va_up M β m) := by
  intro n
  induction n with
  | zero =>
    intro l4 l5 m o4 mo h
    cases h
  | succ n ih =>
    intro l4 l5 m o4 mo h hx69
    rw [f_X9_put_L14] at h
    refine mj_iload C dX9_put_14 rfl ?_
    refine mj_aload_n C dX9_put_16 rfl ?_
    refine mj_bget C lF_X9_41 hw.2.1 rfl dX9_put_17 ?_
    refine mj_iconst (v := 1) C dX9_put_20 (by decide) ?_
    refine mj_isub C dX9_put_21 ?_
    refine mj_icmp_ge (tgt := 69) C dX9_put_22 (by decide) (fun c1 => ?_) (fun c1 => ?_)
    · replace h := mj_if_t c1 h
      cases h
      refine mj_sub ?_ (hx69)
      exact ⟨rfl, ⟨rfl, ⟨rfl, ⟨rfl, trivial⟩⟩⟩⟩
    · replace h := mj_if_f c1 h
      refine mj_iload_n C dX9_put_25 rfl ?_
      refine mj_bipush (v := 8) C dX9_put_26 (by decide) ?_
      refine mj_aload_n C dX9_put_28 rfl ?_
      refine mj_bget C lF_X9_41 hw.2.1 rfl dX9_put_29 ?_
      refine mj_iconst (v := 2) C dX9_put_32 (by decide) ?_
      refine mj_isub C dX9_put_33 ?_
      refine mj_iload C dX9_put_34 rfl ?_
      refine mj_isub C dX9_put_36 ?_
      refine mj_imul C dX9_put_37 ?_
      refine mj_iushr C dX9_put_38 ?_
      refine mj_sipush (v := 255) C dX9_put_39 (by decide) ?_
      refine mj_iand C dX9_put_42 ?_
      obtain ⟨x2, hx2, h⟩ := mj_let_o h
      refine mj_nm hx2 ?_
      refine mj_istore (L2 := [some (mj_r (β, w)), some (.inl l1), some (.inl l2), some (.inl l3), some (.inl l4), some (.inl l5), some (.inl x2)]) C dX9_put_43 (Nat.le_of_ble_eq_true rfl) rfl ?_
      refine mj_aload_n C dX9_put_45 rfl ?_
      refine mj_getr (r := (β, (w + 1))) C lF_X9_11 hw.2.1 rfl dX9_put_46 ?_
      refine mj_iload_n C dX9_put_49 rfl ?_
      refine mj_iload C dX9_put_50 rfl ?_
      refine mj_iadd C dX9_put_52 ?_
      refine mj_iload C dX9_put_53 rfl ?_
      obtain ⟨k3, h⟩ := mj_chk_o h
      obtain ⟨m4, hm4, h⟩ := mj_let_o h
      refine mj_bast C hw.2.2.1 k3 rfl dX9_put_55 hm4 ?_
      refine mj_iload C dX9_put_56 rfl ?_
      refine mj_iload C dX9_put_58 rfl ?_
      refine mj_iadd C dX9_put_60 ?_
      obtain ⟨x5, hx5, h⟩ := mj_let_o h
      refine mj_nm hx5 ?_
      refine mj_istore (L2 := [some (mj_r (β, w)), some (.inl l1), some (.inl l2), some (.inl l3), some (.inl x5), some (.inl l5), some (.inl x2)]) C dX9_put_61 (Nat.le_of_ble_eq_true rfl) rfl ?_
      obtain ⟨x6, hx6, h⟩ := mj_let_o h
      refine mj_iinc (L2 := [some (mj_r (β, w)), some (.inl l1), some (.inl l2), some (.inl l3), some (.inl x5), some (.inl x6), some (.inl x2)]) C dX9_put_63 rfl hx6 rfl ?_
      refine mj_goto (tgt := 14) C dX9_put_66 (by decide) ?_
      refine mj_sub (L' := [some (mj_r (β, w)), some (.inl l1), some (.inl l2), some (.inl l3), some (.inl x5), some (.inl x6), none]) ⟨rfl, ⟨rfl, ⟨rfl, ⟨rfl, ⟨rfl, ⟨rfl, trivial⟩⟩⟩⟩⟩⟩ ?_
      exact ih _ _ _ _ _ h hx69
def f_X9_put (w : Nat) (a1 : Int32) (a2 : Int32) (m : mj_m) : Option (mj_m) := mj_let ((m w 7) * 5) (fun x7 => mj_b2 (f_X9_put_L14 w a1 a2 x7 mj_fu 85 0 m) (fun x8 m9 => mj_chk (mj_ok ((x7 + (m9 w 1)) - 1) 240) (mj_let (mj_wrs m9 (w + 1) (mj_cl ((x7 + (m9 w 1)) - 1)) (x8 &&& 255)) (fun m12 => mj_chk (mj_ok (m12 w 2) 11) (mj_chk (mj_ok (m12 w 7) 48) (mj_let (mj_wrs m12 (w + 2) (mj_cl (m12 w 7)) ((m12 1 0) + (m12 2 (mj_cl (m12 w 2))))) (fun m15 => mj_chk (mj_ok (m15 w 7) 48) (mj_let (mj_wrs m15 (w + 3) (mj_cl (m15 w 7)) a2) (fun m17 => mj_let (mj_wrs m17 w 7 ((m17 w 7) + 1)) (fun m18 => some m18))))))))))
set_option maxHeartbeats 4000000 in
set_option maxRecDepth 20000 in
theorem C_X9_put {G : mj_G} {β : Nat} {M : mj_M} {w : Nat} {a1 : Int32} {a2 : Int32} {m : mj_m} {m0 : mj_m} (hw : mj_isWay G β w) (h : f_X9_put w a1 a2 m = some m0) : mj_S1 yX9_put cX9_put 7 none 0 G [mj_r (β, w), .inl a1, .inl a2] (va_up M β m) none (va_up M β m0) := by
  refine mj_intro (by decide) (Nat.le_of_ble_eq_true rfl) ?_
  intro κ C hG hR hT
  subst hG
  have C : mj_C κ cX9_put 7 RX9 := C
  show mj_R κ (mj_F κ (fun r M' => r = none ∧ M' = (va_up M β m0) ∧ mj_bb none none)) 0 [some (mj_r (β, w)), some (.inl a1), some (.inl a2), none, none, none, none] [] (va_up M β m)
  unfold f_X9_put at h
  refine mj_aload_n C dX9_put_0 rfl ?_
  refine mj_bget C lF_X9_24 hw.2.1 rfl dX9_put_1 ?_
  refine mj_iconst (v := 5) C dX9_put_4 (by decide) ?_
  refine mj_imul C dX9_put_5 ?_
  obtain ⟨x7, hx7, h⟩ := mj_let_o h
  refine mj_nm hx7 ?_
  refine mj_istore_n (L2 := [some (mj_r (β, w)), some (.inl a1), some (.inl a2), some (.inl x7), none, none, none]) C dX9_put_6 (Nat.le_of_ble_eq_true rfl) rfl ?_
  refine mj_bipush (v := 85) C dX9_put_7 (by decide) ?_
  refine mj_istore (L2 := [some (mj_r (β, w)), some (.inl a1), some (.inl a2), some (.inl x7), some (.inl 85), none, none]) C dX9_put_9 (Nat.le_of_ble_eq_true rfl) rfl ?_
  refine mj_iconst (v := 0) C dX9_put_11 (by decide) ?_
  refine mj_istore (L2 := [some (mj_r (β, w)), some (.inl a1), some (.inl a2), some (.inl x7), some (.inl 85), some (.inl 0), none]) C dX9_put_12 (Nat.le_of_ble_eq_true rfl) rfl ?_
  obtain ⟨x8, m9, hl10, h⟩ := mj_b2_o h
  refine mj_sub (L' := [some (mj_r (β, w)), some (.inl a1), some (.inl a2), some (.inl x7), some (.inl 85), some (.inl 0), none]) ⟨rfl, ⟨rfl, ⟨rfl, ⟨rfl, ⟨rfl, ⟨rfl, trivial⟩⟩⟩⟩⟩⟩ ?_
  refine C_X9_put_L14 C hw hR _ _ _ _ _ _ hl10 ?_
  refine mj_aload_n C dX9_put_69 rfl ?_
  refine mj_getr (r := (β, (w + 1))) C lF_X9_11 hw.2.1 rfl dX9_put_70 ?_
  refine mj_iload_n C dX9_put_73 rfl ?_
  refine mj_aload_n C dX9_put_74 rfl ?_
  refine mj_bget C lF_X9_41 hw.2.1 rfl dX9_put_75 ?_
  refine mj_iadd C dX9_put_78 ?_
  refine mj_iconst (v := 1) C dX9_put_79 (by decide) ?_
  refine mj_isub C dX9_put_80 ?_
  refine mj_iload C dX9_put_81 rfl ?_
  refine mj_sipush (v := 255) C dX9_put_83 (by decide) ?_
  refine mj_iand C dX9_put_86 ?_
  obtain ⟨k11, h⟩ := mj_chk_o h
  obtain ⟨m12, hm12, h⟩ := mj_let_o h
  refine mj_bast C hw.2.2.1 k11 rfl dX9_put_87 hm12 ?_
  refine mj_aload_n C dX9_put_88 rfl ?_
  refine mj_getr (r := (β, (w + 2))) C lF_X9_15 hw.2.1 rfl dX9_put_89 ?_
  refine mj_aload_n C dX9_put_92 rfl ?_
  refine mj_bget C lF_X9_24 hw.2.1 rfl dX9_put_93 ?_
  refine mj_aload_n C dX9_put_96 rfl ?_
  refine mj_getr (r := (β, 1)) C lF_X9_37 hw.2.1 rfl dX9_put_97 ?_
  refine mj_bget C lF_X9_47 (sL1 hw.1) rfl dX9_put_100 ?_
  refine mj_aload_n C dX9_put_103 rfl ?_
  refine mj_getr (r := (β, 1)) C lF_X9_37 hw.2.1 rfl dX9_put_104 ?_
  refine mj_getr (r := (β, 2)) C lF_X9_78 (sL1 hw.1) rfl dX9_put_107 ?_
  refine mj_aload_n C dX9_put_110 rfl ?_
  refine mj_bget C lF_X9_44 hw.2.1 rfl dX9_put_111 ?_
  obtain ⟨k13, h⟩ := mj_chk_o h
  refine mj_bald C (sL2 hw.1) k13 rfl dX9_put_114 ?_
  refine mj_iadd C dX9_put_115 ?_
  obtain ⟨k14, h⟩ := mj_chk_o h
  obtain ⟨m15, hm15, h⟩ := mj_let_o h
  refine mj_bast C hw.2.2.2.1 k14 rfl dX9_put_116 hm15 ?_
  refine mj_aload_n C dX9_put_117 rfl ?_
  refine mj_getr (r := (β, (w + 3))) C lF_X9_18 hw.2.1 rfl dX9_put_118 ?_
  refine mj_aload_n C dX9_put_121 rfl ?_
  refine mj_bget C lF_X9_24 hw.2.1 rfl dX9_put_122 ?_
  refine mj_iload_n C dX9_put_125 rfl ?_
  obtain ⟨k16, h⟩ := mj_chk_o h
  obtain ⟨m17, hm17, h⟩ := mj_let_o h
  refine mj_bast C hw.2.2.2.2.1 k16 rfl dX9_put_126 hm17 ?_
  refine mj_aload_n C dX9_put_127 rfl ?_
  refine mj_dup C dX9_put_128 ?_
  refine mj_bget C lF_X9_24 hw.2.1 rfl dX9_put_129 ?_
  refine mj_iconst (v := 1) C dX9_put_132 (by decide) ?_
  refine mj_iadd C dX9_put_133 ?_
  obtain ⟨m18, hm18, h⟩ := mj_let_o h
  refine mj_bput C lF_X9_24 fP_10_7 (vp_nar_int _) rfl hw.2.1 rfl dX9_put_134 hm18 ?_
  cases h
  exact mj_vret C hT dX9_put_137 ⟨rfl, rfl, mj_bv _⟩
def f_X9_goes (w : Nat) (a1 : Int32) (a2 : Int32) (m : mj_m) : Option (mj_m) := mj_let (mj_wrs m w 9 ((m w 9) + 1)) (fun m1 => mj_b2 (f_X9_meetsFate w m1) (fun r2 m3 => if r2 = 0 then (mj_b2 (f_X0_draw 100 m3) (fun r6 m7 => mj_let (m7 2 8) (fun x9 => if x9 ≤ r6 then (if m7 w 7 < 48 then (mj_b1 (f_X9_put w a1 a2 m7) (fun m12 => if x9 + (m12 2 9) ≤ r6 then (some m12) else (mj_let (mj_wrs m12 w 10 ((m12 w 10) + 1)) (fun m15 => mj_b2 (f_X0_draw (m15 w 1) m15) (fun r16 m17 => mj_let ((((m15 w 7) - 1) * 5) + r16) (fun x19 => mj_chk (mj_ok x19 240) (mj_chk (mj_ok x19 240) (mj_let (mj_wrs m17 (w + 1) (mj_cl x19) (((m17 (w + 1) (mj_cl x19)) + 1) &&& 255)) (fun m22 => some m22))))))))) else (some m7)) else (mj_let (mj_wrs m7 w 10 ((m7 w 10) + 1)) (fun m23 => some m23))))) else (mj_let (mj_wrs m3 w 10 ((m3 w 10) + 1)) (fun m24 => some m24))))
set_option maxHeartbeats 4000000 in
set_option maxRecDepth 20000 in
theorem C_X9_goes {G : mj_G} {β : Nat} {M : mj_M} {w : Nat} {a1 : Int32} {a2 : Int32} {m : mj_m} {m0 : mj_m} (hw : mj_isWay G β w) (h : f_X9_goes w a1 a2 m = some m0) : mj_S1 yX9_goes cX9_goes 6 none 1 G [mj_r (β, w), .inl a1, .inl a2] (va_up M β m) none (va_up M β m0) := by
  refine mj_intro (by decide) (Nat.le_of_ble_eq_true rfl) ?_
  intro κ C hG hR hT
  subst hG
  have C : mj_C κ cX9_goes 6 RX9 := C
  show mj_R κ (mj_F κ (fun r M' => r = none ∧ M' = (va_up M β m0) ∧ mj_bb none none)) 0 [some (mj_r (β, w)), some (.inl a1), some (.inl a2), none, none, none] [] (va_up M β m)
  unfold f_X9_goes at h
  refine mj_aload_n C dX9_goes_0 rfl ?_
  refine mj_dup C dX9_goes_1 ?_
  refine mj_bget C lF_X9_31 hw.2.1 rfl dX9_goes_2 ?_
  refine mj_iconst (v := 1) C dX9_goes_5 (by decide) ?_
  refine mj_iadd C dX9_goes_6 ?_
  obtain ⟨m1, hm1, h⟩ := mj_let_o h
  refine mj_bput C lF_X9_31 fP_10_9 (vp_nar_int _) rfl hw.2.1 rfl dX9_goes_7 hm1 ?_
  refine mj_aload_n C dX9_goes_10 rfl ?_
  obtain ⟨r2, m3, em3, h⟩ := mj_b2_o h
  refine mj_callV1 (av := []) C lM_X9_70 lV_X9_meetsFate hw.2.1 ⟨_, rfl, rfl⟩ rfl (C_X9_meetsFate hw em3) (mj_rmok hR (by decide) (by decide)) rfl (Nat.le_of_ble_eq_true rfl) dX9_goes_11 (fun hb4 => ?_)
  refine mj_if_eq (tgt := 28) C dX9_goes_14 (by decide) (fun c5 => ?_) (fun c5 => ?_)
  · replace h := mj_if_t c5 h
    refine mj_aload_n C dX9_goes_28 rfl ?_
    refine mj_getr (r := (β, 1)) C lF_X9_37 hw.2.1 rfl dX9_goes_29 ?_
    refine mj_bipush (v := 100) C dX9_goes_32 (by decide) ?_
    obtain ⟨r6, m7, em7, h⟩ := mj_b2_o h
    refine mj_callV1 (av := [.inl 100]) C lM_X9_74 lV_X0_draw (sL1 hw.1) ⟨_, rfl, rfl⟩ rfl (C_X0_draw hw.1 em7) (mj_rmok hR (by decide) (by decide)) rfl (Nat.le_of_ble_eq_true rfl) dX9_goes_34 (fun hb8 => ?_)
    refine mj_istore_n (L2 := [some (mj_r (β, w)), some (.inl a1), some (.inl a2), some (.inl r6), none, none]) C dX9_goes_37 (Nat.le_of_ble_eq_true rfl) rfl ?_
    refine mj_aload_n C dX9_goes_38 rfl ?_
    refine mj_getr (r := (β, 1)) C lF_X9_37 hw.2.1 rfl dX9_goes_39 ?_
    refine mj_getr (r := (β, 2)) C lF_X9_78 (sL1 hw.1) rfl dX9_goes_42 ?_
    refine mj_bipush (v := 8) C dX9_goes_45 (by decide) ?_
    refine mj_bald C (sL2 hw.1) (mj_okn 8 11 (Nat.le_of_ble_eq_true rfl) (Nat.le_of_ble_eq_true rfl)) (mj_cln 8 (Nat.le_of_ble_eq_true rfl)) dX9_goes_47 ?_
    obtain ⟨x9, hx9, h⟩ := mj_let_o h
    refine mj_nm hx9 ?_
    refine mj_istore (L2 := [some (mj_r (β, w)), some (.inl a1), some (.inl a2), some (.inl r6), some (.inl x9), none]) C dX9_goes_48 (Nat.le_of_ble_eq_true rfl) rfl ?_
    refine mj_iload_n C dX9_goes_50 rfl ?_
    refine mj_iload C dX9_goes_51 rfl ?_
    refine mj_icmp_ge (tgt := 67) C dX9_goes_53 (by decide) (fun c10 => ?_) (fun c10 => ?_)
    · replace h := mj_if_t c10 h
      refine mj_aload_n C dX9_goes_67 rfl ?_
      refine mj_bget C lF_X9_24 hw.2.1 rfl dX9_goes_68 ?_
      refine mj_bipush (v := 48) C dX9_goes_71 (by decide) ?_
      refine mj_icmp_lt (tgt := 77) C dX9_goes_73 (by decide) (fun c11 => ?_) (fun c11 => ?_)
      · replace h := mj_if_t c11 h
        refine mj_aload_n C dX9_goes_77 rfl ?_
        refine mj_iload_n C dX9_goes_78 rfl ?_
        refine mj_iload_n C dX9_goes_79 rfl ?_
        obtain ⟨m12, em12, h⟩ := mj_b1_o h
        refine mj_callV0 (av := [.inl a1, .inl a2]) C lM_X9_81 lV_X9_put hw.2.1 ⟨_, rfl, rfl⟩ rfl (C_X9_put hw em12) (mj_rmok hR (by decide) (by decide)) rfl (Nat.le_of_ble_eq_true rfl) dX9_goes_80 ?_
        refine mj_iload_n C dX9_goes_83 rfl ?_
        refine mj_iload C dX9_goes_84 rfl ?_
        refine mj_aload_n C dX9_goes_86 rfl ?_
        refine mj_getr (r := (β, 1)) C lF_X9_37 hw.2.1 rfl dX9_goes_87 ?_
        refine mj_getr (r := (β, 2)) C lF_X9_78 (sL1 hw.1) rfl dX9_goes_90 ?_
        refine mj_bipush (v := 9) C dX9_goes_93 (by decide) ?_
        refine mj_bald C (sL2 hw.1) (mj_okn 9 11 (Nat.le_of_ble_eq_true rfl) (Nat.le_of_ble_eq_true rfl)) (mj_cln 9 (Nat.le_of_ble_eq_true rfl)) dX9_goes_95 ?_
        refine mj_iadd C dX9_goes_96 ?_
        refine mj_icmp_ge (tgt := 152) C dX9_goes_97 (by decide) (fun c14 => ?_) (fun c14 => ?_)
        · replace h := mj_if_t c14 h
          cases h
          exact mj_vret C hT dX9_goes_152 ⟨rfl, rfl, mj_bv _⟩
        · replace h := mj_if_f c14 h
          refine mj_aload_n C dX9_goes_100 rfl ?_
          refine mj_dup C dX9_goes_101 ?_
          refine mj_bget C lF_X9_34 hw.2.1 rfl dX9_goes_102 ?_
          refine mj_iconst (v := 1) C dX9_goes_105 (by decide) ?_
          refine mj_iadd C dX9_goes_106 ?_
          obtain ⟨m15, hm15, h⟩ := mj_let_o h
          refine mj_bput C lF_X9_34 fP_10_10 (vp_nar_int _) rfl hw.2.1 rfl dX9_goes_107 hm15 ?_
          refine mj_aload_n C dX9_goes_110 rfl ?_
          refine mj_bget C lF_X9_24 hw.2.1 rfl dX9_goes_111 ?_
          refine mj_iconst (v := 1) C dX9_goes_114 (by decide) ?_
          refine mj_isub C dX9_goes_115 ?_
          refine mj_iconst (v := 5) C dX9_goes_116 (by decide) ?_
          refine mj_imul C dX9_goes_117 ?_
          refine mj_aload_n C dX9_goes_118 rfl ?_
          refine mj_getr (r := (β, 1)) C lF_X9_37 hw.2.1 rfl dX9_goes_119 ?_
          refine mj_aload_n C dX9_goes_122 rfl ?_
          refine mj_bget C lF_X9_41 hw.2.1 rfl dX9_goes_123 ?_
          obtain ⟨r16, m17, em17, h⟩ := mj_b2_o h
          refine mj_callV1 (av := [.inl (m15 w 1)]) C lM_X9_74 lV_X0_draw (sL1 hw.1) ⟨_, rfl, rfl⟩ rfl (C_X0_draw hw.1 em17) (mj_rmok hR (by decide) (by decide)) rfl (Nat.le_of_ble_eq_true rfl) dX9_goes_126 (fun hb18 => ?_)
          refine mj_iadd C dX9_goes_129 ?_
          obtain ⟨x19, hx19, h⟩ := mj_let_o h
          refine mj_nm hx19 ?_
          refine mj_istore (L2 := [some (mj_r (β, w)), some (.inl a1), some (.inl a2), some (.inl r6), some (.inl x9), some (.inl x19)]) C dX9_goes_130 (Nat.le_of_ble_eq_true rfl) rfl ?_
          refine mj_aload_n C dX9_goes_132 rfl ?_
          refine mj_getr (r := (β, (w + 1))) C lF_X9_11 hw.2.1 rfl dX9_goes_133 ?_
          refine mj_iload C dX9_goes_136 rfl ?_
          refine mj_aload_n C dX9_goes_138 rfl ?_
          refine mj_getr (r := (β, (w + 1))) C lF_X9_11 hw.2.1 rfl dX9_goes_139 ?_
          refine mj_iload C dX9_goes_142 rfl ?_
          obtain ⟨k20, h⟩ := mj_chk_o h
          refine mj_bald C hw.2.2.1 k20 rfl dX9_goes_144 ?_
          refine mj_iconst (v := 1) C dX9_goes_145 (by decide) ?_
          refine mj_iadd C dX9_goes_146 ?_
          refine mj_sipush (v := 255) C dX9_goes_147 (by decide) ?_
          refine mj_iand C dX9_goes_150 ?_
          obtain ⟨k21, h⟩ := mj_chk_o h
          obtain ⟨m22, hm22, h⟩ := mj_let_o h
          refine mj_bast C hw.2.2.1 k21 rfl dX9_goes_151 hm22 ?_
          cases h
          exact mj_vret C hT dX9_goes_152 ⟨rfl, rfl, mj_bv _⟩
      · replace h := mj_if_f c11 h
        cases h
        exact mj_vret C hT dX9_goes_76 ⟨rfl, rfl, mj_bv _⟩
    · replace h := mj_if_f c10 h
      refine mj_aload_n C dX9_goes_56 rfl ?_
      refine mj_dup C dX9_goes_57 ?_
      refine mj_bget C lF_X9_34 hw.2.1 rfl dX9_goes_58 ?_
      refine mj_iconst (v := 1) C dX9_goes_61 (by decide) ?_
      refine mj_iadd C dX9_goes_62 ?_
      obtain ⟨m23, hm23, h⟩ := mj_let_o h
      refine mj_bput C lF_X9_34 fP_10_10 (vp_nar_int _) rfl hw.2.1 rfl dX9_goes_63 hm23 ?_
      cases h
      exact mj_vret C hT dX9_goes_66 ⟨rfl, rfl, mj_bv _⟩
  · replace h := mj_if_f c5 h
    refine mj_aload_n C dX9_goes_17 rfl ?_
    refine mj_dup C dX9_goes_18 ?_
    refine mj_bget C lF_X9_34 hw.2.1 rfl dX9_goes_19 ?_
    refine mj_iconst (v := 1) C dX9_goes_22 (by decide) ?_
    refine mj_iadd C dX9_goes_23 ?_
    obtain ⟨m24, hm24, h⟩ := mj_let_o h
    refine mj_bput C lF_X9_34 fP_10_10 (vp_nar_int _) rfl hw.2.1 rfl dX9_goes_24 hm24 ?_
    cases h
    exact mj_vret C hT dX9_goes_27 ⟨rfl, rfl, mj_bv _⟩
def f_X9_copyFrom (w : Nat) (w' : Nat) (o : mj_m) (m : mj_m) : Option (mj_m) := mj_let (mj_wrs m w 7 (o w' 7)) (fun m1 => mj_let (mj_wrs m1 w 8 (o w' 8)) (fun m2 => mj_let (mj_wrs m2 w 9 (o w' 9)) (fun m3 => mj_let (mj_wrs m3 w 10 (o w' 10)) (fun m4 => mj_chk (mj_cok 0 0 240 240 240) (mj_let (mj_cpo o m4 (w' + 1) (w + 1) 0 0 240) (fun m6 => mj_chk (mj_cok 0 0 48 48 48) (mj_let (mj_cpo o m6 (w' + 2) (w + 2) 0 0 48) (fun m8 => mj_chk (mj_cok 0 0 48 48 48) (mj_let (mj_cpo o m8 (w' + 3) (w + 3) 0 0 48) (fun m10 => mj_chk (mj_cok 0 0 8 8 8) (mj_let (mj_cpo o m10 (w' + 4) (w + 4) 0 0 8) (fun m12 => some m12))))))))))))
set_option maxHeartbeats 4000000 in
set_option maxRecDepth 20000 in
theorem C_X9_copyFrom {G : mj_G} {β : Nat} {γ : Nat} {o : mj_m} {M : mj_M} {w : Nat} {w' : Nat} {m : mj_m} {m0 : mj_m} (hw : mj_isWay G β w) (hO : mj_isWay G γ w') (hne : γ ≠ β) (ho : M γ = o) (h : f_X9_copyFrom w w' o m = some m0) : mj_S1 yX9_copyFrom cX9_copyFrom 2 none 1 G [mj_r (β, w), mj_r (γ, w')] (va_up M β m) none (va_up M β m0) := by
  refine mj_intro (by decide) (Nat.le_of_ble_eq_true rfl) ?_
  intro κ C hG hR hT
  subst hG
  have C : mj_C κ cX9_copyFrom 2 RX9 := C
  show mj_R κ (mj_F κ (fun r M' => r = none ∧ M' = (va_up M β m0) ∧ mj_bb none none)) 0 [some (mj_r (β, w)), some (mj_r (γ, w'))] [] (va_up M β m)
  unfold f_X9_copyFrom at h
  refine mj_aload_n C dX9_copyFrom_0 rfl ?_
  refine mj_aload_n C dX9_copyFrom_1 rfl ?_
  refine mj_oget C hne ho lF_X9_24 hO.2.1 rfl dX9_copyFrom_2 ?_
  obtain ⟨m1, hm1, h⟩ := mj_let_o h
  refine mj_bput C lF_X9_24 fP_10_7 (vp_nar_int _) rfl hw.2.1 rfl dX9_copyFrom_5 hm1 ?_
  refine mj_aload_n C dX9_copyFrom_8 rfl ?_
  refine mj_aload_n C dX9_copyFrom_9 rfl ?_
  refine mj_oget C hne ho lF_X9_28 hO.2.1 rfl dX9_copyFrom_10 ?_
  obtain ⟨m2, hm2, h⟩ := mj_let_o h
  refine mj_bput C lF_X9_28 fP_10_8 (vp_nar_int _) rfl hw.2.1 rfl dX9_copyFrom_13 hm2 ?_
  refine mj_aload_n C dX9_copyFrom_16 rfl ?_
  refine mj_aload_n C dX9_copyFrom_17 rfl ?_
  refine mj_oget C hne ho lF_X9_31 hO.2.1 rfl dX9_copyFrom_18 ?_
  obtain ⟨m3, hm3, h⟩ := mj_let_o h
  refine mj_bput C lF_X9_31 fP_10_9 (vp_nar_int _) rfl hw.2.1 rfl dX9_copyFrom_21 hm3 ?_
  refine mj_aload_n C dX9_copyFrom_24 rfl ?_
  refine mj_aload_n C dX9_copyFrom_25 rfl ?_
  refine mj_oget C hne ho lF_X9_34 hO.2.1 rfl dX9_copyFrom_26 ?_
  obtain ⟨m4, hm4, h⟩ := mj_let_o h
  refine mj_bput C lF_X9_34 fP_10_10 (vp_nar_int _) rfl hw.2.1 rfl dX9_copyFrom_29 hm4 ?_
  refine mj_aload_n C dX9_copyFrom_32 rfl ?_
  refine mj_getr (r := (γ, (w' + 1))) C lF_X9_11 hO.2.1 rfl dX9_copyFrom_33 ?_
  refine mj_iconst (v := 0) C dX9_copyFrom_36 (by decide) ?_
  refine mj_aload_n C dX9_copyFrom_37 rfl ?_
  refine mj_getr (r := (β, (w + 1))) C lF_X9_11 hw.2.1 rfl dX9_copyFrom_38 ?_
  refine mj_iconst (v := 0) C dX9_copyFrom_41 (by decide) ?_
  refine mj_sipush (v := 240) C dX9_copyFrom_42 (by decide) ?_
  obtain ⟨k5, h⟩ := mj_chk_o h
  obtain ⟨m6, hm6, h⟩ := mj_let_o h
  refine mj_ocopy C hne ho lM_X9_64 rfl hO.2.2.1 hw.2.2.1 k5 (mj_rmc hR (by decide)) (Nat.le_of_ble_eq_true rfl) dX9_copyFrom_45 hm6 ?_
  refine mj_aload_n C dX9_copyFrom_48 rfl ?_
  refine mj_getr (r := (γ, (w' + 2))) C lF_X9_15 hO.2.1 rfl dX9_copyFrom_49 ?_
  refine mj_iconst (v := 0) C dX9_copyFrom_52 (by decide) ?_
  refine mj_aload_n C dX9_copyFrom_53 rfl ?_
  refine mj_getr (r := (β, (w + 2))) C lF_X9_15 hw.2.1 rfl dX9_copyFrom_54 ?_
  refine mj_iconst (v := 0) C dX9_copyFrom_57 (by decide) ?_
  refine mj_bipush (v := 48) C dX9_copyFrom_58 (by decide) ?_
  obtain ⟨k7, h⟩ := mj_chk_o h
  obtain ⟨m8, hm8, h⟩ := mj_let_o h
  refine mj_ocopy C hne ho lM_X9_64 rfl hO.2.2.2.1 hw.2.2.2.1 k7 (mj_rmc hR (by decide)) (Nat.le_of_ble_eq_true rfl) dX9_copyFrom_60 hm8 ?_
  refine mj_aload_n C dX9_copyFrom_63 rfl ?_
  refine mj_getr (r := (γ, (w' + 3))) C lF_X9_18 hO.2.1 rfl dX9_copyFrom_64 ?_
  refine mj_iconst (v := 0) C dX9_copyFrom_67 (by decide) ?_
  refine mj_aload_n C dX9_copyFrom_68 rfl ?_
  refine mj_getr (r := (β, (w + 3))) C lF_X9_18 hw.2.1 rfl dX9_copyFrom_69 ?_
  refine mj_iconst (v := 0) C dX9_copyFrom_72 (by decide) ?_
  refine mj_bipush (v := 48) C dX9_copyFrom_73 (by decide) ?_
  obtain ⟨k9, h⟩ := mj_chk_o h
  obtain ⟨m10, hm10, h⟩ := mj_let_o h
  refine mj_ocopy C hne ho lM_X9_64 rfl hO.2.2.2.2.1 hw.2.2.2.2.1 k9 (mj_rmc hR (by decide)) (Nat.le_of_ble_eq_true rfl) dX9_copyFrom_75 hm10 ?_
  refine mj_aload_n C dX9_copyFrom_78 rfl ?_
  refine mj_getr (r := (γ, (w' + 4))) C lF_X9_21 hO.2.1 rfl dX9_copyFrom_79 ?_
  refine mj_iconst (v := 0) C dX9_copyFrom_82 (by decide) ?_
  refine mj_aload_n C dX9_copyFrom_83 rfl ?_
  refine mj_getr (r := (β, (w + 4))) C lF_X9_21 hw.2.1 rfl dX9_copyFrom_84 ?_
  refine mj_iconst (v := 0) C dX9_copyFrom_87 (by decide) ?_
  refine mj_bipush (v := 8) C dX9_copyFrom_88 (by decide) ?_
  obtain ⟨k11, h⟩ := mj_chk_o h
  obtain ⟨m12, hm12, h⟩ := mj_let_o h
  refine mj_ocopy C hne ho lM_X9_64 rfl hO.2.2.2.2.2 hw.2.2.2.2.2 k11 (mj_rmc hR (by decide)) (Nat.le_of_ble_eq_true rfl) dX9_copyFrom_90 hm12 ?_
  cases h
  exact mj_vret C hT dX9_copyFrom_93 ⟨rfl, rfl, mj_bv _⟩
