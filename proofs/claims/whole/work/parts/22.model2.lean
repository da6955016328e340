def f_X11_reports (m : mj_m) : Option (mj_m) := mj_let (mj_wrs m 3 0 ((((m 1 14) + (2 * (m 1 15))) + (4 * (m 1 16))) + (8 * (m 1 17)))) (fun m1 => mj_let (mj_wrs m1 3 1 (m1 1 13)) (fun m2 => mj_let (f_X11_round (((m2 3 0) + (m2 3 1)) + 85)) (fun r3 => mj_let (mj_wrs m2 3 2 r3) (fun m5 => mj_b1 (f_X11_goes 0 m5) (fun m6 => some m6)))))
set_option maxHeartbeats 4000000 in
set_option maxRecDepth 20000 in
theorem C_X11_reports {G : mj_G} {β : Nat} {M : mj_M} {m : mj_m} {m0 : mj_m} (hB : mj_isM G β) (h : f_X11_reports m = some m0) : mj_S1 yX11_reports cX11_reports 1 none 4 G [mj_r (β, 0)] (va_up M β m) none (va_up M β m0) := by
  refine mj_intro (by decide) (Nat.le_of_ble_eq_true rfl) ?_
  intro κ C hG hR hT
  subst hG
  have C : mj_C κ cX11_reports 1 RX11 := C
  show mj_R κ (mj_F κ (fun r M' => r = none ∧ M' = (va_up M β m0) ∧ mj_bb none none)) 0 [some (mj_r (β, 0))] [] (va_up M β m)
  unfold f_X11_reports at h
  refine mj_aload_n C dX11_reports_0 rfl ?_
  refine mj_getr (r := (β, 3)) C lF_X11_16 (sM0 hB) rfl dX11_reports_1 ?_
  refine mj_iconst (v := 0) C dX11_reports_4 (by decide) ?_
  refine mj_aload_n C dX11_reports_5 rfl ?_
  refine mj_getr (r := (β, 1)) C lF_X11_7 (sM0 hB) rfl dX11_reports_6 ?_
  refine mj_bipush (v := 14) C dX11_reports_9 (by decide) ?_
  refine mj_bald C (sM1 hB) (mj_okn 14 1897 (Nat.le_of_ble_eq_true rfl) (Nat.le_of_ble_eq_true rfl)) (mj_cln 14 (Nat.le_of_ble_eq_true rfl)) dX11_reports_11 ?_
  refine mj_iconst (v := 2) C dX11_reports_12 (by decide) ?_
  refine mj_aload_n C dX11_reports_13 rfl ?_
  refine mj_getr (r := (β, 1)) C lF_X11_7 (sM0 hB) rfl dX11_reports_14 ?_
  refine mj_bipush (v := 15) C dX11_reports_17 (by decide) ?_
  refine mj_bald C (sM1 hB) (mj_okn 15 1897 (Nat.le_of_ble_eq_true rfl) (Nat.le_of_ble_eq_true rfl)) (mj_cln 15 (Nat.le_of_ble_eq_true rfl)) dX11_reports_19 ?_
  refine mj_imul C dX11_reports_20 ?_
  refine mj_iadd C dX11_reports_21 ?_
  refine mj_iconst (v := 4) C dX11_reports_22 (by decide) ?_
  refine mj_aload_n C dX11_reports_23 rfl ?_
  refine mj_getr (r := (β, 1)) C lF_X11_7 (sM0 hB) rfl dX11_reports_24 ?_
  refine mj_bipush (v := 16) C dX11_reports_27 (by decide) ?_
  refine mj_bald C (sM1 hB) (mj_okn 16 1897 (Nat.le_of_ble_eq_true rfl) (Nat.le_of_ble_eq_true rfl)) (mj_cln 16 (Nat.le_of_ble_eq_true rfl)) dX11_reports_29 ?_
  refine mj_imul C dX11_reports_30 ?_
  refine mj_iadd C dX11_reports_31 ?_
  refine mj_bipush (v := 8) C dX11_reports_32 (by decide) ?_
  refine mj_aload_n C dX11_reports_34 rfl ?_
  refine mj_getr (r := (β, 1)) C lF_X11_7 (sM0 hB) rfl dX11_reports_35 ?_
  refine mj_bipush (v := 17) C dX11_reports_38 (by decide) ?_
  refine mj_bald C (sM1 hB) (mj_okn 17 1897 (Nat.le_of_ble_eq_true rfl) (Nat.le_of_ble_eq_true rfl)) (mj_cln 17 (Nat.le_of_ble_eq_true rfl)) dX11_reports_40 ?_
  refine mj_imul C dX11_reports_41 ?_
  refine mj_iadd C dX11_reports_42 ?_
  obtain ⟨m1, hm1, h⟩ := mj_let_o h
  refine mj_bast C (sM3 hB) (mj_okn 0 5 (Nat.le_of_ble_eq_true rfl) (Nat.le_of_ble_eq_true rfl)) (mj_cln 0 (Nat.le_of_ble_eq_true rfl)) dX11_reports_43 hm1 ?_
  refine mj_aload_n C dX11_reports_44 rfl ?_
  refine mj_getr (r := (β, 3)) C lF_X11_16 (sM0 hB) rfl dX11_reports_45 ?_
  refine mj_iconst (v := 1) C dX11_reports_48 (by decide) ?_
  refine mj_aload_n C dX11_reports_49 rfl ?_
  refine mj_getr (r := (β, 1)) C lF_X11_7 (sM0 hB) rfl dX11_reports_50 ?_
  refine mj_bipush (v := 13) C dX11_reports_53 (by decide) ?_
  refine mj_bald C (sM1 hB) (mj_okn 13 1897 (Nat.le_of_ble_eq_true rfl) (Nat.le_of_ble_eq_true rfl)) (mj_cln 13 (Nat.le_of_ble_eq_true rfl)) dX11_reports_55 ?_
  obtain ⟨m2, hm2, h⟩ := mj_let_o h
  refine mj_bast C (sM3 hB) (mj_okn 1 5 (Nat.le_of_ble_eq_true rfl) (Nat.le_of_ble_eq_true rfl)) (mj_cln 1 (Nat.le_of_ble_eq_true rfl)) dX11_reports_56 hm2 ?_
  refine mj_aload_n C dX11_reports_57 rfl ?_
  refine mj_getr (r := (β, 3)) C lF_X11_16 (sM0 hB) rfl dX11_reports_58 ?_
  refine mj_iconst (v := 2) C dX11_reports_61 (by decide) ?_
  refine mj_aload_n C dX11_reports_62 rfl ?_
  refine mj_aload_n C dX11_reports_63 rfl ?_
  refine mj_getr (r := (β, 3)) C lF_X11_16 (sM0 hB) rfl dX11_reports_64 ?_
  refine mj_iconst (v := 0) C dX11_reports_67 (by decide) ?_
  refine mj_bald C (sM3 hB) (mj_okn 0 5 (Nat.le_of_ble_eq_true rfl) (Nat.le_of_ble_eq_true rfl)) (mj_cln 0 (Nat.le_of_ble_eq_true rfl)) dX11_reports_68 ?_
  refine mj_aload_n C dX11_reports_69 rfl ?_
  refine mj_getr (r := (β, 3)) C lF_X11_16 (sM0 hB) rfl dX11_reports_70 ?_
  refine mj_iconst (v := 1) C dX11_reports_73 (by decide) ?_
  refine mj_bald C (sM3 hB) (mj_okn 1 5 (Nat.le_of_ble_eq_true rfl) (Nat.le_of_ble_eq_true rfl)) (mj_cln 1 (Nat.le_of_ble_eq_true rfl)) dX11_reports_74 ?_
  refine mj_iadd C dX11_reports_75 ?_
  refine mj_bipush (v := 85) C dX11_reports_76 (by decide) ?_
  refine mj_iadd C dX11_reports_78 ?_
  obtain ⟨r3, er3, h⟩ := mj_let_o h
  refine mj_callV1 (av := [.inl (((m2 3 0) + (m2 3 1)) + 85)]) C lM_X11_155 lV_X11_round (sM0 hB) ⟨_, rfl, rfl⟩ rfl (C_X11_round hB er3) (mj_rmok hR (by decide) (by decide)) rfl (Nat.le_of_ble_eq_true rfl) dX11_reports_79 (fun hb4 => ?_)
  obtain ⟨m5, hm5, h⟩ := mj_let_o h
  refine mj_bast C (sM3 hB) (mj_okn 2 5 (Nat.le_of_ble_eq_true rfl) (Nat.le_of_ble_eq_true rfl)) (mj_cln 2 (Nat.le_of_ble_eq_true rfl)) dX11_reports_82 hm5 ?_
  refine mj_aload_n C dX11_reports_83 rfl ?_
  refine mj_iconst (v := 0) C dX11_reports_84 (by decide) ?_
  obtain ⟨m6, em6, h⟩ := mj_b1_o h
  refine mj_callV0 (av := [.inl 0]) C lM_X11_161 lV_X11_goes (sM0 hB) ⟨_, rfl, rfl⟩ rfl (C_X11_goes hB em6) (mj_rmok hR (by decide) (by decide)) rfl (Nat.le_of_ble_eq_true rfl) dX11_reports_85 ?_
  cases h
  exact mj_vret C hT dX11_reports_88 ⟨rfl, rfl, mj_bv _⟩
def f_X11_takesOne (m : mj_m) : Option (Int32 × mj_m) := if m 1 18 = 0 then (some ((-1), m)) else (mj_let (mj_wrs m 1 15 0) (fun m2 => mj_b2 (f_X11_takesFirst 50 18 m2) (fun r3 m4 => some (r3, m4))))
set_option maxHeartbeats 4000000 in
set_option maxRecDepth 20000 in
theorem C_X11_takesOne {G : mj_G} {β : Nat} {M : mj_M} {m : mj_m} {x0 : Int32} {m0 : mj_m} (hB : mj_isM G β) (h : f_X11_takesOne m = some (x0, m0)) : mj_S1 yX11_takesOne cX11_takesOne 1 (some .int) 1 G [mj_r (β, 0)] (va_up M β m) (some (.inl x0)) (va_up M β m0) := by
  refine mj_intro (by decide) (Nat.le_of_ble_eq_true rfl) ?_
  intro κ C hG hR hT
  subst hG
  have C : mj_C κ cX11_takesOne 1 RX11 := C
  show mj_R κ (mj_F κ (fun r M' => r = (some (.inl x0)) ∧ M' = (va_up M β m0) ∧ mj_bb (some .int) (some (.inl x0)))) 0 [some (mj_r (β, 0))] [] (va_up M β m)
  unfold f_X11_takesOne at h
  refine mj_aload_n C dX11_takesOne_0 rfl ?_
  refine mj_getr (r := (β, 1)) C lF_X11_7 (sM0 hB) rfl dX11_takesOne_1 ?_
  refine mj_bipush (v := 18) C dX11_takesOne_4 (by decide) ?_
  refine mj_bald C (sM1 hB) (mj_okn 18 1897 (Nat.le_of_ble_eq_true rfl) (Nat.le_of_ble_eq_true rfl)) (mj_cln 18 (Nat.le_of_ble_eq_true rfl)) dX11_takesOne_6 ?_
  refine mj_if_ne (tgt := 12) C dX11_takesOne_7 (by decide) (fun c1 => ?_) (fun c1 => ?_)
  · replace h := mj_if_f c1 h
    refine mj_aload_n C dX11_takesOne_12 rfl ?_
    refine mj_getr (r := (β, 1)) C lF_X11_7 (sM0 hB) rfl dX11_takesOne_13 ?_
    refine mj_bipush (v := 15) C dX11_takesOne_16 (by decide) ?_
    refine mj_iconst (v := 0) C dX11_takesOne_18 (by decide) ?_
    obtain ⟨m2, hm2, h⟩ := mj_let_o h
    refine mj_bast C (sM1 hB) (mj_okn 15 1897 (Nat.le_of_ble_eq_true rfl) (Nat.le_of_ble_eq_true rfl)) (mj_cln 15 (Nat.le_of_ble_eq_true rfl)) dX11_takesOne_19 hm2 ?_
    refine mj_aload_n C dX11_takesOne_20 rfl ?_
    refine mj_bipush (v := 50) C dX11_takesOne_21 (by decide) ?_
    refine mj_bipush (v := 18) C dX11_takesOne_23 (by decide) ?_
    obtain ⟨r3, m4, em4, h⟩ := mj_b2_o h
    refine mj_callV1 (av := [.inl 50, .inl 18]) C lM_X11_197 lV_X11_takesFirst (sM0 hB) ⟨_, rfl, rfl⟩ rfl (C_X11_takesFirst hB em4) (mj_rmok hR (by decide) (by decide)) rfl (Nat.le_of_ble_eq_true rfl) dX11_takesOne_25 (fun hb5 => ?_)
    cases h
    exact mj_iret C hT (vp_nar_int _) dX11_takesOne_28 ⟨rfl, rfl, mj_bi _⟩
  · replace h := mj_if_t c1 h
    refine mj_iconst (v := (-1)) C dX11_takesOne_10 (by decide) ?_
    cases h
    exact mj_iret C hT (vp_nar_int _) dX11_takesOne_11 ⟨rfl, rfl, mj_bi _⟩
def f_X11_take (m : mj_m) : Option (Int32 × mj_m) := mj_let (mj_wrs m 0 0 0) (fun m1 => mj_b2 (f_X11_takesOne m1) (fun r2 m3 => some (r2, m3)))
set_option maxHeartbeats 4000000 in
set_option maxRecDepth 20000 in
theorem C_X11_take {G : mj_G} {β : Nat} {M : mj_M} {m : mj_m} {x0 : Int32} {m0 : mj_m} (hB : mj_isM G β) (h : f_X11_take m = some (x0, m0)) : mj_S1 yX11_take cX11_take 1 (some .int) 2 G [mj_r (β, 0)] (va_up M β m) (some (.inl x0)) (va_up M β m0) := by
  refine mj_intro (by decide) (Nat.le_of_ble_eq_true rfl) ?_
  intro κ C hG hR hT
  subst hG
  have C : mj_C κ cX11_take 1 RX11 := C
  show mj_R κ (mj_F κ (fun r M' => r = (some (.inl x0)) ∧ M' = (va_up M β m0) ∧ mj_bb (some .int) (some (.inl x0)))) 0 [some (mj_r (β, 0))] [] (va_up M β m)
  unfold f_X11_take at h
  refine mj_aload_n C dX11_take_0 rfl ?_
  refine mj_iconst (v := 0) C dX11_take_1 (by decide) ?_
  obtain ⟨m1, hm1, h⟩ := mj_let_o h
  refine mj_bput C lF_X11_41 fP_12_0 (vp_nar_int _) rfl (sM0 hB) rfl dX11_take_2 hm1 ?_
  refine mj_aload_n C dX11_take_5 rfl ?_
  obtain ⟨r2, m3, em3, h⟩ := mj_b2_o h
  refine mj_callV1 (av := []) C lM_X11_200 lV_X11_takesOne (sM0 hB) ⟨_, rfl, rfl⟩ rfl (C_X11_takesOne hB em3) (mj_rmok hR (by decide) (by decide)) rfl (Nat.le_of_ble_eq_true rfl) dX11_take_6 (fun hb4 => ?_)
  cases h
  exact mj_iret C hT (vp_nar_int _) dX11_take_9 ⟨rfl, rfl, mj_bi _⟩
def f_X11_zone (a1 : Int32) (m : mj_m) : Option (Int32 × mj_m) := mj_let (mj_wrs m 0 0 0) (fun m1 => mj_let (f_X11_isIn a1 0 255) (fun r2 => if r2 = 0 then (some ((-1), m1)) else (mj_let (f_X11_far a1 m1) (fun r5 => mj_b1 (f_X11_zoneOf r5 m1) (fun r7 => some (r7, m1))))))
set_option maxHeartbeats 4000000 in
set_option maxRecDepth 20000 in
theorem C_X11_zone {G : mj_G} {β : Nat} {M : mj_M} {a1 : Int32} {m : mj_m} {x0 : Int32} {m0 : mj_m} (hB : mj_isM G β) (h : f_X11_zone a1 m = some (x0, m0)) : mj_S1 yX11_zone cX11_zone 2 (some .int) 3 G [mj_r (β, 0), .inl a1] (va_up M β m) (some (.inl x0)) (va_up M β m0) := by
  refine mj_intro (by decide) (Nat.le_of_ble_eq_true rfl) ?_
  intro κ C hG hR hT
  subst hG
  have C : mj_C κ cX11_zone 2 RX11 := C
  show mj_R κ (mj_F κ (fun r M' => r = (some (.inl x0)) ∧ M' = (va_up M β m0) ∧ mj_bb (some .int) (some (.inl x0)))) 0 [some (mj_r (β, 0)), some (.inl a1)] [] (va_up M β m)
  unfold f_X11_zone at h
  refine mj_aload_n C dX11_zone_0 rfl ?_
  refine mj_iconst (v := 0) C dX11_zone_1 (by decide) ?_
  obtain ⟨m1, hm1, h⟩ := mj_let_o h
  refine mj_bput C lF_X11_41 fP_12_0 (vp_nar_int _) rfl (sM0 hB) rfl dX11_zone_2 hm1 ?_
  refine mj_aload_n C dX11_zone_5 rfl ?_
  refine mj_iload_n C dX11_zone_6 rfl ?_
  refine mj_iconst (v := 0) C dX11_zone_7 (by decide) ?_
  refine mj_sipush (v := 255) C dX11_zone_8 (by decide) ?_
  obtain ⟨r2, er2, h⟩ := mj_let_o h
  refine mj_callV1 (av := [.inl a1, .inl 0, .inl 255]) C lM_X11_48 lV_X11_isIn (sM0 hB) ⟨_, rfl, rfl⟩ rfl (C_X11_isIn hB er2) (mj_rmok hR (by decide) (by decide)) rfl (Nat.le_of_ble_eq_true rfl) dX11_zone_11 (fun hb3 => ?_)
  refine mj_if_eq (tgt := 29) C dX11_zone_14 (by decide) (fun c4 => ?_) (fun c4 => ?_)
  · replace h := mj_if_t c4 h
    refine mj_iconst (v := (-1)) C dX11_zone_29 (by decide) ?_
    cases h
    exact mj_iret C hT (vp_nar_int _) dX11_zone_30 ⟨rfl, rfl, mj_bi _⟩
  · replace h := mj_if_f c4 h
    refine mj_aload_n C dX11_zone_17 rfl ?_
    refine mj_aload_n C dX11_zone_18 rfl ?_
    refine mj_iload_n C dX11_zone_19 rfl ?_
    obtain ⟨r5, er5, h⟩ := mj_let_o h
    refine mj_callV1 (av := [.inl a1]) C lM_X11_173 lV_X11_far (sM0 hB) ⟨_, rfl, rfl⟩ rfl (C_X11_far hB er5) (mj_rmok hR (by decide) (by decide)) rfl (Nat.le_of_ble_eq_true rfl) dX11_zone_20 (fun hb6 => ?_)
    obtain ⟨r7, er7, h⟩ := mj_b1_o h
    refine mj_callV1 (av := [.inl r5]) C lM_X11_176 lV_X11_zoneOf (sM0 hB) ⟨_, rfl, rfl⟩ rfl (C_X11_zoneOf hB er7) (mj_rmok hR (by decide) (by decide)) rfl (Nat.le_of_ble_eq_true rfl) dX11_zone_23 (fun hb8 => ?_)
    refine mj_goto (tgt := 30) C dX11_zone_26 (by decide) ?_
    cases h
    exact mj_iret C hT (vp_nar_int _) dX11_zone_30 ⟨rfl, rfl, mj_bi _⟩
def f_X11_verdict (a1 : Int32) (a2 : Int32) (a3 : Int32) (a4 : Int32) (a5 : Int32) (a6 : Int32) : Int32 := if a2 = 0 then (if a3 = 0 then (if a4 = 0 then (1) else (7)) else (7)) else (if a3 = 0 then (if a4 = 0 then (if a2 = 2 then (2) else (if a1 = 1 then (0) else (8))) else (7)) else (if a6 = 1 then (6) else (if a2 = 2 then (3) else (if a1 = 1 then (if a5 < a6 then (3) else (6)) else (if a1 = 2 then (if a4 = 0 then (0) else (4)) else (if a4 = 0 then (5) else (0)))))))
set_option maxHeartbeats 4000000 in
set_option maxRecDepth 20000 in
theorem C_X11_verdict {G : mj_G} {β : Nat} {M : mj_M} {a1 : Int32} {a2 : Int32} {a3 : Int32} {a4 : Int32} {a5 : Int32} {a6 : Int32} {m : mj_m} {x0 : Int32} (hB : mj_isM G β) (h : f_X11_verdict a1 a2 a3 a4 a5 a6 = x0) : mj_S1 yX11_verdict cX11_verdict 7 (some .int) 0 G [mj_r (β, 0), .inl a1, .inl a2, .inl a3, .inl a4, .inl a5, .inl a6] (va_up M β m) (some (.inl x0)) (va_up M β m) := by
  refine mj_intro (by decide) (Nat.le_of_ble_eq_true rfl) ?_
  intro κ C hG hR hT
  subst hG
  have C : mj_C κ cX11_verdict 7 RX11 := C
  show mj_R κ (mj_F κ (fun r M' => r = (some (.inl x0)) ∧ M' = (va_up M β m) ∧ mj_bb (some .int) (some (.inl x0)))) 0 [some (mj_r (β, 0)), some (.inl a1), some (.inl a2), some (.inl a3), some (.inl a4), some (.inl a5), some (.inl a6)] [] (va_up M β m)
  unfold f_X11_verdict at h
  refine mj_iload_n C dX11_verdict_0 rfl ?_
  refine mj_if_ne (tgt := 20) C dX11_verdict_1 (by decide) (fun c1 => ?_) (fun c1 => ?_)
  · replace h := mj_if_f c1 h
    refine mj_iload_n C dX11_verdict_20 rfl ?_
    refine mj_if_ne (tgt := 55) C dX11_verdict_21 (by decide) (fun c2 => ?_) (fun c2 => ?_)
    · replace h := mj_if_f c2 h
      refine mj_iload C dX11_verdict_55 rfl ?_
      refine mj_iconst (v := 1) C dX11_verdict_57 (by decide) ?_
      refine mj_icmp_ne (tgt := 64) C dX11_verdict_58 (by decide) (fun c3 => ?_) (fun c3 => ?_)
      · replace h := mj_if_f c3 h
        refine mj_iload_n C dX11_verdict_64 rfl ?_
        refine mj_iconst (v := 2) C dX11_verdict_65 (by decide) ?_
        refine mj_icmp_ne (tgt := 71) C dX11_verdict_66 (by decide) (fun c4 => ?_) (fun c4 => ?_)
        · replace h := mj_if_f c4 h
          refine mj_iload_n C dX11_verdict_71 rfl ?_
          refine mj_iconst (v := 1) C dX11_verdict_72 (by decide) ?_
          refine mj_icmp_ne (tgt := 90) C dX11_verdict_73 (by decide) (fun c5 => ?_) (fun c5 => ?_)
          · replace h := mj_if_f c5 h
            refine mj_iload_n C dX11_verdict_90 rfl ?_
            refine mj_iconst (v := 2) C dX11_verdict_91 (by decide) ?_
            refine mj_icmp_ne (tgt := 106) C dX11_verdict_92 (by decide) (fun c6 => ?_) (fun c6 => ?_)
            · replace h := mj_if_f c6 h
              refine mj_iload C dX11_verdict_106 rfl ?_
              refine mj_if_eq (tgt := 115) C dX11_verdict_108 (by decide) (fun c7 => ?_) (fun c7 => ?_)
              · replace h := mj_if_t c7 h
                refine mj_iconst (v := 5) C dX11_verdict_115 (by decide) ?_
                cases h
                exact mj_iret C hT (vp_nar_int _) dX11_verdict_116 ⟨rfl, rfl, mj_bi _⟩
              · replace h := mj_if_f c7 h
                refine mj_iconst (v := 0) C dX11_verdict_111 (by decide) ?_
                refine mj_goto (tgt := 116) C dX11_verdict_112 (by decide) ?_
                cases h
                exact mj_iret C hT (vp_nar_int _) dX11_verdict_116 ⟨rfl, rfl, mj_bi _⟩
            · replace h := mj_if_t c6 h
              refine mj_iload C dX11_verdict_95 rfl ?_
              refine mj_if_eq (tgt := 104) C dX11_verdict_97 (by decide) (fun c8 => ?_) (fun c8 => ?_)
              · replace h := mj_if_t c8 h
                refine mj_iconst (v := 0) C dX11_verdict_104 (by decide) ?_
                cases h
                exact mj_iret C hT (vp_nar_int _) dX11_verdict_105 ⟨rfl, rfl, mj_bi _⟩
              · replace h := mj_if_f c8 h
                refine mj_iconst (v := 4) C dX11_verdict_100 (by decide) ?_
                refine mj_goto (tgt := 105) C dX11_verdict_101 (by decide) ?_
                cases h
                exact mj_iret C hT (vp_nar_int _) dX11_verdict_105 ⟨rfl, rfl, mj_bi _⟩
          · replace h := mj_if_t c5 h
            refine mj_iload C dX11_verdict_76 rfl ?_
            refine mj_iload C dX11_verdict_78 rfl ?_
            refine mj_icmp_lt (tgt := 88) C dX11_verdict_80 (by decide) (fun c9 => ?_) (fun c9 => ?_)
            · replace h := mj_if_t c9 h
              refine mj_iconst (v := 3) C dX11_verdict_88 (by decide) ?_
              cases h
              exact mj_iret C hT (vp_nar_int _) dX11_verdict_89 ⟨rfl, rfl, mj_bi _⟩
            · replace h := mj_if_f c9 h
              refine mj_bipush (v := 6) C dX11_verdict_83 (by decide) ?_
              refine mj_goto (tgt := 89) C dX11_verdict_85 (by decide) ?_
              cases h
              exact mj_iret C hT (vp_nar_int _) dX11_verdict_89 ⟨rfl, rfl, mj_bi _⟩
        · replace h := mj_if_t c4 h
          refine mj_iconst (v := 3) C dX11_verdict_69 (by decide) ?_
          cases h
          exact mj_iret C hT (vp_nar_int _) dX11_verdict_70 ⟨rfl, rfl, mj_bi _⟩
      · replace h := mj_if_t c3 h
        refine mj_bipush (v := 6) C dX11_verdict_61 (by decide) ?_
        cases h
        exact mj_iret C hT (vp_nar_int _) dX11_verdict_63 ⟨rfl, rfl, mj_bi _⟩
    · replace h := mj_if_t c2 h
      refine mj_iload C dX11_verdict_24 rfl ?_
      refine mj_if_eq (tgt := 34) C dX11_verdict_26 (by decide) (fun c10 => ?_) (fun c10 => ?_)
      · replace h := mj_if_t c10 h
        refine mj_iload_n C dX11_verdict_34 rfl ?_
        refine mj_iconst (v := 2) C dX11_verdict_35 (by decide) ?_
        refine mj_icmp_ne (tgt := 43) C dX11_verdict_36 (by decide) (fun c11 => ?_) (fun c11 => ?_)
        · replace h := mj_if_f c11 h
          refine mj_iload_n C dX11_verdict_43 rfl ?_
          refine mj_iconst (v := 1) C dX11_verdict_44 (by decide) ?_
          refine mj_icmp_ne (tgt := 52) C dX11_verdict_45 (by decide) (fun c12 => ?_) (fun c12 => ?_)
          · replace h := mj_if_f c12 h
            refine mj_bipush (v := 8) C dX11_verdict_52 (by decide) ?_
            cases h
            exact mj_iret C hT (vp_nar_int _) dX11_verdict_54 ⟨rfl, rfl, mj_bi _⟩
          · replace h := mj_if_t c12 h
            refine mj_iconst (v := 0) C dX11_verdict_48 (by decide) ?_
            refine mj_goto (tgt := 54) C dX11_verdict_49 (by decide) ?_
            cases h
            exact mj_iret C hT (vp_nar_int _) dX11_verdict_54 ⟨rfl, rfl, mj_bi _⟩
        · replace h := mj_if_t c11 h
          refine mj_iconst (v := 2) C dX11_verdict_39 (by decide) ?_
          refine mj_goto (tgt := 54) C dX11_verdict_40 (by decide) ?_
          cases h
          exact mj_iret C hT (vp_nar_int _) dX11_verdict_54 ⟨rfl, rfl, mj_bi _⟩
      · replace h := mj_if_f c10 h
        refine mj_bipush (v := 7) C dX11_verdict_29 (by decide) ?_
        refine mj_goto (tgt := 54) C dX11_verdict_31 (by decide) ?_
        cases h
        exact mj_iret C hT (vp_nar_int _) dX11_verdict_54 ⟨rfl, rfl, mj_bi _⟩
  · replace h := mj_if_t c1 h
    refine mj_iload_n C dX11_verdict_4 rfl ?_
    refine mj_if_ne (tgt := 13) C dX11_verdict_5 (by decide) (fun c13 => ?_) (fun c13 => ?_)
    · replace h := mj_if_f c13 h
      refine mj_bipush (v := 7) C dX11_verdict_13 (by decide) ?_
      refine mj_goto (tgt := 19) C dX11_verdict_15 (by decide) ?_
      cases h
      exact mj_iret C hT (vp_nar_int _) dX11_verdict_19 ⟨rfl, rfl, mj_bi _⟩
    · replace h := mj_if_t c13 h
      refine mj_iload C dX11_verdict_8 rfl ?_
      refine mj_if_eq (tgt := 18) C dX11_verdict_10 (by decide) (fun c14 => ?_) (fun c14 => ?_)
      · replace h := mj_if_t c14 h
        refine mj_iconst (v := 1) C dX11_verdict_18 (by decide) ?_
        cases h
        exact mj_iret C hT (vp_nar_int _) dX11_verdict_19 ⟨rfl, rfl, mj_bi _⟩
      · replace h := mj_if_f c14 h
        refine mj_bipush (v := 7) C dX11_verdict_13 (by decide) ?_
        refine mj_goto (tgt := 19) C dX11_verdict_15 (by decide) ?_
        cases h
        exact mj_iret C hT (vp_nar_int _) dX11_verdict_19 ⟨rfl, rfl, mj_bi _⟩
def f_X11_judge_J76 (l3 : Int32) (l4 : Int32) (l5 : Int32) (s0 : Int32) (s1 : Int32) (s2 : Int32) (m : mj_m) : Int32 × mj_m := if l3 ≤ 1 then (mj_let (f_X11_verdict s2 s1 s0 0 l4 l5) (fun r2 => (r2, m))) else (mj_let (f_X11_verdict s2 s1 s0 1 l4 l5) (fun r4 => (r4, m)))
set_option maxHeartbeats 4000000 in
set_option maxRecDepth 20000 in
theorem C_X11_judge_J76 {κ : mj_K} {β : Nat} {M : mj_M} {l3 : Int32} {l4 : Int32} {l5 : Int32} {s0 : Int32} {s1 : Int32} {s2 : Int32} {m : mj_m} {x0 : Int32} {m0 : mj_m} (C : mj_C κ cX11_judge 6 RX11) (hB : mj_isM (mj_g κ) β) (hR : mj_dp κ 1) (hT : mj_rt κ = (some .int)) (h : f_X11_judge_J76 l3 l4 l5 s0 s1 s2 m = (x0, m0)) : mj_R κ (mj_F κ (fun r M' => r = (some (.inl x0)) ∧ M' = (va_up M β m0) ∧ mj_bb (some .int) (some (.inl x0)))) 76 [none, none, none, some (.inl l3), some (.inl l4), some (.inl l5)] [.inl s0, .inl s1, .inl s2, mj_r (β, 0)] (va_up M β m) := by
  unfold f_X11_judge_J76 at h
  refine mj_iload_n C dX11_judge_76 rfl ?_
  refine mj_iconst (v := 1) C dX11_judge_77 (by decide) ?_
  refine mj_icmp_le (tgt := 85) C dX11_judge_78 (by decide) (fun c1 => ?_) (fun c1 => ?_)
  · replace h := mj_if_t c1 h
    refine mj_iconst (v := 0) C dX11_judge_85 (by decide) ?_
    refine mj_iload C dX11_judge_86 rfl ?_
    refine mj_iload C dX11_judge_88 rfl ?_
    obtain ⟨r2, er2, h⟩ := mj_let_o h
    refine mj_callV1 (av := [.inl s2, .inl s1, .inl s0, .inl 0, .inl l4, .inl l5]) C lM_X11_203 lV_X11_verdict (sM0 hB) ⟨_, rfl, rfl⟩ rfl (C_X11_verdict hB er2) (mj_rmok hR (by decide) (by decide)) rfl (Nat.le_of_ble_eq_true rfl) dX11_judge_90 (fun hb3 => ?_)
    cases h
    exact mj_iret C hT (vp_nar_int _) dX11_judge_93 ⟨rfl, rfl, mj_bi _⟩
  · replace h := mj_if_f c1 h
    refine mj_iconst (v := 1) C dX11_judge_81 (by decide) ?_
    refine mj_goto (tgt := 86) C dX11_judge_82 (by decide) ?_
    refine mj_iload C dX11_judge_86 rfl ?_
    refine mj_iload C dX11_judge_88 rfl ?_
    obtain ⟨r4, er4, h⟩ := mj_let_o h
    refine mj_callV1 (av := [.inl s2, .inl s1, .inl s0, .inl 1, .inl l4, .inl l5]) C lM_X11_203 lV_X11_verdict (sM0 hB) ⟨_, rfl, rfl⟩ rfl (C_X11_verdict hB er4) (mj_rmok hR (by decide) (by decide)) rfl (Nat.le_of_ble_eq_true rfl) dX11_judge_90 (fun hb5 => ?_)
    cases h
    exact mj_iret C hT (vp_nar_int _) dX11_judge_93 ⟨rfl, rfl, mj_bi _⟩
def f_X11_judge (a1 : Int32) (a2 : Int32) (a3 : Int32) (a4 : Int32) (a5 : Int32) (m : mj_m) : Int32 × mj_m := mj_let (mj_wrs m 0 0 0) (fun m6 => mj_let (f_X11_isIn a1 1 3) (fun r7 => if r7 = 0 then (((-1), m6)) else (mj_let (f_X11_isIn a2 0 2) (fun r10 => if r10 = 0 then (((-1), m6)) else (mj_let (f_X11_isIn a3 0 3) (fun r13 => if r13 = 0 then (((-1), m6)) else (mj_let (f_X11_isIn a4 0 9) (fun r16 => if r16 = 0 then (((-1), m6)) else (mj_let (f_X11_isIn a5 1 9) (fun r19 => if r19 = 0 then (((-1), m6)) else (if mj_rem a3 2 = 1 then (f_X11_judge_J76 a3 a4 a5 1 a2 a1 m6) else (f_X11_judge_J76 a3 a4 a5 0 a2 a1 m6))))))))))))
set_option maxHeartbeats 4000000 in
set_option maxRecDepth 20000 in
theorem C_X11_judge {G : mj_G} {β : Nat} {M : mj_M} {a1 : Int32} {a2 : Int32} {a3 : Int32} {a4 : Int32} {a5 : Int32} {m : mj_m} {x0 : Int32} {m0 : mj_m} (hB : mj_isM G β) (h : f_X11_judge a1 a2 a3 a4 a5 m = (x0, m0)) : mj_S1 yX11_judge cX11_judge 6 (some .int) 1 G [mj_r (β, 0), .inl a1, .inl a2, .inl a3, .inl a4, .inl a5] (va_up M β m) (some (.inl x0)) (va_up M β m0) := by
  refine mj_intro (by decide) (Nat.le_of_ble_eq_true rfl) ?_
  intro κ C hG hR hT
  subst hG
  have C : mj_C κ cX11_judge 6 RX11 := C
  show mj_R κ (mj_F κ (fun r M' => r = (some (.inl x0)) ∧ M' = (va_up M β m0) ∧ mj_bb (some .int) (some (.inl x0)))) 0 [some (mj_r (β, 0)), some (.inl a1), some (.inl a2), some (.inl a3), some (.inl a4), some (.inl a5)] [] (va_up M β m)
  unfold f_X11_judge at h
  refine mj_aload_n C dX11_judge_0 rfl ?_
  refine mj_iconst (v := 0) C dX11_judge_1 (by decide) ?_
  obtain ⟨m6, hm6, h⟩ := mj_let_o h
  refine mj_bput C lF_X11_41 fP_12_0 (vp_nar_int _) rfl (sM0 hB) rfl dX11_judge_2 hm6 ?_
  refine mj_aload_n C dX11_judge_5 rfl ?_
  refine mj_iload_n C dX11_judge_6 rfl ?_
  refine mj_iconst (v := 1) C dX11_judge_7 (by decide) ?_
  refine mj_iconst (v := 3) C dX11_judge_8 (by decide) ?_
  obtain ⟨r7, er7, h⟩ := mj_let_o h
  refine mj_callV1 (av := [.inl a1, .inl 1, .inl 3]) C lM_X11_48 lV_X11_isIn (sM0 hB) ⟨_, rfl, rfl⟩ rfl (C_X11_isIn hB er7) (mj_rmok hR (by decide) (by decide)) rfl (Nat.le_of_ble_eq_true rfl) dX11_judge_9 (fun hb8 => ?_)
  refine mj_if_eq (tgt := 59) C dX11_judge_12 (by decide) (fun c9 => ?_) (fun c9 => ?_)
  · replace h := mj_if_t c9 h
    refine mj_iconst (v := (-1)) C dX11_judge_59 (by decide) ?_
    cases h
    exact mj_iret C hT (vp_nar_int _) dX11_judge_60 ⟨rfl, rfl, mj_bi _⟩
  · replace h := mj_if_f c9 h
    refine mj_aload_n C dX11_judge_15 rfl ?_
    refine mj_iload_n C dX11_judge_16 rfl ?_
    refine mj_iconst (v := 0) C dX11_judge_17 (by decide) ?_
    refine mj_iconst (v := 2) C dX11_judge_18 (by decide) ?_
    obtain ⟨r10, er10, h⟩ := mj_let_o h
    refine mj_callV1 (av := [.inl a2, .inl 0, .inl 2]) C lM_X11_48 lV_X11_isIn (sM0 hB) ⟨_, rfl, rfl⟩ rfl (C_X11_isIn hB er10) (mj_rmok hR (by decide) (by decide)) rfl (Nat.le_of_ble_eq_true rfl) dX11_judge_19 (fun hb11 => ?_)
    refine mj_if_eq (tgt := 59) C dX11_judge_22 (by decide) (fun c12 => ?_) (fun c12 => ?_)
    · replace h := mj_if_t c12 h
      refine mj_iconst (v := (-1)) C dX11_judge_59 (by decide) ?_
      cases h
      exact mj_iret C hT (vp_nar_int _) dX11_judge_60 ⟨rfl, rfl, mj_bi _⟩
    · replace h := mj_if_f c12 h
      refine mj_aload_n C dX11_judge_25 rfl ?_
      refine mj_iload_n C dX11_judge_26 rfl ?_
      refine mj_iconst (v := 0) C dX11_judge_27 (by decide) ?_
      refine mj_iconst (v := 3) C dX11_judge_28 (by decide) ?_
      obtain ⟨r13, er13, h⟩ := mj_let_o h
      refine mj_callV1 (av := [.inl a3, .inl 0, .inl 3]) C lM_X11_48 lV_X11_isIn (sM0 hB) ⟨_, rfl, rfl⟩ rfl (C_X11_isIn hB er13) (mj_rmok hR (by decide) (by decide)) rfl (Nat.le_of_ble_eq_true rfl) dX11_judge_29 (fun hb14 => ?_)
      refine mj_if_eq (tgt := 59) C dX11_judge_32 (by decide) (fun c15 => ?_) (fun c15 => ?_)
      · replace h := mj_if_t c15 h
        refine mj_iconst (v := (-1)) C dX11_judge_59 (by decide) ?_
        cases h
        exact mj_iret C hT (vp_nar_int _) dX11_judge_60 ⟨rfl, rfl, mj_bi _⟩
      · replace h := mj_if_f c15 h
        refine mj_aload_n C dX11_judge_35 rfl ?_
        refine mj_iload C dX11_judge_36 rfl ?_
        refine mj_iconst (v := 0) C dX11_judge_38 (by decide) ?_
        refine mj_bipush (v := 9) C dX11_judge_39 (by decide) ?_
        obtain ⟨r16, er16, h⟩ := mj_let_o h
        refine mj_callV1 (av := [.inl a4, .inl 0, .inl 9]) C lM_X11_48 lV_X11_isIn (sM0 hB) ⟨_, rfl, rfl⟩ rfl (C_X11_isIn hB er16) (mj_rmok hR (by decide) (by decide)) rfl (Nat.le_of_ble_eq_true rfl) dX11_judge_41 (fun hb17 => ?_)
        refine mj_if_eq (tgt := 59) C dX11_judge_44 (by decide) (fun c18 => ?_) (fun c18 => ?_)
        · replace h := mj_if_t c18 h
          refine mj_iconst (v := (-1)) C dX11_judge_59 (by decide) ?_
          cases h
          exact mj_iret C hT (vp_nar_int _) dX11_judge_60 ⟨rfl, rfl, mj_bi _⟩
        · replace h := mj_if_f c18 h
          refine mj_aload_n C dX11_judge_47 rfl ?_
          refine mj_iload C dX11_judge_48 rfl ?_
          refine mj_iconst (v := 1) C dX11_judge_50 (by decide) ?_
          refine mj_bipush (v := 9) C dX11_judge_51 (by decide) ?_
          obtain ⟨r19, er19, h⟩ := mj_let_o h
          refine mj_callV1 (av := [.inl a5, .inl 1, .inl 9]) C lM_X11_48 lV_X11_isIn (sM0 hB) ⟨_, rfl, rfl⟩ rfl (C_X11_isIn hB er19) (mj_rmok hR (by decide) (by decide)) rfl (Nat.le_of_ble_eq_true rfl) dX11_judge_53 (fun hb20 => ?_)
          refine mj_if_ne (tgt := 61) C dX11_judge_56 (by decide) (fun c21 => ?_) (fun c21 => ?_)
          · replace h := mj_if_f c21 h
            refine mj_aload_n C dX11_judge_61 rfl ?_
            refine mj_iload_n C dX11_judge_62 rfl ?_
            refine mj_iload_n C dX11_judge_63 rfl ?_
            refine mj_iload_n C dX11_judge_64 rfl ?_
            refine mj_iconst (v := 2) C dX11_judge_65 (by decide) ?_
            refine mj_irem C dX11_judge_66 (by decide) ?_
            refine mj_iconst (v := 1) C dX11_judge_67 (by decide) ?_
            refine mj_icmp_ne (tgt := 75) C dX11_judge_68 (by decide) (fun c22 => ?_) (fun c22 => ?_)
            · replace h := mj_if_f c22 h
              refine mj_iconst (v := 0) C dX11_judge_75 (by decide) ?_
              refine mj_sub (L' := [none, none, none, some (.inl a3), some (.inl a4), some (.inl a5)]) ⟨rfl, ⟨rfl, ⟨rfl, trivial⟩⟩⟩ ?_
              exact C_X11_judge_J76 C hB hR hT h
            · replace h := mj_if_t c22 h
              refine mj_iconst (v := 1) C dX11_judge_71 (by decide) ?_
              refine mj_goto (tgt := 76) C dX11_judge_72 (by decide) ?_
              refine mj_sub (L' := [none, none, none, some (.inl a3), some (.inl a4), some (.inl a5)]) ⟨rfl, ⟨rfl, ⟨rfl, trivial⟩⟩⟩ ?_
              exact C_X11_judge_J76 C hB hR hT h
          · replace h := mj_if_t c21 h
            refine mj_iconst (v := (-1)) C dX11_judge_59 (by decide) ?_
            cases h
            exact mj_iret C hT (vp_nar_int _) dX11_judge_60 ⟨rfl, rfl, mj_bi _⟩
def f_X11_verdicts (a1 : Int32) (m : mj_m) : Option (Int32 × mj_m) := mj_let (mj_wrs m 0 0 0) (fun m1 => mj_let (f_X11_isIn a1 0 8) (fun r2 => if r2 = 0 then (some ((-1), m1)) else (mj_chk (mj_ok (110 + a1) 1897) (some (m1 1 (mj_cl (110 + a1)), m1)))))
set_option maxHeartbeats 4000000 in
set_option maxRecDepth 20000 in
theorem C_X11_verdicts {G : mj_G} {β : Nat} {M : mj_M} {a1 : Int32} {m : mj_m} {x0 : Int32} {m0 : mj_m} (hB : mj_isM G β) (h : f_X11_verdicts a1 m = some (x0, m0)) : mj_S1 yX11_verdicts cX11_verdicts 2 (some .int) 1 G [mj_r (β, 0), .inl a1] (va_up M β m) (some (.inl x0)) (va_up M β m0) := by
  refine mj_intro (by decide) (Nat.le_of_ble_eq_true rfl) ?_
  intro κ C hG hR hT
  subst hG
  have C : mj_C κ cX11_verdicts 2 RX11 := C
  show mj_R κ (mj_F κ (fun r M' => r = (some (.inl x0)) ∧ M' = (va_up M β m0) ∧ mj_bb (some .int) (some (.inl x0)))) 0 [some (mj_r (β, 0)), some (.inl a1)] [] (va_up M β m)
  unfold f_X11_verdicts at h
  refine mj_aload_n C dX11_verdicts_0 rfl ?_
  refine mj_iconst (v := 0) C dX11_verdicts_1 (by decide) ?_
  obtain ⟨m1, hm1, h⟩ := mj_let_o h
  refine mj_bput C lF_X11_41 fP_12_0 (vp_nar_int _) rfl (sM0 hB) rfl dX11_verdicts_2 hm1 ?_
  refine mj_aload_n C dX11_verdicts_5 rfl ?_
  refine mj_iload_n C dX11_verdicts_6 rfl ?_
  refine mj_iconst (v := 0) C dX11_verdicts_7 (by decide) ?_
  refine mj_bipush (v := 8) C dX11_verdicts_8 (by decide) ?_
  obtain ⟨r2, er2, h⟩ := mj_let_o h
  refine mj_callV1 (av := [.inl a1, .inl 0, .inl 8]) C lM_X11_48 lV_X11_isIn (sM0 hB) ⟨_, rfl, rfl⟩ rfl (C_X11_isIn hB er2) (mj_rmok hR (by decide) (by decide)) rfl (Nat.le_of_ble_eq_true rfl) dX11_verdicts_10 (fun hb3 => ?_)
  refine mj_if_eq (tgt := 28) C dX11_verdicts_13 (by decide) (fun c4 => ?_) (fun c4 => ?_)
  · replace h := mj_if_t c4 h
    refine mj_iconst (v := (-1)) C dX11_verdicts_28 (by decide) ?_
    cases h
    exact mj_iret C hT (vp_nar_int _) dX11_verdicts_29 ⟨rfl, rfl, mj_bi _⟩
  · replace h := mj_if_f c4 h
    refine mj_aload_n C dX11_verdicts_16 rfl ?_
    refine mj_getr (r := (β, 1)) C lF_X11_7 (sM0 hB) rfl dX11_verdicts_17 ?_
    refine mj_bipush (v := 110) C dX11_verdicts_20 (by decide) ?_
    refine mj_iload_n C dX11_verdicts_22 rfl ?_
    refine mj_iadd C dX11_verdicts_23 ?_
    obtain ⟨k5, h⟩ := mj_chk_o h
    refine mj_bald C (sM1 hB) k5 rfl dX11_verdicts_24 ?_
    refine mj_goto (tgt := 29) C dX11_verdicts_25 (by decide) ?_
    cases h
    exact mj_iret C hT (vp_nar_int _) dX11_verdicts_29 ⟨rfl, rfl, mj_bi _⟩
def f_X11_numberOf (a1 : Int32) (m : mj_m) : Int32 := mj_let (f_X11_round (((m 1 22) - (m 1 25)) + a1)) (fun r1 => r1)
set_option maxHeartbeats 4000000 in
set_option maxRecDepth 20000 in
theorem C_X11_numberOf {G : mj_G} {β : Nat} {M : mj_M} {a1 : Int32} {m : mj_m} {x0 : Int32} (hB : mj_isM G β) (h : f_X11_numberOf a1 m = x0) : mj_S1 yX11_numberOf cX11_numberOf 2 (some .int) 1 G [mj_r (β, 0), .inl a1] (va_up M β m) (some (.inl x0)) (va_up M β m) := by
  refine mj_intro (by decide) (Nat.le_of_ble_eq_true rfl) ?_
  intro κ C hG hR hT
  subst hG
  have C : mj_C κ cX11_numberOf 2 RX11 := C
  show mj_R κ (mj_F κ (fun r M' => r = (some (.inl x0)) ∧ M' = (va_up M β m) ∧ mj_bb (some .int) (some (.inl x0)))) 0 [some (mj_r (β, 0)), some (.inl a1)] [] (va_up M β m)
  unfold f_X11_numberOf at h
  refine mj_aload_n C dX11_numberOf_0 rfl ?_
  refine mj_aload_n C dX11_numberOf_1 rfl ?_
  refine mj_getr (r := (β, 1)) C lF_X11_7 (sM0 hB) rfl dX11_numberOf_2 ?_
  refine mj_bipush (v := 22) C dX11_numberOf_5 (by decide) ?_
  refine mj_bald C (sM1 hB) (mj_okn 22 1897 (Nat.le_of_ble_eq_true rfl) (Nat.le_of_ble_eq_true rfl)) (mj_cln 22 (Nat.le_of_ble_eq_true rfl)) dX11_numberOf_7 ?_
  refine mj_aload_n C dX11_numberOf_8 rfl ?_
  refine mj_getr (r := (β, 1)) C lF_X11_7 (sM0 hB) rfl dX11_numberOf_9 ?_
  refine mj_bipush (v := 25) C dX11_numberOf_12 (by decide) ?_
  refine mj_bald C (sM1 hB) (mj_okn 25 1897 (Nat.le_of_ble_eq_true rfl) (Nat.le_of_ble_eq_true rfl)) (mj_cln 25 (Nat.le_of_ble_eq_true rfl)) dX11_numberOf_14 ?_
  refine mj_isub C dX11_numberOf_15 ?_
  refine mj_iload_n C dX11_numberOf_16 rfl ?_
  refine mj_iadd C dX11_numberOf_17 ?_
  obtain ⟨r1, er1, h⟩ := mj_let_o h
  refine mj_callV1 (av := [.inl (((m 1 22) - (m 1 25)) + a1)]) C lM_X11_155 lV_X11_round (sM0 hB) ⟨_, rfl, rfl⟩ rfl (C_X11_round hB er1) (mj_rmok hR (by decide) (by decide)) rfl (Nat.le_of_ble_eq_true rfl) dX11_numberOf_18 (fun hb2 => ?_)
  cases h
  exact mj_iret C hT (vp_nar_int _) dX11_numberOf_21 ⟨rfl, rfl, mj_bi _⟩
def f_X11_sentGo_L21 (l1 : Int32) : Nat → Int32 → mj_m → Option (mj_m)
  | 0, _, _ => none
  | n + 1, l2, m => if (m 1 25) - 1 ≤ l2 then (some m) else (mj_chk (mj_ok ((86 + l2) + 1) 1897) (mj_chk (mj_ok (86 + l2) 1897) (mj_let (mj_wrs m 1 (mj_cl (86 + l2)) (m 1 (mj_cl ((86 + l2) + 1)))) (fun m4 => mj_let (l2 + 1) (fun x5 => f_X11_sentGo_L21 l1 n x5 m4)))))
set_option maxHeartbeats 4000000 in
set_option maxRecDepth 20000 in
theorem C_X11_sentGo_L21 {κ : mj_K} {Q : State → Prop} {β : Nat} {M : mj_M} {l1 : Int32} (C : mj_C κ cX11_sentGo 3 RX11) (hB : mj_isM (mj_g κ) β) (hR : mj_dp κ 2) : ∀ (n : Nat) (l2 : Int32) (m : mj_m) (mo : mj_m), f_X11_sentGo_L21 l1 n l2 m = some mo → (mj_R κ Q 60 [some (mj_r (β, 0)), some (.inl l1), none] [] (va_up M β mo)) → mj_R κ Q 21 [some (mj_r (β, 0)), some (.inl l1), some (.inl l2)] [] (va_up M β m) := by
  intro n
  induction n with
  | zero =>
    intro l2 m mo h
    cases h
  | succ n ih =>
    intro l2 m mo h hx60
    rw [f_X11_sentGo_L21] at h
    refine mj_iload_n C dX11_sentGo_21 rfl ?_
    refine mj_aload_n C dX11_sentGo_22 rfl ?_
    refine mj_getr (r := (β, 1)) C lF_X11_7 (sM0 hB) rfl dX11_sentGo_23 ?_
    refine mj_bipush (v := 25) C dX11_sentGo_26 (by decide) ?_
    refine mj_bald C (sM1 hB) (mj_okn 25 1897 (Nat.le_of_ble_eq_true rfl) (Nat.le_of_ble_eq_true rfl)) (mj_cln 25 (Nat.le_of_ble_eq_true rfl)) dX11_sentGo_28 ?_
    refine mj_iconst (v := 1) C dX11_sentGo_29 (by decide) ?_
    refine mj_isub C dX11_sentGo_30 ?_
    refine mj_icmp_ge (tgt := 60) C dX11_sentGo_31 (by decide) (fun c1 => ?_) (fun c1 => ?_)
    · replace h := mj_if_t c1 h
      cases h
      refine mj_sub ?_ (hx60)
      exact ⟨rfl, ⟨rfl, trivial⟩⟩
    · replace h := mj_if_f c1 h
      refine mj_aload_n C dX11_sentGo_34 rfl ?_
      refine mj_getr (r := (β, 1)) C lF_X11_7 (sM0 hB) rfl dX11_sentGo_35 ?_
      refine mj_bipush (v := 86) C dX11_sentGo_38 (by decide) ?_
      refine mj_iload_n C dX11_sentGo_40 rfl ?_
      refine mj_iadd C dX11_sentGo_41 ?_
      refine mj_aload_n C dX11_sentGo_42 rfl ?_
      refine mj_getr (r := (β, 1)) C lF_X11_7 (sM0 hB) rfl dX11_sentGo_43 ?_
      refine mj_bipush (v := 86) C dX11_sentGo_46 (by decide) ?_
      refine mj_iload_n C dX11_sentGo_48 rfl ?_
      refine mj_iadd C dX11_sentGo_49 ?_
      refine mj_iconst (v := 1) C dX11_sentGo_50 (by decide) ?_
      refine mj_iadd C dX11_sentGo_51 ?_
      obtain ⟨k2, h⟩ := mj_chk_o h
      refine mj_bald C (sM1 hB) k2 rfl dX11_sentGo_52 ?_
      obtain ⟨k3, h⟩ := mj_chk_o h
      obtain ⟨m4, hm4, h⟩ := mj_let_o h
      refine mj_bast C (sM1 hB) k3 rfl dX11_sentGo_53 hm4 ?_
      obtain ⟨x5, hx5, h⟩ := mj_let_o h
      refine mj_iinc (L2 := [some (mj_r (β, 0)), some (.inl l1), some (.inl x5)]) C dX11_sentGo_54 rfl hx5 rfl ?_
      refine mj_goto (tgt := 21) C dX11_sentGo_57 (by decide) ?_
      refine mj_sub (L' := [some (mj_r (β, 0)), some (.inl l1), some (.inl x5)]) ⟨rfl, ⟨rfl, ⟨rfl, trivial⟩⟩⟩ ?_
      exact ih _ _ _ h hx60
def f_X11_sentGo_L0 (l1 : Int32) : Nat → mj_m → Option (mj_m)
  | 0, _ => none
  | n + 1, m => if m 1 25 ≤ 0 then (some m) else (mj_let (f_X11_numberOf 0 m) (fun r7 => if r7 = l1 then (some m) else (mj_b1 (f_X11_sentGo_L21 l1 mj_fu 0 m) (fun m10 => mj_let (f_X11_firstSent m10) (fun r12 => mj_b1 (f_X11_stands r12 2 m10) (fun m14 => mj_b2 (f_X11_takesFirst 66 25 m14) (fun r16 m17 => f_X11_sentGo_L0 l1 n m17)))))))
set_option maxHeartbeats 4000000 in
set_option maxRecDepth 20000 in
theorem C_X11_sentGo_L0 {κ : mj_K} {Q : State → Prop} {β : Nat} {M : mj_M} {l1 : Int32} (C : mj_C κ cX11_sentGo 3 RX11) (hB : mj_isM (mj_g κ) β) (hR : mj_dp κ 2) : ∀ (n : Nat) (m : mj_m) (mo : mj_m), f_X11_sentGo_L0 l1 n m = some mo → (mj_R κ Q 81 [none, none, none] [] (va_up M β mo)) → mj_R κ Q 0 [some (mj_r (β, 0)), some (.inl l1), none] [] (va_up M β m) := by
  intro n
  induction n with
  | zero =>
    intro m mo h
    cases h
  | succ n ih =>
    intro m mo h hx81
    rw [f_X11_sentGo_L0] at h
    refine mj_aload_n C dX11_sentGo_0 rfl ?_
    refine mj_getr (r := (β, 1)) C lF_X11_7 (sM0 hB) rfl dX11_sentGo_1 ?_
    refine mj_bipush (v := 25) C dX11_sentGo_4 (by decide) ?_
    refine mj_bald C (sM1 hB) (mj_okn 25 1897 (Nat.le_of_ble_eq_true rfl) (Nat.le_of_ble_eq_true rfl)) (mj_cln 25 (Nat.le_of_ble_eq_true rfl)) dX11_sentGo_6 ?_
    refine mj_if_le (tgt := 81) C dX11_sentGo_7 (by decide) (fun c6 => ?_) (fun c6 => ?_)
    · replace h := mj_if_t c6 h
      cases h
      refine mj_sub ?_ (hx81)
      exact trivial
    · replace h := mj_if_f c6 h
      refine mj_aload_n C dX11_sentGo_10 rfl ?_
      refine mj_iconst (v := 0) C dX11_sentGo_11 (by decide) ?_
      obtain ⟨r7, er7, h⟩ := mj_let_o h
      refine mj_callV1 (av := [.inl 0]) C lM_X11_207 lV_X11_numberOf (sM0 hB) ⟨_, rfl, rfl⟩ rfl (C_X11_numberOf hB er7) (mj_rmok hR (by decide) (by decide)) rfl (Nat.le_of_ble_eq_true rfl) dX11_sentGo_12 (fun hb8 => ?_)
      refine mj_iload_n C dX11_sentGo_15 rfl ?_
      refine mj_icmp_eq (tgt := 81) C dX11_sentGo_16 (by decide) (fun c9 => ?_) (fun c9 => ?_)
      · replace h := mj_if_t c9 h
        cases h
        refine mj_sub ?_ (hx81)
        exact trivial
      · replace h := mj_if_f c9 h
        refine mj_iconst (v := 0) C dX11_sentGo_19 (by decide) ?_
        refine mj_istore_n (L2 := [some (mj_r (β, 0)), some (.inl l1), some (.inl 0)]) C dX11_sentGo_20 (Nat.le_of_ble_eq_true rfl) rfl ?_
        obtain ⟨m10, hl11, h⟩ := mj_b1_o h
        refine mj_sub (L' := [some (mj_r (β, 0)), some (.inl l1), some (.inl 0)]) ⟨rfl, ⟨rfl, ⟨rfl, trivial⟩⟩⟩ ?_
        refine C_X11_sentGo_L21 C hB hR _ _ _ _ hl11 ?_
        refine mj_aload_n C dX11_sentGo_60 rfl ?_
        refine mj_aload_n C dX11_sentGo_61 rfl ?_
        obtain ⟨r12, er12, h⟩ := mj_let_o h
        refine mj_callV1 (av := []) C lM_X11_65 lV_X11_firstSent (sM0 hB) ⟨_, rfl, rfl⟩ rfl (C_X11_firstSent hB er12) (mj_rmok hR (by decide) (by decide)) rfl (Nat.le_of_ble_eq_true rfl) dX11_sentGo_62 (fun hb13 => ?_)
        refine mj_iconst (v := 2) C dX11_sentGo_65 (by decide) ?_
        obtain ⟨m14, em14, h⟩ := mj_b1_o h
        refine mj_callV0 (av := [.inl r12, .inl 2]) C lM_X11_69 lV_X11_stands (sM0 hB) ⟨_, rfl, rfl⟩ rfl (C_X11_stands hB em14) (mj_rmok hR (by decide) (by decide)) rfl (Nat.le_of_ble_eq_true rfl) dX11_sentGo_66 ?_
        refine mj_aload_n C dX11_sentGo_69 rfl ?_
        refine mj_bipush (v := 66) C dX11_sentGo_70 (by decide) ?_
        refine mj_bipush (v := 25) C dX11_sentGo_72 (by decide) ?_
        obtain ⟨r16, m17, em17, h⟩ := mj_b2_o h
        refine mj_callV1 (av := [.inl 66, .inl 25]) C lM_X11_197 lV_X11_takesFirst (sM0 hB) ⟨_, rfl, rfl⟩ rfl (C_X11_takesFirst hB em17) (mj_rmok hR (by decide) (by decide)) rfl (Nat.le_of_ble_eq_true rfl) dX11_sentGo_74 (fun hb18 => ?_)
        refine mj_pop C dX11_sentGo_77 ?_
        refine mj_goto (tgt := 0) C dX11_sentGo_78 (by decide) ?_
        refine mj_sub (L' := [some (mj_r (β, 0)), some (.inl l1), none]) ⟨rfl, ⟨rfl, trivial⟩⟩ ?_
        exact ih _ _ h hx81
def f_X11_sentGo (a1 : Int32) (m : mj_m) : Option (mj_m) := mj_b1 (f_X11_sentGo_L0 a1 mj_fu m) (fun m19 => some m19)
set_option maxHeartbeats 4000000 in
set_option maxRecDepth 20000 in
theorem C_X11_sentGo {G : mj_G} {β : Nat} {M : mj_M} {a1 : Int32} {m : mj_m} {m0 : mj_m} (hB : mj_isM G β) (h : f_X11_sentGo a1 m = some m0) : mj_S1 yX11_sentGo cX11_sentGo 3 none 2 G [mj_r (β, 0), .inl a1] (va_up M β m) none (va_up M β m0) := by
  refine mj_intro (by decide) (Nat.le_of_ble_eq_true rfl) ?_
  intro κ C hG hR hT
  subst hG
  have C : mj_C κ cX11_sentGo 3 RX11 := C
  show mj_R κ (mj_F κ (fun r M' => r = none ∧ M' = (va_up M β m0) ∧ mj_bb none none)) 0 [some (mj_r (β, 0)), some (.inl a1), none] [] (va_up M β m)
  unfold f_X11_sentGo at h
  obtain ⟨m19, hl20, h⟩ := mj_b1_o h
  refine mj_sub (L' := [some (mj_r (β, 0)), some (.inl a1), none]) ⟨rfl, ⟨rfl, trivial⟩⟩ ?_
  refine C_X11_sentGo_L0 C hB hR _ _ _ hl20 ?_
  cases h
  exact mj_vret C hT dX11_sentGo_81 ⟨rfl, rfl, mj_bv _⟩
def f_X11_isSaid_J158 (l1 : Int32) (l3 : Int32) (m : mj_m) : Option (mj_m) := if 6 ≤ l1 then (some m) else (mj_let (mj_wrs m 1 23 l3) (fun m2 => some m2))
set_option maxHeartbeats 4000000 in
set_option maxRecDepth 20000 in
theorem C_X11_isSaid_J158 {κ : mj_K} {β : Nat} {M : mj_M} {l1 : Int32} {l3 : Int32} {m : mj_m} {m0 : mj_m} (C : mj_C κ cX11_isSaid 5 RX11) (hB : mj_isM (mj_g κ) β) (hR : mj_dp κ 4) (hT : mj_rt κ = none) (h : f_X11_isSaid_J158 l1 l3 m = some m0) : mj_R κ (mj_F κ (fun r M' => r = none ∧ M' = (va_up M β m0) ∧ mj_bb none none)) 158 [some (mj_r (β, 0)), some (.inl l1), none, some (.inl l3), none] [] (va_up M β m) := by
  unfold f_X11_isSaid_J158 at h
  refine mj_iload_n C dX11_isSaid_158 rfl ?_
  refine mj_bipush (v := 6) C dX11_isSaid_159 (by decide) ?_
  refine mj_icmp_ge (tgt := 172) C dX11_isSaid_161 (by decide) (fun c1 => ?_) (fun c1 => ?_)
  · replace h := mj_if_t c1 h
    cases h
    exact mj_vret C hT dX11_isSaid_172 ⟨rfl, rfl, mj_bv _⟩
  · replace h := mj_if_f c1 h
    refine mj_aload_n C dX11_isSaid_164 rfl ?_
    refine mj_getr (r := (β, 1)) C lF_X11_7 (sM0 hB) rfl dX11_isSaid_165 ?_
    refine mj_bipush (v := 23) C dX11_isSaid_168 (by decide) ?_
    refine mj_iload_n C dX11_isSaid_170 rfl ?_
    obtain ⟨m2, hm2, h⟩ := mj_let_o h
    refine mj_bast C (sM1 hB) (mj_okn 23 1897 (Nat.le_of_ble_eq_true rfl) (Nat.le_of_ble_eq_true rfl)) (mj_cln 23 (Nat.le_of_ble_eq_true rfl)) dX11_isSaid_171 hm2 ?_
    cases h
    exact mj_vret C hT dX11_isSaid_172 ⟨rfl, rfl, mj_bv _⟩
def f_X11_isSaid_J147 (l1 : Int32) (l3 : Int32) (m : mj_m) : Option (mj_m) := if l1 = 8 then (mj_b1 (f_X11_alarms 2 m) (fun m4 => f_X11_isSaid_J158 l1 l3 m4)) else (f_X11_isSaid_J158 l1 l3 m)
set_option maxHeartbeats 4000000 in
set_option maxRecDepth 20000 in
theorem C_X11_isSaid_J147 {κ : mj_K} {β : Nat} {M : mj_M} {l1 : Int32} {l3 : Int32} {m : mj_m} {m0 : mj_m} (C : mj_C κ cX11_isSaid 5 RX11) (hB : mj_isM (mj_g κ) β) (hR : mj_dp κ 4) (hT : mj_rt κ = none) (h : f_X11_isSaid_J147 l1 l3 m = some m0) : mj_R κ (mj_F κ (fun r M' => r = none ∧ M' = (va_up M β m0) ∧ mj_bb none none)) 147 [some (mj_r (β, 0)), some (.inl l1), none, some (.inl l3), none] [] (va_up M β m) := by
  unfold f_X11_isSaid_J147 at h
  refine mj_iload_n C dX11_isSaid_147 rfl ?_
  refine mj_bipush (v := 8) C dX11_isSaid_148 (by decide) ?_
  refine mj_icmp_ne (tgt := 158) C dX11_isSaid_150 (by decide) (fun c3 => ?_) (fun c3 => ?_)
  · replace h := mj_if_f c3 h
    refine mj_sub (L' := [some (mj_r (β, 0)), some (.inl l1), none, some (.inl l3), none]) ⟨rfl, ⟨rfl, ⟨rfl, trivial⟩⟩⟩ ?_
    exact C_X11_isSaid_J158 C hB hR hT h
  · replace h := mj_if_t c3 h
    refine mj_aload_n C dX11_isSaid_153 rfl ?_
    refine mj_iconst (v := 2) C dX11_isSaid_154 (by decide) ?_
    obtain ⟨m4, em4, h⟩ := mj_b1_o h
    refine mj_callV0 (av := [.inl 2]) C lM_X11_96 lV_X11_alarms (sM0 hB) ⟨_, rfl, rfl⟩ rfl (C_X11_alarms hB em4) (mj_rmok hR (by decide) (by decide)) rfl (Nat.le_of_ble_eq_true rfl) dX11_isSaid_155 ?_
    refine mj_sub (L' := [some (mj_r (β, 0)), some (.inl l1), none, some (.inl l3), none]) ⟨rfl, ⟨rfl, ⟨rfl, trivial⟩⟩⟩ ?_
    exact C_X11_isSaid_J158 C hB hR hT h
def f_X11_isSaid_J136 (l1 : Int32) (l3 : Int32) (m : mj_m) : Option (mj_m) := if l1 = 7 then (mj_b1 (f_X11_alarms 4 m) (fun m7 => f_X11_isSaid_J147 l1 l3 m7)) else (f_X11_isSaid_J147 l1 l3 m)
set_option maxHeartbeats 4000000 in
set_option maxRecDepth 20000 in
theorem C_X11_isSaid_J136 {κ : mj_K} {β : Nat} {M : mj_M} {l1 : Int32} {l3 : Int32} {m : mj_m} {m0 : mj_m} (C : mj_C κ cX11_isSaid 5 RX11) (hB : mj_isM (mj_g κ) β) (hR : mj_dp κ 4) (hT : mj_rt κ = none) (h : f_X11_isSaid_J136 l1 l3 m = some m0) : mj_R κ (mj_F κ (fun r M' => r = none ∧ M' = (va_up M β m0) ∧ mj_bb none none)) 136 [some (mj_r (β, 0)), some (.inl l1), none, some (.inl l3), none] [] (va_up M β m) := by
  unfold f_X11_isSaid_J136 at h
  refine mj_iload_n C dX11_isSaid_136 rfl ?_
  refine mj_bipush (v := 7) C dX11_isSaid_137 (by decide) ?_
  refine mj_icmp_ne (tgt := 147) C dX11_isSaid_139 (by decide) (fun c6 => ?_) (fun c6 => ?_)
  · replace h := mj_if_f c6 h
    refine mj_sub (L' := [some (mj_r (β, 0)), some (.inl l1), none, some (.inl l3), none]) ⟨rfl, ⟨rfl, ⟨rfl, trivial⟩⟩⟩ ?_
    exact C_X11_isSaid_J147 C hB hR hT h
  · replace h := mj_if_t c6 h
    refine mj_aload_n C dX11_isSaid_142 rfl ?_
    refine mj_iconst (v := 4) C dX11_isSaid_143 (by decide) ?_
    obtain ⟨m7, em7, h⟩ := mj_b1_o h
    refine mj_callV0 (av := [.inl 4]) C lM_X11_96 lV_X11_alarms (sM0 hB) ⟨_, rfl, rfl⟩ rfl (C_X11_alarms hB em7) (mj_rmok hR (by decide) (by decide)) rfl (Nat.le_of_ble_eq_true rfl) dX11_isSaid_144 ?_
    refine mj_sub (L' := [some (mj_r (β, 0)), some (.inl l1), none, some (.inl l3), none]) ⟨rfl, ⟨rfl, ⟨rfl, trivial⟩⟩⟩ ?_
    exact C_X11_isSaid_J147 C hB hR hT h
def f_X11_isSaid_J125 (l1 : Int32) (l3 : Int32) (m : mj_m) : Option (mj_m) := if l1 = 6 then (mj_b1 (f_X11_alarms 5 m) (fun m10 => f_X11_isSaid_J136 l1 l3 m10)) else (f_X11_isSaid_J136 l1 l3 m)
set_option maxHeartbeats 4000000 in
set_option maxRecDepth 20000 in
theorem C_X11_isSaid_J125 {κ : mj_K} {β : Nat} {M : mj_M} {l1 : Int32} {l3 : Int32} {m : mj_m} {m0 : mj_m} (C : mj_C κ cX11_isSaid 5 RX11) (hB : mj_isM (mj_g κ) β) (hR : mj_dp κ 4) (hT : mj_rt κ = none) (h : f_X11_isSaid_J125 l1 l3 m = some m0) : mj_R κ (mj_F κ (fun r M' => r = none ∧ M' = (va_up M β m0) ∧ mj_bb none none)) 125 [some (mj_r (β, 0)), some (.inl l1), none, some (.inl l3), none] [] (va_up M β m) := by
  unfold f_X11_isSaid_J125 at h
  refine mj_iload_n C dX11_isSaid_125 rfl ?_
  refine mj_bipush (v := 6) C dX11_isSaid_126 (by decide) ?_
  refine mj_icmp_ne (tgt := 136) C dX11_isSaid_128 (by decide) (fun c9 => ?_) (fun c9 => ?_)
  · replace h := mj_if_f c9 h
    refine mj_sub (L' := [some (mj_r (β, 0)), some (.inl l1), none, some (.inl l3), none]) ⟨rfl, ⟨rfl, ⟨rfl, trivial⟩⟩⟩ ?_
    exact C_X11_isSaid_J136 C hB hR hT h
  · replace h := mj_if_t c9 h
    refine mj_aload_n C dX11_isSaid_131 rfl ?_
    refine mj_iconst (v := 5) C dX11_isSaid_132 (by decide) ?_
    obtain ⟨m10, em10, h⟩ := mj_b1_o h
    refine mj_callV0 (av := [.inl 5]) C lM_X11_96 lV_X11_alarms (sM0 hB) ⟨_, rfl, rfl⟩ rfl (C_X11_alarms hB em10) (mj_rmok hR (by decide) (by decide)) rfl (Nat.le_of_ble_eq_true rfl) dX11_isSaid_133 ?_
    refine mj_sub (L' := [some (mj_r (β, 0)), some (.inl l1), none, some (.inl l3), none]) ⟨rfl, ⟨rfl, ⟨rfl, trivial⟩⟩⟩ ?_
    exact C_X11_isSaid_J136 C hB hR hT h
def f_X11_isSaid_J115 (l1 : Int32) (l3 : Int32) (m : mj_m) : Option (mj_m) := if l1 = 5 then (mj_b1 (f_X11_becomes 2 m) (fun m13 => f_X11_isSaid_J125 l1 l3 m13)) else (f_X11_isSaid_J125 l1 l3 m)
set_option maxHeartbeats 4000000 in
set_option maxRecDepth 20000 in
theorem C_X11_isSaid_J115 {κ : mj_K} {β : Nat} {M : mj_M} {l1 : Int32} {l3 : Int32} {m : mj_m} {m0 : mj_m} (C : mj_C κ cX11_isSaid 5 RX11) (hB : mj_isM (mj_g κ) β) (hR : mj_dp κ 4) (hT : mj_rt κ = none) (h : f_X11_isSaid_J115 l1 l3 m = some m0) : mj_R κ (mj_F κ (fun r M' => r = none ∧ M' = (va_up M β m0) ∧ mj_bb none none)) 115 [some (mj_r (β, 0)), some (.inl l1), none, some (.inl l3), none] [] (va_up M β m) := by
  unfold f_X11_isSaid_J115 at h
  refine mj_iload_n C dX11_isSaid_115 rfl ?_
  refine mj_iconst (v := 5) C dX11_isSaid_116 (by decide) ?_
  refine mj_icmp_ne (tgt := 125) C dX11_isSaid_117 (by decide) (fun c12 => ?_) (fun c12 => ?_)
  · replace h := mj_if_f c12 h
    refine mj_sub (L' := [some (mj_r (β, 0)), some (.inl l1), none, some (.inl l3), none]) ⟨rfl, ⟨rfl, ⟨rfl, trivial⟩⟩⟩ ?_
    exact C_X11_isSaid_J125 C hB hR hT h
  · replace h := mj_if_t c12 h
    refine mj_aload_n C dX11_isSaid_120 rfl ?_
    refine mj_iconst (v := 2) C dX11_isSaid_121 (by decide) ?_
    obtain ⟨m13, em13, h⟩ := mj_b1_o h
    refine mj_callV0 (av := [.inl 2]) C lM_X11_90 lV_X11_becomes (sM0 hB) ⟨_, rfl, rfl⟩ rfl (C_X11_becomes hB em13) (mj_rmok hR (by decide) (by decide)) rfl (Nat.le_of_ble_eq_true rfl) dX11_isSaid_122 ?_
    refine mj_sub (L' := [some (mj_r (β, 0)), some (.inl l1), none, some (.inl l3), none]) ⟨rfl, ⟨rfl, ⟨rfl, trivial⟩⟩⟩ ?_
    exact C_X11_isSaid_J125 C hB hR hT h
def f_X11_isSaid_J105 (l1 : Int32) (l3 : Int32) (m : mj_m) : Option (mj_m) := if l1 = 4 then (mj_b1 (f_X11_becomes 3 m) (fun m16 => f_X11_isSaid_J115 l1 l3 m16)) else (f_X11_isSaid_J115 l1 l3 m)
set_option maxHeartbeats 4000000 in
set_option maxRecDepth 20000 in
theorem C_X11_isSaid_J105 {κ : mj_K} {β : Nat} {M : mj_M} {l1 : Int32} {l3 : Int32} {m : mj_m} {m0 : mj_m} (C : mj_C κ cX11_isSaid 5 RX11) (hB : mj_isM (mj_g κ) β) (hR : mj_dp κ 4) (hT : mj_rt κ = none) (h : f_X11_isSaid_J105 l1 l3 m = some m0) : mj_R κ (mj_F κ (fun r M' => r = none ∧ M' = (va_up M β m0) ∧ mj_bb none none)) 105 [some (mj_r (β, 0)), some (.inl l1), none, some (.inl l3), none] [] (va_up M β m) := by
  unfold f_X11_isSaid_J105 at h
  refine mj_iload_n C dX11_isSaid_105 rfl ?_
  refine mj_iconst (v := 4) C dX11_isSaid_106 (by decide) ?_
  refine mj_icmp_ne (tgt := 115) C dX11_isSaid_107 (by decide) (fun c15 => ?_) (fun c15 => ?_)
  · replace h := mj_if_f c15 h
    refine mj_sub (L' := [some (mj_r (β, 0)), some (.inl l1), none, some (.inl l3), none]) ⟨rfl, ⟨rfl, ⟨rfl, trivial⟩⟩⟩ ?_
    exact C_X11_isSaid_J115 C hB hR hT h
  · replace h := mj_if_t c15 h
    refine mj_aload_n C dX11_isSaid_110 rfl ?_
    refine mj_iconst (v := 3) C dX11_isSaid_111 (by decide) ?_
    obtain ⟨m16, em16, h⟩ := mj_b1_o h
    refine mj_callV0 (av := [.inl 3]) C lM_X11_90 lV_X11_becomes (sM0 hB) ⟨_, rfl, rfl⟩ rfl (C_X11_becomes hB em16) (mj_rmok hR (by decide) (by decide)) rfl (Nat.le_of_ble_eq_true rfl) dX11_isSaid_112 ?_
    refine mj_sub (L' := [some (mj_r (β, 0)), some (.inl l1), none, some (.inl l3), none]) ⟨rfl, ⟨rfl, ⟨rfl, trivial⟩⟩⟩ ?_
    exact C_X11_isSaid_J115 C hB hR hT h
def f_X11_isSaid_J102 (l1 : Int32) (l3 : Int32) (s0 : Int32) (m : mj_m) : Option (mj_m) := mj_b1 (f_X11_becomes s0 m) (fun m18 => f_X11_isSaid_J105 l1 l3 m18)
set_option maxHeartbeats 4000000 in
set_option maxRecDepth 20000 in
theorem C_X11_isSaid_J102 {κ : mj_K} {β : Nat} {M : mj_M} {l1 : Int32} {l3 : Int32} {s0 : Int32} {m : mj_m} {m0 : mj_m} (C : mj_C κ cX11_isSaid 5 RX11) (hB : mj_isM (mj_g κ) β) (hR : mj_dp κ 4) (hT : mj_rt κ = none) (h : f_X11_isSaid_J102 l1 l3 s0 m = some m0) : mj_R κ (mj_F κ (fun r M' => r = none ∧ M' = (va_up M β m0) ∧ mj_bb none none)) 102 [some (mj_r (β, 0)), some (.inl l1), none, some (.inl l3), none] [.inl s0, mj_r (β, 0)] (va_up M β m) := by
  unfold f_X11_isSaid_J102 at h
  obtain ⟨m18, em18, h⟩ := mj_b1_o h
  refine mj_callV0 (av := [.inl s0]) C lM_X11_90 lV_X11_becomes (sM0 hB) ⟨_, rfl, rfl⟩ rfl (C_X11_becomes hB em18) (mj_rmok hR (by decide) (by decide)) rfl (Nat.le_of_ble_eq_true rfl) dX11_isSaid_102 ?_
  refine mj_sub (L' := [some (mj_r (β, 0)), some (.inl l1), none, some (.inl l3), none]) ⟨rfl, ⟨rfl, ⟨rfl, trivial⟩⟩⟩ ?_
  exact C_X11_isSaid_J105 C hB hR hT h
def f_X11_isSaid_J87 (l1 : Int32) (l3 : Int32) (l4 : Int32) (m : mj_m) : Option (mj_m) := mj_b1 (f_X11_marks m) (fun m20 => if l4 = 0 then (f_X11_isSaid_J102 l1 l3 2 m20) else (f_X11_isSaid_J102 l1 l3 3 m20))
set_option maxHeartbeats 4000000 in
set_option maxRecDepth 20000 in
theorem C_X11_isSaid_J87 {κ : mj_K} {β : Nat} {M : mj_M} {l1 : Int32} {l3 : Int32} {l4 : Int32} {m : mj_m} {m0 : mj_m} (C : mj_C κ cX11_isSaid 5 RX11) (hB : mj_isM (mj_g κ) β) (hR : mj_dp κ 4) (hT : mj_rt κ = none) (h : f_X11_isSaid_J87 l1 l3 l4 m = some m0) : mj_R κ (mj_F κ (fun r M' => r = none ∧ M' = (va_up M β m0) ∧ mj_bb none none)) 87 [some (mj_r (β, 0)), some (.inl l1), none, some (.inl l3), some (.inl l4)] [] (va_up M β m) := by
  unfold f_X11_isSaid_J87 at h
  refine mj_aload_n C dX11_isSaid_87 rfl ?_
  obtain ⟨m20, em20, h⟩ := mj_b1_o h
  refine mj_callV0 (av := []) C lM_X11_119 lV_X11_marks (sM0 hB) ⟨_, rfl, rfl⟩ rfl (C_X11_marks hB em20) (mj_rmok hR (by decide) (by decide)) rfl (Nat.le_of_ble_eq_true rfl) dX11_isSaid_88 ?_
  refine mj_aload_n C dX11_isSaid_91 rfl ?_
  refine mj_iload C dX11_isSaid_92 rfl ?_
  refine mj_if_eq (tgt := 101) C dX11_isSaid_94 (by decide) (fun c22 => ?_) (fun c22 => ?_)
  · replace h := mj_if_t c22 h
    refine mj_iconst (v := 2) C dX11_isSaid_101 (by decide) ?_
    refine mj_sub (L' := [some (mj_r (β, 0)), some (.inl l1), none, some (.inl l3), none]) ⟨rfl, ⟨rfl, ⟨rfl, trivial⟩⟩⟩ ?_
    exact C_X11_isSaid_J102 C hB hR hT h
  · replace h := mj_if_f c22 h
    refine mj_iconst (v := 3) C dX11_isSaid_97 (by decide) ?_
    refine mj_goto (tgt := 102) C dX11_isSaid_98 (by decide) ?_
    refine mj_sub (L' := [some (mj_r (β, 0)), some (.inl l1), none, some (.inl l3), none]) ⟨rfl, ⟨rfl, ⟨rfl, trivial⟩⟩⟩ ?_
    exact C_X11_isSaid_J102 C hB hR hT h
def f_X11_isSaid_J69 (l1 : Int32) (l2 : Int32) (l3 : Int32) (l4 : Int32) (m : mj_m) : Option (mj_m) := if l1 = 3 then (if l2 = 2 then (mj_let (mj_wrs m 1 30 0) (fun m25 => f_X11_isSaid_J87 l1 l3 l4 m25)) else (f_X11_isSaid_J87 l1 l3 l4 m)) else (f_X11_isSaid_J105 l1 l3 m)
set_option maxHeartbeats 4000000 in
set_option maxRecDepth 20000 in
theorem C_X11_isSaid_J69 {κ : mj_K} {β : Nat} {M : mj_M} {l1 : Int32} {l2 : Int32} {l3 : Int32} {l4 : Int32} {m : mj_m} {m0 : mj_m} (C : mj_C κ cX11_isSaid 5 RX11) (hB : mj_isM (mj_g κ) β) (hR : mj_dp κ 4) (hT : mj_rt κ = none) (h : f_X11_isSaid_J69 l1 l2 l3 l4 m = some m0) : mj_R κ (mj_F κ (fun r M' => r = none ∧ M' = (va_up M β m0) ∧ mj_bb none none)) 69 [some (mj_r (β, 0)), some (.inl l1), some (.inl l2), some (.inl l3), some (.inl l4)] [] (va_up M β m) := by
  unfold f_X11_isSaid_J69 at h
  refine mj_iload_n C dX11_isSaid_69 rfl ?_
  refine mj_iconst (v := 3) C dX11_isSaid_70 (by decide) ?_
  refine mj_icmp_ne (tgt := 105) C dX11_isSaid_71 (by decide) (fun c23 => ?_) (fun c23 => ?_)
  · replace h := mj_if_f c23 h
    refine mj_sub (L' := [some (mj_r (β, 0)), some (.inl l1), none, some (.inl l3), none]) ⟨rfl, ⟨rfl, ⟨rfl, trivial⟩⟩⟩ ?_
    exact C_X11_isSaid_J105 C hB hR hT h
  · replace h := mj_if_t c23 h
    refine mj_iload_n C dX11_isSaid_74 rfl ?_
    refine mj_iconst (v := 2) C dX11_isSaid_75 (by decide) ?_
    refine mj_icmp_ne (tgt := 87) C dX11_isSaid_76 (by decide) (fun c24 => ?_) (fun c24 => ?_)
    · replace h := mj_if_f c24 h
      refine mj_sub (L' := [some (mj_r (β, 0)), some (.inl l1), none, some (.inl l3), some (.inl l4)]) ⟨rfl, ⟨rfl, ⟨rfl, ⟨rfl, trivial⟩⟩⟩⟩ ?_
      exact C_X11_isSaid_J87 C hB hR hT h
    · replace h := mj_if_t c24 h
      refine mj_aload_n C dX11_isSaid_79 rfl ?_
      refine mj_getr (r := (β, 1)) C lF_X11_7 (sM0 hB) rfl dX11_isSaid_80 ?_
      refine mj_bipush (v := 30) C dX11_isSaid_83 (by decide) ?_
      refine mj_iconst (v := 0) C dX11_isSaid_85 (by decide) ?_
      obtain ⟨m25, hm25, h⟩ := mj_let_o h
      refine mj_bast C (sM1 hB) (mj_okn 30 1897 (Nat.le_of_ble_eq_true rfl) (Nat.le_of_ble_eq_true rfl)) (mj_cln 30 (Nat.le_of_ble_eq_true rfl)) dX11_isSaid_86 hm25 ?_
      refine mj_sub (L' := [some (mj_r (β, 0)), some (.inl l1), none, some (.inl l3), some (.inl l4)]) ⟨rfl, ⟨rfl, ⟨rfl, ⟨rfl, trivial⟩⟩⟩⟩ ?_
      exact C_X11_isSaid_J87 C hB hR hT h
def f_X11_isSaid_J39 (l1 : Int32) (l2 : Int32) (l3 : Int32) (l4 : Int32) (m : mj_m) : Option (mj_m) := if l1 = 2 then (mj_b1 (f_X11_becomes 1 m) (fun m27 => mj_let (mj_wrs m27 1 30 1) (fun m29 => mj_b1 (f_X11_settingOf 4 m29) (fun r30 => mj_let (mj_wrs m29 1 31 r30) (fun m32 => f_X11_isSaid_J69 l1 l2 l3 l4 m32))))) else (f_X11_isSaid_J69 l1 l2 l3 l4 m)
set_option maxHeartbeats 4000000 in
set_option maxRecDepth 20000 in
theorem C_X11_isSaid_J39 {κ : mj_K} {β : Nat} {M : mj_M} {l1 : Int32} {l2 : Int32} {l3 : Int32} {l4 : Int32} {m : mj_m} {m0 : mj_m} (C : mj_C κ cX11_isSaid 5 RX11) (hB : mj_isM (mj_g κ) β) (hR : mj_dp κ 4) (hT : mj_rt κ = none) (h : f_X11_isSaid_J39 l1 l2 l3 l4 m = some m0) : mj_R κ (mj_F κ (fun r M' => r = none ∧ M' = (va_up M β m0) ∧ mj_bb none none)) 39 [some (mj_r (β, 0)), some (.inl l1), some (.inl l2), some (.inl l3), some (.inl l4)] [] (va_up M β m) := by
  unfold f_X11_isSaid_J39 at h
  refine mj_iload_n C dX11_isSaid_39 rfl ?_
  refine mj_iconst (v := 2) C dX11_isSaid_40 (by decide) ?_
  refine mj_icmp_ne (tgt := 69) C dX11_isSaid_41 (by decide) (fun c26 => ?_) (fun c26 => ?_)
  · replace h := mj_if_f c26 h
    refine mj_sub (L' := [some (mj_r (β, 0)), some (.inl l1), some (.inl l2), some (.inl l3), some (.inl l4)]) ⟨rfl, ⟨rfl, ⟨rfl, ⟨rfl, ⟨rfl, trivial⟩⟩⟩⟩⟩ ?_
    exact C_X11_isSaid_J69 C hB hR hT h
  · replace h := mj_if_t c26 h
    refine mj_aload_n C dX11_isSaid_44 rfl ?_
    refine mj_iconst (v := 1) C dX11_isSaid_45 (by decide) ?_
    obtain ⟨m27, em27, h⟩ := mj_b1_o h
    refine mj_callV0 (av := [.inl 1]) C lM_X11_90 lV_X11_becomes (sM0 hB) ⟨_, rfl, rfl⟩ rfl (C_X11_becomes hB em27) (mj_rmok hR (by decide) (by decide)) rfl (Nat.le_of_ble_eq_true rfl) dX11_isSaid_46 ?_
    refine mj_aload_n C dX11_isSaid_49 rfl ?_
    refine mj_getr (r := (β, 1)) C lF_X11_7 (sM0 hB) rfl dX11_isSaid_50 ?_
    refine mj_bipush (v := 30) C dX11_isSaid_53 (by decide) ?_
    refine mj_iconst (v := 1) C dX11_isSaid_55 (by decide) ?_
    obtain ⟨m29, hm29, h⟩ := mj_let_o h
    refine mj_bast C (sM1 hB) (mj_okn 30 1897 (Nat.le_of_ble_eq_true rfl) (Nat.le_of_ble_eq_true rfl)) (mj_cln 30 (Nat.le_of_ble_eq_true rfl)) dX11_isSaid_56 hm29 ?_
    refine mj_aload_n C dX11_isSaid_57 rfl ?_
    refine mj_getr (r := (β, 1)) C lF_X11_7 (sM0 hB) rfl dX11_isSaid_58 ?_
    refine mj_bipush (v := 31) C dX11_isSaid_61 (by decide) ?_
    refine mj_aload_n C dX11_isSaid_63 rfl ?_
    refine mj_iconst (v := 4) C dX11_isSaid_64 (by decide) ?_
    obtain ⟨r30, er30, h⟩ := mj_b1_o h
    refine mj_callV1 (av := [.inl 4]) C lM_X11_102 lV_X11_settingOf (sM0 hB) ⟨_, rfl, rfl⟩ rfl (C_X11_settingOf hB er30) (mj_rmok hR (by decide) (by decide)) rfl (Nat.le_of_ble_eq_true rfl) dX11_isSaid_65 (fun hb31 => ?_)
    obtain ⟨m32, hm32, h⟩ := mj_let_o h
    refine mj_bast C (sM1 hB) (mj_okn 31 1897 (Nat.le_of_ble_eq_true rfl) (Nat.le_of_ble_eq_true rfl)) (mj_cln 31 (Nat.le_of_ble_eq_true rfl)) dX11_isSaid_68 hm32 ?_
    refine mj_sub (L' := [some (mj_r (β, 0)), some (.inl l1), some (.inl l2), some (.inl l3), some (.inl l4)]) ⟨rfl, ⟨rfl, ⟨rfl, ⟨rfl, ⟨rfl, trivial⟩⟩⟩⟩⟩ ?_
    exact C_X11_isSaid_J69 C hB hR hT h
def f_X11_isSaid_J21 (l1 : Int32) (l2 : Int32) (l3 : Int32) (l4 : Int32) (m : mj_m) : Option (mj_m) := if l1 = 1 then (mj_b1 (f_X11_becomes 1 m) (fun m34 => mj_let (mj_wrs m34 1 31 0) (fun m36 => f_X11_isSaid_J39 l1 l2 l3 l4 m36))) else (f_X11_isSaid_J39 l1 l2 l3 l4 m)
set_option maxHeartbeats 4000000 in
set_option maxRecDepth 20000 in
theorem C_X11_isSaid_J21 {κ : mj_K} {β : Nat} {M : mj_M} {l1 : Int32} {l2 : Int32} {l3 : Int32} {l4 : Int32} {m : mj_m} {m0 : mj_m} (C : mj_C κ cX11_isSaid 5 RX11) (hB : mj_isM (mj_g κ) β) (hR : mj_dp κ 4) (hT : mj_rt κ = none) (h : f_X11_isSaid_J21 l1 l2 l3 l4 m = some m0) : mj_R κ (mj_F κ (fun r M' => r = none ∧ M' = (va_up M β m0) ∧ mj_bb none none)) 21 [some (mj_r (β, 0)), some (.inl l1), some (.inl l2), some (.inl l3), some (.inl l4)] [] (va_up M β m) := by
  unfold f_X11_isSaid_J21 at h
  refine mj_iload_n C dX11_isSaid_21 rfl ?_
  refine mj_iconst (v := 1) C dX11_isSaid_22 (by decide) ?_
  refine mj_icmp_ne (tgt := 39) C dX11_isSaid_23 (by decide) (fun c33 => ?_) (fun c33 => ?_)
  · replace h := mj_if_f c33 h
    refine mj_sub (L' := [some (mj_r (β, 0)), some (.inl l1), some (.inl l2), some (.inl l3), some (.inl l4)]) ⟨rfl, ⟨rfl, ⟨rfl, ⟨rfl, ⟨rfl, trivial⟩⟩⟩⟩⟩ ?_
    exact C_X11_isSaid_J39 C hB hR hT h
  · replace h := mj_if_t c33 h
    refine mj_aload_n C dX11_isSaid_26 rfl ?_
    refine mj_iconst (v := 1) C dX11_isSaid_27 (by decide) ?_
    obtain ⟨m34, em34, h⟩ := mj_b1_o h
    refine mj_callV0 (av := [.inl 1]) C lM_X11_90 lV_X11_becomes (sM0 hB) ⟨_, rfl, rfl⟩ rfl (C_X11_becomes hB em34) (mj_rmok hR (by decide) (by decide)) rfl (Nat.le_of_ble_eq_true rfl) dX11_isSaid_28 ?_
    refine mj_aload_n C dX11_isSaid_31 rfl ?_
    refine mj_getr (r := (β, 1)) C lF_X11_7 (sM0 hB) rfl dX11_isSaid_32 ?_
    refine mj_bipush (v := 31) C dX11_isSaid_35 (by decide) ?_
    refine mj_iconst (v := 0) C dX11_isSaid_37 (by decide) ?_
    obtain ⟨m36, hm36, h⟩ := mj_let_o h
    refine mj_bast C (sM1 hB) (mj_okn 31 1897 (Nat.le_of_ble_eq_true rfl) (Nat.le_of_ble_eq_true rfl)) (mj_cln 31 (Nat.le_of_ble_eq_true rfl)) dX11_isSaid_38 hm36 ?_
    refine mj_sub (L' := [some (mj_r (β, 0)), some (.inl l1), some (.inl l2), some (.inl l3), some (.inl l4)]) ⟨rfl, ⟨rfl, ⟨rfl, ⟨rfl, ⟨rfl, trivial⟩⟩⟩⟩⟩ ?_
    exact C_X11_isSaid_J39 C hB hR hT h
def f_X11_isSaid_J16 (l1 : Int32) (l2 : Int32) (l3 : Int32) (l4 : Int32) (m : mj_m) : Option (mj_m) := mj_b1 (f_X11_sentGo l3 m) (fun m37 => f_X11_isSaid_J21 l1 l2 l3 l4 m37)
set_option maxHeartbeats 4000000 in
set_option maxRecDepth 20000 in
theorem C_X11_isSaid_J16 {κ : mj_K} {β : Nat} {M : mj_M} {l1 : Int32} {l2 : Int32} {l3 : Int32} {l4 : Int32} {m : mj_m} {m0 : mj_m} (C : mj_C κ cX11_isSaid 5 RX11) (hB : mj_isM (mj_g κ) β) (hR : mj_dp κ 4) (hT : mj_rt κ = none) (h : f_X11_isSaid_J16 l1 l2 l3 l4 m = some m0) : mj_R κ (mj_F κ (fun r M' => r = none ∧ M' = (va_up M β m0) ∧ mj_bb none none)) 16 [some (mj_r (β, 0)), some (.inl l1), some (.inl l2), some (.inl l3), some (.inl l4)] [] (va_up M β m) := by
  unfold f_X11_isSaid_J16 at h
  refine mj_aload_n C dX11_isSaid_16 rfl ?_
  refine mj_iload_n C dX11_isSaid_17 rfl ?_
  obtain ⟨m37, em37, h⟩ := mj_b1_o h
  refine mj_callV0 (av := [.inl l3]) C lM_X11_210 lV_X11_sentGo (sM0 hB) ⟨_, rfl, rfl⟩ rfl (C_X11_sentGo hB em37) (mj_rmok hR (by decide) (by decide)) rfl (Nat.le_of_ble_eq_true rfl) dX11_isSaid_18 ?_
  refine mj_sub (L' := [some (mj_r (β, 0)), some (.inl l1), some (.inl l2), some (.inl l3), some (.inl l4)]) ⟨rfl, ⟨rfl, ⟨rfl, ⟨rfl, ⟨rfl, trivial⟩⟩⟩⟩⟩ ?_
  exact C_X11_isSaid_J21 C hB hR hT h
def f_X11_isSaid (a1 : Int32) (a2 : Int32) (a3 : Int32) (a4 : Int32) (m : mj_m) : Option (mj_m) := if a1 = 1 then (f_X11_isSaid_J16 a1 a2 a3 a4 m) else (if a2 = 2 then (if a1 = 7 then (f_X11_isSaid_J21 a1 a2 a3 a4 m) else (f_X11_isSaid_J16 a1 a2 a3 a4 m)) else (f_X11_isSaid_J21 a1 a2 a3 a4 m))
set_option maxHeartbeats 4000000 in
set_option maxRecDepth 20000 in
theorem C_X11_isSaid {G : mj_G} {β : Nat} {M : mj_M} {a1 : Int32} {a2 : Int32} {a3 : Int32} {a4 : Int32} {m : mj_m} {m0 : mj_m} (hB : mj_isM G β) (h : f_X11_isSaid a1 a2 a3 a4 m = some m0) : mj_S1 yX11_isSaid cX11_isSaid 5 none 4 G [mj_r (β, 0), .inl a1, .inl a2, .inl a3, .inl a4] (va_up M β m) none (va_up M β m0) := by
  refine mj_intro (by decide) (Nat.le_of_ble_eq_true rfl) ?_
  intro κ C hG hR hT
  subst hG
  have C : mj_C κ cX11_isSaid 5 RX11 := C
  show mj_R κ (mj_F κ (fun r M' => r = none ∧ M' = (va_up M β m0) ∧ mj_bb none none)) 0 [some (mj_r (β, 0)), some (.inl a1), some (.inl a2), some (.inl a3), some (.inl a4)] [] (va_up M β m)
  unfold f_X11_isSaid at h
  refine mj_iload_n C dX11_isSaid_0 rfl ?_
  refine mj_iconst (v := 1) C dX11_isSaid_1 (by decide) ?_
  refine mj_icmp_eq (tgt := 16) C dX11_isSaid_2 (by decide) (fun c39 => ?_) (fun c39 => ?_)
  · replace h := mj_if_t c39 h
    refine mj_sub (L' := [some (mj_r (β, 0)), some (.inl a1), some (.inl a2), some (.inl a3), some (.inl a4)]) ⟨rfl, ⟨rfl, ⟨rfl, ⟨rfl, ⟨rfl, trivial⟩⟩⟩⟩⟩ ?_
    exact C_X11_isSaid_J16 C hB hR hT h
  · replace h := mj_if_f c39 h
    refine mj_iload_n C dX11_isSaid_5 rfl ?_
    refine mj_iconst (v := 2) C dX11_isSaid_6 (by decide) ?_
    refine mj_icmp_ne (tgt := 21) C dX11_isSaid_7 (by decide) (fun c40 => ?_) (fun c40 => ?_)
    · replace h := mj_if_f c40 h
      refine mj_sub (L' := [some (mj_r (β, 0)), some (.inl a1), some (.inl a2), some (.inl a3), some (.inl a4)]) ⟨rfl, ⟨rfl, ⟨rfl, ⟨rfl, ⟨rfl, trivial⟩⟩⟩⟩⟩ ?_
      exact C_X11_isSaid_J21 C hB hR hT h
    · replace h := mj_if_t c40 h
      refine mj_iload_n C dX11_isSaid_10 rfl ?_
      refine mj_bipush (v := 7) C dX11_isSaid_11 (by decide) ?_
      refine mj_icmp_eq (tgt := 21) C dX11_isSaid_13 (by decide) (fun c41 => ?_) (fun c41 => ?_)
      · replace h := mj_if_t c41 h
        refine mj_sub (L' := [some (mj_r (β, 0)), some (.inl a1), some (.inl a2), some (.inl a3), some (.inl a4)]) ⟨rfl, ⟨rfl, ⟨rfl, ⟨rfl, ⟨rfl, trivial⟩⟩⟩⟩⟩ ?_
        exact C_X11_isSaid_J21 C hB hR hT h
      · replace h := mj_if_f c41 h
        refine mj_sub (L' := [some (mj_r (β, 0)), some (.inl a1), some (.inl a2), some (.inl a3), some (.inl a4)]) ⟨rfl, ⟨rfl, ⟨rfl, ⟨rfl, ⟨rfl, trivial⟩⟩⟩⟩⟩ ?_
        exact C_X11_isSaid_J16 C hB hR hT h
def f_X11_isChecked_J27 (l3 : Int32) (m : mj_m) : Option (mj_m) := if l3 = 0 then (mj_b1 (f_X11_becomes 1 m) (fun m2 => mj_let (mj_wrs m2 1 31 0) (fun m4 => some m4))) else (some m)
set_option maxHeartbeats 4000000 in
set_option maxRecDepth 20000 in
theorem C_X11_isChecked_J27 {κ : mj_K} {β : Nat} {M : mj_M} {l3 : Int32} {m : mj_m} {m0 : mj_m} (C : mj_C κ cX11_isChecked 4 RX11) (hB : mj_isM (mj_g κ) β) (hR : mj_dp κ 4) (hT : mj_rt κ = none) (h : f_X11_isChecked_J27 l3 m = some m0) : mj_R κ (mj_F κ (fun r M' => r = none ∧ M' = (va_up M β m0) ∧ mj_bb none none)) 27 [some (mj_r (β, 0)), none, none, some (.inl l3)] [] (va_up M β m) := by
  unfold f_X11_isChecked_J27 at h
  refine mj_iload_n C dX11_isChecked_27 rfl ?_
  refine mj_if_ne (tgt := 44) C dX11_isChecked_28 (by decide) (fun c1 => ?_) (fun c1 => ?_)
  · replace h := mj_if_f c1 h
    cases h
    exact mj_vret C hT dX11_isChecked_44 ⟨rfl, rfl, mj_bv _⟩
  · replace h := mj_if_t c1 h
    refine mj_aload_n C dX11_isChecked_31 rfl ?_
    refine mj_iconst (v := 1) C dX11_isChecked_32 (by decide) ?_
    obtain ⟨m2, em2, h⟩ := mj_b1_o h
    refine mj_callV0 (av := [.inl 1]) C lM_X11_90 lV_X11_becomes (sM0 hB) ⟨_, rfl, rfl⟩ rfl (C_X11_becomes hB em2) (mj_rmok hR (by decide) (by decide)) rfl (Nat.le_of_ble_eq_true rfl) dX11_isChecked_33 ?_
    refine mj_aload_n C dX11_isChecked_36 rfl ?_
    refine mj_getr (r := (β, 1)) C lF_X11_7 (sM0 hB) rfl dX11_isChecked_37 ?_
    refine mj_bipush (v := 31) C dX11_isChecked_40 (by decide) ?_
    refine mj_iconst (v := 0) C dX11_isChecked_42 (by decide) ?_
    obtain ⟨m4, hm4, h⟩ := mj_let_o h
    refine mj_bast C (sM1 hB) (mj_okn 31 1897 (Nat.le_of_ble_eq_true rfl) (Nat.le_of_ble_eq_true rfl)) (mj_cln 31 (Nat.le_of_ble_eq_true rfl)) dX11_isChecked_43 hm4 ?_
    cases h
    exact mj_vret C hT dX11_isChecked_44 ⟨rfl, rfl, mj_bv _⟩
def f_X11_isChecked (a1 : Int32) (a2 : Int32) (a3 : Int32) (m : mj_m) : Option (mj_m) := if a2 = 0 then (if a3 = 0 then (if a1 = m 1 22 then (f_X11_isChecked_J27 a3 m) else (mj_b1 (f_X11_alarms 2 m) (fun m10 => some m10))) else (f_X11_isChecked_J27 a3 m)) else (mj_b1 (f_X11_alarms 2 m) (fun m6 => some m6))
set_option maxHeartbeats 4000000 in
set_option maxRecDepth 20000 in
theorem C_X11_isChecked {G : mj_G} {β : Nat} {M : mj_M} {a1 : Int32} {a2 : Int32} {a3 : Int32} {m : mj_m} {m0 : mj_m} (hB : mj_isM G β) (h : f_X11_isChecked a1 a2 a3 m = some m0) : mj_S1 yX11_isChecked cX11_isChecked 4 none 4 G [mj_r (β, 0), .inl a1, .inl a2, .inl a3] (va_up M β m) none (va_up M β m0) := by
  refine mj_intro (by decide) (Nat.le_of_ble_eq_true rfl) ?_
  intro κ C hG hR hT
  subst hG
  have C : mj_C κ cX11_isChecked 4 RX11 := C
  show mj_R κ (mj_F κ (fun r M' => r = none ∧ M' = (va_up M β m0) ∧ mj_bb none none)) 0 [some (mj_r (β, 0)), some (.inl a1), some (.inl a2), some (.inl a3)] [] (va_up M β m)
  unfold f_X11_isChecked at h
  refine mj_iload_n C dX11_isChecked_0 rfl ?_
  refine mj_if_ne (tgt := 19) C dX11_isChecked_1 (by decide) (fun c5 => ?_) (fun c5 => ?_)
  · replace h := mj_if_f c5 h
    refine mj_aload_n C dX11_isChecked_19 rfl ?_
    refine mj_iconst (v := 2) C dX11_isChecked_20 (by decide) ?_
    obtain ⟨m6, em6, h⟩ := mj_b1_o h
    refine mj_callV0 (av := [.inl 2]) C lM_X11_96 lV_X11_alarms (sM0 hB) ⟨_, rfl, rfl⟩ rfl (C_X11_alarms hB em6) (mj_rmok hR (by decide) (by decide)) rfl (Nat.le_of_ble_eq_true rfl) dX11_isChecked_21 ?_
    refine mj_goto (tgt := 44) C dX11_isChecked_24 (by decide) ?_
    cases h
    exact mj_vret C hT dX11_isChecked_44 ⟨rfl, rfl, mj_bv _⟩
  · replace h := mj_if_t c5 h
    refine mj_iload_n C dX11_isChecked_4 rfl ?_
    refine mj_if_ne (tgt := 27) C dX11_isChecked_5 (by decide) (fun c8 => ?_) (fun c8 => ?_)
    · replace h := mj_if_f c8 h
      refine mj_sub (L' := [some (mj_r (β, 0)), none, none, some (.inl a3)]) ⟨rfl, ⟨rfl, trivial⟩⟩ ?_
      exact C_X11_isChecked_J27 C hB hR hT h
    · replace h := mj_if_t c8 h
      refine mj_iload_n C dX11_isChecked_8 rfl ?_
      refine mj_aload_n C dX11_isChecked_9 rfl ?_
      refine mj_getr (r := (β, 1)) C lF_X11_7 (sM0 hB) rfl dX11_isChecked_10 ?_
      refine mj_bipush (v := 22) C dX11_isChecked_13 (by decide) ?_
      refine mj_bald C (sM1 hB) (mj_okn 22 1897 (Nat.le_of_ble_eq_true rfl) (Nat.le_of_ble_eq_true rfl)) (mj_cln 22 (Nat.le_of_ble_eq_true rfl)) dX11_isChecked_15 ?_
      refine mj_icmp_eq (tgt := 27) C dX11_isChecked_16 (by decide) (fun c9 => ?_) (fun c9 => ?_)
      · replace h := mj_if_t c9 h
        refine mj_sub (L' := [some (mj_r (β, 0)), none, none, some (.inl a3)]) ⟨rfl, ⟨rfl, trivial⟩⟩ ?_
        exact C_X11_isChecked_J27 C hB hR hT h
      · replace h := mj_if_f c9 h
        refine mj_aload_n C dX11_isChecked_19 rfl ?_
        refine mj_iconst (v := 2) C dX11_isChecked_20 (by decide) ?_
        obtain ⟨m10, em10, h⟩ := mj_b1_o h
        refine mj_callV0 (av := [.inl 2]) C lM_X11_96 lV_X11_alarms (sM0 hB) ⟨_, rfl, rfl⟩ rfl (C_X11_alarms hB em10) (mj_rmok hR (by decide) (by decide)) rfl (Nat.le_of_ble_eq_true rfl) dX11_isChecked_21 ?_
        refine mj_goto (tgt := 44) C dX11_isChecked_24 (by decide) ?_
        cases h
        exact mj_vret C hT dX11_isChecked_44 ⟨rfl, rfl, mj_bv _⟩
def f_X11_isAnswered (a1 : Int32) (a2 : Int32) (a3 : Int32) (m : mj_m) : Option (mj_m) := if a2 = 0 then (if a3 = 0 then (if a1 = m 1 22 then (mj_b1 (f_X11_becomes 1 m) (fun m4 => mj_let (mj_wrs m4 1 26 0) (fun m6 => mj_let (mj_wrs m6 1 31 0) (fun m7 => some m7)))) else (some m)) else (some m)) else (some m)
set_option maxHeartbeats 4000000 in
set_option maxRecDepth 20000 in
theorem C_X11_isAnswered {G : mj_G} {β : Nat} {M : mj_M} {a1 : Int32} {a2 : Int32} {a3 : Int32} {m : mj_m} {m0 : mj_m} (hB : mj_isM G β) (h : f_X11_isAnswered a1 a2 a3 m = some m0) : mj_S1 yX11_isAnswered cX11_isAnswered 4 none 2 G [mj_r (β, 0), .inl a1, .inl a2, .inl a3] (va_up M β m) none (va_up M β m0) := by
  refine mj_intro (by decide) (Nat.le_of_ble_eq_true rfl) ?_
  intro κ C hG hR hT
  subst hG
  have C : mj_C κ cX11_isAnswered 4 RX11 := C
  show mj_R κ (mj_F κ (fun r M' => r = none ∧ M' = (va_up M β m0) ∧ mj_bb none none)) 0 [some (mj_r (β, 0)), some (.inl a1), some (.inl a2), some (.inl a3)] [] (va_up M β m)
  unfold f_X11_isAnswered at h
  refine mj_iload_n C dX11_isAnswered_0 rfl ?_
  refine mj_if_ne (tgt := 19) C dX11_isAnswered_1 (by decide) (fun c1 => ?_) (fun c1 => ?_)
  · replace h := mj_if_f c1 h
    cases h
    exact mj_vret C hT dX11_isAnswered_19 ⟨rfl, rfl, mj_bv _⟩
  · replace h := mj_if_t c1 h
    refine mj_iload_n C dX11_isAnswered_4 rfl ?_
    refine mj_if_ne (tgt := 19) C dX11_isAnswered_5 (by decide) (fun c2 => ?_) (fun c2 => ?_)
    · replace h := mj_if_f c2 h
      cases h
      exact mj_vret C hT dX11_isAnswered_19 ⟨rfl, rfl, mj_bv _⟩
    · replace h := mj_if_t c2 h
      refine mj_iload_n C dX11_isAnswered_8 rfl ?_
      refine mj_aload_n C dX11_isAnswered_9 rfl ?_
      refine mj_getr (r := (β, 1)) C lF_X11_7 (sM0 hB) rfl dX11_isAnswered_10 ?_
      refine mj_bipush (v := 22) C dX11_isAnswered_13 (by decide) ?_
      refine mj_bald C (sM1 hB) (mj_okn 22 1897 (Nat.le_of_ble_eq_true rfl) (Nat.le_of_ble_eq_true rfl)) (mj_cln 22 (Nat.le_of_ble_eq_true rfl)) dX11_isAnswered_15 ?_
      refine mj_icmp_eq (tgt := 20) C dX11_isAnswered_16 (by decide) (fun c3 => ?_) (fun c3 => ?_)
      · replace h := mj_if_t c3 h
        refine mj_aload_n C dX11_isAnswered_20 rfl ?_
        refine mj_iconst (v := 1) C dX11_isAnswered_21 (by decide) ?_
        obtain ⟨m4, em4, h⟩ := mj_b1_o h
        refine mj_callV0 (av := [.inl 1]) C lM_X11_90 lV_X11_becomes (sM0 hB) ⟨_, rfl, rfl⟩ rfl (C_X11_becomes hB em4) (mj_rmok hR (by decide) (by decide)) rfl (Nat.le_of_ble_eq_true rfl) dX11_isAnswered_22 ?_
        refine mj_aload_n C dX11_isAnswered_25 rfl ?_
        refine mj_getr (r := (β, 1)) C lF_X11_7 (sM0 hB) rfl dX11_isAnswered_26 ?_
        refine mj_bipush (v := 26) C dX11_isAnswered_29 (by decide) ?_
        refine mj_iconst (v := 0) C dX11_isAnswered_31 (by decide) ?_
        obtain ⟨m6, hm6, h⟩ := mj_let_o h
        refine mj_bast C (sM1 hB) (mj_okn 26 1897 (Nat.le_of_ble_eq_true rfl) (Nat.le_of_ble_eq_true rfl)) (mj_cln 26 (Nat.le_of_ble_eq_true rfl)) dX11_isAnswered_32 hm6 ?_
        refine mj_aload_n C dX11_isAnswered_33 rfl ?_
        refine mj_getr (r := (β, 1)) C lF_X11_7 (sM0 hB) rfl dX11_isAnswered_34 ?_
        refine mj_bipush (v := 31) C dX11_isAnswered_37 (by decide) ?_
        refine mj_iconst (v := 0) C dX11_isAnswered_39 (by decide) ?_
        obtain ⟨m7, hm7, h⟩ := mj_let_o h
        refine mj_bast C (sM1 hB) (mj_okn 31 1897 (Nat.le_of_ble_eq_true rfl) (Nat.le_of_ble_eq_true rfl)) (mj_cln 31 (Nat.le_of_ble_eq_true rfl)) dX11_isAnswered_40 hm7 ?_
        cases h
        exact mj_vret C hT dX11_isAnswered_41 ⟨rfl, rfl, mj_bv _⟩
      · replace h := mj_if_f c3 h
        cases h
        exact mj_vret C hT dX11_isAnswered_19 ⟨rfl, rfl, mj_bv _⟩
def f_X11_hears_J193 (l2 : Int32) (l3 : Int32) (l4 : Int32) (s0 : Int32) (m : mj_m) : Option (mj_m) := mj_let (f_X11_machine m) (fun r1 => mj_b1 (f_X11_settingOf 3 m) (fun r3 => mj_let (f_X11_verdict r1 s0 l4 l3 (m 1 30) r3) (fun r5 => mj_b1 (f_X11_more (110 + r5) m) (fun m7 => mj_b1 (f_X11_isSaid r5 s0 l2 l3 m7) (fun m9 => some m9)))))
set_option maxHeartbeats 4000000 in
set_option maxRecDepth 20000 in
theorem C_X11_hears_J193 {κ : mj_K} {β : Nat} {M : mj_M} {l2 : Int32} {l3 : Int32} {l4 : Int32} {s0 : Int32} {m : mj_m} {m0 : mj_m} (C : mj_C κ cX11_hears 8 RX11) (hB : mj_isM (mj_g κ) β) (hR : mj_dp κ 5) (hT : mj_rt κ = none) (h : f_X11_hears_J193 l2 l3 l4 s0 m = some m0) : mj_R κ (mj_F κ (fun r M' => r = none ∧ M' = (va_up M β m0) ∧ mj_bb none none)) 193 [some (mj_r (β, 0)), none, some (.inl l2), some (.inl l3), some (.inl l4), none, none, none] [.inl s0] (va_up M β m) := by
  unfold f_X11_hears_J193 at h
  refine mj_istore (L2 := [some (mj_r (β, 0)), none, some (.inl l2), some (.inl l3), some (.inl l4), none, some (.inl s0), none]) C dX11_hears_193 (Nat.le_of_ble_eq_true rfl) rfl ?_
  refine mj_aload_n C dX11_hears_195 rfl ?_
  refine mj_aload_n C dX11_hears_196 rfl ?_
  obtain ⟨r1, er1, h⟩ := mj_let_o h
  refine mj_callV1 (av := []) C lM_X11_87 lV_X11_machine (sM0 hB) ⟨_, rfl, rfl⟩ rfl (C_X11_machine hB er1) (mj_rmok hR (by decide) (by decide)) rfl (Nat.le_of_ble_eq_true rfl) dX11_hears_197 (fun hb2 => ?_)
  refine mj_iload C dX11_hears_200 rfl ?_
  refine mj_iload C dX11_hears_202 rfl ?_
  refine mj_iload_n C dX11_hears_204 rfl ?_
  refine mj_aload_n C dX11_hears_205 rfl ?_
  refine mj_getr (r := (β, 1)) C lF_X11_7 (sM0 hB) rfl dX11_hears_206 ?_
  refine mj_bipush (v := 30) C dX11_hears_209 (by decide) ?_
  refine mj_bald C (sM1 hB) (mj_okn 30 1897 (Nat.le_of_ble_eq_true rfl) (Nat.le_of_ble_eq_true rfl)) (mj_cln 30 (Nat.le_of_ble_eq_true rfl)) dX11_hears_211 ?_
  refine mj_aload_n C dX11_hears_212 rfl ?_
  refine mj_iconst (v := 3) C dX11_hears_213 (by decide) ?_
  obtain ⟨r3, er3, h⟩ := mj_b1_o h
  refine mj_callV1 (av := [.inl 3]) C lM_X11_102 lV_X11_settingOf (sM0 hB) ⟨_, rfl, rfl⟩ rfl (C_X11_settingOf hB er3) (mj_rmok hR (by decide) (by decide)) rfl (Nat.le_of_ble_eq_true rfl) dX11_hears_214 (fun hb4 => ?_)
  obtain ⟨r5, er5, h⟩ := mj_let_o h
  refine mj_callV1 (av := [.inl r1, .inl s0, .inl l4, .inl l3, .inl (m 1 30), .inl r3]) C lM_X11_203 lV_X11_verdict (sM0 hB) ⟨_, rfl, rfl⟩ rfl (C_X11_verdict hB er5) (mj_rmok hR (by decide) (by decide)) rfl (Nat.le_of_ble_eq_true rfl) dX11_hears_217 (fun hb6 => ?_)
  refine mj_istore (L2 := [some (mj_r (β, 0)), none, some (.inl l2), some (.inl l3), some (.inl l4), none, some (.inl s0), some (.inl r5)]) C dX11_hears_220 (Nat.le_of_ble_eq_true rfl) rfl ?_
  refine mj_aload_n C dX11_hears_222 rfl ?_
  refine mj_bipush (v := 110) C dX11_hears_223 (by decide) ?_
  refine mj_iload C dX11_hears_225 rfl ?_
  refine mj_iadd C dX11_hears_227 ?_
  obtain ⟨m7, em7, h⟩ := mj_b1_o h
  refine mj_callV0 (av := [.inl (110 + r5)]) C lM_X11_58 lV_X11_more (sM0 hB) ⟨_, rfl, rfl⟩ rfl (C_X11_more hB em7) (mj_rmok hR (by decide) (by decide)) rfl (Nat.le_of_ble_eq_true rfl) dX11_hears_228 ?_
  refine mj_aload_n C dX11_hears_231 rfl ?_
  refine mj_iload C dX11_hears_232 rfl ?_
  refine mj_iload C dX11_hears_234 rfl ?_
  refine mj_iload_n C dX11_hears_236 rfl ?_
  refine mj_iload_n C dX11_hears_237 rfl ?_
  obtain ⟨m9, em9, h⟩ := mj_b1_o h
  refine mj_callV0 (av := [.inl r5, .inl s0, .inl l2, .inl l3]) C lM_X11_220 lV_X11_isSaid (sM0 hB) ⟨_, rfl, rfl⟩ rfl (C_X11_isSaid hB em9) (mj_rmok hR (by decide) (by decide)) rfl (Nat.le_of_ble_eq_true rfl) dX11_hears_238 ?_
  cases h
  exact mj_vret C hT dX11_hears_241 ⟨rfl, rfl, mj_bv _⟩
def f_X11_hears_J38 (l1 : Int32) (l2 : Int32) (l3 : Int32) (l4 : Int32) (s0 : Int32) (m : mj_m) : Option (mj_m) := if l1 &&& 1 = 1 then (if s0 = 0 then (mj_b1 (f_X11_alarms 1 m) (fun m36 => some m36)) else (if m 1 26 = 1 then (some m) else (mj_b1 (f_X11_alarms 1 m) (fun m39 => some m39)))) else (mj_let (f_X11_round (l2 - (m 1 23))) (fun r12 => mj_let (f_X11_round ((m 1 22) - (m 1 23))) (fun r14 => if r12 ≤ r14 then (if s0 = 0 then (mj_let (f_X11_machine m) (fun r18 => if r18 = 4 then (mj_b1 (f_X11_isChecked l2 l4 l3 m) (fun m23 => some m23)) else (if l2 = m 1 22 then (f_X11_hears_J193 l2 l3 l4 0 m) else (if l2 = m 1 23 then (f_X11_hears_J193 l2 l3 l4 1 m) else (f_X11_hears_J193 l2 l3 l4 2 m))))) else (mj_b1 (f_X11_isAnswered l2 l4 l3 m) (fun m25 => some m25))) else (if s0 = 0 then (mj_let (f_X11_machine m) (fun r28 => if r28 = 4 then (mj_b1 (f_X11_alarms 2 m) (fun m33 => some m33)) else (mj_b1 (f_X11_alarms 3 m) (fun m31 => some m31)))) else (some m)))))
set_option maxHeartbeats 4000000 in
set_option maxRecDepth 20000 in
theorem C_X11_hears_J38 {κ : mj_K} {β : Nat} {M : mj_M} {l1 : Int32} {l2 : Int32} {l3 : Int32} {l4 : Int32} {s0 : Int32} {m : mj_m} {m0 : mj_m} (C : mj_C κ cX11_hears 8 RX11) (hB : mj_isM (mj_g κ) β) (hR : mj_dp κ 5) (hT : mj_rt κ = none) (h : f_X11_hears_J38 l1 l2 l3 l4 s0 m = some m0) : mj_R κ (mj_F κ (fun r M' => r = none ∧ M' = (va_up M β m0) ∧ mj_bb none none)) 38 [some (mj_r (β, 0)), some (.inl l1), some (.inl l2), some (.inl l3), some (.inl l4), none, none, none] [.inl s0] (va_up M β m) := by
  unfold f_X11_hears_J38 at h
  refine mj_istore (L2 := [some (mj_r (β, 0)), some (.inl l1), some (.inl l2), some (.inl l3), some (.inl l4), some (.inl s0), none, none]) C dX11_hears_38 (Nat.le_of_ble_eq_true rfl) rfl ?_
  refine mj_iload_n C dX11_hears_40 rfl ?_
  refine mj_iconst (v := 1) C dX11_hears_41 (by decide) ?_
  refine mj_iand C dX11_hears_42 ?_
  refine mj_iconst (v := 1) C dX11_hears_43 (by decide) ?_
  refine mj_icmp_ne (tgt := 69) C dX11_hears_44 (by decide) (fun c11 => ?_) (fun c11 => ?_)
  · replace h := mj_if_f c11 h
    refine mj_aload_n C dX11_hears_69 rfl ?_
    refine mj_iload_n C dX11_hears_70 rfl ?_
    refine mj_aload_n C dX11_hears_71 rfl ?_
    refine mj_getr (r := (β, 1)) C lF_X11_7 (sM0 hB) rfl dX11_hears_72 ?_
    refine mj_bipush (v := 23) C dX11_hears_75 (by decide) ?_
    refine mj_bald C (sM1 hB) (mj_okn 23 1897 (Nat.le_of_ble_eq_true rfl) (Nat.le_of_ble_eq_true rfl)) (mj_cln 23 (Nat.le_of_ble_eq_true rfl)) dX11_hears_77 ?_
    refine mj_isub C dX11_hears_78 ?_
    obtain ⟨r12, er12, h⟩ := mj_let_o h
    refine mj_callV1 (av := [.inl (l2 - (m 1 23))]) C lM_X11_155 lV_X11_round (sM0 hB) ⟨_, rfl, rfl⟩ rfl (C_X11_round hB er12) (mj_rmok hR (by decide) (by decide)) rfl (Nat.le_of_ble_eq_true rfl) dX11_hears_79 (fun hb13 => ?_)
    refine mj_aload_n C dX11_hears_82 rfl ?_
    refine mj_aload_n C dX11_hears_83 rfl ?_
    refine mj_getr (r := (β, 1)) C lF_X11_7 (sM0 hB) rfl dX11_hears_84 ?_
    refine mj_bipush (v := 22) C dX11_hears_87 (by decide) ?_
    refine mj_bald C (sM1 hB) (mj_okn 22 1897 (Nat.le_of_ble_eq_true rfl) (Nat.le_of_ble_eq_true rfl)) (mj_cln 22 (Nat.le_of_ble_eq_true rfl)) dX11_hears_89 ?_
    refine mj_aload_n C dX11_hears_90 rfl ?_
    refine mj_getr (r := (β, 1)) C lF_X11_7 (sM0 hB) rfl dX11_hears_91 ?_
    refine mj_bipush (v := 23) C dX11_hears_94 (by decide) ?_
    refine mj_bald C (sM1 hB) (mj_okn 23 1897 (Nat.le_of_ble_eq_true rfl) (Nat.le_of_ble_eq_true rfl)) (mj_cln 23 (Nat.le_of_ble_eq_true rfl)) dX11_hears_96 ?_
    refine mj_isub C dX11_hears_97 ?_
    obtain ⟨r14, er14, h⟩ := mj_let_o h
    refine mj_callV1 (av := [.inl ((m 1 22) - (m 1 23))]) C lM_X11_155 lV_X11_round (sM0 hB) ⟨_, rfl, rfl⟩ rfl (C_X11_round hB er14) (mj_rmok hR (by decide) (by decide)) rfl (Nat.le_of_ble_eq_true rfl) dX11_hears_98 (fun hb15 => ?_)
    refine mj_icmp_le (tgt := 127) C dX11_hears_101 (by decide) (fun c16 => ?_) (fun c16 => ?_)
    · replace h := mj_if_t c16 h
      refine mj_iload C dX11_hears_127 rfl ?_
      refine mj_if_eq (tgt := 143) C dX11_hears_129 (by decide) (fun c17 => ?_) (fun c17 => ?_)
      · replace h := mj_if_t c17 h
        refine mj_aload_n C dX11_hears_143 rfl ?_
        obtain ⟨r18, er18, h⟩ := mj_let_o h
        refine mj_callV1 (av := []) C lM_X11_87 lV_X11_machine (sM0 hB) ⟨_, rfl, rfl⟩ rfl (C_X11_machine hB er18) (mj_rmok hR (by decide) (by decide)) rfl (Nat.le_of_ble_eq_true rfl) dX11_hears_144 (fun hb19 => ?_)
        refine mj_iconst (v := 4) C dX11_hears_147 (by decide) ?_
        refine mj_icmp_ne (tgt := 162) C dX11_hears_148 (by decide) (fun c20 => ?_) (fun c20 => ?_)
        · replace h := mj_if_f c20 h
          refine mj_iload_n C dX11_hears_162 rfl ?_
          refine mj_aload_n C dX11_hears_163 rfl ?_
          refine mj_getr (r := (β, 1)) C lF_X11_7 (sM0 hB) rfl dX11_hears_164 ?_
          refine mj_bipush (v := 22) C dX11_hears_167 (by decide) ?_
          refine mj_bald C (sM1 hB) (mj_okn 22 1897 (Nat.le_of_ble_eq_true rfl) (Nat.le_of_ble_eq_true rfl)) (mj_cln 22 (Nat.le_of_ble_eq_true rfl)) dX11_hears_169 ?_
          refine mj_icmp_ne (tgt := 177) C dX11_hears_170 (by decide) (fun c21 => ?_) (fun c21 => ?_)
          · replace h := mj_if_f c21 h
            refine mj_iload_n C dX11_hears_177 rfl ?_
            refine mj_aload_n C dX11_hears_178 rfl ?_
            refine mj_getr (r := (β, 1)) C lF_X11_7 (sM0 hB) rfl dX11_hears_179 ?_
            refine mj_bipush (v := 23) C dX11_hears_182 (by decide) ?_
            refine mj_bald C (sM1 hB) (mj_okn 23 1897 (Nat.le_of_ble_eq_true rfl) (Nat.le_of_ble_eq_true rfl)) (mj_cln 23 (Nat.le_of_ble_eq_true rfl)) dX11_hears_184 ?_
            refine mj_icmp_ne (tgt := 192) C dX11_hears_185 (by decide) (fun c22 => ?_) (fun c22 => ?_)
            · replace h := mj_if_f c22 h
              refine mj_iconst (v := 2) C dX11_hears_192 (by decide) ?_
              refine mj_sub (L' := [some (mj_r (β, 0)), none, some (.inl l2), some (.inl l3), some (.inl l4), none, none, none]) ⟨rfl, ⟨rfl, ⟨rfl, ⟨rfl, trivial⟩⟩⟩⟩ ?_
              exact C_X11_hears_J193 C hB hR hT h
            · replace h := mj_if_t c22 h
              refine mj_iconst (v := 1) C dX11_hears_188 (by decide) ?_
              refine mj_goto (tgt := 193) C dX11_hears_189 (by decide) ?_
              refine mj_sub (L' := [some (mj_r (β, 0)), none, some (.inl l2), some (.inl l3), some (.inl l4), none, none, none]) ⟨rfl, ⟨rfl, ⟨rfl, ⟨rfl, trivial⟩⟩⟩⟩ ?_
              exact C_X11_hears_J193 C hB hR hT h
          · replace h := mj_if_t c21 h
            refine mj_iconst (v := 0) C dX11_hears_173 (by decide) ?_
            refine mj_goto (tgt := 193) C dX11_hears_174 (by decide) ?_
            refine mj_sub (L' := [some (mj_r (β, 0)), none, some (.inl l2), some (.inl l3), some (.inl l4), none, none, none]) ⟨rfl, ⟨rfl, ⟨rfl, ⟨rfl, trivial⟩⟩⟩⟩ ?_
            exact C_X11_hears_J193 C hB hR hT h
        · replace h := mj_if_t c20 h
          refine mj_aload_n C dX11_hears_151 rfl ?_
          refine mj_iload_n C dX11_hears_152 rfl ?_
          refine mj_iload C dX11_hears_153 rfl ?_
          refine mj_iload_n C dX11_hears_155 rfl ?_
          obtain ⟨m23, em23, h⟩ := mj_b1_o h
          refine mj_callV0 (av := [.inl l2, .inl l4, .inl l3]) C lM_X11_217 lV_X11_isChecked (sM0 hB) ⟨_, rfl, rfl⟩ rfl (C_X11_isChecked hB em23) (mj_rmok hR (by decide) (by decide)) rfl (Nat.le_of_ble_eq_true rfl) dX11_hears_156 ?_
          refine mj_goto (tgt := 241) C dX11_hears_159 (by decide) ?_
          cases h
          exact mj_vret C hT dX11_hears_241 ⟨rfl, rfl, mj_bv _⟩
      · replace h := mj_if_f c17 h
        refine mj_aload_n C dX11_hears_132 rfl ?_
        refine mj_iload_n C dX11_hears_133 rfl ?_
        refine mj_iload C dX11_hears_134 rfl ?_
        refine mj_iload_n C dX11_hears_136 rfl ?_
        obtain ⟨m25, em25, h⟩ := mj_b1_o h
        refine mj_callV0 (av := [.inl l2, .inl l4, .inl l3]) C lM_X11_213 lV_X11_isAnswered (sM0 hB) ⟨_, rfl, rfl⟩ rfl (C_X11_isAnswered hB em25) (mj_rmok hR (by decide) (by decide)) rfl (Nat.le_of_ble_eq_true rfl) dX11_hears_137 ?_
        refine mj_goto (tgt := 241) C dX11_hears_140 (by decide) ?_
        cases h
        exact mj_vret C hT dX11_hears_241 ⟨rfl, rfl, mj_bv _⟩
    · replace h := mj_if_f c16 h
      refine mj_iload C dX11_hears_104 rfl ?_
      refine mj_if_ne (tgt := 126) C dX11_hears_106 (by decide) (fun c27 => ?_) (fun c27 => ?_)
      · replace h := mj_if_f c27 h
        cases h
        exact mj_vret C hT dX11_hears_126 ⟨rfl, rfl, mj_bv _⟩
      · replace h := mj_if_t c27 h
        refine mj_aload_n C dX11_hears_109 rfl ?_
        refine mj_aload_n C dX11_hears_110 rfl ?_
        obtain ⟨r28, er28, h⟩ := mj_let_o h
        refine mj_callV1 (av := []) C lM_X11_87 lV_X11_machine (sM0 hB) ⟨_, rfl, rfl⟩ rfl (C_X11_machine hB er28) (mj_rmok hR (by decide) (by decide)) rfl (Nat.le_of_ble_eq_true rfl) dX11_hears_111 (fun hb29 => ?_)
        refine mj_iconst (v := 4) C dX11_hears_114 (by decide) ?_
        refine mj_icmp_ne (tgt := 122) C dX11_hears_115 (by decide) (fun c30 => ?_) (fun c30 => ?_)
        · replace h := mj_if_f c30 h
          refine mj_iconst (v := 3) C dX11_hears_122 (by decide) ?_
          obtain ⟨m31, em31, h⟩ := mj_b1_o h
          refine mj_callV0 (av := [.inl 3]) C lM_X11_96 lV_X11_alarms (sM0 hB) ⟨_, rfl, rfl⟩ rfl (C_X11_alarms hB em31) (mj_rmok hR (by decide) (by decide)) rfl (Nat.le_of_ble_eq_true rfl) dX11_hears_123 ?_
          cases h
          exact mj_vret C hT dX11_hears_126 ⟨rfl, rfl, mj_bv _⟩
        · replace h := mj_if_t c30 h
          refine mj_iconst (v := 2) C dX11_hears_118 (by decide) ?_
          refine mj_goto (tgt := 123) C dX11_hears_119 (by decide) ?_
          obtain ⟨m33, em33, h⟩ := mj_b1_o h
          refine mj_callV0 (av := [.inl 2]) C lM_X11_96 lV_X11_alarms (sM0 hB) ⟨_, rfl, rfl⟩ rfl (C_X11_alarms hB em33) (mj_rmok hR (by decide) (by decide)) rfl (Nat.le_of_ble_eq_true rfl) dX11_hears_123 ?_
          cases h
          exact mj_vret C hT dX11_hears_126 ⟨rfl, rfl, mj_bv _⟩
  · replace h := mj_if_t c11 h
    refine mj_iload C dX11_hears_47 rfl ?_
    refine mj_if_eq (tgt := 63) C dX11_hears_49 (by decide) (fun c35 => ?_) (fun c35 => ?_)
    · replace h := mj_if_t c35 h
      refine mj_aload_n C dX11_hears_63 rfl ?_
      refine mj_iconst (v := 1) C dX11_hears_64 (by decide) ?_
      obtain ⟨m36, em36, h⟩ := mj_b1_o h
      refine mj_callV0 (av := [.inl 1]) C lM_X11_96 lV_X11_alarms (sM0 hB) ⟨_, rfl, rfl⟩ rfl (C_X11_alarms hB em36) (mj_rmok hR (by decide) (by decide)) rfl (Nat.le_of_ble_eq_true rfl) dX11_hears_65 ?_
      cases h
      exact mj_vret C hT dX11_hears_68 ⟨rfl, rfl, mj_bv _⟩
    · replace h := mj_if_f c35 h
      refine mj_aload_n C dX11_hears_52 rfl ?_
      refine mj_getr (r := (β, 1)) C lF_X11_7 (sM0 hB) rfl dX11_hears_53 ?_
      refine mj_bipush (v := 26) C dX11_hears_56 (by decide) ?_
      refine mj_bald C (sM1 hB) (mj_okn 26 1897 (Nat.le_of_ble_eq_true rfl) (Nat.le_of_ble_eq_true rfl)) (mj_cln 26 (Nat.le_of_ble_eq_true rfl)) dX11_hears_58 ?_
      refine mj_iconst (v := 1) C dX11_hears_59 (by decide) ?_
      refine mj_icmp_eq (tgt := 68) C dX11_hears_60 (by decide) (fun c38 => ?_) (fun c38 => ?_)
      · replace h := mj_if_t c38 h
        cases h
        exact mj_vret C hT dX11_hears_68 ⟨rfl, rfl, mj_bv _⟩
      · replace h := mj_if_f c38 h
        refine mj_aload_n C dX11_hears_63 rfl ?_
        refine mj_iconst (v := 1) C dX11_hears_64 (by decide) ?_
        obtain ⟨m39, em39, h⟩ := mj_b1_o h
        refine mj_callV0 (av := [.inl 1]) C lM_X11_96 lV_X11_alarms (sM0 hB) ⟨_, rfl, rfl⟩ rfl (C_X11_alarms hB em39) (mj_rmok hR (by decide) (by decide)) rfl (Nat.le_of_ble_eq_true rfl) dX11_hears_65 ?_
        cases h
        exact mj_vret C hT dX11_hears_68 ⟨rfl, rfl, mj_bv _⟩
def f_X11_hears_J23 (l1 : Int32) (l2 : Int32) (l3 : Int32) (s0 : Int32) (m : mj_m) : Option (mj_m) := mj_let (f_X11_machine m) (fun r41 => if r41 = 5 then (f_X11_hears_J38 l1 l2 l3 s0 1 m) else (f_X11_hears_J38 l1 l2 l3 s0 0 m))
set_option maxHeartbeats 4000000 in
set_option maxRecDepth 20000 in
theorem C_X11_hears_J23 {κ : mj_K} {β : Nat} {M : mj_M} {l1 : Int32} {l2 : Int32} {l3 : Int32} {s0 : Int32} {m : mj_m} {m0 : mj_m} (C : mj_C κ cX11_hears 8 RX11) (hB : mj_isM (mj_g κ) β) (hR : mj_dp κ 5) (hT : mj_rt κ = none) (h : f_X11_hears_J23 l1 l2 l3 s0 m = some m0) : mj_R κ (mj_F κ (fun r M' => r = none ∧ M' = (va_up M β m0) ∧ mj_bb none none)) 23 [some (mj_r (β, 0)), some (.inl l1), some (.inl l2), some (.inl l3), none, none, none, none] [.inl s0] (va_up M β m) := by
  unfold f_X11_hears_J23 at h
  refine mj_istore (L2 := [some (mj_r (β, 0)), some (.inl l1), some (.inl l2), some (.inl l3), some (.inl s0), none, none, none]) C dX11_hears_23 (Nat.le_of_ble_eq_true rfl) rfl ?_
  refine mj_aload_n C dX11_hears_25 rfl ?_
  obtain ⟨r41, er41, h⟩ := mj_let_o h
  refine mj_callV1 (av := []) C lM_X11_87 lV_X11_machine (sM0 hB) ⟨_, rfl, rfl⟩ rfl (C_X11_machine hB er41) (mj_rmok hR (by decide) (by decide)) rfl (Nat.le_of_ble_eq_true rfl) dX11_hears_26 (fun hb42 => ?_)
  refine mj_iconst (v := 5) C dX11_hears_29 (by decide) ?_
  refine mj_icmp_ne (tgt := 37) C dX11_hears_30 (by decide) (fun c43 => ?_) (fun c43 => ?_)
  · replace h := mj_if_f c43 h
    refine mj_iconst (v := 0) C dX11_hears_37 (by decide) ?_
    refine mj_sub (L' := [some (mj_r (β, 0)), some (.inl l1), some (.inl l2), some (.inl l3), some (.inl s0), none, none, none]) ⟨rfl, ⟨rfl, ⟨rfl, ⟨rfl, ⟨rfl, trivial⟩⟩⟩⟩⟩ ?_
    exact C_X11_hears_J38 C hB hR hT h
  · replace h := mj_if_t c43 h
    refine mj_iconst (v := 1) C dX11_hears_33 (by decide) ?_
    refine mj_goto (tgt := 38) C dX11_hears_34 (by decide) ?_
    refine mj_sub (L' := [some (mj_r (β, 0)), some (.inl l1), some (.inl l2), some (.inl l3), some (.inl s0), none, none, none]) ⟨rfl, ⟨rfl, ⟨rfl, ⟨rfl, ⟨rfl, trivial⟩⟩⟩⟩⟩ ?_
    exact C_X11_hears_J38 C hB hR hT h
def f_X11_hears_J11 (l1 : Int32) (l2 : Int32) (s0 : Int32) (m : mj_m) : Option (mj_m) := if l1 &&& 4 ≤ 0 then (f_X11_hears_J23 l1 l2 s0 0 m) else (f_X11_hears_J23 l1 l2 s0 1 m)
set_option maxHeartbeats 4000000 in
set_option maxRecDepth 20000 in
theorem C_X11_hears_J11 {κ : mj_K} {β : Nat} {M : mj_M} {l1 : Int32} {l2 : Int32} {s0 : Int32} {m : mj_m} {m0 : mj_m} (C : mj_C κ cX11_hears 8 RX11) (hB : mj_isM (mj_g κ) β) (hR : mj_dp κ 5) (hT : mj_rt κ = none) (h : f_X11_hears_J11 l1 l2 s0 m = some m0) : mj_R κ (mj_F κ (fun r M' => r = none ∧ M' = (va_up M β m0) ∧ mj_bb none none)) 11 [some (mj_r (β, 0)), some (.inl l1), some (.inl l2), none, none, none, none, none] [.inl s0] (va_up M β m) := by
  unfold f_X11_hears_J11 at h
  refine mj_istore_n (L2 := [some (mj_r (β, 0)), some (.inl l1), some (.inl l2), some (.inl s0), none, none, none, none]) C dX11_hears_11 (Nat.le_of_ble_eq_true rfl) rfl ?_
  refine mj_iload_n C dX11_hears_12 rfl ?_
  refine mj_iconst (v := 4) C dX11_hears_13 (by decide) ?_
  refine mj_iand C dX11_hears_14 ?_
  refine mj_if_le (tgt := 22) C dX11_hears_15 (by decide) (fun c44 => ?_) (fun c44 => ?_)
  · replace h := mj_if_t c44 h
    refine mj_iconst (v := 0) C dX11_hears_22 (by decide) ?_
    refine mj_sub (L' := [some (mj_r (β, 0)), some (.inl l1), some (.inl l2), some (.inl s0), none, none, none, none]) ⟨rfl, ⟨rfl, ⟨rfl, ⟨rfl, trivial⟩⟩⟩⟩ ?_
    exact C_X11_hears_J23 C hB hR hT h
  · replace h := mj_if_f c44 h
    refine mj_iconst (v := 1) C dX11_hears_18 (by decide) ?_
    refine mj_goto (tgt := 23) C dX11_hears_19 (by decide) ?_
    refine mj_sub (L' := [some (mj_r (β, 0)), some (.inl l1), some (.inl l2), some (.inl s0), none, none, none, none]) ⟨rfl, ⟨rfl, ⟨rfl, ⟨rfl, trivial⟩⟩⟩⟩ ?_
    exact C_X11_hears_J23 C hB hR hT h
def f_X11_hears (a1 : Int32) (a2 : Int32) (m : mj_m) : Option (mj_m) := if a1 &&& 2 ≤ 0 then (f_X11_hears_J11 a1 a2 0 m) else (f_X11_hears_J11 a1 a2 1 m)
set_option maxHeartbeats 4000000 in
set_option maxRecDepth 20000 in
theorem C_X11_hears {G : mj_G} {β : Nat} {M : mj_M} {a1 : Int32} {a2 : Int32} {m : mj_m} {m0 : mj_m} (hB : mj_isM G β) (h : f_X11_hears a1 a2 m = some m0) : mj_S1 yX11_hears cX11_hears 8 none 5 G [mj_r (β, 0), .inl a1, .inl a2] (va_up M β m) none (va_up M β m0) := by
  refine mj_intro (by decide) (Nat.le_of_ble_eq_true rfl) ?_
  intro κ C hG hR hT
  subst hG
  have C : mj_C κ cX11_hears 8 RX11 := C
  show mj_R κ (mj_F κ (fun r M' => r = none ∧ M' = (va_up M β m0) ∧ mj_bb none none)) 0 [some (mj_r (β, 0)), some (.inl a1), some (.inl a2), none, none, none, none, none] [] (va_up M β m)
  unfold f_X11_hears at h
  refine mj_iload_n C dX11_hears_0 rfl ?_
  refine mj_iconst (v := 2) C dX11_hears_1 (by decide) ?_
  refine mj_iand C dX11_hears_2 ?_
  refine mj_if_le (tgt := 10) C dX11_hears_3 (by decide) (fun c45 => ?_) (fun c45 => ?_)
  · replace h := mj_if_t c45 h
    refine mj_iconst (v := 0) C dX11_hears_10 (by decide) ?_
    refine mj_sub (L' := [some (mj_r (β, 0)), some (.inl a1), some (.inl a2), none, none, none, none, none]) ⟨rfl, ⟨rfl, ⟨rfl, trivial⟩⟩⟩ ?_
    exact C_X11_hears_J11 C hB hR hT h
  · replace h := mj_if_f c45 h
    refine mj_iconst (v := 1) C dX11_hears_6 (by decide) ?_
    refine mj_goto (tgt := 11) C dX11_hears_7 (by decide) ?_
    refine mj_sub (L' := [some (mj_r (β, 0)), some (.inl a1), some (.inl a2), none, none, none, none, none]) ⟨rfl, ⟨rfl, ⟨rfl, trivial⟩⟩⟩ ?_
    exact C_X11_hears_J11 C hB hR hT h
def f_X11_comesReport_J61 (l1 : Int32) (s0 : Int32) (s1 : Int32) (m : mj_m) : Option (mj_m) := mj_chk (mj_ok s1 1897) (mj_let (mj_wrs m 1 (mj_cl s1) s0) (fun m2 => if l1 = 0 then (some m2) else (mj_let (mj_wrs m2 1 46 (m2 3 0)) (fun m4 => mj_let (mj_wrs m4 1 47 (m4 3 1)) (fun m5 => mj_b1 (f_X11_more 39 m5) (fun m6 => mj_let (f_X11_machine m6) (fun r8 => if r8 = 6 then (some m6) else (mj_b1 (f_X11_hears (m6 3 0) (m6 3 1) m6) (fun m11 => some m11)))))))))
set_option maxHeartbeats 4000000 in
set_option maxRecDepth 20000 in
theorem C_X11_comesReport_J61 {κ : mj_K} {β : Nat} {M : mj_M} {l1 : Int32} {s0 : Int32} {s1 : Int32} {m : mj_m} {m0 : mj_m} (C : mj_C κ cX11_comesReport 2 RX11) (hB : mj_isM (mj_g κ) β) (hR : mj_dp κ 6) (hT : mj_rt κ = none) (h : f_X11_comesReport_J61 l1 s0 s1 m = some m0) : mj_R κ (mj_F κ (fun r M' => r = none ∧ M' = (va_up M β m0) ∧ mj_bb none none)) 61 [some (mj_r (β, 0)), some (.inl l1)] [.inl s0, .inl s1, mj_r (β, 1)] (va_up M β m) := by
  unfold f_X11_comesReport_J61 at h
  obtain ⟨k1, h⟩ := mj_chk_o h
  obtain ⟨m2, hm2, h⟩ := mj_let_o h
  refine mj_bast C (sM1 hB) k1 rfl dX11_comesReport_61 hm2 ?_
  refine mj_iload_n C dX11_comesReport_62 rfl ?_
  refine mj_if_ne (tgt := 67) C dX11_comesReport_63 (by decide) (fun c3 => ?_) (fun c3 => ?_)
  · replace h := mj_if_f c3 h
    refine mj_aload_n C dX11_comesReport_67 rfl ?_
    refine mj_getr (r := (β, 1)) C lF_X11_7 (sM0 hB) rfl dX11_comesReport_68 ?_
    refine mj_bipush (v := 46) C dX11_comesReport_71 (by decide) ?_
    refine mj_aload_n C dX11_comesReport_73 rfl ?_
    refine mj_getr (r := (β, 3)) C lF_X11_16 (sM0 hB) rfl dX11_comesReport_74 ?_
    refine mj_iconst (v := 0) C dX11_comesReport_77 (by decide) ?_
    refine mj_bald C (sM3 hB) (mj_okn 0 5 (Nat.le_of_ble_eq_true rfl) (Nat.le_of_ble_eq_true rfl)) (mj_cln 0 (Nat.le_of_ble_eq_true rfl)) dX11_comesReport_78 ?_
    obtain ⟨m4, hm4, h⟩ := mj_let_o h
    refine mj_bast C (sM1 hB) (mj_okn 46 1897 (Nat.le_of_ble_eq_true rfl) (Nat.le_of_ble_eq_true rfl)) (mj_cln 46 (Nat.le_of_ble_eq_true rfl)) dX11_comesReport_79 hm4 ?_
    refine mj_aload_n C dX11_comesReport_80 rfl ?_
    refine mj_getr (r := (β, 1)) C lF_X11_7 (sM0 hB) rfl dX11_comesReport_81 ?_
    refine mj_bipush (v := 47) C dX11_comesReport_84 (by decide) ?_
    refine mj_aload_n C dX11_comesReport_86 rfl ?_
    refine mj_getr (r := (β, 3)) C lF_X11_16 (sM0 hB) rfl dX11_comesReport_87 ?_
    refine mj_iconst (v := 1) C dX11_comesReport_90 (by decide) ?_
    refine mj_bald C (sM3 hB) (mj_okn 1 5 (Nat.le_of_ble_eq_true rfl) (Nat.le_of_ble_eq_true rfl)) (mj_cln 1 (Nat.le_of_ble_eq_true rfl)) dX11_comesReport_91 ?_
    obtain ⟨m5, hm5, h⟩ := mj_let_o h
    refine mj_bast C (sM1 hB) (mj_okn 47 1897 (Nat.le_of_ble_eq_true rfl) (Nat.le_of_ble_eq_true rfl)) (mj_cln 47 (Nat.le_of_ble_eq_true rfl)) dX11_comesReport_92 hm5 ?_
    refine mj_aload_n C dX11_comesReport_93 rfl ?_
    refine mj_bipush (v := 39) C dX11_comesReport_94 (by decide) ?_
    obtain ⟨m6, em6, h⟩ := mj_b1_o h
    refine mj_callV0 (av := [.inl 39]) C lM_X11_58 lV_X11_more (sM0 hB) ⟨_, rfl, rfl⟩ rfl (C_X11_more hB em6) (mj_rmok hR (by decide) (by decide)) rfl (Nat.le_of_ble_eq_true rfl) dX11_comesReport_96 ?_
    refine mj_aload_n C dX11_comesReport_99 rfl ?_
    obtain ⟨r8, er8, h⟩ := mj_let_o h
    refine mj_callV1 (av := []) C lM_X11_87 lV_X11_machine (sM0 hB) ⟨_, rfl, rfl⟩ rfl (C_X11_machine hB er8) (mj_rmok hR (by decide) (by decide)) rfl (Nat.le_of_ble_eq_true rfl) dX11_comesReport_100 (fun hb9 => ?_)
    refine mj_bipush (v := 6) C dX11_comesReport_103 (by decide) ?_
    refine mj_icmp_eq (tgt := 124) C dX11_comesReport_105 (by decide) (fun c10 => ?_) (fun c10 => ?_)
    · replace h := mj_if_t c10 h
      cases h
      exact mj_vret C hT dX11_comesReport_124 ⟨rfl, rfl, mj_bv _⟩
    · replace h := mj_if_f c10 h
      refine mj_aload_n C dX11_comesReport_108 rfl ?_
      refine mj_aload_n C dX11_comesReport_109 rfl ?_
      refine mj_getr (r := (β, 3)) C lF_X11_16 (sM0 hB) rfl dX11_comesReport_110 ?_
      refine mj_iconst (v := 0) C dX11_comesReport_113 (by decide) ?_
      refine mj_bald C (sM3 hB) (mj_okn 0 5 (Nat.le_of_ble_eq_true rfl) (Nat.le_of_ble_eq_true rfl)) (mj_cln 0 (Nat.le_of_ble_eq_true rfl)) dX11_comesReport_114 ?_
      refine mj_aload_n C dX11_comesReport_115 rfl ?_
      refine mj_getr (r := (β, 3)) C lF_X11_16 (sM0 hB) rfl dX11_comesReport_116 ?_
      refine mj_iconst (v := 1) C dX11_comesReport_119 (by decide) ?_
      refine mj_bald C (sM3 hB) (mj_okn 1 5 (Nat.le_of_ble_eq_true rfl) (Nat.le_of_ble_eq_true rfl)) (mj_cln 1 (Nat.le_of_ble_eq_true rfl)) dX11_comesReport_120 ?_
      obtain ⟨m11, em11, h⟩ := mj_b1_o h
      refine mj_callV0 (av := [.inl (m6 3 0), .inl (m6 3 1)]) C lM_X11_224 lV_X11_hears (sM0 hB) ⟨_, rfl, rfl⟩ rfl (C_X11_hears hB em11) (mj_rmok hR (by decide) (by decide)) rfl (Nat.le_of_ble_eq_true rfl) dX11_comesReport_121 ?_
      cases h
      exact mj_vret C hT dX11_comesReport_124 ⟨rfl, rfl, mj_bv _⟩
  · replace h := mj_if_t c3 h
    cases h
    exact mj_vret C hT dX11_comesReport_66 ⟨rfl, rfl, mj_bv _⟩
def f_X11_comesReport_J45 (s0 : Int32) (m : mj_m) : Option (mj_m) := if s0 = 0 then (f_X11_comesReport_J61 s0 1 45 m) else (f_X11_comesReport_J61 s0 2 45 m)
set_option maxHeartbeats 4000000 in
set_option maxRecDepth 20000 in
theorem C_X11_comesReport_J45 {κ : mj_K} {β : Nat} {M : mj_M} {s0 : Int32} {m : mj_m} {m0 : mj_m} (C : mj_C κ cX11_comesReport 2 RX11) (hB : mj_isM (mj_g κ) β) (hR : mj_dp κ 6) (hT : mj_rt κ = none) (h : f_X11_comesReport_J45 s0 m = some m0) : mj_R κ (mj_F κ (fun r M' => r = none ∧ M' = (va_up M β m0) ∧ mj_bb none none)) 45 [some (mj_r (β, 0)), none] [.inl s0] (va_up M β m) := by
  unfold f_X11_comesReport_J45 at h
  refine mj_istore_n (L2 := [some (mj_r (β, 0)), some (.inl s0)]) C dX11_comesReport_45 (Nat.le_of_ble_eq_true rfl) rfl ?_
  refine mj_aload_n C dX11_comesReport_46 rfl ?_
  refine mj_getr (r := (β, 1)) C lF_X11_7 (sM0 hB) rfl dX11_comesReport_47 ?_
  refine mj_bipush (v := 45) C dX11_comesReport_50 (by decide) ?_
  refine mj_iload_n C dX11_comesReport_52 rfl ?_
  refine mj_if_eq (tgt := 60) C dX11_comesReport_53 (by decide) (fun c13 => ?_) (fun c13 => ?_)
  · replace h := mj_if_t c13 h
    refine mj_iconst (v := 1) C dX11_comesReport_60 (by decide) ?_
    refine mj_sub (L' := [some (mj_r (β, 0)), some (.inl s0)]) ⟨rfl, ⟨rfl, trivial⟩⟩ ?_
    exact C_X11_comesReport_J61 C hB hR hT h
  · replace h := mj_if_f c13 h
    refine mj_iconst (v := 2) C dX11_comesReport_56 (by decide) ?_
    refine mj_goto (tgt := 61) C dX11_comesReport_57 (by decide) ?_
    refine mj_sub (L' := [some (mj_r (β, 0)), some (.inl s0)]) ⟨rfl, ⟨rfl, trivial⟩⟩ ?_
    exact C_X11_comesReport_J61 C hB hR hT h
def f_X11_comesReport_J44 (m : mj_m) : Option (mj_m) := f_X11_comesReport_J45 0 m
set_option maxHeartbeats 4000000 in
set_option maxRecDepth 20000 in
theorem C_X11_comesReport_J44 {κ : mj_K} {β : Nat} {M : mj_M} {m : mj_m} {m0 : mj_m} (C : mj_C κ cX11_comesReport 2 RX11) (hB : mj_isM (mj_g κ) β) (hR : mj_dp κ 6) (hT : mj_rt κ = none) (h : f_X11_comesReport_J44 m = some m0) : mj_R κ (mj_F κ (fun r M' => r = none ∧ M' = (va_up M β m0) ∧ mj_bb none none)) 44 [some (mj_r (β, 0)), none] [] (va_up M β m) := by
  unfold f_X11_comesReport_J44 at h
  refine mj_iconst (v := 0) C dX11_comesReport_44 (by decide) ?_
  refine mj_sub (L' := [some (mj_r (β, 0)), none]) ⟨rfl, trivial⟩ ?_
  exact C_X11_comesReport_J45 C hB hR hT h
def f_X11_comesReport (m : mj_m) : Option (mj_m) := if 32 ≤ m 3 0 then (f_X11_comesReport_J44 m) else (mj_let (f_X11_round (((m 3 0) + (m 3 1)) + 85)) (fun r15 => if m 3 2 = r15 then (f_X11_comesReport_J45 1 m) else (f_X11_comesReport_J44 m)))
set_option maxHeartbeats 4000000 in
set_option maxRecDepth 20000 in
theorem C_X11_comesReport {G : mj_G} {β : Nat} {M : mj_M} {m : mj_m} {m0 : mj_m} (hB : mj_isM G β) (h : f_X11_comesReport m = some m0) : mj_S1 yX11_comesReport cX11_comesReport 2 none 6 G [mj_r (β, 0)] (va_up M β m) none (va_up M β m0) := by
  refine mj_intro (by decide) (Nat.le_of_ble_eq_true rfl) ?_
  intro κ C hG hR hT
  subst hG
  have C : mj_C κ cX11_comesReport 2 RX11 := C
  show mj_R κ (mj_F κ (fun r M' => r = none ∧ M' = (va_up M β m0) ∧ mj_bb none none)) 0 [some (mj_r (β, 0)), none] [] (va_up M β m)
  unfold f_X11_comesReport at h
  refine mj_aload_n C dX11_comesReport_0 rfl ?_
  refine mj_getr (r := (β, 3)) C lF_X11_16 (sM0 hB) rfl dX11_comesReport_1 ?_
  refine mj_iconst (v := 0) C dX11_comesReport_4 (by decide) ?_
  refine mj_bald C (sM3 hB) (mj_okn 0 5 (Nat.le_of_ble_eq_true rfl) (Nat.le_of_ble_eq_true rfl)) (mj_cln 0 (Nat.le_of_ble_eq_true rfl)) dX11_comesReport_5 ?_
  refine mj_bipush (v := 32) C dX11_comesReport_6 (by decide) ?_
  refine mj_icmp_ge (tgt := 44) C dX11_comesReport_8 (by decide) (fun c14 => ?_) (fun c14 => ?_)
  · replace h := mj_if_t c14 h
    refine mj_sub (L' := [some (mj_r (β, 0)), none]) ⟨rfl, trivial⟩ ?_
    exact C_X11_comesReport_J44 C hB hR hT h
  · replace h := mj_if_f c14 h
    refine mj_aload_n C dX11_comesReport_11 rfl ?_
    refine mj_getr (r := (β, 3)) C lF_X11_16 (sM0 hB) rfl dX11_comesReport_12 ?_
    refine mj_iconst (v := 2) C dX11_comesReport_15 (by decide) ?_
    refine mj_bald C (sM3 hB) (mj_okn 2 5 (Nat.le_of_ble_eq_true rfl) (Nat.le_of_ble_eq_true rfl)) (mj_cln 2 (Nat.le_of_ble_eq_true rfl)) dX11_comesReport_16 ?_
    refine mj_aload_n C dX11_comesReport_17 rfl ?_
    refine mj_aload_n C dX11_comesReport_18 rfl ?_
    refine mj_getr (r := (β, 3)) C lF_X11_16 (sM0 hB) rfl dX11_comesReport_19 ?_
    refine mj_iconst (v := 0) C dX11_comesReport_22 (by decide) ?_
    refine mj_bald C (sM3 hB) (mj_okn 0 5 (Nat.le_of_ble_eq_true rfl) (Nat.le_of_ble_eq_true rfl)) (mj_cln 0 (Nat.le_of_ble_eq_true rfl)) dX11_comesReport_23 ?_
    refine mj_aload_n C dX11_comesReport_24 rfl ?_
    refine mj_getr (r := (β, 3)) C lF_X11_16 (sM0 hB) rfl dX11_comesReport_25 ?_
    refine mj_iconst (v := 1) C dX11_comesReport_28 (by decide) ?_
    refine mj_bald C (sM3 hB) (mj_okn 1 5 (Nat.le_of_ble_eq_true rfl) (Nat.le_of_ble_eq_true rfl)) (mj_cln 1 (Nat.le_of_ble_eq_true rfl)) dX11_comesReport_29 ?_
    refine mj_iadd C dX11_comesReport_30 ?_
    refine mj_bipush (v := 85) C dX11_comesReport_31 (by decide) ?_
    refine mj_iadd C dX11_comesReport_33 ?_
    obtain ⟨r15, er15, h⟩ := mj_let_o h
    refine mj_callV1 (av := [.inl (((m 3 0) + (m 3 1)) + 85)]) C lM_X11_155 lV_X11_round (sM0 hB) ⟨_, rfl, rfl⟩ rfl (C_X11_round hB er15) (mj_rmok hR (by decide) (by decide)) rfl (Nat.le_of_ble_eq_true rfl) dX11_comesReport_34 (fun hb16 => ?_)
    refine mj_icmp_ne (tgt := 44) C dX11_comesReport_37 (by decide) (fun c17 => ?_) (fun c17 => ?_)
    · replace h := mj_if_f c17 h
      refine mj_sub (L' := [some (mj_r (β, 0)), none]) ⟨rfl, trivial⟩ ?_
      exact C_X11_comesReport_J44 C hB hR hT h
    · replace h := mj_if_t c17 h
      refine mj_iconst (v := 1) C dX11_comesReport_40 (by decide) ?_
      refine mj_goto (tgt := 45) C dX11_comesReport_41 (by decide) ?_
      refine mj_sub (L' := [some (mj_r (β, 0)), none]) ⟨rfl, trivial⟩ ?_
      exact C_X11_comesReport_J45 C hB hR hT h
def f_X11_runsOut_J25 (l1 : Int32) (s0 : Int32) (m : mj_m) : Option (mj_m) := if l1 = 4 then (mj_b1 (f_X11_givesUp m) (fun m2 => some m2)) else (if s0 = 0 then (if l1 = 3 then (mj_b1 (f_X11_settingOf 4 m) (fun r8 => mj_let (mj_wrs m 1 31 r8) (fun m10 => some m10))) else (mj_b1 (f_X11_marks m) (fun m6 => some m6))) else (mj_b1 (f_X11_givesUp m) (fun m11 => some m11)))
set_option maxHeartbeats 4000000 in
set_option maxRecDepth 20000 in
theorem C_X11_runsOut_J25 {κ : mj_K} {β : Nat} {M : mj_M} {l1 : Int32} {s0 : Int32} {m : mj_m} {m0 : mj_m} (C : mj_C κ cX11_runsOut 3 RX11) (hB : mj_isM (mj_g κ) β) (hR : mj_dp κ 5) (hT : mj_rt κ = none) (h : f_X11_runsOut_J25 l1 s0 m = some m0) : mj_R κ (mj_F κ (fun r M' => r = none ∧ M' = (va_up M β m0) ∧ mj_bb none none)) 25 [some (mj_r (β, 0)), some (.inl l1), none] [.inl s0] (va_up M β m) := by
  unfold f_X11_runsOut_J25 at h
  refine mj_istore_n (L2 := [some (mj_r (β, 0)), some (.inl l1), some (.inl s0)]) C dX11_runsOut_25 (Nat.le_of_ble_eq_true rfl) rfl ?_
  refine mj_iload_n C dX11_runsOut_26 rfl ?_
  refine mj_iconst (v := 4) C dX11_runsOut_27 (by decide) ?_
  refine mj_icmp_eq (tgt := 35) C dX11_runsOut_28 (by decide) (fun c1 => ?_) (fun c1 => ?_)
  · replace h := mj_if_t c1 h
    refine mj_aload_n C dX11_runsOut_35 rfl ?_
    obtain ⟨m2, em2, h⟩ := mj_b1_o h
    refine mj_callV0 (av := []) C lM_X11_227 lV_X11_givesUp (sM0 hB) ⟨_, rfl, rfl⟩ rfl (C_X11_givesUp hB em2) (mj_rmok hR (by decide) (by decide)) rfl (Nat.le_of_ble_eq_true rfl) dX11_runsOut_36 ?_
    refine mj_goto (tgt := 66) C dX11_runsOut_39 (by decide) ?_
    cases h
    exact mj_vret C hT dX11_runsOut_66 ⟨rfl, rfl, mj_bv _⟩
  · replace h := mj_if_f c1 h
    refine mj_iload_n C dX11_runsOut_31 rfl ?_
    refine mj_if_eq (tgt := 42) C dX11_runsOut_32 (by decide) (fun c4 => ?_) (fun c4 => ?_)
    · replace h := mj_if_t c4 h
      refine mj_iload_n C dX11_runsOut_42 rfl ?_
      refine mj_iconst (v := 3) C dX11_runsOut_43 (by decide) ?_
      refine mj_icmp_ne (tgt := 62) C dX11_runsOut_44 (by decide) (fun c5 => ?_) (fun c5 => ?_)
      · replace h := mj_if_f c5 h
        refine mj_aload_n C dX11_runsOut_62 rfl ?_
        obtain ⟨m6, em6, h⟩ := mj_b1_o h
        refine mj_callV0 (av := []) C lM_X11_119 lV_X11_marks (sM0 hB) ⟨_, rfl, rfl⟩ rfl (C_X11_marks hB em6) (mj_rmok hR (by decide) (by decide)) rfl (Nat.le_of_ble_eq_true rfl) dX11_runsOut_63 ?_
        cases h
        exact mj_vret C hT dX11_runsOut_66 ⟨rfl, rfl, mj_bv _⟩
      · replace h := mj_if_t c5 h
        refine mj_aload_n C dX11_runsOut_47 rfl ?_
        refine mj_getr (r := (β, 1)) C lF_X11_7 (sM0 hB) rfl dX11_runsOut_48 ?_
        refine mj_bipush (v := 31) C dX11_runsOut_51 (by decide) ?_
        refine mj_aload_n C dX11_runsOut_53 rfl ?_
        refine mj_iconst (v := 4) C dX11_runsOut_54 (by decide) ?_
        obtain ⟨r8, er8, h⟩ := mj_b1_o h
        refine mj_callV1 (av := [.inl 4]) C lM_X11_102 lV_X11_settingOf (sM0 hB) ⟨_, rfl, rfl⟩ rfl (C_X11_settingOf hB er8) (mj_rmok hR (by decide) (by decide)) rfl (Nat.le_of_ble_eq_true rfl) dX11_runsOut_55 (fun hb9 => ?_)
        obtain ⟨m10, hm10, h⟩ := mj_let_o h
        refine mj_bast C (sM1 hB) (mj_okn 31 1897 (Nat.le_of_ble_eq_true rfl) (Nat.le_of_ble_eq_true rfl)) (mj_cln 31 (Nat.le_of_ble_eq_true rfl)) dX11_runsOut_58 hm10 ?_
        refine mj_goto (tgt := 66) C dX11_runsOut_59 (by decide) ?_
        cases h
        exact mj_vret C hT dX11_runsOut_66 ⟨rfl, rfl, mj_bv _⟩
    · replace h := mj_if_f c4 h
      refine mj_aload_n C dX11_runsOut_35 rfl ?_
      obtain ⟨m11, em11, h⟩ := mj_b1_o h
      refine mj_callV0 (av := []) C lM_X11_227 lV_X11_givesUp (sM0 hB) ⟨_, rfl, rfl⟩ rfl (C_X11_givesUp hB em11) (mj_rmok hR (by decide) (by decide)) rfl (Nat.le_of_ble_eq_true rfl) dX11_runsOut_36 ?_
      refine mj_goto (tgt := 66) C dX11_runsOut_39 (by decide) ?_
      cases h
      exact mj_vret C hT dX11_runsOut_66 ⟨rfl, rfl, mj_bv _⟩
def f_X11_runsOut (m : mj_m) : Option (mj_m) := mj_let (f_X11_machine m) (fun r13 => mj_b1 (f_X11_settingOf 3 m) (fun r15 => if m 1 30 < r15 then (f_X11_runsOut_J25 r13 0 m) else (f_X11_runsOut_J25 r13 1 m)))
set_option maxHeartbeats 4000000 in
set_option maxRecDepth 20000 in
theorem C_X11_runsOut {G : mj_G} {β : Nat} {M : mj_M} {m : mj_m} {m0 : mj_m} (hB : mj_isM G β) (h : f_X11_runsOut m = some m0) : mj_S1 yX11_runsOut cX11_runsOut 3 none 5 G [mj_r (β, 0)] (va_up M β m) none (va_up M β m0) := by
  refine mj_intro (by decide) (Nat.le_of_ble_eq_true rfl) ?_
  intro κ C hG hR hT
  subst hG
  have C : mj_C κ cX11_runsOut 3 RX11 := C
  show mj_R κ (mj_F κ (fun r M' => r = none ∧ M' = (va_up M β m0) ∧ mj_bb none none)) 0 [some (mj_r (β, 0)), none, none] [] (va_up M β m)
  unfold f_X11_runsOut at h
  refine mj_aload_n C dX11_runsOut_0 rfl ?_
  obtain ⟨r13, er13, h⟩ := mj_let_o h
  refine mj_callV1 (av := []) C lM_X11_87 lV_X11_machine (sM0 hB) ⟨_, rfl, rfl⟩ rfl (C_X11_machine hB er13) (mj_rmok hR (by decide) (by decide)) rfl (Nat.le_of_ble_eq_true rfl) dX11_runsOut_1 (fun hb14 => ?_)
  refine mj_istore_n (L2 := [some (mj_r (β, 0)), some (.inl r13), none]) C dX11_runsOut_4 (Nat.le_of_ble_eq_true rfl) rfl ?_
  refine mj_aload_n C dX11_runsOut_5 rfl ?_
  refine mj_getr (r := (β, 1)) C lF_X11_7 (sM0 hB) rfl dX11_runsOut_6 ?_
  refine mj_bipush (v := 30) C dX11_runsOut_9 (by decide) ?_
  refine mj_bald C (sM1 hB) (mj_okn 30 1897 (Nat.le_of_ble_eq_true rfl) (Nat.le_of_ble_eq_true rfl)) (mj_cln 30 (Nat.le_of_ble_eq_true rfl)) dX11_runsOut_11 ?_
  refine mj_aload_n C dX11_runsOut_12 rfl ?_
  refine mj_iconst (v := 3) C dX11_runsOut_13 (by decide) ?_
  obtain ⟨r15, er15, h⟩ := mj_b1_o h
  refine mj_callV1 (av := [.inl 3]) C lM_X11_102 lV_X11_settingOf (sM0 hB) ⟨_, rfl, rfl⟩ rfl (C_X11_settingOf hB er15) (mj_rmok hR (by decide) (by decide)) rfl (Nat.le_of_ble_eq_true rfl) dX11_runsOut_14 (fun hb16 => ?_)
  refine mj_icmp_lt (tgt := 24) C dX11_runsOut_17 (by decide) (fun c17 => ?_) (fun c17 => ?_)
  · replace h := mj_if_t c17 h
    refine mj_iconst (v := 0) C dX11_runsOut_24 (by decide) ?_
    refine mj_sub (L' := [some (mj_r (β, 0)), some (.inl r13), none]) ⟨rfl, ⟨rfl, trivial⟩⟩ ?_
    exact C_X11_runsOut_J25 C hB hR hT h
  · replace h := mj_if_f c17 h
    refine mj_iconst (v := 1) C dX11_runsOut_20 (by decide) ?_
    refine mj_goto (tgt := 25) C dX11_runsOut_21 (by decide) ?_
    refine mj_sub (L' := [some (mj_r (β, 0)), some (.inl r13), none]) ⟨rfl, ⟨rfl, trivial⟩⟩ ?_
    exact C_X11_runsOut_J25 C hB hR hT h
def f_X11_goesDirective (m : mj_m) : Option (mj_m) := mj_let (mj_wrs m 1 28 0) (fun m1 => mj_b1 (f_X11_goesFrame 2 0 ((m1 1 26) - 1) (m1 1 27) (-1) m1) (fun m2 => some m2))
set_option maxHeartbeats 4000000 in
set_option maxRecDepth 20000 in
theorem C_X11_goesDirective {G : mj_G} {β : Nat} {M : mj_M} {m : mj_m} {m0 : mj_m} (hB : mj_isM G β) (h : f_X11_goesDirective m = some m0) : mj_S1 yX11_goesDirective cX11_goesDirective 1 none 5 G [mj_r (β, 0)] (va_up M β m) none (va_up M β m0) := by
  refine mj_intro (by decide) (Nat.le_of_ble_eq_true rfl) ?_
  intro κ C hG hR hT
  subst hG
  have C : mj_C κ cX11_goesDirective 1 RX11 := C
  show mj_R κ (mj_F κ (fun r M' => r = none ∧ M' = (va_up M β m0) ∧ mj_bb none none)) 0 [some (mj_r (β, 0))] [] (va_up M β m)
  unfold f_X11_goesDirective at h
  refine mj_aload_n C dX11_goesDirective_0 rfl ?_
  refine mj_getr (r := (β, 1)) C lF_X11_7 (sM0 hB) rfl dX11_goesDirective_1 ?_
  refine mj_bipush (v := 28) C dX11_goesDirective_4 (by decide) ?_
  refine mj_iconst (v := 0) C dX11_goesDirective_6 (by decide) ?_
  obtain ⟨m1, hm1, h⟩ := mj_let_o h
  refine mj_bast C (sM1 hB) (mj_okn 28 1897 (Nat.le_of_ble_eq_true rfl) (Nat.le_of_ble_eq_true rfl)) (mj_cln 28 (Nat.le_of_ble_eq_true rfl)) dX11_goesDirective_7 hm1 ?_
  refine mj_aload_n C dX11_goesDirective_8 rfl ?_
  refine mj_iconst (v := 2) C dX11_goesDirective_9 (by decide) ?_
  refine mj_iconst (v := 0) C dX11_goesDirective_10 (by decide) ?_
  refine mj_aload_n C dX11_goesDirective_11 rfl ?_
  refine mj_getr (r := (β, 1)) C lF_X11_7 (sM0 hB) rfl dX11_goesDirective_12 ?_
  refine mj_bipush (v := 26) C dX11_goesDirective_15 (by decide) ?_
  refine mj_bald C (sM1 hB) (mj_okn 26 1897 (Nat.le_of_ble_eq_true rfl) (Nat.le_of_ble_eq_true rfl)) (mj_cln 26 (Nat.le_of_ble_eq_true rfl)) dX11_goesDirective_17 ?_
  refine mj_iconst (v := 1) C dX11_goesDirective_18 (by decide) ?_
  refine mj_isub C dX11_goesDirective_19 ?_
  refine mj_aload_n C dX11_goesDirective_20 rfl ?_
  refine mj_getr (r := (β, 1)) C lF_X11_7 (sM0 hB) rfl dX11_goesDirective_21 ?_
  refine mj_bipush (v := 27) C dX11_goesDirective_24 (by decide) ?_
  refine mj_bald C (sM1 hB) (mj_okn 27 1897 (Nat.le_of_ble_eq_true rfl) (Nat.le_of_ble_eq_true rfl)) (mj_cln 27 (Nat.le_of_ble_eq_true rfl)) dX11_goesDirective_26 ?_
  refine mj_iconst (v := (-1)) C dX11_goesDirective_27 (by decide) ?_
  obtain ⟨m2, em2, h⟩ := mj_b1_o h
  refine mj_callV0 (av := [.inl 2, .inl 0, .inl ((m1 1 26) - 1), .inl (m1 1 27), .inl (-1)]) C lM_X11_230 lV_X11_goesFrame (sM0 hB) ⟨_, rfl, rfl⟩ rfl (C_X11_goesFrame hB em2) (mj_rmok hR (by decide) (by decide)) rfl (Nat.le_of_ble_eq_true rfl) dX11_goesDirective_28 ?_
  cases h
  exact mj_vret C hT dX11_goesDirective_31 ⟨rfl, rfl, mj_bv _⟩
def f_X11_goesSent (a1 : Int32) (m : mj_m) : Option (mj_m) := mj_chk (mj_ok (86 + a1) 1897) (mj_let (mj_wrs m 1 (mj_cl (86 + a1)) 0) (fun m2 => mj_let (f_X11_firstSent m2) (fun r3 => mj_b1 (f_X11_goesOf (r3 + a1) m2) (fun m5 => mj_let (f_X11_numberOf a1 m5) (fun r7 => mj_chk (mj_ok (66 + a1) 1897) (mj_chk (mj_ok (66 + a1) 1897) (mj_let (f_X11_firstSent m5) (fun r11 => mj_b1 (f_X11_goesFrame 0 r7 ((m5 1 (mj_cl (66 + a1))) / 256) (mj_rem (m5 1 (mj_cl (66 + a1))) 256) (r11 + a1) m5) (fun m13 => some m13)))))))))
set_option maxHeartbeats 4000000 in
set_option maxRecDepth 20000 in
theorem C_X11_goesSent {G : mj_G} {β : Nat} {M : mj_M} {a1 : Int32} {m : mj_m} {m0 : mj_m} (hB : mj_isM G β) (h : f_X11_goesSent a1 m = some m0) : mj_S1 yX11_goesSent cX11_goesSent 2 none 5 G [mj_r (β, 0), .inl a1] (va_up M β m) none (va_up M β m0) := by
  refine mj_intro (by decide) (Nat.le_of_ble_eq_true rfl) ?_
  intro κ C hG hR hT
  subst hG
  have C : mj_C κ cX11_goesSent 2 RX11 := C
  show mj_R κ (mj_F κ (fun r M' => r = none ∧ M' = (va_up M β m0) ∧ mj_bb none none)) 0 [some (mj_r (β, 0)), some (.inl a1)] [] (va_up M β m)
  unfold f_X11_goesSent at h
  refine mj_aload_n C dX11_goesSent_0 rfl ?_
  refine mj_getr (r := (β, 1)) C lF_X11_7 (sM0 hB) rfl dX11_goesSent_1 ?_
  refine mj_bipush (v := 86) C dX11_goesSent_4 (by decide) ?_
  refine mj_iload_n C dX11_goesSent_6 rfl ?_
  refine mj_iadd C dX11_goesSent_7 ?_
  refine mj_iconst (v := 0) C dX11_goesSent_8 (by decide) ?_
  obtain ⟨k1, h⟩ := mj_chk_o h
  obtain ⟨m2, hm2, h⟩ := mj_let_o h
  refine mj_bast C (sM1 hB) k1 rfl dX11_goesSent_9 hm2 ?_
  refine mj_aload_n C dX11_goesSent_10 rfl ?_
  refine mj_aload_n C dX11_goesSent_11 rfl ?_
  obtain ⟨r3, er3, h⟩ := mj_let_o h
  refine mj_callV1 (av := []) C lM_X11_65 lV_X11_firstSent (sM0 hB) ⟨_, rfl, rfl⟩ rfl (C_X11_firstSent hB er3) (mj_rmok hR (by decide) (by decide)) rfl (Nat.le_of_ble_eq_true rfl) dX11_goesSent_12 (fun hb4 => ?_)
  refine mj_iload_n C dX11_goesSent_15 rfl ?_
  refine mj_iadd C dX11_goesSent_16 ?_
  obtain ⟨m5, em5, h⟩ := mj_b1_o h
  refine mj_callV0 (av := [.inl (r3 + a1)]) C lM_X11_234 lV_X11_goesOf (sM0 hB) ⟨_, rfl, rfl⟩ rfl (C_X11_goesOf hB em5) (mj_rmok hR (by decide) (by decide)) rfl (Nat.le_of_ble_eq_true rfl) dX11_goesSent_17 ?_
  refine mj_aload_n C dX11_goesSent_20 rfl ?_
  refine mj_iconst (v := 0) C dX11_goesSent_21 (by decide) ?_
  refine mj_aload_n C dX11_goesSent_22 rfl ?_
  refine mj_iload_n C dX11_goesSent_23 rfl ?_
  obtain ⟨r7, er7, h⟩ := mj_let_o h
  refine mj_callV1 (av := [.inl a1]) C lM_X11_207 lV_X11_numberOf (sM0 hB) ⟨_, rfl, rfl⟩ rfl (C_X11_numberOf hB er7) (mj_rmok hR (by decide) (by decide)) rfl (Nat.le_of_ble_eq_true rfl) dX11_goesSent_24 (fun hb8 => ?_)
  refine mj_aload_n C dX11_goesSent_27 rfl ?_
  refine mj_getr (r := (β, 1)) C lF_X11_7 (sM0 hB) rfl dX11_goesSent_28 ?_
  refine mj_bipush (v := 66) C dX11_goesSent_31 (by decide) ?_
  refine mj_iload_n C dX11_goesSent_33 rfl ?_
  refine mj_iadd C dX11_goesSent_34 ?_
  obtain ⟨k9, h⟩ := mj_chk_o h
  refine mj_bald C (sM1 hB) k9 rfl dX11_goesSent_35 ?_
  refine mj_sipush (v := 256) C dX11_goesSent_36 (by decide) ?_
  refine mj_idiv C dX11_goesSent_39 (by decide) ?_
  refine mj_aload_n C dX11_goesSent_40 rfl ?_
  refine mj_getr (r := (β, 1)) C lF_X11_7 (sM0 hB) rfl dX11_goesSent_41 ?_
  refine mj_bipush (v := 66) C dX11_goesSent_44 (by decide) ?_
  refine mj_iload_n C dX11_goesSent_46 rfl ?_
  refine mj_iadd C dX11_goesSent_47 ?_
  obtain ⟨k10, h⟩ := mj_chk_o h
  refine mj_bald C (sM1 hB) k10 rfl dX11_goesSent_48 ?_
  refine mj_sipush (v := 256) C dX11_goesSent_49 (by decide) ?_
  refine mj_irem C dX11_goesSent_52 (by decide) ?_
  refine mj_aload_n C dX11_goesSent_53 rfl ?_
  obtain ⟨r11, er11, h⟩ := mj_let_o h
  refine mj_callV1 (av := []) C lM_X11_65 lV_X11_firstSent (sM0 hB) ⟨_, rfl, rfl⟩ rfl (C_X11_firstSent hB er11) (mj_rmok hR (by decide) (by decide)) rfl (Nat.le_of_ble_eq_true rfl) dX11_goesSent_54 (fun hb12 => ?_)
  refine mj_iload_n C dX11_goesSent_57 rfl ?_
  refine mj_iadd C dX11_goesSent_58 ?_
  obtain ⟨m13, em13, h⟩ := mj_b1_o h
  refine mj_callV0 (av := [.inl 0, .inl r7, .inl ((m5 1 (mj_cl (66 + a1))) / 256), .inl (mj_rem (m5 1 (mj_cl (66 + a1))) 256), .inl (r11 + a1)]) C lM_X11_230 lV_X11_goesFrame (sM0 hB) ⟨_, rfl, rfl⟩ rfl (C_X11_goesFrame hB em13) (mj_rmok hR (by decide) (by decide)) rfl (Nat.le_of_ble_eq_true rfl) dX11_goesSent_59 ?_
  cases h
  exact mj_vret C hT dX11_goesSent_62 ⟨rfl, rfl, mj_bv _⟩
def f_X11_goesNew_J18 (m : mj_m) : Option (mj_m) := mj_b1 (f_X11_settingOf 4 m) (fun r1 => mj_let (mj_wrs m 1 31 r1) (fun m3 => mj_b2 (f_X11_takesFirst 58 24 m3) (fun r4 m5 => mj_b1 (f_X11_puts 66 25 r4 m5) (fun m7 => mj_let (f_X11_round ((m7 1 22) + 1)) (fun r9 => mj_let (mj_wrs m7 1 22 r9) (fun m11 => mj_b1 (f_X11_goesSent ((m11 1 25) - 1) m11) (fun m12 => some m12)))))))
set_option maxHeartbeats 4000000 in
set_option maxRecDepth 20000 in
theorem C_X11_goesNew_J18 {κ : mj_K} {β : Nat} {M : mj_M} {m : mj_m} {m0 : mj_m} (C : mj_C κ cX11_goesNew 1 RX11) (hB : mj_isM (mj_g κ) β) (hR : mj_dp κ 6) (hT : mj_rt κ = none) (h : f_X11_goesNew_J18 m = some m0) : mj_R κ (mj_F κ (fun r M' => r = none ∧ M' = (va_up M β m0) ∧ mj_bb none none)) 18 [some (mj_r (β, 0))] [] (va_up M β m) := by
  unfold f_X11_goesNew_J18 at h
  refine mj_aload_n C dX11_goesNew_18 rfl ?_
  refine mj_getr (r := (β, 1)) C lF_X11_7 (sM0 hB) rfl dX11_goesNew_19 ?_
  refine mj_bipush (v := 31) C dX11_goesNew_22 (by decide) ?_
  refine mj_aload_n C dX11_goesNew_24 rfl ?_
  refine mj_iconst (v := 4) C dX11_goesNew_25 (by decide) ?_
  obtain ⟨r1, er1, h⟩ := mj_b1_o h
  refine mj_callV1 (av := [.inl 4]) C lM_X11_102 lV_X11_settingOf (sM0 hB) ⟨_, rfl, rfl⟩ rfl (C_X11_settingOf hB er1) (mj_rmok hR (by decide) (by decide)) rfl (Nat.le_of_ble_eq_true rfl) dX11_goesNew_26 (fun hb2 => ?_)
  obtain ⟨m3, hm3, h⟩ := mj_let_o h
  refine mj_bast C (sM1 hB) (mj_okn 31 1897 (Nat.le_of_ble_eq_true rfl) (Nat.le_of_ble_eq_true rfl)) (mj_cln 31 (Nat.le_of_ble_eq_true rfl)) dX11_goesNew_29 hm3 ?_
  refine mj_aload_n C dX11_goesNew_30 rfl ?_
  refine mj_bipush (v := 66) C dX11_goesNew_31 (by decide) ?_
  refine mj_bipush (v := 25) C dX11_goesNew_33 (by decide) ?_
  refine mj_aload_n C dX11_goesNew_35 rfl ?_
  refine mj_bipush (v := 58) C dX11_goesNew_36 (by decide) ?_
  refine mj_bipush (v := 24) C dX11_goesNew_38 (by decide) ?_
  obtain ⟨r4, m5, em5, h⟩ := mj_b2_o h
  refine mj_callV1 (av := [.inl 58, .inl 24]) C lM_X11_197 lV_X11_takesFirst (sM0 hB) ⟨_, rfl, rfl⟩ rfl (C_X11_takesFirst hB em5) (mj_rmok hR (by decide) (by decide)) rfl (Nat.le_of_ble_eq_true rfl) dX11_goesNew_40 (fun hb6 => ?_)
  obtain ⟨m7, em7, h⟩ := mj_b1_o h
  refine mj_callV0 (av := [.inl 66, .inl 25, .inl r4]) C lM_X11_109 lV_X11_puts (sM0 hB) ⟨_, rfl, rfl⟩ rfl (C_X11_puts hB em7) (mj_rmok hR (by decide) (by decide)) rfl (Nat.le_of_ble_eq_true rfl) dX11_goesNew_43 ?_
  refine mj_aload_n C dX11_goesNew_46 rfl ?_
  refine mj_getr (r := (β, 1)) C lF_X11_7 (sM0 hB) rfl dX11_goesNew_47 ?_
  refine mj_bipush (v := 22) C dX11_goesNew_50 (by decide) ?_
  refine mj_aload_n C dX11_goesNew_52 rfl ?_
  refine mj_aload_n C dX11_goesNew_53 rfl ?_
  refine mj_getr (r := (β, 1)) C lF_X11_7 (sM0 hB) rfl dX11_goesNew_54 ?_
  refine mj_bipush (v := 22) C dX11_goesNew_57 (by decide) ?_
  refine mj_bald C (sM1 hB) (mj_okn 22 1897 (Nat.le_of_ble_eq_true rfl) (Nat.le_of_ble_eq_true rfl)) (mj_cln 22 (Nat.le_of_ble_eq_true rfl)) dX11_goesNew_59 ?_
  refine mj_iconst (v := 1) C dX11_goesNew_60 (by decide) ?_
  refine mj_iadd C dX11_goesNew_61 ?_
  obtain ⟨r9, er9, h⟩ := mj_let_o h
  refine mj_callV1 (av := [.inl ((m7 1 22) + 1)]) C lM_X11_155 lV_X11_round (sM0 hB) ⟨_, rfl, rfl⟩ rfl (C_X11_round hB er9) (mj_rmok hR (by decide) (by decide)) rfl (Nat.le_of_ble_eq_true rfl) dX11_goesNew_62 (fun hb10 => ?_)
  obtain ⟨m11, hm11, h⟩ := mj_let_o h
  refine mj_bast C (sM1 hB) (mj_okn 22 1897 (Nat.le_of_ble_eq_true rfl) (Nat.le_of_ble_eq_true rfl)) (mj_cln 22 (Nat.le_of_ble_eq_true rfl)) dX11_goesNew_65 hm11 ?_
  refine mj_aload_n C dX11_goesNew_66 rfl ?_
  refine mj_aload_n C dX11_goesNew_67 rfl ?_
  refine mj_getr (r := (β, 1)) C lF_X11_7 (sM0 hB) rfl dX11_goesNew_68 ?_
  refine mj_bipush (v := 25) C dX11_goesNew_71 (by decide) ?_
  refine mj_bald C (sM1 hB) (mj_okn 25 1897 (Nat.le_of_ble_eq_true rfl) (Nat.le_of_ble_eq_true rfl)) (mj_cln 25 (Nat.le_of_ble_eq_true rfl)) dX11_goesNew_73 ?_
  refine mj_iconst (v := 1) C dX11_goesNew_74 (by decide) ?_
  refine mj_isub C dX11_goesNew_75 ?_
  obtain ⟨m12, em12, h⟩ := mj_b1_o h
  refine mj_callV0 (av := [.inl ((m11 1 25) - 1)]) C lM_X11_237 lV_X11_goesSent (sM0 hB) ⟨_, rfl, rfl⟩ rfl (C_X11_goesSent hB em12) (mj_rmok hR (by decide) (by decide)) rfl (Nat.le_of_ble_eq_true rfl) dX11_goesNew_76 ?_
  cases h
  exact mj_vret C hT dX11_goesNew_79 ⟨rfl, rfl, mj_bv _⟩
def f_X11_goesNew (m : mj_m) : Option (mj_m) := if m 1 25 = 0 then (mj_let (mj_wrs m 1 30 1) (fun m15 => f_X11_goesNew_J18 m15)) else (f_X11_goesNew_J18 m)
set_option maxHeartbeats 4000000 in
set_option maxRecDepth 20000 in
theorem C_X11_goesNew {G : mj_G} {β : Nat} {M : mj_M} {m : mj_m} {m0 : mj_m} (hB : mj_isM G β) (h : f_X11_goesNew m = some m0) : mj_S1 yX11_goesNew cX11_goesNew 1 none 6 G [mj_r (β, 0)] (va_up M β m) none (va_up M β m0) := by
  refine mj_intro (by decide) (Nat.le_of_ble_eq_true rfl) ?_
  intro κ C hG hR hT
  subst hG
  have C : mj_C κ cX11_goesNew 1 RX11 := C
  show mj_R κ (mj_F κ (fun r M' => r = none ∧ M' = (va_up M β m0) ∧ mj_bb none none)) 0 [some (mj_r (β, 0))] [] (va_up M β m)
  unfold f_X11_goesNew at h
  refine mj_aload_n C dX11_goesNew_0 rfl ?_
  refine mj_getr (r := (β, 1)) C lF_X11_7 (sM0 hB) rfl dX11_goesNew_1 ?_
  refine mj_bipush (v := 25) C dX11_goesNew_4 (by decide) ?_
  refine mj_bald C (sM1 hB) (mj_okn 25 1897 (Nat.le_of_ble_eq_true rfl) (Nat.le_of_ble_eq_true rfl)) (mj_cln 25 (Nat.le_of_ble_eq_true rfl)) dX11_goesNew_6 ?_
  refine mj_if_ne (tgt := 18) C dX11_goesNew_7 (by decide) (fun c14 => ?_) (fun c14 => ?_)
  · replace h := mj_if_f c14 h
    refine mj_sub (L' := [some (mj_r (β, 0))]) ⟨rfl, trivial⟩ ?_
    exact C_X11_goesNew_J18 C hB hR hT h
  · replace h := mj_if_t c14 h
    refine mj_aload_n C dX11_goesNew_10 rfl ?_
    refine mj_getr (r := (β, 1)) C lF_X11_7 (sM0 hB) rfl dX11_goesNew_11 ?_
    refine mj_bipush (v := 30) C dX11_goesNew_14 (by decide) ?_
    refine mj_iconst (v := 1) C dX11_goesNew_16 (by decide) ?_
    obtain ⟨m15, hm15, h⟩ := mj_let_o h
    refine mj_bast C (sM1 hB) (mj_okn 30 1897 (Nat.le_of_ble_eq_true rfl) (Nat.le_of_ble_eq_true rfl)) (mj_cln 30 (Nat.le_of_ble_eq_true rfl)) dX11_goesNew_17 hm15 ?_
    refine mj_sub (L' := [some (mj_r (β, 0))]) ⟨rfl, trivial⟩ ?_
    exact C_X11_goesNew_J18 C hB hR hT h
def f_X11_firstMarked_L2 : Nat → Int32 → mj_m → Option (Int32)
  | 0, _, _ => none
  | n + 1, l1, m => if m 1 25 ≤ l1 then (some l1) else (mj_chk (mj_ok (86 + l1) 1897) (if m 1 (mj_cl (86 + l1)) = 0 then (mj_let (l1 + 1) (fun x4 => f_X11_firstMarked_L2 n x4 m)) else (some l1)))
set_option maxHeartbeats 4000000 in
set_option maxRecDepth 20000 in
theorem C_X11_firstMarked_L2 {κ : mj_K} {Q : State → Prop} {β : Nat} {M : mj_M} (C : mj_C κ cX11_firstMarked 2 RX11) (hB : mj_isM (mj_g κ) β) (hR : mj_dp κ 0) : ∀ (n : Nat) (l1 : Int32) (m : mj_m) (o1 : Int32), f_X11_firstMarked_L2 n l1 m = some o1 → (mj_R κ Q 32 [none, some (.inl o1)] [] (va_up M β m)) → mj_R κ Q 2 [some (mj_r (β, 0)), some (.inl l1)] [] (va_up M β m) := by
  intro n
  induction n with
  | zero =>
    intro l1 m o1 h
    cases h
  | succ n ih =>
    intro l1 m o1 h hx32
    rw [f_X11_firstMarked_L2] at h
    refine mj_iload_n C dX11_firstMarked_2 rfl ?_
    refine mj_aload_n C dX11_firstMarked_3 rfl ?_
    refine mj_getr (r := (β, 1)) C lF_X11_7 (sM0 hB) rfl dX11_firstMarked_4 ?_
    refine mj_bipush (v := 25) C dX11_firstMarked_7 (by decide) ?_
    refine mj_bald C (sM1 hB) (mj_okn 25 1897 (Nat.le_of_ble_eq_true rfl) (Nat.le_of_ble_eq_true rfl)) (mj_cln 25 (Nat.le_of_ble_eq_true rfl)) dX11_firstMarked_9 ?_
    refine mj_icmp_ge (tgt := 32) C dX11_firstMarked_10 (by decide) (fun c1 => ?_) (fun c1 => ?_)
    · replace h := mj_if_t c1 h
      cases h
      refine mj_sub ?_ (hx32)
      exact ⟨rfl, trivial⟩
    · replace h := mj_if_f c1 h
      refine mj_aload_n C dX11_firstMarked_13 rfl ?_
      refine mj_getr (r := (β, 1)) C lF_X11_7 (sM0 hB) rfl dX11_firstMarked_14 ?_
      refine mj_bipush (v := 86) C dX11_firstMarked_17 (by decide) ?_
      refine mj_iload_n C dX11_firstMarked_19 rfl ?_
      refine mj_iadd C dX11_firstMarked_20 ?_
      obtain ⟨k2, h⟩ := mj_chk_o h
      refine mj_bald C (sM1 hB) k2 rfl dX11_firstMarked_21 ?_
      refine mj_if_ne (tgt := 32) C dX11_firstMarked_22 (by decide) (fun c3 => ?_) (fun c3 => ?_)
      · replace h := mj_if_f c3 h
        cases h
        refine mj_sub ?_ (hx32)
        exact ⟨rfl, trivial⟩
      · replace h := mj_if_t c3 h
        refine mj_iload_n C dX11_firstMarked_25 rfl ?_
        refine mj_iconst (v := 1) C dX11_firstMarked_26 (by decide) ?_
        refine mj_iadd C dX11_firstMarked_27 ?_
        obtain ⟨x4, hx4, h⟩ := mj_let_o h
        refine mj_nm hx4 ?_
        refine mj_istore_n (L2 := [some (mj_r (β, 0)), some (.inl x4)]) C dX11_firstMarked_28 (Nat.le_of_ble_eq_true rfl) rfl ?_
        refine mj_goto (tgt := 2) C dX11_firstMarked_29 (by decide) ?_
        refine mj_sub (L' := [some (mj_r (β, 0)), some (.inl x4)]) ⟨rfl, ⟨rfl, trivial⟩⟩ ?_
        exact ih _ _ _ h hx32
def f_X11_firstMarked (m : mj_m) : Option (Int32) := mj_b1 (f_X11_firstMarked_L2 mj_fu 0 m) (fun x5 => some x5)
set_option maxHeartbeats 4000000 in
set_option maxRecDepth 20000 in
theorem C_X11_firstMarked {G : mj_G} {β : Nat} {M : mj_M} {m : mj_m} {x0 : Int32} (hB : mj_isM G β) (h : f_X11_firstMarked m = some x0) : mj_S1 yX11_firstMarked cX11_firstMarked 2 (some .int) 0 G [mj_r (β, 0)] (va_up M β m) (some (.inl x0)) (va_up M β m) := by
  refine mj_intro (by decide) (Nat.le_of_ble_eq_true rfl) ?_
  intro κ C hG hR hT
  subst hG
  have C : mj_C κ cX11_firstMarked 2 RX11 := C
  show mj_R κ (mj_F κ (fun r M' => r = (some (.inl x0)) ∧ M' = (va_up M β m) ∧ mj_bb (some .int) (some (.inl x0)))) 0 [some (mj_r (β, 0)), none] [] (va_up M β m)
  unfold f_X11_firstMarked at h
  refine mj_iconst (v := 0) C dX11_firstMarked_0 (by decide) ?_
  refine mj_istore_n (L2 := [some (mj_r (β, 0)), some (.inl 0)]) C dX11_firstMarked_1 (Nat.le_of_ble_eq_true rfl) rfl ?_
  obtain ⟨x5, hl6, h⟩ := mj_b1_o h
  refine mj_sub (L' := [some (mj_r (β, 0)), some (.inl 0)]) ⟨rfl, ⟨rfl, trivial⟩⟩ ?_
  refine C_X11_firstMarked_L2 C hB hR _ _ _ _ hl6 ?_
  refine mj_iload_n C dX11_firstMarked_32 rfl ?_
  cases h
  exact mj_iret C hT (vp_nar_int _) dX11_firstMarked_33 ⟨rfl, rfl, mj_bi _⟩
def f_X11_turns_J77 (m : mj_m) : Option (mj_m) := mj_b1 (f_X11_firstMarked m) (fun r1 => if m 1 25 ≤ r1 then (if m 1 24 ≤ 0 then (some m) else (mj_b1 (f_X11_settingOf 2 m) (fun r5 => if r5 ≤ m 1 25 then (some m) else (mj_b1 (f_X11_goesNew m) (fun m8 => some m8))))) else (mj_b1 (f_X11_goesSent r1 m) (fun m10 => some m10)))
set_option maxHeartbeats 4000000 in
set_option maxRecDepth 20000 in
theorem C_X11_turns_J77 {κ : mj_K} {β : Nat} {M : mj_M} {m : mj_m} {m0 : mj_m} (C : mj_C κ cX11_turns 3 RX11) (hB : mj_isM (mj_g κ) β) (hR : mj_dp κ 7) (hT : mj_rt κ = none) (h : f_X11_turns_J77 m = some m0) : mj_R κ (mj_F κ (fun r M' => r = none ∧ M' = (va_up M β m0) ∧ mj_bb none none)) 77 [some (mj_r (β, 0)), none, none] [] (va_up M β m) := by
  unfold f_X11_turns_J77 at h
  refine mj_aload_n C dX11_turns_77 rfl ?_
  obtain ⟨r1, er1, h⟩ := mj_b1_o h
  refine mj_callV1 (av := []) C lM_X11_243 lV_X11_firstMarked (sM0 hB) ⟨_, rfl, rfl⟩ rfl (C_X11_firstMarked hB er1) (mj_rmok hR (by decide) (by decide)) rfl (Nat.le_of_ble_eq_true rfl) dX11_turns_78 (fun hb2 => ?_)
  refine mj_istore_n (L2 := [some (mj_r (β, 0)), none, some (.inl r1)]) C dX11_turns_81 (Nat.le_of_ble_eq_true rfl) rfl ?_
  refine mj_iload_n C dX11_turns_82 rfl ?_
  refine mj_aload_n C dX11_turns_83 rfl ?_
  refine mj_getr (r := (β, 1)) C lF_X11_7 (sM0 hB) rfl dX11_turns_84 ?_
  refine mj_bipush (v := 25) C dX11_turns_87 (by decide) ?_
  refine mj_bald C (sM1 hB) (mj_okn 25 1897 (Nat.le_of_ble_eq_true rfl) (Nat.le_of_ble_eq_true rfl)) (mj_cln 25 (Nat.le_of_ble_eq_true rfl)) dX11_turns_89 ?_
  refine mj_icmp_ge (tgt := 101) C dX11_turns_90 (by decide) (fun c3 => ?_) (fun c3 => ?_)
  · replace h := mj_if_t c3 h
    refine mj_aload_n C dX11_turns_101 rfl ?_
    refine mj_getr (r := (β, 1)) C lF_X11_7 (sM0 hB) rfl dX11_turns_102 ?_
    refine mj_bipush (v := 24) C dX11_turns_105 (by decide) ?_
    refine mj_bald C (sM1 hB) (mj_okn 24 1897 (Nat.le_of_ble_eq_true rfl) (Nat.le_of_ble_eq_true rfl)) (mj_cln 24 (Nat.le_of_ble_eq_true rfl)) dX11_turns_107 ?_
    refine mj_if_le (tgt := 130) C dX11_turns_108 (by decide) (fun c4 => ?_) (fun c4 => ?_)
    · replace h := mj_if_t c4 h
      cases h
      exact mj_vret C hT dX11_turns_130 ⟨rfl, rfl, mj_bv _⟩
    · replace h := mj_if_f c4 h
      refine mj_aload_n C dX11_turns_111 rfl ?_
      refine mj_getr (r := (β, 1)) C lF_X11_7 (sM0 hB) rfl dX11_turns_112 ?_
      refine mj_bipush (v := 25) C dX11_turns_115 (by decide) ?_
      refine mj_bald C (sM1 hB) (mj_okn 25 1897 (Nat.le_of_ble_eq_true rfl) (Nat.le_of_ble_eq_true rfl)) (mj_cln 25 (Nat.le_of_ble_eq_true rfl)) dX11_turns_117 ?_
      refine mj_aload_n C dX11_turns_118 rfl ?_
      refine mj_iconst (v := 2) C dX11_turns_119 (by decide) ?_
      obtain ⟨r5, er5, h⟩ := mj_b1_o h
      refine mj_callV1 (av := [.inl 2]) C lM_X11_102 lV_X11_settingOf (sM0 hB) ⟨_, rfl, rfl⟩ rfl (C_X11_settingOf hB er5) (mj_rmok hR (by decide) (by decide)) rfl (Nat.le_of_ble_eq_true rfl) dX11_turns_120 (fun hb6 => ?_)
      refine mj_icmp_ge (tgt := 130) C dX11_turns_123 (by decide) (fun c7 => ?_) (fun c7 => ?_)
      · replace h := mj_if_t c7 h
        cases h
        exact mj_vret C hT dX11_turns_130 ⟨rfl, rfl, mj_bv _⟩
      · replace h := mj_if_f c7 h
        refine mj_aload_n C dX11_turns_126 rfl ?_
        obtain ⟨m8, em8, h⟩ := mj_b1_o h
        refine mj_callV0 (av := []) C lM_X11_246 lV_X11_goesNew (sM0 hB) ⟨_, rfl, rfl⟩ rfl (C_X11_goesNew hB em8) (mj_rmok hR (by decide) (by decide)) rfl (Nat.le_of_ble_eq_true rfl) dX11_turns_127 ?_
        cases h
        exact mj_vret C hT dX11_turns_130 ⟨rfl, rfl, mj_bv _⟩
  · replace h := mj_if_f c3 h
    refine mj_aload_n C dX11_turns_93 rfl ?_
    refine mj_iload_n C dX11_turns_94 rfl ?_
    obtain ⟨m10, em10, h⟩ := mj_b1_o h
    refine mj_callV0 (av := [.inl r1]) C lM_X11_237 lV_X11_goesSent (sM0 hB) ⟨_, rfl, rfl⟩ rfl (C_X11_goesSent hB em10) (mj_rmok hR (by decide) (by decide)) rfl (Nat.le_of_ble_eq_true rfl) dX11_turns_95 ?_
    refine mj_goto (tgt := 130) C dX11_turns_98 (by decide) ?_
    cases h
    exact mj_vret C hT dX11_turns_130 ⟨rfl, rfl, mj_bv _⟩
def f_X11_turns_J67 (l1 : Int32) (m : mj_m) : Option (mj_m) := if l1 = 1 then (f_X11_turns_J77 m) else (if l1 = 2 then (f_X11_turns_J77 m) else (some m))
set_option maxHeartbeats 4000000 in
set_option maxRecDepth 20000 in
theorem C_X11_turns_J67 {κ : mj_K} {β : Nat} {M : mj_M} {l1 : Int32} {m : mj_m} {m0 : mj_m} (C : mj_C κ cX11_turns 3 RX11) (hB : mj_isM (mj_g κ) β) (hR : mj_dp κ 7) (hT : mj_rt κ = none) (h : f_X11_turns_J67 l1 m = some m0) : mj_R κ (mj_F κ (fun r M' => r = none ∧ M' = (va_up M β m0) ∧ mj_bb none none)) 67 [some (mj_r (β, 0)), some (.inl l1), none] [] (va_up M β m) := by
  unfold f_X11_turns_J67 at h
  refine mj_iload_n C dX11_turns_67 rfl ?_
  refine mj_iconst (v := 1) C dX11_turns_68 (by decide) ?_
  refine mj_icmp_eq (tgt := 77) C dX11_turns_69 (by decide) (fun c12 => ?_) (fun c12 => ?_)
  · replace h := mj_if_t c12 h
    refine mj_sub (L' := [some (mj_r (β, 0)), none, none]) ⟨rfl, trivial⟩ ?_
    exact C_X11_turns_J77 C hB hR hT h
  · replace h := mj_if_f c12 h
    refine mj_iload_n C dX11_turns_72 rfl ?_
    refine mj_iconst (v := 2) C dX11_turns_73 (by decide) ?_
    refine mj_icmp_ne (tgt := 130) C dX11_turns_74 (by decide) (fun c13 => ?_) (fun c13 => ?_)
    · replace h := mj_if_f c13 h
      cases h
      exact mj_vret C hT dX11_turns_130 ⟨rfl, rfl, mj_bv _⟩
    · replace h := mj_if_t c13 h
      refine mj_sub (L' := [some (mj_r (β, 0)), none, none]) ⟨rfl, trivial⟩ ?_
      exact C_X11_turns_J77 C hB hR hT h
def f_X11_turns (m : mj_m) : Option (mj_m) := mj_let (f_X11_machine m) (fun r14 => if m 1 29 ≤ 0 then (if r14 = 5 then (if m 1 28 = 1 then (mj_b1 (f_X11_goesDirective m) (fun m19 => some m19)) else (f_X11_turns_J67 r14 m)) else (f_X11_turns_J67 r14 m)) else (mj_b2 (f_X11_takesFirst 106 29 m) (fun r21 m22 => mj_b1 (f_X11_goesFrame 1 0 (r21 / 256) (mj_rem r21 256) (-1) m22) (fun m24 => some m24))))
set_option maxHeartbeats 4000000 in
set_option maxRecDepth 20000 in
theorem C_X11_turns {G : mj_G} {β : Nat} {M : mj_M} {m : mj_m} {m0 : mj_m} (hB : mj_isM G β) (h : f_X11_turns m = some m0) : mj_S1 yX11_turns cX11_turns 3 none 7 G [mj_r (β, 0)] (va_up M β m) none (va_up M β m0) := by
  refine mj_intro (by decide) (Nat.le_of_ble_eq_true rfl) ?_
  intro κ C hG hR hT
  subst hG
  have C : mj_C κ cX11_turns 3 RX11 := C
  show mj_R κ (mj_F κ (fun r M' => r = none ∧ M' = (va_up M β m0) ∧ mj_bb none none)) 0 [some (mj_r (β, 0)), none, none] [] (va_up M β m)
  unfold f_X11_turns at h
  refine mj_aload_n C dX11_turns_0 rfl ?_
  obtain ⟨r14, er14, h⟩ := mj_let_o h
  refine mj_callV1 (av := []) C lM_X11_87 lV_X11_machine (sM0 hB) ⟨_, rfl, rfl⟩ rfl (C_X11_machine hB er14) (mj_rmok hR (by decide) (by decide)) rfl (Nat.le_of_ble_eq_true rfl) dX11_turns_1 (fun hb15 => ?_)
  refine mj_istore_n (L2 := [some (mj_r (β, 0)), some (.inl r14), none]) C dX11_turns_4 (Nat.le_of_ble_eq_true rfl) rfl ?_
  refine mj_aload_n C dX11_turns_5 rfl ?_
  refine mj_getr (r := (β, 1)) C lF_X11_7 (sM0 hB) rfl dX11_turns_6 ?_
  refine mj_bipush (v := 29) C dX11_turns_9 (by decide) ?_
  refine mj_bald C (sM1 hB) (mj_okn 29 1897 (Nat.le_of_ble_eq_true rfl) (Nat.le_of_ble_eq_true rfl)) (mj_cln 29 (Nat.le_of_ble_eq_true rfl)) dX11_turns_11 ?_
  refine mj_if_le (tgt := 44) C dX11_turns_12 (by decide) (fun c16 => ?_) (fun c16 => ?_)
  · replace h := mj_if_t c16 h
    refine mj_iload_n C dX11_turns_44 rfl ?_
    refine mj_iconst (v := 5) C dX11_turns_45 (by decide) ?_
    refine mj_icmp_ne (tgt := 67) C dX11_turns_46 (by decide) (fun c17 => ?_) (fun c17 => ?_)
    · replace h := mj_if_f c17 h
      refine mj_sub (L' := [some (mj_r (β, 0)), some (.inl r14), none]) ⟨rfl, ⟨rfl, trivial⟩⟩ ?_
      exact C_X11_turns_J67 C hB hR hT h
    · replace h := mj_if_t c17 h
      refine mj_aload_n C dX11_turns_49 rfl ?_
      refine mj_getr (r := (β, 1)) C lF_X11_7 (sM0 hB) rfl dX11_turns_50 ?_
      refine mj_bipush (v := 28) C dX11_turns_53 (by decide) ?_
      refine mj_bald C (sM1 hB) (mj_okn 28 1897 (Nat.le_of_ble_eq_true rfl) (Nat.le_of_ble_eq_true rfl)) (mj_cln 28 (Nat.le_of_ble_eq_true rfl)) dX11_turns_55 ?_
      refine mj_iconst (v := 1) C dX11_turns_56 (by decide) ?_
      refine mj_icmp_ne (tgt := 67) C dX11_turns_57 (by decide) (fun c18 => ?_) (fun c18 => ?_)
      · replace h := mj_if_f c18 h
        refine mj_sub (L' := [some (mj_r (β, 0)), some (.inl r14), none]) ⟨rfl, ⟨rfl, trivial⟩⟩ ?_
        exact C_X11_turns_J67 C hB hR hT h
      · replace h := mj_if_t c18 h
        refine mj_aload_n C dX11_turns_60 rfl ?_
        obtain ⟨m19, em19, h⟩ := mj_b1_o h
        refine mj_callV0 (av := []) C lM_X11_240 lV_X11_goesDirective (sM0 hB) ⟨_, rfl, rfl⟩ rfl (C_X11_goesDirective hB em19) (mj_rmok hR (by decide) (by decide)) rfl (Nat.le_of_ble_eq_true rfl) dX11_turns_61 ?_
        refine mj_goto (tgt := 130) C dX11_turns_64 (by decide) ?_
        cases h
        exact mj_vret C hT dX11_turns_130 ⟨rfl, rfl, mj_bv _⟩
  · replace h := mj_if_f c16 h
    refine mj_aload_n C dX11_turns_15 rfl ?_
    refine mj_bipush (v := 106) C dX11_turns_16 (by decide) ?_
    refine mj_bipush (v := 29) C dX11_turns_18 (by decide) ?_
    obtain ⟨r21, m22, em22, h⟩ := mj_b2_o h
    refine mj_callV1 (av := [.inl 106, .inl 29]) C lM_X11_197 lV_X11_takesFirst (sM0 hB) ⟨_, rfl, rfl⟩ rfl (C_X11_takesFirst hB em22) (mj_rmok hR (by decide) (by decide)) rfl (Nat.le_of_ble_eq_true rfl) dX11_turns_20 (fun hb23 => ?_)
    refine mj_istore_n (L2 := [some (mj_r (β, 0)), some (.inl r14), some (.inl r21)]) C dX11_turns_23 (Nat.le_of_ble_eq_true rfl) rfl ?_
    refine mj_aload_n C dX11_turns_24 rfl ?_
    refine mj_iconst (v := 1) C dX11_turns_25 (by decide) ?_
    refine mj_iconst (v := 0) C dX11_turns_26 (by decide) ?_
    refine mj_iload_n C dX11_turns_27 rfl ?_
    refine mj_sipush (v := 256) C dX11_turns_28 (by decide) ?_
    refine mj_idiv C dX11_turns_31 (by decide) ?_
    refine mj_iload_n C dX11_turns_32 rfl ?_
    refine mj_sipush (v := 256) C dX11_turns_33 (by decide) ?_
    refine mj_irem C dX11_turns_36 (by decide) ?_
    refine mj_iconst (v := (-1)) C dX11_turns_37 (by decide) ?_
    obtain ⟨m24, em24, h⟩ := mj_b1_o h
    refine mj_callV0 (av := [.inl 1, .inl 0, .inl (r21 / 256), .inl (mj_rem r21 256), .inl (-1)]) C lM_X11_230 lV_X11_goesFrame (sM0 hB) ⟨_, rfl, rfl⟩ rfl (C_X11_goesFrame hB em24) (mj_rmok hR (by decide) (by decide)) rfl (Nat.le_of_ble_eq_true rfl) dX11_turns_38 ?_
    refine mj_goto (tgt := 130) C dX11_turns_41 (by decide) ?_
    cases h
    exact mj_vret C hT dX11_turns_130 ⟨rfl, rfl, mj_bv _⟩
def f_X11_ticks_L6 : Nat → mj_m → Option (mj_m)
  | 0, _ => none
  | n + 1, m => mj_b2 (f_X11_comes 1 m) (fun r1 m2 => if r1 = 0 then (some m2) else (mj_b1 (f_X11_comesFrame m2) (fun m5 => f_X11_ticks_L6 n m5)))
set_option maxHeartbeats 4000000 in
set_option maxRecDepth 20000 in
theorem C_X11_ticks_L6 {κ : mj_K} {Q : State → Prop} {β : Nat} {M : mj_M} (C : mj_C κ cX11_ticks 1 RX11) (hB : mj_isM (mj_g κ) β) (hR : mj_dp κ 8) : ∀ (n : Nat) (m : mj_m) (mo : mj_m), f_X11_ticks_L6 n m = some mo → (mj_R κ Q 21 [some (mj_r (β, 0))] [] (va_up M β mo)) → mj_R κ Q 6 [some (mj_r (β, 0))] [] (va_up M β m) := by
  intro n
  induction n with
  | zero =>
    intro m mo h
    cases h
  | succ n ih =>
    intro m mo h hx21
    rw [f_X11_ticks_L6] at h
    refine mj_aload_n C dX11_ticks_6 rfl ?_
    refine mj_iconst (v := 1) C dX11_ticks_7 (by decide) ?_
    obtain ⟨r1, m2, em2, h⟩ := mj_b2_o h
    refine mj_callV1 (av := [.inl 1]) C lM_X11_249 lV_X11_comes (sM0 hB) ⟨_, rfl, rfl⟩ rfl (C_X11_comes hB em2) (mj_rmok hR (by decide) (by decide)) rfl (Nat.le_of_ble_eq_true rfl) dX11_ticks_8 (fun hb3 => ?_)
    refine mj_if_eq (tgt := 21) C dX11_ticks_11 (by decide) (fun c4 => ?_) (fun c4 => ?_)
    · replace h := mj_if_t c4 h
      cases h
      refine mj_sub ?_ (hx21)
      exact ⟨rfl, trivial⟩
    · replace h := mj_if_f c4 h
      refine mj_aload_n C dX11_ticks_14 rfl ?_
      obtain ⟨m5, em5, h⟩ := mj_b1_o h
      refine mj_callV0 (av := []) C lM_X11_252 lV_X11_comesFrame (sM0 hB) ⟨_, rfl, rfl⟩ rfl (C_X11_comesFrame hB em5) (mj_rmok hR (by decide) (by decide)) rfl (Nat.le_of_ble_eq_true rfl) dX11_ticks_15 ?_
      refine mj_goto (tgt := 6) C dX11_ticks_18 (by decide) ?_
      refine mj_sub (L' := [some (mj_r (β, 0))]) ⟨rfl, trivial⟩ ?_
      exact ih _ _ h hx21
def f_X11_ticks_L42 : Nat → mj_m → Option (mj_m)
  | 0, _ => none
  | n + 1, m => mj_b2 (f_X11_comes 0 m) (fun r7 m8 => if r7 = 0 then (some m8) else (mj_b1 (f_X11_comesReport m8) (fun m11 => f_X11_ticks_L42 n m11)))
set_option maxHeartbeats 4000000 in
set_option maxRecDepth 20000 in
theorem C_X11_ticks_L42 {κ : mj_K} {Q : State → Prop} {β : Nat} {M : mj_M} (C : mj_C κ cX11_ticks 1 RX11) (hB : mj_isM (mj_g κ) β) (hR : mj_dp κ 8) : ∀ (n : Nat) (m : mj_m) (mo : mj_m), f_X11_ticks_L42 n m = some mo → (mj_R κ Q 57 [some (mj_r (β, 0))] [] (va_up M β mo)) → mj_R κ Q 42 [some (mj_r (β, 0))] [] (va_up M β m) := by
  intro n
  induction n with
  | zero =>
    intro m mo h
    cases h
  | succ n ih =>
    intro m mo h hx57
    rw [f_X11_ticks_L42] at h
    refine mj_aload_n C dX11_ticks_42 rfl ?_
    refine mj_iconst (v := 0) C dX11_ticks_43 (by decide) ?_
    obtain ⟨r7, m8, em8, h⟩ := mj_b2_o h
    refine mj_callV1 (av := [.inl 0]) C lM_X11_249 lV_X11_comes (sM0 hB) ⟨_, rfl, rfl⟩ rfl (C_X11_comes hB em8) (mj_rmok hR (by decide) (by decide)) rfl (Nat.le_of_ble_eq_true rfl) dX11_ticks_44 (fun hb9 => ?_)
    refine mj_if_eq (tgt := 57) C dX11_ticks_47 (by decide) (fun c10 => ?_) (fun c10 => ?_)
    · replace h := mj_if_t c10 h
      cases h
      refine mj_sub ?_ (hx57)
      exact ⟨rfl, trivial⟩
    · replace h := mj_if_f c10 h
      refine mj_aload_n C dX11_ticks_50 rfl ?_
      obtain ⟨m11, em11, h⟩ := mj_b1_o h
      refine mj_callV0 (av := []) C lM_X11_258 lV_X11_comesReport (sM0 hB) ⟨_, rfl, rfl⟩ rfl (C_X11_comesReport hB em11) (mj_rmok hR (by decide) (by decide)) rfl (Nat.le_of_ble_eq_true rfl) dX11_ticks_51 ?_
      refine mj_goto (tgt := 42) C dX11_ticks_54 (by decide) ?_
      refine mj_sub (L' := [some (mj_r (β, 0))]) ⟨rfl, trivial⟩ ?_
      exact ih _ _ h hx57
def f_X11_ticks (m : mj_m) : Option (mj_m) := mj_b1 (f_X11_more 11 m) (fun m13 => mj_b1 (f_X11_ticks_L6 mj_fu m13) (fun m15 => mj_b1 (f_X11_settingOf 10 m15) (fun r17 => mj_chk (!(r17 == 0)) (if mj_rem (m15 1 11) r17 = 0 then (mj_b1 (f_X11_reports m15) (fun m34 => mj_b1 (f_X11_ticks_L42 mj_fu m34) (fun m36 => if m36 1 31 ≤ 0 then (mj_b1 (f_X11_turns m36) (fun m39 => some m39)) else (mj_let (mj_wrs m36 1 31 ((m36 1 31) - 1)) (fun m41 => if m41 1 31 = 0 then (mj_b1 (f_X11_runsOut m41) (fun m45 => mj_b1 (f_X11_turns m45) (fun m47 => some m47))) else (mj_b1 (f_X11_turns m41) (fun m43 => some m43))))))) else (mj_b1 (f_X11_ticks_L42 mj_fu m15) (fun m21 => if m21 1 31 ≤ 0 then (mj_b1 (f_X11_turns m21) (fun m24 => some m24)) else (mj_let (mj_wrs m21 1 31 ((m21 1 31) - 1)) (fun m26 => if m26 1 31 = 0 then (mj_b1 (f_X11_runsOut m26) (fun m30 => mj_b1 (f_X11_turns m30) (fun m32 => some m32))) else (mj_b1 (f_X11_turns m26) (fun m28 => some m28))))))))))
set_option maxHeartbeats 4000000 in
set_option maxRecDepth 20000 in
theorem C_X11_ticks {G : mj_G} {β : Nat} {M : mj_M} {m : mj_m} {m0 : mj_m} (hB : mj_isM G β) (h : f_X11_ticks m = some m0) : mj_S1 yX11_ticks cX11_ticks 1 none 8 G [mj_r (β, 0)] (va_up M β m) none (va_up M β m0) := by
  refine mj_intro (by decide) (Nat.le_of_ble_eq_true rfl) ?_
  intro κ C hG hR hT
  subst hG
  have C : mj_C κ cX11_ticks 1 RX11 := C
  show mj_R κ (mj_F κ (fun r M' => r = none ∧ M' = (va_up M β m0) ∧ mj_bb none none)) 0 [some (mj_r (β, 0))] [] (va_up M β m)
  unfold f_X11_ticks at h
  refine mj_aload_n C dX11_ticks_0 rfl ?_
  refine mj_bipush (v := 11) C dX11_ticks_1 (by decide) ?_
  obtain ⟨m13, em13, h⟩ := mj_b1_o h
  refine mj_callV0 (av := [.inl 11]) C lM_X11_58 lV_X11_more (sM0 hB) ⟨_, rfl, rfl⟩ rfl (C_X11_more hB em13) (mj_rmok hR (by decide) (by decide)) rfl (Nat.le_of_ble_eq_true rfl) dX11_ticks_3 ?_
  obtain ⟨m15, hl16, h⟩ := mj_b1_o h
  refine mj_sub (L' := [some (mj_r (β, 0))]) ⟨rfl, trivial⟩ ?_
  refine C_X11_ticks_L6 C hB hR _ _ _ hl16 ?_
  refine mj_aload_n C dX11_ticks_21 rfl ?_
  refine mj_getr (r := (β, 1)) C lF_X11_7 (sM0 hB) rfl dX11_ticks_22 ?_
  refine mj_bipush (v := 11) C dX11_ticks_25 (by decide) ?_
  refine mj_bald C (sM1 hB) (mj_okn 11 1897 (Nat.le_of_ble_eq_true rfl) (Nat.le_of_ble_eq_true rfl)) (mj_cln 11 (Nat.le_of_ble_eq_true rfl)) dX11_ticks_27 ?_
  refine mj_aload_n C dX11_ticks_28 rfl ?_
  refine mj_bipush (v := 10) C dX11_ticks_29 (by decide) ?_
  obtain ⟨r17, er17, h⟩ := mj_b1_o h
  refine mj_callV1 (av := [.inl 10]) C lM_X11_102 lV_X11_settingOf (sM0 hB) ⟨_, rfl, rfl⟩ rfl (C_X11_settingOf hB er17) (mj_rmok hR (by decide) (by decide)) rfl (Nat.le_of_ble_eq_true rfl) dX11_ticks_31 (fun hb18 => ?_)
  obtain ⟨k19, h⟩ := mj_chk_o h
  refine mj_irem C dX11_ticks_34 (mj_nz k19) ?_
  refine mj_if_ne (tgt := 42) C dX11_ticks_35 (by decide) (fun c20 => ?_) (fun c20 => ?_)
  · replace h := mj_if_f c20 h
    obtain ⟨m21, hl22, h⟩ := mj_b1_o h
    refine mj_sub (L' := [some (mj_r (β, 0))]) ⟨rfl, trivial⟩ ?_
    refine C_X11_ticks_L42 C hB hR _ _ _ hl22 ?_
    refine mj_aload_n C dX11_ticks_57 rfl ?_
    refine mj_getr (r := (β, 1)) C lF_X11_7 (sM0 hB) rfl dX11_ticks_58 ?_
    refine mj_bipush (v := 31) C dX11_ticks_61 (by decide) ?_
    refine mj_bald C (sM1 hB) (mj_okn 31 1897 (Nat.le_of_ble_eq_true rfl) (Nat.le_of_ble_eq_true rfl)) (mj_cln 31 (Nat.le_of_ble_eq_true rfl)) dX11_ticks_63 ?_
    refine mj_if_le (tgt := 97) C dX11_ticks_64 (by decide) (fun c23 => ?_) (fun c23 => ?_)
    · replace h := mj_if_t c23 h
      refine mj_aload_n C dX11_ticks_97 rfl ?_
      obtain ⟨m24, em24, h⟩ := mj_b1_o h
      refine mj_callV0 (av := []) C lM_X11_264 lV_X11_turns (sM0 hB) ⟨_, rfl, rfl⟩ rfl (C_X11_turns hB em24) (mj_rmok hR (by decide) (by decide)) rfl (Nat.le_of_ble_eq_true rfl) dX11_ticks_98 ?_
      cases h
      exact mj_vret C hT dX11_ticks_101 ⟨rfl, rfl, mj_bv _⟩
    · replace h := mj_if_f c23 h
      refine mj_aload_n C dX11_ticks_67 rfl ?_
      refine mj_getr (r := (β, 1)) C lF_X11_7 (sM0 hB) rfl dX11_ticks_68 ?_
      refine mj_bipush (v := 31) C dX11_ticks_71 (by decide) ?_
      refine mj_aload_n C dX11_ticks_73 rfl ?_
      refine mj_getr (r := (β, 1)) C lF_X11_7 (sM0 hB) rfl dX11_ticks_74 ?_
      refine mj_bipush (v := 31) C dX11_ticks_77 (by decide) ?_
      refine mj_bald C (sM1 hB) (mj_okn 31 1897 (Nat.le_of_ble_eq_true rfl) (Nat.le_of_ble_eq_true rfl)) (mj_cln 31 (Nat.le_of_ble_eq_true rfl)) dX11_ticks_79 ?_
      refine mj_iconst (v := 1) C dX11_ticks_80 (by decide) ?_
      refine mj_isub C dX11_ticks_81 ?_
      obtain ⟨m26, hm26, h⟩ := mj_let_o h
      refine mj_bast C (sM1 hB) (mj_okn 31 1897 (Nat.le_of_ble_eq_true rfl) (Nat.le_of_ble_eq_true rfl)) (mj_cln 31 (Nat.le_of_ble_eq_true rfl)) dX11_ticks_82 hm26 ?_
      refine mj_aload_n C dX11_ticks_83 rfl ?_
      refine mj_getr (r := (β, 1)) C lF_X11_7 (sM0 hB) rfl dX11_ticks_84 ?_
      refine mj_bipush (v := 31) C dX11_ticks_87 (by decide) ?_
      refine mj_bald C (sM1 hB) (mj_okn 31 1897 (Nat.le_of_ble_eq_true rfl) (Nat.le_of_ble_eq_true rfl)) (mj_cln 31 (Nat.le_of_ble_eq_true rfl)) dX11_ticks_89 ?_
      refine mj_if_ne (tgt := 97) C dX11_ticks_90 (by decide) (fun c27 => ?_) (fun c27 => ?_)
      · replace h := mj_if_f c27 h
        refine mj_aload_n C dX11_ticks_97 rfl ?_
        obtain ⟨m28, em28, h⟩ := mj_b1_o h
        refine mj_callV0 (av := []) C lM_X11_264 lV_X11_turns (sM0 hB) ⟨_, rfl, rfl⟩ rfl (C_X11_turns hB em28) (mj_rmok hR (by decide) (by decide)) rfl (Nat.le_of_ble_eq_true rfl) dX11_ticks_98 ?_
        cases h
        exact mj_vret C hT dX11_ticks_101 ⟨rfl, rfl, mj_bv _⟩
      · replace h := mj_if_t c27 h
        refine mj_aload_n C dX11_ticks_93 rfl ?_
        obtain ⟨m30, em30, h⟩ := mj_b1_o h
        refine mj_callV0 (av := []) C lM_X11_261 lV_X11_runsOut (sM0 hB) ⟨_, rfl, rfl⟩ rfl (C_X11_runsOut hB em30) (mj_rmok hR (by decide) (by decide)) rfl (Nat.le_of_ble_eq_true rfl) dX11_ticks_94 ?_
        refine mj_aload_n C dX11_ticks_97 rfl ?_
        obtain ⟨m32, em32, h⟩ := mj_b1_o h
        refine mj_callV0 (av := []) C lM_X11_264 lV_X11_turns (sM0 hB) ⟨_, rfl, rfl⟩ rfl (C_X11_turns hB em32) (mj_rmok hR (by decide) (by decide)) rfl (Nat.le_of_ble_eq_true rfl) dX11_ticks_98 ?_
        cases h
        exact mj_vret C hT dX11_ticks_101 ⟨rfl, rfl, mj_bv _⟩
  · replace h := mj_if_t c20 h
    refine mj_aload_n C dX11_ticks_38 rfl ?_
    obtain ⟨m34, em34, h⟩ := mj_b1_o h
    refine mj_callV0 (av := []) C lM_X11_255 lV_X11_reports (sM0 hB) ⟨_, rfl, rfl⟩ rfl (C_X11_reports hB em34) (mj_rmok hR (by decide) (by decide)) rfl (Nat.le_of_ble_eq_true rfl) dX11_ticks_39 ?_
    obtain ⟨m36, hl37, h⟩ := mj_b1_o h
    refine mj_sub (L' := [some (mj_r (β, 0))]) ⟨rfl, trivial⟩ ?_
    refine C_X11_ticks_L42 C hB hR _ _ _ hl37 ?_
    refine mj_aload_n C dX11_ticks_57 rfl ?_
    refine mj_getr (r := (β, 1)) C lF_X11_7 (sM0 hB) rfl dX11_ticks_58 ?_
    refine mj_bipush (v := 31) C dX11_ticks_61 (by decide) ?_
    refine mj_bald C (sM1 hB) (mj_okn 31 1897 (Nat.le_of_ble_eq_true rfl) (Nat.le_of_ble_eq_true rfl)) (mj_cln 31 (Nat.le_of_ble_eq_true rfl)) dX11_ticks_63 ?_
    refine mj_if_le (tgt := 97) C dX11_ticks_64 (by decide) (fun c38 => ?_) (fun c38 => ?_)
    · replace h := mj_if_t c38 h
      refine mj_aload_n C dX11_ticks_97 rfl ?_
      obtain ⟨m39, em39, h⟩ := mj_b1_o h
      refine mj_callV0 (av := []) C lM_X11_264 lV_X11_turns (sM0 hB) ⟨_, rfl, rfl⟩ rfl (C_X11_turns hB em39) (mj_rmok hR (by decide) (by decide)) rfl (Nat.le_of_ble_eq_true rfl) dX11_ticks_98 ?_
      cases h
      exact mj_vret C hT dX11_ticks_101 ⟨rfl, rfl, mj_bv _⟩
    · replace h := mj_if_f c38 h
      refine mj_aload_n C dX11_ticks_67 rfl ?_
      refine mj_getr (r := (β, 1)) C lF_X11_7 (sM0 hB) rfl dX11_ticks_68 ?_
      refine mj_bipush (v := 31) C dX11_ticks_71 (by decide) ?_
      refine mj_aload_n C dX11_ticks_73 rfl ?_
      refine mj_getr (r := (β, 1)) C lF_X11_7 (sM0 hB) rfl dX11_ticks_74 ?_
      refine mj_bipush (v := 31) C dX11_ticks_77 (by decide) ?_
      refine mj_bald C (sM1 hB) (mj_okn 31 1897 (Nat.le_of_ble_eq_true rfl) (Nat.le_of_ble_eq_true rfl)) (mj_cln 31 (Nat.le_of_ble_eq_true rfl)) dX11_ticks_79 ?_
      refine mj_iconst (v := 1) C dX11_ticks_80 (by decide) ?_
      refine mj_isub C dX11_ticks_81 ?_
      obtain ⟨m41, hm41, h⟩ := mj_let_o h
      refine mj_bast C (sM1 hB) (mj_okn 31 1897 (Nat.le_of_ble_eq_true rfl) (Nat.le_of_ble_eq_true rfl)) (mj_cln 31 (Nat.le_of_ble_eq_true rfl)) dX11_ticks_82 hm41 ?_
      refine mj_aload_n C dX11_ticks_83 rfl ?_
      refine mj_getr (r := (β, 1)) C lF_X11_7 (sM0 hB) rfl dX11_ticks_84 ?_
      refine mj_bipush (v := 31) C dX11_ticks_87 (by decide) ?_
      refine mj_bald C (sM1 hB) (mj_okn 31 1897 (Nat.le_of_ble_eq_true rfl) (Nat.le_of_ble_eq_true rfl)) (mj_cln 31 (Nat.le_of_ble_eq_true rfl)) dX11_ticks_89 ?_
      refine mj_if_ne (tgt := 97) C dX11_ticks_90 (by decide) (fun c42 => ?_) (fun c42 => ?_)
      · replace h := mj_if_f c42 h
        refine mj_aload_n C dX11_ticks_97 rfl ?_
        obtain ⟨m43, em43, h⟩ := mj_b1_o h
        refine mj_callV0 (av := []) C lM_X11_264 lV_X11_turns (sM0 hB) ⟨_, rfl, rfl⟩ rfl (C_X11_turns hB em43) (mj_rmok hR (by decide) (by decide)) rfl (Nat.le_of_ble_eq_true rfl) dX11_ticks_98 ?_
        cases h
        exact mj_vret C hT dX11_ticks_101 ⟨rfl, rfl, mj_bv _⟩
      · replace h := mj_if_t c42 h
        refine mj_aload_n C dX11_ticks_93 rfl ?_
        obtain ⟨m45, em45, h⟩ := mj_b1_o h
        refine mj_callV0 (av := []) C lM_X11_261 lV_X11_runsOut (sM0 hB) ⟨_, rfl, rfl⟩ rfl (C_X11_runsOut hB em45) (mj_rmok hR (by decide) (by decide)) rfl (Nat.le_of_ble_eq_true rfl) dX11_ticks_94 ?_
        refine mj_aload_n C dX11_ticks_97 rfl ?_
        obtain ⟨m47, em47, h⟩ := mj_b1_o h
        refine mj_callV0 (av := []) C lM_X11_264 lV_X11_turns (sM0 hB) ⟨_, rfl, rfl⟩ rfl (C_X11_turns hB em47) (mj_rmok hR (by decide) (by decide)) rfl (Nat.le_of_ble_eq_true rfl) dX11_ticks_98 ?_
        cases h
        exact mj_vret C hT dX11_ticks_101 ⟨rfl, rfl, mj_bv _⟩
def f_X11_ticksOn_L30 (l1 : Int32) : Nat → Int32 → mj_m → Option (mj_m)
  | 0, _, _ => none
  | n + 1, l2, m => if l1 ≤ l2 then (some m) else (mj_b1 (f_X11_ticks m) (fun m2 => mj_let (l2 + 1) (fun x4 => f_X11_ticksOn_L30 l1 n x4 m2)))
set_option maxHeartbeats 4000000 in
set_option maxRecDepth 20000 in
theorem C_X11_ticksOn_L30 {κ : mj_K} {Q : State → Prop} {β : Nat} {M : mj_M} {l1 : Int32} (C : mj_C κ cX11_ticksOn 3 RX11) (hB : mj_isM (mj_g κ) β) (hR : mj_dp κ 9) : ∀ (n : Nat) (l2 : Int32) (m : mj_m) (mo : mj_m), f_X11_ticksOn_L30 l1 n l2 m = some mo → (mj_R κ Q 45 [some (mj_r (β, 0)), none, none] [] (va_up M β mo)) → mj_R κ Q 30 [some (mj_r (β, 0)), some (.inl l1), some (.inl l2)] [] (va_up M β m) := by
  intro n
  induction n with
  | zero =>
    intro l2 m mo h
    cases h
  | succ n ih =>
    intro l2 m mo h hx45
    rw [f_X11_ticksOn_L30] at h
    refine mj_iload_n C dX11_ticksOn_30 rfl ?_
    refine mj_iload_n C dX11_ticksOn_31 rfl ?_
    refine mj_icmp_ge (tgt := 45) C dX11_ticksOn_32 (by decide) (fun c1 => ?_) (fun c1 => ?_)
    · replace h := mj_if_t c1 h
      cases h
      refine mj_sub ?_ (hx45)
      exact ⟨rfl, trivial⟩
    · replace h := mj_if_f c1 h
      refine mj_aload_n C dX11_ticksOn_35 rfl ?_
      obtain ⟨m2, em2, h⟩ := mj_b1_o h
      refine mj_callV0 (av := []) C lM_X11_267 lV_X11_ticks (sM0 hB) ⟨_, rfl, rfl⟩ rfl (C_X11_ticks hB em2) (mj_rmok hR (by decide) (by decide)) rfl (Nat.le_of_ble_eq_true rfl) dX11_ticksOn_36 ?_
      obtain ⟨x4, hx4, h⟩ := mj_let_o h
      refine mj_iinc (L2 := [some (mj_r (β, 0)), some (.inl l1), some (.inl x4)]) C dX11_ticksOn_39 rfl hx4 rfl ?_
      refine mj_goto (tgt := 30) C dX11_ticksOn_42 (by decide) ?_
      refine mj_sub (L' := [some (mj_r (β, 0)), some (.inl l1), some (.inl x4)]) ⟨rfl, ⟨rfl, ⟨rfl, trivial⟩⟩⟩ ?_
      exact ih _ _ _ h hx45
def f_X11_ticksOn (a1 : Int32) (m : mj_m) : Option (Int32 × mj_m) := mj_let (f_X11_isIn a1 1 60) (fun r5 => if r5 = 0 then (some ((-1), m)) else (if (m 1 11) + a1 ≤ 9999 then (mj_b1 (f_X11_ticksOn_L30 a1 mj_fu 0 m) (fun m9 => some (m9 1 11, m9))) else (some ((-1), m))))
set_option maxHeartbeats 4000000 in
set_option maxRecDepth 20000 in
theorem C_X11_ticksOn {G : mj_G} {β : Nat} {M : mj_M} {a1 : Int32} {m : mj_m} {x0 : Int32} {m0 : mj_m} (hB : mj_isM G β) (h : f_X11_ticksOn a1 m = some (x0, m0)) : mj_S1 yX11_ticksOn cX11_ticksOn 3 (some .int) 9 G [mj_r (β, 0), .inl a1] (va_up M β m) (some (.inl x0)) (va_up M β m0) := by
  refine mj_intro (by decide) (Nat.le_of_ble_eq_true rfl) ?_
  intro κ C hG hR hT
  subst hG
  have C : mj_C κ cX11_ticksOn 3 RX11 := C
  show mj_R κ (mj_F κ (fun r M' => r = (some (.inl x0)) ∧ M' = (va_up M β m0) ∧ mj_bb (some .int) (some (.inl x0)))) 0 [some (mj_r (β, 0)), some (.inl a1), none] [] (va_up M β m)
  unfold f_X11_ticksOn at h
  refine mj_aload_n C dX11_ticksOn_0 rfl ?_
  refine mj_iload_n C dX11_ticksOn_1 rfl ?_
  refine mj_iconst (v := 1) C dX11_ticksOn_2 (by decide) ?_
  refine mj_bipush (v := 60) C dX11_ticksOn_3 (by decide) ?_
  obtain ⟨r5, er5, h⟩ := mj_let_o h
  refine mj_callV1 (av := [.inl a1, .inl 1, .inl 60]) C lM_X11_48 lV_X11_isIn (sM0 hB) ⟨_, rfl, rfl⟩ rfl (C_X11_isIn hB er5) (mj_rmok hR (by decide) (by decide)) rfl (Nat.le_of_ble_eq_true rfl) dX11_ticksOn_5 (fun hb6 => ?_)
  refine mj_if_eq (tgt := 26) C dX11_ticksOn_8 (by decide) (fun c7 => ?_) (fun c7 => ?_)
  · replace h := mj_if_t c7 h
    refine mj_iconst (v := (-1)) C dX11_ticksOn_26 (by decide) ?_
    cases h
    exact mj_iret C hT (vp_nar_int _) dX11_ticksOn_27 ⟨rfl, rfl, mj_bi _⟩
  · replace h := mj_if_f c7 h
    refine mj_aload_n C dX11_ticksOn_11 rfl ?_
    refine mj_getr (r := (β, 1)) C lF_X11_7 (sM0 hB) rfl dX11_ticksOn_12 ?_
    refine mj_bipush (v := 11) C dX11_ticksOn_15 (by decide) ?_
    refine mj_bald C (sM1 hB) (mj_okn 11 1897 (Nat.le_of_ble_eq_true rfl) (Nat.le_of_ble_eq_true rfl)) (mj_cln 11 (Nat.le_of_ble_eq_true rfl)) dX11_ticksOn_17 ?_
    refine mj_iload_n C dX11_ticksOn_18 rfl ?_
    refine mj_iadd C dX11_ticksOn_19 ?_
    refine mj_sipush (v := 9999) C dX11_ticksOn_20 (by decide) ?_
    refine mj_icmp_le (tgt := 28) C dX11_ticksOn_23 (by decide) (fun c8 => ?_) (fun c8 => ?_)
    · replace h := mj_if_t c8 h
      refine mj_iconst (v := 0) C dX11_ticksOn_28 (by decide) ?_
      refine mj_istore_n (L2 := [some (mj_r (β, 0)), some (.inl a1), some (.inl 0)]) C dX11_ticksOn_29 (Nat.le_of_ble_eq_true rfl) rfl ?_
      obtain ⟨m9, hl10, h⟩ := mj_b1_o h
      refine mj_sub (L' := [some (mj_r (β, 0)), some (.inl a1), some (.inl 0)]) ⟨rfl, ⟨rfl, ⟨rfl, trivial⟩⟩⟩ ?_
      refine C_X11_ticksOn_L30 C hB hR _ _ _ _ hl10 ?_
      refine mj_aload_n C dX11_ticksOn_45 rfl ?_
      refine mj_getr (r := (β, 1)) C lF_X11_7 (sM0 hB) rfl dX11_ticksOn_46 ?_
      refine mj_bipush (v := 11) C dX11_ticksOn_49 (by decide) ?_
      refine mj_bald C (sM1 hB) (mj_okn 11 1897 (Nat.le_of_ble_eq_true rfl) (Nat.le_of_ble_eq_true rfl)) (mj_cln 11 (Nat.le_of_ble_eq_true rfl)) dX11_ticksOn_51 ?_
      cases h
      exact mj_iret C hT (vp_nar_int _) dX11_ticksOn_52 ⟨rfl, rfl, mj_bi _⟩
    · replace h := mj_if_f c8 h
      refine mj_iconst (v := (-1)) C dX11_ticksOn_26 (by decide) ?_
      cases h
      exact mj_iret C hT (vp_nar_int _) dX11_ticksOn_27 ⟨rfl, rfl, mj_bi _⟩
def f_X11_tick (a1 : Int32) (m : mj_m) : Option (Int32 × mj_m) := mj_let (mj_wrs m 0 0 0) (fun m1 => mj_b2 (f_X11_ticksOn a1 m1) (fun r2 m3 => some (r2, m3)))
set_option maxHeartbeats 4000000 in
set_option maxRecDepth 20000 in
theorem C_X11_tick {G : mj_G} {β : Nat} {M : mj_M} {a1 : Int32} {m : mj_m} {x0 : Int32} {m0 : mj_m} (hB : mj_isM G β) (h : f_X11_tick a1 m = some (x0, m0)) : mj_S1 yX11_tick cX11_tick 2 (some .int) 10 G [mj_r (β, 0), .inl a1] (va_up M β m) (some (.inl x0)) (va_up M β m0) := by
  refine mj_intro (by decide) (Nat.le_of_ble_eq_true rfl) ?_
  intro κ C hG hR hT
  subst hG
  have C : mj_C κ cX11_tick 2 RX11 := C
  show mj_R κ (mj_F κ (fun r M' => r = (some (.inl x0)) ∧ M' = (va_up M β m0) ∧ mj_bb (some .int) (some (.inl x0)))) 0 [some (mj_r (β, 0)), some (.inl a1)] [] (va_up M β m)
  unfold f_X11_tick at h
  refine mj_aload_n C dX11_tick_0 rfl ?_
  refine mj_iconst (v := 0) C dX11_tick_1 (by decide) ?_
  obtain ⟨m1, hm1, h⟩ := mj_let_o h
  refine mj_bput C lF_X11_41 fP_12_0 (vp_nar_int _) rfl (sM0 hB) rfl dX11_tick_2 hm1 ?_
  refine mj_aload_n C dX11_tick_5 rfl ?_
  refine mj_iload_n C dX11_tick_6 rfl ?_
  obtain ⟨r2, m3, em3, h⟩ := mj_b2_o h
  refine mj_callV1 (av := [.inl a1]) C lM_X11_270 lV_X11_ticksOn (sM0 hB) ⟨_, rfl, rfl⟩ rfl (C_X11_ticksOn hB em3) (mj_rmok hR (by decide) (by decide)) rfl (Nat.le_of_ble_eq_true rfl) dX11_tick_7 (fun hb4 => ?_)
  cases h
  exact mj_iret C hT (vp_nar_int _) dX11_tick_10 ⟨rfl, rfl, mj_bi _⟩
def f_X11_thinks_L2 : Nat → Int32 → mj_m → Option (mj_m)
  | 0, _, _ => none
  | n + 1, l1, m => if 1897 ≤ l1 then (some m) else (mj_chk (mj_ok l1 1897) (mj_chk (mj_ok l1 1897) (mj_let (mj_wrs m 2 (mj_cl l1) (m 1 (mj_cl l1))) (fun m4 => mj_let (l1 + 1) (fun x5 => f_X11_thinks_L2 n x5 m4)))))
set_option maxHeartbeats 4000000 in
set_option maxRecDepth 20000 in
theorem C_X11_thinks_L2 {κ : mj_K} {Q : State → Prop} {β : Nat} {M : mj_M} (C : mj_C κ cX11_thinks 2 RX11) (hB : mj_isM (mj_g κ) β) (hR : mj_dp κ 0) : ∀ (n : Nat) (l1 : Int32) (m : mj_m) (mo : mj_m), f_X11_thinks_L2 n l1 m = some mo → (mj_R κ Q 27 [some (mj_r (β, 0)), none] [] (va_up M β mo)) → mj_R κ Q 2 [some (mj_r (β, 0)), some (.inl l1)] [] (va_up M β m) := by
  intro n
  induction n with
  | zero =>
    intro l1 m mo h
    cases h
  | succ n ih =>
    intro l1 m mo h hx27
    rw [f_X11_thinks_L2] at h
    refine mj_iload_n C dX11_thinks_2 rfl ?_
    refine mj_sipush (v := 1897) C dX11_thinks_3 (by decide) ?_
    refine mj_icmp_ge (tgt := 27) C dX11_thinks_6 (by decide) (fun c1 => ?_) (fun c1 => ?_)
    · replace h := mj_if_t c1 h
      cases h
      refine mj_sub ?_ (hx27)
      exact ⟨rfl, trivial⟩
    · replace h := mj_if_f c1 h
      refine mj_aload_n C dX11_thinks_9 rfl ?_
      refine mj_getr (r := (β, 2)) C lF_X11_13 (sM0 hB) rfl dX11_thinks_10 ?_
      refine mj_iload_n C dX11_thinks_13 rfl ?_
      refine mj_aload_n C dX11_thinks_14 rfl ?_
      refine mj_getr (r := (β, 1)) C lF_X11_7 (sM0 hB) rfl dX11_thinks_15 ?_
      refine mj_iload_n C dX11_thinks_18 rfl ?_
      obtain ⟨k2, h⟩ := mj_chk_o h
      refine mj_bald C (sM1 hB) k2 rfl dX11_thinks_19 ?_
      obtain ⟨k3, h⟩ := mj_chk_o h
      obtain ⟨m4, hm4, h⟩ := mj_let_o h
      refine mj_bast C (sM2 hB) k3 rfl dX11_thinks_20 hm4 ?_
      obtain ⟨x5, hx5, h⟩ := mj_let_o h
      refine mj_iinc (L2 := [some (mj_r (β, 0)), some (.inl x5)]) C dX11_thinks_21 rfl hx5 rfl ?_
      refine mj_goto (tgt := 2) C dX11_thinks_24 (by decide) ?_
      refine mj_sub (L' := [some (mj_r (β, 0)), some (.inl x5)]) ⟨rfl, ⟨rfl, trivial⟩⟩ ?_
      exact ih _ _ _ h hx27
def f_X11_thinks (m : mj_m) : Option (mj_m) := mj_b1 (f_X11_thinks_L2 mj_fu 0 m) (fun m6 => mj_let (mj_wrs m6 1 8 0) (fun m8 => mj_let (mj_wrs m8 1 9 0) (fun m9 => some m9)))
set_option maxHeartbeats 4000000 in
set_option maxRecDepth 20000 in
theorem C_X11_thinks {G : mj_G} {β : Nat} {M : mj_M} {m : mj_m} {m0 : mj_m} (hB : mj_isM G β) (h : f_X11_thinks m = some m0) : mj_S1 yX11_thinks cX11_thinks 2 none 0 G [mj_r (β, 0)] (va_up M β m) none (va_up M β m0) := by
  refine mj_intro (by decide) (Nat.le_of_ble_eq_true rfl) ?_
  intro κ C hG hR hT
  subst hG
  have C : mj_C κ cX11_thinks 2 RX11 := C
  show mj_R κ (mj_F κ (fun r M' => r = none ∧ M' = (va_up M β m0) ∧ mj_bb none none)) 0 [some (mj_r (β, 0)), none] [] (va_up M β m)
  unfold f_X11_thinks at h
  refine mj_iconst (v := 0) C dX11_thinks_0 (by decide) ?_
  refine mj_istore_n (L2 := [some (mj_r (β, 0)), some (.inl 0)]) C dX11_thinks_1 (Nat.le_of_ble_eq_true rfl) rfl ?_
  obtain ⟨m6, hl7, h⟩ := mj_b1_o h
  refine mj_sub (L' := [some (mj_r (β, 0)), some (.inl 0)]) ⟨rfl, ⟨rfl, trivial⟩⟩ ?_
  refine C_X11_thinks_L2 C hB hR _ _ _ _ hl7 ?_
  refine mj_aload_n C dX11_thinks_27 rfl ?_
  refine mj_getr (r := (β, 1)) C lF_X11_7 (sM0 hB) rfl dX11_thinks_28 ?_
  refine mj_bipush (v := 8) C dX11_thinks_31 (by decide) ?_
  refine mj_iconst (v := 0) C dX11_thinks_33 (by decide) ?_
  obtain ⟨m8, hm8, h⟩ := mj_let_o h
  refine mj_bast C (sM1 hB) (mj_okn 8 1897 (Nat.le_of_ble_eq_true rfl) (Nat.le_of_ble_eq_true rfl)) (mj_cln 8 (Nat.le_of_ble_eq_true rfl)) dX11_thinks_34 hm8 ?_
  refine mj_aload_n C dX11_thinks_35 rfl ?_
  refine mj_getr (r := (β, 1)) C lF_X11_7 (sM0 hB) rfl dX11_thinks_36 ?_
  refine mj_bipush (v := 9) C dX11_thinks_39 (by decide) ?_
  refine mj_iconst (v := 0) C dX11_thinks_41 (by decide) ?_
  obtain ⟨m9, hm9, h⟩ := mj_let_o h
  refine mj_bast C (sM1 hB) (mj_okn 9 1897 (Nat.le_of_ble_eq_true rfl) (Nat.le_of_ble_eq_true rfl)) (mj_cln 9 (Nat.le_of_ble_eq_true rfl)) dX11_thinks_42 hm9 ?_
  cases h
  exact mj_vret C hT dX11_thinks_43 ⟨rfl, rfl, mj_bv _⟩
def f_X11_forgets_L2 : Nat → Int32 → mj_m → Option (mj_m)
  | 0, _, _ => none
  | n + 1, l1, m => if 1897 ≤ l1 then (some m) else (mj_chk (mj_ok l1 1897) (mj_chk (mj_ok l1 1897) (mj_let (mj_wrs m 1 (mj_cl l1) (m 2 (mj_cl l1))) (fun m4 => mj_let (l1 + 1) (fun x5 => f_X11_forgets_L2 n x5 m4)))))
set_option maxHeartbeats 4000000 in
set_option maxRecDepth 20000 in
theorem C_X11_forgets_L2 {κ : mj_K} {Q : State → Prop} {β : Nat} {M : mj_M} (C : mj_C κ cX11_forgets 2 RX11) (hB : mj_isM (mj_g κ) β) (hR : mj_dp κ 0) : ∀ (n : Nat) (l1 : Int32) (m : mj_m) (mo : mj_m), f_X11_forgets_L2 n l1 m = some mo → (mj_R κ Q 27 [none, none] [] (va_up M β mo)) → mj_R κ Q 2 [some (mj_r (β, 0)), some (.inl l1)] [] (va_up M β m) := by
  intro n
  induction n with
  | zero =>
    intro l1 m mo h
    cases h
  | succ n ih =>
    intro l1 m mo h hx27
    rw [f_X11_forgets_L2] at h
    refine mj_iload_n C dX11_forgets_2 rfl ?_
    refine mj_sipush (v := 1897) C dX11_forgets_3 (by decide) ?_
    refine mj_icmp_ge (tgt := 27) C dX11_forgets_6 (by decide) (fun c1 => ?_) (fun c1 => ?_)
    · replace h := mj_if_t c1 h
      cases h
      refine mj_sub ?_ (hx27)
      exact trivial
    · replace h := mj_if_f c1 h
      refine mj_aload_n C dX11_forgets_9 rfl ?_
      refine mj_getr (r := (β, 1)) C lF_X11_7 (sM0 hB) rfl dX11_forgets_10 ?_
      refine mj_iload_n C dX11_forgets_13 rfl ?_
      refine mj_aload_n C dX11_forgets_14 rfl ?_
      refine mj_getr (r := (β, 2)) C lF_X11_13 (sM0 hB) rfl dX11_forgets_15 ?_
      refine mj_iload_n C dX11_forgets_18 rfl ?_
      obtain ⟨k2, h⟩ := mj_chk_o h
      refine mj_bald C (sM2 hB) k2 rfl dX11_forgets_19 ?_
      obtain ⟨k3, h⟩ := mj_chk_o h
      obtain ⟨m4, hm4, h⟩ := mj_let_o h
      refine mj_bast C (sM1 hB) k3 rfl dX11_forgets_20 hm4 ?_
      obtain ⟨x5, hx5, h⟩ := mj_let_o h
      refine mj_iinc (L2 := [some (mj_r (β, 0)), some (.inl x5)]) C dX11_forgets_21 rfl hx5 rfl ?_
      refine mj_goto (tgt := 2) C dX11_forgets_24 (by decide) ?_
      refine mj_sub (L' := [some (mj_r (β, 0)), some (.inl x5)]) ⟨rfl, ⟨rfl, trivial⟩⟩ ?_
      exact ih _ _ _ h hx27
def f_X11_forgets (m : mj_m) : Option (mj_m) := mj_b1 (f_X11_forgets_L2 mj_fu 0 m) (fun m6 => some m6)
set_option maxHeartbeats 4000000 in
set_option maxRecDepth 20000 in
theorem C_X11_forgets {G : mj_G} {β : Nat} {M : mj_M} {m : mj_m} {m0 : mj_m} (hB : mj_isM G β) (h : f_X11_forgets m = some m0) : mj_S1 yX11_forgets cX11_forgets 2 none 0 G [mj_r (β, 0)] (va_up M β m) none (va_up M β m0) := by
  refine mj_intro (by decide) (Nat.le_of_ble_eq_true rfl) ?_
  intro κ C hG hR hT
  subst hG
  have C : mj_C κ cX11_forgets 2 RX11 := C
  show mj_R κ (mj_F κ (fun r M' => r = none ∧ M' = (va_up M β m0) ∧ mj_bb none none)) 0 [some (mj_r (β, 0)), none] [] (va_up M β m)
  unfold f_X11_forgets at h
  refine mj_iconst (v := 0) C dX11_forgets_0 (by decide) ?_
  refine mj_istore_n (L2 := [some (mj_r (β, 0)), some (.inl 0)]) C dX11_forgets_1 (Nat.le_of_ble_eq_true rfl) rfl ?_
  obtain ⟨m6, hl7, h⟩ := mj_b1_o h
  refine mj_sub (L' := [some (mj_r (β, 0)), some (.inl 0)]) ⟨rfl, ⟨rfl, trivial⟩⟩ ?_
  refine C_X11_forgets_L2 C hB hR _ _ _ _ hl7 ?_
  cases h
  exact mj_vret C hT dX11_forgets_27 ⟨rfl, rfl, mj_bv _⟩
def f_X11_ticksTaking_L4 : Nat → mj_m → Option (mj_m)
  | 0, _ => none
  | n + 1, m => if m 1 18 ≤ 0 then (some m) else (mj_b2 (f_X11_takesOne m) (fun r2 m3 => f_X11_ticksTaking_L4 n m3))
set_option maxHeartbeats 4000000 in
set_option maxRecDepth 20000 in
theorem C_X11_ticksTaking_L4 {κ : mj_K} {Q : State → Prop} {β : Nat} {M : mj_M} (C : mj_C κ cX11_ticksTaking 1 RX11) (hB : mj_isM (mj_g κ) β) (hR : mj_dp κ 9) : ∀ (n : Nat) (m : mj_m) (mo : mj_m), f_X11_ticksTaking_L4 n m = some mo → (mj_R κ Q 22 [none] [] (va_up M β mo)) → mj_R κ Q 4 [some (mj_r (β, 0))] [] (va_up M β m) := by
  intro n
  induction n with
  | zero =>
    intro m mo h
    cases h
  | succ n ih =>
    intro m mo h hx22
    rw [f_X11_ticksTaking_L4] at h
    refine mj_aload_n C dX11_ticksTaking_4 rfl ?_
    refine mj_getr (r := (β, 1)) C lF_X11_7 (sM0 hB) rfl dX11_ticksTaking_5 ?_
    refine mj_bipush (v := 18) C dX11_ticksTaking_8 (by decide) ?_
    refine mj_bald C (sM1 hB) (mj_okn 18 1897 (Nat.le_of_ble_eq_true rfl) (Nat.le_of_ble_eq_true rfl)) (mj_cln 18 (Nat.le_of_ble_eq_true rfl)) dX11_ticksTaking_10 ?_
    refine mj_if_le (tgt := 22) C dX11_ticksTaking_11 (by decide) (fun c1 => ?_) (fun c1 => ?_)
    · replace h := mj_if_t c1 h
      cases h
      refine mj_sub ?_ (hx22)
      exact trivial
    · replace h := mj_if_f c1 h
      refine mj_aload_n C dX11_ticksTaking_14 rfl ?_
      obtain ⟨r2, m3, em3, h⟩ := mj_b2_o h
      refine mj_callV1 (av := []) C lM_X11_200 lV_X11_takesOne (sM0 hB) ⟨_, rfl, rfl⟩ rfl (C_X11_takesOne hB em3) (mj_rmok hR (by decide) (by decide)) rfl (Nat.le_of_ble_eq_true rfl) dX11_ticksTaking_15 (fun hb4 => ?_)
      refine mj_pop C dX11_ticksTaking_18 ?_
      refine mj_goto (tgt := 4) C dX11_ticksTaking_19 (by decide) ?_
      refine mj_sub (L' := [some (mj_r (β, 0))]) ⟨rfl, trivial⟩ ?_
      exact ih _ _ h hx22
def f_X11_ticksTaking (m : mj_m) : Option (mj_m) := mj_b1 (f_X11_ticks m) (fun m5 => mj_b1 (f_X11_ticksTaking_L4 mj_fu m5) (fun m7 => some m7))
set_option maxHeartbeats 4000000 in
set_option maxRecDepth 20000 in
theorem C_X11_ticksTaking {G : mj_G} {β : Nat} {M : mj_M} {m : mj_m} {m0 : mj_m} (hB : mj_isM G β) (h : f_X11_ticksTaking m = some m0) : mj_S1 yX11_ticksTaking cX11_ticksTaking 1 none 9 G [mj_r (β, 0)] (va_up M β m) none (va_up M β m0) := by
  refine mj_intro (by decide) (Nat.le_of_ble_eq_true rfl) ?_
  intro κ C hG hR hT
  subst hG
  have C : mj_C κ cX11_ticksTaking 1 RX11 := C
  show mj_R κ (mj_F κ (fun r M' => r = none ∧ M' = (va_up M β m0) ∧ mj_bb none none)) 0 [some (mj_r (β, 0))] [] (va_up M β m)
  unfold f_X11_ticksTaking at h
  refine mj_aload_n C dX11_ticksTaking_0 rfl ?_
  obtain ⟨m5, em5, h⟩ := mj_b1_o h
  refine mj_callV0 (av := []) C lM_X11_267 lV_X11_ticks (sM0 hB) ⟨_, rfl, rfl⟩ rfl (C_X11_ticks hB em5) (mj_rmok hR (by decide) (by decide)) rfl (Nat.le_of_ble_eq_true rfl) dX11_ticksTaking_1 ?_
  obtain ⟨m7, hl8, h⟩ := mj_b1_o h
  refine mj_sub (L' := [some (mj_r (β, 0))]) ⟨rfl, trivial⟩ ?_
  refine C_X11_ticksTaking_L4 C hB hR _ _ _ hl8 ?_
  cases h
  exact mj_vret C hT dX11_ticksTaking_22 ⟨rfl, rfl, mj_bv _⟩
def f_X11_isThrough (m : mj_m) : Int32 := if m 1 24 = 0 then (if m 1 25 = 0 then (mj_let (f_X11_machine m) (fun r3 => if r3 = 1 then (1) else (0))) else (0)) else (0)
set_option maxHeartbeats 4000000 in
set_option maxRecDepth 20000 in
theorem C_X11_isThrough {G : mj_G} {β : Nat} {M : mj_M} {m : mj_m} {x0 : Int32} (hB : mj_isM G β) (h : f_X11_isThrough m = x0) : mj_S1 yX11_isThrough cX11_isThrough 1 (some .boolean) 1 G [mj_r (β, 0)] (va_up M β m) (some (.inl x0)) (va_up M β m) := by
  refine mj_intro (by decide) (Nat.le_of_ble_eq_true rfl) ?_
  intro κ C hG hR hT
  subst hG
  have C : mj_C κ cX11_isThrough 1 RX11 := C
  show mj_R κ (mj_F κ (fun r M' => r = (some (.inl x0)) ∧ M' = (va_up M β m) ∧ mj_bb (some .boolean) (some (.inl x0)))) 0 [some (mj_r (β, 0))] [] (va_up M β m)
  unfold f_X11_isThrough at h
  refine mj_aload_n C dX11_isThrough_0 rfl ?_
  refine mj_getr (r := (β, 1)) C lF_X11_7 (sM0 hB) rfl dX11_isThrough_1 ?_
  refine mj_bipush (v := 24) C dX11_isThrough_4 (by decide) ?_
  refine mj_bald C (sM1 hB) (mj_okn 24 1897 (Nat.le_of_ble_eq_true rfl) (Nat.le_of_ble_eq_true rfl)) (mj_cln 24 (Nat.le_of_ble_eq_true rfl)) dX11_isThrough_6 ?_
  refine mj_if_ne (tgt := 32) C dX11_isThrough_7 (by decide) (fun c1 => ?_) (fun c1 => ?_)
  · replace h := mj_if_f c1 h
    refine mj_iconst (v := 0) C dX11_isThrough_32 (by decide) ?_
    cases h
    exact mj_iret C hT (mj_nb mj_b0) dX11_isThrough_33 ⟨rfl, rfl, mj_b0⟩
  · replace h := mj_if_t c1 h
    refine mj_aload_n C dX11_isThrough_10 rfl ?_
    refine mj_getr (r := (β, 1)) C lF_X11_7 (sM0 hB) rfl dX11_isThrough_11 ?_
    refine mj_bipush (v := 25) C dX11_isThrough_14 (by decide) ?_
    refine mj_bald C (sM1 hB) (mj_okn 25 1897 (Nat.le_of_ble_eq_true rfl) (Nat.le_of_ble_eq_true rfl)) (mj_cln 25 (Nat.le_of_ble_eq_true rfl)) dX11_isThrough_16 ?_
    refine mj_if_ne (tgt := 32) C dX11_isThrough_17 (by decide) (fun c2 => ?_) (fun c2 => ?_)
    · replace h := mj_if_f c2 h
      refine mj_iconst (v := 0) C dX11_isThrough_32 (by decide) ?_
      cases h
      exact mj_iret C hT (mj_nb mj_b0) dX11_isThrough_33 ⟨rfl, rfl, mj_b0⟩
    · replace h := mj_if_t c2 h
      refine mj_aload_n C dX11_isThrough_20 rfl ?_
      obtain ⟨r3, er3, h⟩ := mj_let_o h
      refine mj_callV1 (av := []) C lM_X11_87 lV_X11_machine (sM0 hB) ⟨_, rfl, rfl⟩ rfl (C_X11_machine hB er3) (mj_rmok hR (by decide) (by decide)) rfl (Nat.le_of_ble_eq_true rfl) dX11_isThrough_21 (fun hb4 => ?_)
      refine mj_iconst (v := 1) C dX11_isThrough_24 (by decide) ?_
      refine mj_icmp_ne (tgt := 32) C dX11_isThrough_25 (by decide) (fun c5 => ?_) (fun c5 => ?_)
      · replace h := mj_if_f c5 h
        refine mj_iconst (v := 0) C dX11_isThrough_32 (by decide) ?_
        cases h
        exact mj_iret C hT (mj_nb mj_b0) dX11_isThrough_33 ⟨rfl, rfl, mj_b0⟩
      · replace h := mj_if_t c5 h
        refine mj_iconst (v := 1) C dX11_isThrough_28 (by decide) ?_
        refine mj_goto (tgt := 33) C dX11_isThrough_29 (by decide) ?_
        cases h
        exact mj_iret C hT (mj_nb mj_b1') dX11_isThrough_33 ⟨rfl, rfl, mj_b1'⟩
def f_X11_soon_L11 : Nat → Int32 → mj_m → Option (Int32 × mj_m)
  | 0, _, _ => none
  | n + 1, l1, m => if 400 ≤ l1 then (some (l1, m)) else (mj_let (f_X11_isThrough m) (fun r2 => if r2 = 0 then (mj_b1 (f_X11_ticksTaking m) (fun m5 => mj_let (l1 + 1) (fun x7 => f_X11_soon_L11 n x7 m5))) else (some (l1, m))))
set_option maxHeartbeats 4000000 in
set_option maxRecDepth 20000 in
theorem C_X11_soon_L11 {κ : mj_K} {Q : State → Prop} {β : Nat} {M : mj_M} (C : mj_C κ cX11_soon 3 RX11) (hB : mj_isM (mj_g κ) β) (hR : mj_dp κ 10) : ∀ (n : Nat) (l1 : Int32) (m : mj_m) (o1 : Int32) (mo : mj_m), f_X11_soon_L11 n l1 m = some (o1, mo) → (mj_R κ Q 36 [some (mj_r (β, 0)), some (.inl o1), none] [] (va_up M β mo)) → mj_R κ Q 11 [some (mj_r (β, 0)), some (.inl l1), none] [] (va_up M β m) := by
  intro n
  induction n with
  | zero =>
    intro l1 m o1 mo h
    cases h
  | succ n ih =>
    intro l1 m o1 mo h hx36
    rw [f_X11_soon_L11] at h
    refine mj_iload_n C dX11_soon_11 rfl ?_
    refine mj_sipush (v := 400) C dX11_soon_12 (by decide) ?_
    refine mj_icmp_ge (tgt := 36) C dX11_soon_15 (by decide) (fun c1 => ?_) (fun c1 => ?_)
    · replace h := mj_if_t c1 h
      cases h
      refine mj_sub ?_ (hx36)
      exact ⟨rfl, ⟨rfl, trivial⟩⟩
    · replace h := mj_if_f c1 h
      refine mj_aload_n C dX11_soon_18 rfl ?_
      obtain ⟨r2, er2, h⟩ := mj_let_o h
      refine mj_callV1 (av := []) C lM_X11_276 lV_X11_isThrough (sM0 hB) ⟨_, rfl, rfl⟩ rfl (C_X11_isThrough hB er2) (mj_rmok hR (by decide) (by decide)) rfl (Nat.le_of_ble_eq_true rfl) dX11_soon_19 (fun hb3 => ?_)
      refine mj_if_ne (tgt := 36) C dX11_soon_22 (by decide) (fun c4 => ?_) (fun c4 => ?_)
      · replace h := mj_if_f c4 h
        cases h
        refine mj_sub ?_ (hx36)
        exact ⟨rfl, ⟨rfl, trivial⟩⟩
      · replace h := mj_if_t c4 h
        refine mj_aload_n C dX11_soon_25 rfl ?_
        obtain ⟨m5, em5, h⟩ := mj_b1_o h
        refine mj_callV0 (av := []) C lM_X11_279 lV_X11_ticksTaking (sM0 hB) ⟨_, rfl, rfl⟩ rfl (C_X11_ticksTaking hB em5) (mj_rmok hR (by decide) (by decide)) rfl (Nat.le_of_ble_eq_true rfl) dX11_soon_26 ?_
        refine mj_iload_n C dX11_soon_29 rfl ?_
        refine mj_iconst (v := 1) C dX11_soon_30 (by decide) ?_
        refine mj_iadd C dX11_soon_31 ?_
        obtain ⟨x7, hx7, h⟩ := mj_let_o h
        refine mj_nm hx7 ?_
        refine mj_istore_n (L2 := [some (mj_r (β, 0)), some (.inl x7), none]) C dX11_soon_32 (Nat.le_of_ble_eq_true rfl) rfl ?_
        refine mj_goto (tgt := 11) C dX11_soon_33 (by decide) ?_
        refine mj_sub (L' := [some (mj_r (β, 0)), some (.inl x7), none]) ⟨rfl, ⟨rfl, trivial⟩⟩ ?_
        exact ih _ _ _ _ h hx36
def f_X11_soon_J36 (l1 : Int32) (m : mj_m) : Option (Int32 × mj_m) := mj_let (f_X11_isThrough m) (fun r8 => if r8 = 0 then (mj_b1 (f_X11_forgets m) (fun m11 => some ((-1), m11))) else (mj_b1 (f_X11_forgets m) (fun m13 => some (l1, m13))))
set_option maxHeartbeats 4000000 in
set_option maxRecDepth 20000 in
theorem C_X11_soon_J36 {κ : mj_K} {β : Nat} {M : mj_M} {l1 : Int32} {m : mj_m} {x0 : Int32} {m0 : mj_m} (C : mj_C κ cX11_soon 3 RX11) (hB : mj_isM (mj_g κ) β) (hR : mj_dp κ 10) (hT : mj_rt κ = (some .int)) (h : f_X11_soon_J36 l1 m = some (x0, m0)) : mj_R κ (mj_F κ (fun r M' => r = (some (.inl x0)) ∧ M' = (va_up M β m0) ∧ mj_bb (some .int) (some (.inl x0)))) 36 [some (mj_r (β, 0)), some (.inl l1), none] [] (va_up M β m) := by
  unfold f_X11_soon_J36 at h
  refine mj_aload_n C dX11_soon_36 rfl ?_
  obtain ⟨r8, er8, h⟩ := mj_let_o h
  refine mj_callV1 (av := []) C lM_X11_276 lV_X11_isThrough (sM0 hB) ⟨_, rfl, rfl⟩ rfl (C_X11_isThrough hB er8) (mj_rmok hR (by decide) (by decide)) rfl (Nat.le_of_ble_eq_true rfl) dX11_soon_37 (fun hb9 => ?_)
  refine mj_if_eq (tgt := 47) C dX11_soon_40 (by decide) (fun c10 => ?_) (fun c10 => ?_)
  · replace h := mj_if_t c10 h
    refine mj_iconst (v := (-1)) C dX11_soon_47 (by decide) ?_
    refine mj_istore_n (L2 := [some (mj_r (β, 0)), some (.inl l1), some (.inl (-1))]) C dX11_soon_48 (Nat.le_of_ble_eq_true rfl) rfl ?_
    refine mj_aload_n C dX11_soon_49 rfl ?_
    obtain ⟨m11, em11, h⟩ := mj_b1_o h
    refine mj_callV0 (av := []) C lM_X11_282 lV_X11_forgets (sM0 hB) ⟨_, rfl, rfl⟩ rfl (C_X11_forgets hB em11) (mj_rmok hR (by decide) (by decide)) rfl (Nat.le_of_ble_eq_true rfl) dX11_soon_50 ?_
    refine mj_iload_n C dX11_soon_53 rfl ?_
    cases h
    exact mj_iret C hT (vp_nar_int _) dX11_soon_54 ⟨rfl, rfl, mj_bi _⟩
  · replace h := mj_if_f c10 h
    refine mj_iload_n C dX11_soon_43 rfl ?_
    refine mj_goto (tgt := 48) C dX11_soon_44 (by decide) ?_
    refine mj_istore_n (L2 := [some (mj_r (β, 0)), some (.inl l1), some (.inl l1)]) C dX11_soon_48 (Nat.le_of_ble_eq_true rfl) rfl ?_
    refine mj_aload_n C dX11_soon_49 rfl ?_
    obtain ⟨m13, em13, h⟩ := mj_b1_o h
    refine mj_callV0 (av := []) C lM_X11_282 lV_X11_forgets (sM0 hB) ⟨_, rfl, rfl⟩ rfl (C_X11_forgets hB em13) (mj_rmok hR (by decide) (by decide)) rfl (Nat.le_of_ble_eq_true rfl) dX11_soon_50 ?_
    refine mj_iload_n C dX11_soon_53 rfl ?_
    cases h
    exact mj_iret C hT (vp_nar_int _) dX11_soon_54 ⟨rfl, rfl, mj_bi _⟩
def f_X11_soon (m : mj_m) : Option (Int32 × mj_m) := mj_let (mj_wrs m 0 0 0) (fun m15 => mj_b1 (f_X11_thinks m15) (fun m16 => mj_b2 (f_X11_soon_L11 mj_fu 0 m16) (fun x18 m19 => f_X11_soon_J36 x18 m19)))
set_option maxHeartbeats 4000000 in
set_option maxRecDepth 20000 in
theorem C_X11_soon {G : mj_G} {β : Nat} {M : mj_M} {m : mj_m} {x0 : Int32} {m0 : mj_m} (hB : mj_isM G β) (h : f_X11_soon m = some (x0, m0)) : mj_S1 yX11_soon cX11_soon 3 (some .int) 10 G [mj_r (β, 0)] (va_up M β m) (some (.inl x0)) (va_up M β m0) := by
  refine mj_intro (by decide) (Nat.le_of_ble_eq_true rfl) ?_
  intro κ C hG hR hT
  subst hG
  have C : mj_C κ cX11_soon 3 RX11 := C
  show mj_R κ (mj_F κ (fun r M' => r = (some (.inl x0)) ∧ M' = (va_up M β m0) ∧ mj_bb (some .int) (some (.inl x0)))) 0 [some (mj_r (β, 0)), none, none] [] (va_up M β m)
  unfold f_X11_soon at h
  refine mj_aload_n C dX11_soon_0 rfl ?_
  refine mj_iconst (v := 0) C dX11_soon_1 (by decide) ?_
  obtain ⟨m15, hm15, h⟩ := mj_let_o h
  refine mj_bput C lF_X11_41 fP_12_0 (vp_nar_int _) rfl (sM0 hB) rfl dX11_soon_2 hm15 ?_
  refine mj_aload_n C dX11_soon_5 rfl ?_
  obtain ⟨m16, em16, h⟩ := mj_b1_o h
  refine mj_callV0 (av := []) C lM_X11_273 lV_X11_thinks (sM0 hB) ⟨_, rfl, rfl⟩ rfl (C_X11_thinks hB em16) (mj_rmok hR (by decide) (by decide)) rfl (Nat.le_of_ble_eq_true rfl) dX11_soon_6 ?_
  refine mj_iconst (v := 0) C dX11_soon_9 (by decide) ?_
  refine mj_istore_n (L2 := [some (mj_r (β, 0)), some (.inl 0), none]) C dX11_soon_10 (Nat.le_of_ble_eq_true rfl) rfl ?_
  obtain ⟨x18, m19, hl20, h⟩ := mj_b2_o h
  refine mj_sub (L' := [some (mj_r (β, 0)), some (.inl 0), none]) ⟨rfl, ⟨rfl, trivial⟩⟩ ?_
  refine C_X11_soon_L11 C hB hR _ _ _ _ _ hl20 ?_
  refine mj_sub (L' := [some (mj_r (β, 0)), some (.inl x18), none]) ⟨rfl, ⟨rfl, trivial⟩⟩ ?_
  exact C_X11_soon_J36 C hB hR hT h
def f_X11_leads_L57 : Nat → Int32 → mj_m → Option (mj_m)
  | 0, _, _ => none
  | n + 1, l2, m => if 100 ≤ l2 then (some m) else (mj_b1 (f_X11_ticksTaking m) (fun m2 => mj_let (l2 + 1) (fun x4 => f_X11_leads_L57 n x4 m2)))
set_option maxHeartbeats 4000000 in
set_option maxRecDepth 20000 in
theorem C_X11_leads_L57 {κ : mj_K} {Q : State → Prop} {β : Nat} {M : mj_M} (C : mj_C κ cX11_leads 3 RX11) (hB : mj_isM (mj_g κ) β) (hR : mj_dp κ 10) : ∀ (n : Nat) (l2 : Int32) (m : mj_m) (mo : mj_m), f_X11_leads_L57 n l2 m = some mo → (mj_R κ Q 73 [some (mj_r (β, 0)), none, none] [] (va_up M β mo)) → mj_R κ Q 57 [some (mj_r (β, 0)), none, some (.inl l2)] [] (va_up M β m) := by
  intro n
  induction n with
  | zero =>
    intro l2 m mo h
    cases h
  | succ n ih =>
    intro l2 m mo h hx73
    rw [f_X11_leads_L57] at h
    refine mj_iload_n C dX11_leads_57 rfl ?_
    refine mj_bipush (v := 100) C dX11_leads_58 (by decide) ?_
    refine mj_icmp_ge (tgt := 73) C dX11_leads_60 (by decide) (fun c1 => ?_) (fun c1 => ?_)
    · replace h := mj_if_t c1 h
      cases h
      refine mj_sub ?_ (hx73)
      exact ⟨rfl, trivial⟩
    · replace h := mj_if_f c1 h
      refine mj_aload_n C dX11_leads_63 rfl ?_
      obtain ⟨m2, em2, h⟩ := mj_b1_o h
      refine mj_callV0 (av := []) C lM_X11_279 lV_X11_ticksTaking (sM0 hB) ⟨_, rfl, rfl⟩ rfl (C_X11_ticksTaking hB em2) (mj_rmok hR (by decide) (by decide)) rfl (Nat.le_of_ble_eq_true rfl) dX11_leads_64 ?_
      obtain ⟨x4, hx4, h⟩ := mj_let_o h
      refine mj_iinc (L2 := [some (mj_r (β, 0)), none, some (.inl x4)]) C dX11_leads_67 rfl hx4 rfl ?_
      refine mj_goto (tgt := 57) C dX11_leads_70 (by decide) ?_
      refine mj_sub (L' := [some (mj_r (β, 0)), none, some (.inl x4)]) ⟨rfl, ⟨rfl, trivial⟩⟩ ?_
      exact ih _ _ _ h hx73
def f_X11_leads_J55 (m : mj_m) : Option (Int32 × mj_m) := mj_b1 (f_X11_leads_L57 mj_fu 0 m) (fun m5 => mj_let (f_X11_machine m5) (fun r7 => if r7 = 1 then (if m5 1 14 = 0 then (if m5 1 25 = 0 then (if m5 1 22 = m5 1 13 then (some (1, m5)) else (some (0, m5))) else (some (0, m5))) else (some (0, m5))) else (some (0, m5))))
set_option maxHeartbeats 4000000 in
set_option maxRecDepth 20000 in
theorem C_X11_leads_J55 {κ : mj_K} {β : Nat} {M : mj_M} {m : mj_m} {x0 : Int32} {m0 : mj_m} (C : mj_C κ cX11_leads 3 RX11) (hB : mj_isM (mj_g κ) β) (hR : mj_dp κ 10) (hT : mj_rt κ = (some .boolean)) (h : f_X11_leads_J55 m = some (x0, m0)) : mj_R κ (mj_F κ (fun r M' => r = (some (.inl x0)) ∧ M' = (va_up M β m0) ∧ mj_bb (some .boolean) (some (.inl x0)))) 55 [some (mj_r (β, 0)), none, none] [] (va_up M β m) := by
  unfold f_X11_leads_J55 at h
  refine mj_iconst (v := 0) C dX11_leads_55 (by decide) ?_
  refine mj_istore_n (L2 := [some (mj_r (β, 0)), none, some (.inl 0)]) C dX11_leads_56 (Nat.le_of_ble_eq_true rfl) rfl ?_
  obtain ⟨m5, hl6, h⟩ := mj_b1_o h
  refine mj_sub (L' := [some (mj_r (β, 0)), none, some (.inl 0)]) ⟨rfl, ⟨rfl, trivial⟩⟩ ?_
  refine C_X11_leads_L57 C hB hR _ _ _ _ hl6 ?_
  refine mj_aload_n C dX11_leads_73 rfl ?_
  obtain ⟨r7, er7, h⟩ := mj_let_o h
  refine mj_callV1 (av := []) C lM_X11_87 lV_X11_machine (sM0 hB) ⟨_, rfl, rfl⟩ rfl (C_X11_machine hB er7) (mj_rmok hR (by decide) (by decide)) rfl (Nat.le_of_ble_eq_true rfl) dX11_leads_74 (fun hb8 => ?_)
  refine mj_iconst (v := 1) C dX11_leads_77 (by decide) ?_
  refine mj_icmp_ne (tgt := 122) C dX11_leads_78 (by decide) (fun c9 => ?_) (fun c9 => ?_)
  · replace h := mj_if_f c9 h
    refine mj_iconst (v := 0) C dX11_leads_122 (by decide) ?_
    cases h
    exact mj_iret C hT (mj_nb mj_b0) dX11_leads_123 ⟨rfl, rfl, mj_b0⟩
  · replace h := mj_if_t c9 h
    refine mj_aload_n C dX11_leads_81 rfl ?_
    refine mj_getr (r := (β, 1)) C lF_X11_7 (sM0 hB) rfl dX11_leads_82 ?_
    refine mj_bipush (v := 14) C dX11_leads_85 (by decide) ?_
    refine mj_bald C (sM1 hB) (mj_okn 14 1897 (Nat.le_of_ble_eq_true rfl) (Nat.le_of_ble_eq_true rfl)) (mj_cln 14 (Nat.le_of_ble_eq_true rfl)) dX11_leads_87 ?_
    refine mj_if_ne (tgt := 122) C dX11_leads_88 (by decide) (fun c10 => ?_) (fun c10 => ?_)
    · replace h := mj_if_f c10 h
      refine mj_iconst (v := 0) C dX11_leads_122 (by decide) ?_
      cases h
      exact mj_iret C hT (mj_nb mj_b0) dX11_leads_123 ⟨rfl, rfl, mj_b0⟩
    · replace h := mj_if_t c10 h
      refine mj_aload_n C dX11_leads_91 rfl ?_
      refine mj_getr (r := (β, 1)) C lF_X11_7 (sM0 hB) rfl dX11_leads_92 ?_
      refine mj_bipush (v := 25) C dX11_leads_95 (by decide) ?_
      refine mj_bald C (sM1 hB) (mj_okn 25 1897 (Nat.le_of_ble_eq_true rfl) (Nat.le_of_ble_eq_true rfl)) (mj_cln 25 (Nat.le_of_ble_eq_true rfl)) dX11_leads_97 ?_
      refine mj_if_ne (tgt := 122) C dX11_leads_98 (by decide) (fun c11 => ?_) (fun c11 => ?_)
      · replace h := mj_if_f c11 h
        refine mj_iconst (v := 0) C dX11_leads_122 (by decide) ?_
        cases h
        exact mj_iret C hT (mj_nb mj_b0) dX11_leads_123 ⟨rfl, rfl, mj_b0⟩
      · replace h := mj_if_t c11 h
        refine mj_aload_n C dX11_leads_101 rfl ?_
        refine mj_getr (r := (β, 1)) C lF_X11_7 (sM0 hB) rfl dX11_leads_102 ?_
        refine mj_bipush (v := 22) C dX11_leads_105 (by decide) ?_
        refine mj_bald C (sM1 hB) (mj_okn 22 1897 (Nat.le_of_ble_eq_true rfl) (Nat.le_of_ble_eq_true rfl)) (mj_cln 22 (Nat.le_of_ble_eq_true rfl)) dX11_leads_107 ?_
        refine mj_aload_n C dX11_leads_108 rfl ?_
        refine mj_getr (r := (β, 1)) C lF_X11_7 (sM0 hB) rfl dX11_leads_109 ?_
        refine mj_bipush (v := 13) C dX11_leads_112 (by decide) ?_
        refine mj_bald C (sM1 hB) (mj_okn 13 1897 (Nat.le_of_ble_eq_true rfl) (Nat.le_of_ble_eq_true rfl)) (mj_cln 13 (Nat.le_of_ble_eq_true rfl)) dX11_leads_114 ?_
        refine mj_icmp_ne (tgt := 122) C dX11_leads_115 (by decide) (fun c12 => ?_) (fun c12 => ?_)
        · replace h := mj_if_f c12 h
          refine mj_iconst (v := 0) C dX11_leads_122 (by decide) ?_
          cases h
          exact mj_iret C hT (mj_nb mj_b0) dX11_leads_123 ⟨rfl, rfl, mj_b0⟩
        · replace h := mj_if_t c12 h
          refine mj_iconst (v := 1) C dX11_leads_118 (by decide) ?_
          refine mj_goto (tgt := 123) C dX11_leads_119 (by decide) ?_
          cases h
          exact mj_iret C hT (mj_nb mj_b1') dX11_leads_123 ⟨rfl, rfl, mj_b1'⟩
def f_X11_leads_J20 (l1 : Int32) (m : mj_m) : Option (Int32 × mj_m) := mj_b2 (f_X11_start l1 (m 1 13) m) (fun r13 m14 => f_X11_leads_J55 m14)
set_option maxHeartbeats 4000000 in
set_option maxRecDepth 20000 in
theorem C_X11_leads_J20 {κ : mj_K} {β : Nat} {M : mj_M} {l1 : Int32} {m : mj_m} {x0 : Int32} {m0 : mj_m} (C : mj_C κ cX11_leads 3 RX11) (hB : mj_isM (mj_g κ) β) (hR : mj_dp κ 10) (hT : mj_rt κ = (some .boolean)) (h : f_X11_leads_J20 l1 m = some (x0, m0)) : mj_R κ (mj_F κ (fun r M' => r = (some (.inl x0)) ∧ M' = (va_up M β m0) ∧ mj_bb (some .boolean) (some (.inl x0)))) 20 [some (mj_r (β, 0)), some (.inl l1), none] [] (va_up M β m) := by
  unfold f_X11_leads_J20 at h
  refine mj_aload_n C dX11_leads_20 rfl ?_
  refine mj_iload_n C dX11_leads_21 rfl ?_
  refine mj_aload_n C dX11_leads_22 rfl ?_
  refine mj_getr (r := (β, 1)) C lF_X11_7 (sM0 hB) rfl dX11_leads_23 ?_
  refine mj_bipush (v := 13) C dX11_leads_26 (by decide) ?_
  refine mj_bald C (sM1 hB) (mj_okn 13 1897 (Nat.le_of_ble_eq_true rfl) (Nat.le_of_ble_eq_true rfl)) (mj_cln 13 (Nat.le_of_ble_eq_true rfl)) dX11_leads_28 ?_
  obtain ⟨r13, m14, em14, h⟩ := mj_b2_o h
  refine mj_callV1 (av := [.inl l1, .inl (m 1 13)]) C lM_X11_285 lV_X11_start (sM0 hB) ⟨_, rfl, rfl⟩ rfl (C_X11_start hB em14) (mj_rmok hR (by decide) (by decide)) rfl (Nat.le_of_ble_eq_true rfl) dX11_leads_29 (fun hb15 => ?_)
  refine mj_pop C dX11_leads_32 ?_
  refine mj_goto (tgt := 55) C dX11_leads_33 (by decide) ?_
  refine mj_sub (L' := [some (mj_r (β, 0)), none, none]) ⟨rfl, trivial⟩ ?_
  exact C_X11_leads_J55 C hB hR hT h
def f_X11_leads (a1 : Int32) (m : mj_m) : Option (Int32 × mj_m) := if 4 ≤ a1 then (if m 1 32 ≤ 0 then (some (0, m)) else (mj_b1 (f_X11_goesOn m) (fun m18 => f_X11_leads_J55 m18))) else (mj_let (f_X11_machine m) (fun r20 => if r20 = 6 then (f_X11_leads_J20 a1 m) else (mj_b1 (f_X11_alarms 6 m) (fun m23 => f_X11_leads_J20 a1 m23))))
set_option maxHeartbeats 4000000 in
set_option maxRecDepth 20000 in
theorem C_X11_leads {G : mj_G} {β : Nat} {M : mj_M} {a1 : Int32} {m : mj_m} {x0 : Int32} {m0 : mj_m} (hB : mj_isM G β) (h : f_X11_leads a1 m = some (x0, m0)) : mj_S1 yX11_leads cX11_leads 3 (some .boolean) 10 G [mj_r (β, 0), .inl a1] (va_up M β m) (some (.inl x0)) (va_up M β m0) := by
  refine mj_intro (by decide) (Nat.le_of_ble_eq_true rfl) ?_
  intro κ C hG hR hT
  subst hG
  have C : mj_C κ cX11_leads 3 RX11 := C
  show mj_R κ (mj_F κ (fun r M' => r = (some (.inl x0)) ∧ M' = (va_up M β m0) ∧ mj_bb (some .boolean) (some (.inl x0)))) 0 [some (mj_r (β, 0)), some (.inl a1), none] [] (va_up M β m)
  unfold f_X11_leads at h
  refine mj_iload_n C dX11_leads_0 rfl ?_
  refine mj_iconst (v := 4) C dX11_leads_1 (by decide) ?_
  refine mj_icmp_ge (tgt := 36) C dX11_leads_2 (by decide) (fun c16 => ?_) (fun c16 => ?_)
  · replace h := mj_if_t c16 h
    refine mj_aload_n C dX11_leads_36 rfl ?_
    refine mj_getr (r := (β, 1)) C lF_X11_7 (sM0 hB) rfl dX11_leads_37 ?_
    refine mj_bipush (v := 32) C dX11_leads_40 (by decide) ?_
    refine mj_bald C (sM1 hB) (mj_okn 32 1897 (Nat.le_of_ble_eq_true rfl) (Nat.le_of_ble_eq_true rfl)) (mj_cln 32 (Nat.le_of_ble_eq_true rfl)) dX11_leads_42 ?_
    refine mj_if_le (tgt := 53) C dX11_leads_43 (by decide) (fun c17 => ?_) (fun c17 => ?_)
    · replace h := mj_if_t c17 h
      refine mj_iconst (v := 0) C dX11_leads_53 (by decide) ?_
      cases h
      exact mj_iret C hT (mj_nb mj_b0) dX11_leads_54 ⟨rfl, rfl, mj_b0⟩
    · replace h := mj_if_f c17 h
      refine mj_aload_n C dX11_leads_46 rfl ?_
      obtain ⟨m18, em18, h⟩ := mj_b1_o h
      refine mj_callV0 (av := []) C lM_X11_122 lV_X11_goesOn (sM0 hB) ⟨_, rfl, rfl⟩ rfl (C_X11_goesOn hB em18) (mj_rmok hR (by decide) (by decide)) rfl (Nat.le_of_ble_eq_true rfl) dX11_leads_47 ?_
      refine mj_goto (tgt := 55) C dX11_leads_50 (by decide) ?_
      refine mj_sub (L' := [some (mj_r (β, 0)), none, none]) ⟨rfl, trivial⟩ ?_
      exact C_X11_leads_J55 C hB hR hT h
  · replace h := mj_if_f c16 h
    refine mj_aload_n C dX11_leads_5 rfl ?_
    obtain ⟨r20, er20, h⟩ := mj_let_o h
    refine mj_callV1 (av := []) C lM_X11_87 lV_X11_machine (sM0 hB) ⟨_, rfl, rfl⟩ rfl (C_X11_machine hB er20) (mj_rmok hR (by decide) (by decide)) rfl (Nat.le_of_ble_eq_true rfl) dX11_leads_6 (fun hb21 => ?_)
    refine mj_bipush (v := 6) C dX11_leads_9 (by decide) ?_
    refine mj_icmp_eq (tgt := 20) C dX11_leads_11 (by decide) (fun c22 => ?_) (fun c22 => ?_)
    · replace h := mj_if_t c22 h
      refine mj_sub (L' := [some (mj_r (β, 0)), some (.inl a1), none]) ⟨rfl, ⟨rfl, trivial⟩⟩ ?_
      exact C_X11_leads_J20 C hB hR hT h
    · replace h := mj_if_f c22 h
      refine mj_aload_n C dX11_leads_14 rfl ?_
      refine mj_bipush (v := 6) C dX11_leads_15 (by decide) ?_
      obtain ⟨m23, em23, h⟩ := mj_b1_o h
      refine mj_callV0 (av := [.inl 6]) C lM_X11_96 lV_X11_alarms (sM0 hB) ⟨_, rfl, rfl⟩ rfl (C_X11_alarms hB em23) (mj_rmok hR (by decide) (by decide)) rfl (Nat.le_of_ble_eq_true rfl) dX11_leads_17 ?_
      refine mj_sub (L' := [some (mj_r (β, 0)), some (.inl a1), none]) ⟨rfl, ⟨rfl, trivial⟩⟩ ?_
      exact C_X11_leads_J20 C hB hR hT h
def f_X11_ways_L9 : Nat → Int32 → Int32 → mj_m → Option (Int32 × mj_m)
  | 0, _, _, _ => none
  | n + 1, l1, l2, m => if 5 ≤ l2 then (some (l1, m)) else (mj_b1 (f_X11_thinks m) (fun m2 => mj_b2 (f_X11_leads l2 m2) (fun r4 m5 => if r4 = 0 then (mj_b1 (f_X11_forgets m5) (fun m8 => mj_let (l2 + 1) (fun x10 => f_X11_ways_L9 n l1 x10 m8))) else (mj_let (l1 ||| (mj_shl 1 l2)) (fun x11 => mj_b1 (f_X11_forgets m5) (fun m12 => mj_let (l2 + 1) (fun x14 => f_X11_ways_L9 n x11 x14 m12)))))))
set_option maxHeartbeats 4000000 in
set_option maxRecDepth 20000 in
theorem C_X11_ways_L9 {κ : mj_K} {Q : State → Prop} {β : Nat} {M : mj_M} (C : mj_C κ cX11_ways 3 RX11) (hB : mj_isM (mj_g κ) β) (hR : mj_dp κ 11) : ∀ (n : Nat) (l1 : Int32) (l2 : Int32) (m : mj_m) (o1 : Int32) (mo : mj_m), f_X11_ways_L9 n l1 l2 m = some (o1, mo) → (mj_R κ Q 42 [none, some (.inl o1), none] [] (va_up M β mo)) → mj_R κ Q 9 [some (mj_r (β, 0)), some (.inl l1), some (.inl l2)] [] (va_up M β m) := by
  intro n
  induction n with
  | zero =>
    intro l1 l2 m o1 mo h
    cases h
  | succ n ih =>
    intro l1 l2 m o1 mo h hx42
    rw [f_X11_ways_L9] at h
    refine mj_iload_n C dX11_ways_9 rfl ?_
    refine mj_iconst (v := 5) C dX11_ways_10 (by decide) ?_
    refine mj_icmp_ge (tgt := 42) C dX11_ways_11 (by decide) (fun c1 => ?_) (fun c1 => ?_)
    · replace h := mj_if_t c1 h
      cases h
      refine mj_sub ?_ (hx42)
      exact ⟨rfl, trivial⟩
    · replace h := mj_if_f c1 h
      refine mj_aload_n C dX11_ways_14 rfl ?_
      obtain ⟨m2, em2, h⟩ := mj_b1_o h
      refine mj_callV0 (av := []) C lM_X11_273 lV_X11_thinks (sM0 hB) ⟨_, rfl, rfl⟩ rfl (C_X11_thinks hB em2) (mj_rmok hR (by decide) (by decide)) rfl (Nat.le_of_ble_eq_true rfl) dX11_ways_15 ?_
      refine mj_aload_n C dX11_ways_18 rfl ?_
      refine mj_iload_n C dX11_ways_19 rfl ?_
      obtain ⟨r4, m5, em5, h⟩ := mj_b2_o h
      refine mj_callV1 (av := [.inl l2]) C lM_X11_288 lV_X11_leads (sM0 hB) ⟨_, rfl, rfl⟩ rfl (C_X11_leads hB em5) (mj_rmok hR (by decide) (by decide)) rfl (Nat.le_of_ble_eq_true rfl) dX11_ways_20 (fun hb6 => ?_)
      refine mj_if_eq (tgt := 32) C dX11_ways_23 (by decide) (fun c7 => ?_) (fun c7 => ?_)
      · replace h := mj_if_t c7 h
        refine mj_aload_n C dX11_ways_32 rfl ?_
        obtain ⟨m8, em8, h⟩ := mj_b1_o h
        refine mj_callV0 (av := []) C lM_X11_282 lV_X11_forgets (sM0 hB) ⟨_, rfl, rfl⟩ rfl (C_X11_forgets hB em8) (mj_rmok hR (by decide) (by decide)) rfl (Nat.le_of_ble_eq_true rfl) dX11_ways_33 ?_
        obtain ⟨x10, hx10, h⟩ := mj_let_o h
        refine mj_iinc (L2 := [some (mj_r (β, 0)), some (.inl l1), some (.inl x10)]) C dX11_ways_36 rfl hx10 rfl ?_
        refine mj_goto (tgt := 9) C dX11_ways_39 (by decide) ?_
        refine mj_sub (L' := [some (mj_r (β, 0)), some (.inl l1), some (.inl x10)]) ⟨rfl, ⟨rfl, ⟨rfl, trivial⟩⟩⟩ ?_
        exact ih _ _ _ _ _ h hx42
      · replace h := mj_if_f c7 h
        refine mj_iload_n C dX11_ways_26 rfl ?_
        refine mj_iconst (v := 1) C dX11_ways_27 (by decide) ?_
        refine mj_iload_n C dX11_ways_28 rfl ?_
        refine mj_ishl C dX11_ways_29 ?_
        refine mj_ior C dX11_ways_30 ?_
        obtain ⟨x11, hx11, h⟩ := mj_let_o h
        refine mj_nm hx11 ?_
        refine mj_istore_n (L2 := [some (mj_r (β, 0)), some (.inl x11), some (.inl l2)]) C dX11_ways_31 (Nat.le_of_ble_eq_true rfl) rfl ?_
        refine mj_aload_n C dX11_ways_32 rfl ?_
        obtain ⟨m12, em12, h⟩ := mj_b1_o h
        refine mj_callV0 (av := []) C lM_X11_282 lV_X11_forgets (sM0 hB) ⟨_, rfl, rfl⟩ rfl (C_X11_forgets hB em12) (mj_rmok hR (by decide) (by decide)) rfl (Nat.le_of_ble_eq_true rfl) dX11_ways_33 ?_
        obtain ⟨x14, hx14, h⟩ := mj_let_o h
        refine mj_iinc (L2 := [some (mj_r (β, 0)), some (.inl x11), some (.inl x14)]) C dX11_ways_36 rfl hx14 rfl ?_
        refine mj_goto (tgt := 9) C dX11_ways_39 (by decide) ?_
        refine mj_sub (L' := [some (mj_r (β, 0)), some (.inl x11), some (.inl x14)]) ⟨rfl, ⟨rfl, ⟨rfl, trivial⟩⟩⟩ ?_
        exact ih _ _ _ _ _ h hx42
def f_X11_ways (m : mj_m) : Option (Int32 × mj_m) := mj_let (mj_wrs m 0 0 0) (fun m15 => mj_b2 (f_X11_ways_L9 mj_fu 0 0 m15) (fun x16 m17 => some (x16, m17)))
set_option maxHeartbeats 4000000 in
set_option maxRecDepth 20000 in
theorem C_X11_ways {G : mj_G} {β : Nat} {M : mj_M} {m : mj_m} {x0 : Int32} {m0 : mj_m} (hB : mj_isM G β) (h : f_X11_ways m = some (x0, m0)) : mj_S1 yX11_ways cX11_ways 3 (some .int) 11 G [mj_r (β, 0)] (va_up M β m) (some (.inl x0)) (va_up M β m0) := by
  refine mj_intro (by decide) (Nat.le_of_ble_eq_true rfl) ?_
  intro κ C hG hR hT
  subst hG
  have C : mj_C κ cX11_ways 3 RX11 := C
  show mj_R κ (mj_F κ (fun r M' => r = (some (.inl x0)) ∧ M' = (va_up M β m0) ∧ mj_bb (some .int) (some (.inl x0)))) 0 [some (mj_r (β, 0)), none, none] [] (va_up M β m)
  unfold f_X11_ways at h
  refine mj_aload_n C dX11_ways_0 rfl ?_
  refine mj_iconst (v := 0) C dX11_ways_1 (by decide) ?_
  obtain ⟨m15, hm15, h⟩ := mj_let_o h
  refine mj_bput C lF_X11_41 fP_12_0 (vp_nar_int _) rfl (sM0 hB) rfl dX11_ways_2 hm15 ?_
  refine mj_iconst (v := 0) C dX11_ways_5 (by decide) ?_
  refine mj_istore_n (L2 := [some (mj_r (β, 0)), some (.inl 0), none]) C dX11_ways_6 (Nat.le_of_ble_eq_true rfl) rfl ?_
  refine mj_iconst (v := 0) C dX11_ways_7 (by decide) ?_
  refine mj_istore_n (L2 := [some (mj_r (β, 0)), some (.inl 0), some (.inl 0)]) C dX11_ways_8 (Nat.le_of_ble_eq_true rfl) rfl ?_
  obtain ⟨x16, m17, hl18, h⟩ := mj_b2_o h
  refine mj_sub (L' := [some (mj_r (β, 0)), some (.inl 0), some (.inl 0)]) ⟨rfl, ⟨rfl, ⟨rfl, trivial⟩⟩⟩ ?_
  refine C_X11_ways_L9 C hB hR _ _ _ _ _ _ hl18 ?_
  refine mj_iload_n C dX11_ways_42 rfl ?_
  cases h
  exact mj_iret C hT (vp_nar_int _) dX11_ways_43 ⟨rfl, rfl, mj_bi _⟩
def f_X11_says (a1 : Int32) (m : mj_m) : Option (mj_m) := mj_chk (mj_ok (m 0 7) 60) (mj_let (mj_wrs m 5 (mj_cl (m 0 7)) a1) (fun m2 => mj_let (mj_wrs m2 0 7 ((m2 0 7) + 1)) (fun m3 => some m3)))
set_option maxHeartbeats 4000000 in
set_option maxRecDepth 20000 in
theorem C_X11_says {G : mj_G} {β : Nat} {M : mj_M} {a1 : Int32} {m : mj_m} {m0 : mj_m} (hB : mj_isM G β) (h : f_X11_says a1 m = some m0) : mj_S1 yX11_says cX11_says 2 none 0 G [mj_r (β, 0), .inl a1] (va_up M β m) none (va_up M β m0) := by
  refine mj_intro (by decide) (Nat.le_of_ble_eq_true rfl) ?_
  intro κ C hG hR hT
  subst hG
  have C : mj_C κ cX11_says 2 RX11 := C
  show mj_R κ (mj_F κ (fun r M' => r = none ∧ M' = (va_up M β m0) ∧ mj_bb none none)) 0 [some (mj_r (β, 0)), some (.inl a1)] [] (va_up M β m)
  unfold f_X11_says at h
  refine mj_aload_n C dX11_says_0 rfl ?_
  refine mj_getr (r := (β, 5)) C lF_X11_22 (sM0 hB) rfl dX11_says_1 ?_
  refine mj_aload_n C dX11_says_4 rfl ?_
  refine mj_bget C lF_X11_291 (sM0 hB) rfl dX11_says_5 ?_
  refine mj_iload_n C dX11_says_8 rfl ?_
  obtain ⟨k1, h⟩ := mj_chk_o h
  obtain ⟨m2, hm2, h⟩ := mj_let_o h
  refine mj_bast C (sM5 hB) k1 rfl dX11_says_9 hm2 ?_
  refine mj_aload_n C dX11_says_10 rfl ?_
  refine mj_aload_n C dX11_says_11 rfl ?_
  refine mj_bget C lF_X11_291 (sM0 hB) rfl dX11_says_12 ?_
  refine mj_iconst (v := 1) C dX11_says_15 (by decide) ?_
  refine mj_iadd C dX11_says_16 ?_
  obtain ⟨m3, hm3, h⟩ := mj_let_o h
  refine mj_bput C lF_X11_291 fP_12_7 (vp_nar_int _) rfl (sM0 hB) rfl dX11_says_17 hm3 ?_
  cases h
  exact mj_vret C hT dX11_says_20 ⟨rfl, rfl, mj_bv _⟩
def f_X11_saysName_L36 : Nat → Int32 → mj_m → Option (mj_m)
  | 0, _, _ => none
  | n + 1, l3, m => mj_chk (mj_ok l3 95) (if m 4 (mj_cl l3) = 32 then (some m) else (mj_chk (mj_ok l3 95) (mj_b1 (f_X11_says (m 4 (mj_cl l3)) m) (fun m4 => mj_let (l3 + 1) (fun x6 => f_X11_saysName_L36 n x6 m4)))))
set_option maxHeartbeats 4000000 in
set_option maxRecDepth 20000 in
theorem C_X11_saysName_L36 {κ : mj_K} {Q : State → Prop} {β : Nat} {M : mj_M} (C : mj_C κ cX11_saysName 4 RX11) (hB : mj_isM (mj_g κ) β) (hR : mj_dp κ 1) : ∀ (n : Nat) (l3 : Int32) (m : mj_m) (mo : mj_m), f_X11_saysName_L36 n l3 m = some mo → (mj_R κ Q 63 [none, none, none, none] [] (va_up M β mo)) → mj_R κ Q 36 [some (mj_r (β, 0)), none, none, some (.inl l3)] [] (va_up M β m) := by
  intro n
  induction n with
  | zero =>
    intro l3 m mo h
    cases h
  | succ n ih =>
    intro l3 m mo h hx63
    rw [f_X11_saysName_L36] at h
    refine mj_aload_n C dX11_saysName_36 rfl ?_
    refine mj_getr (r := (β, 4)) C lF_X11_19 (sM0 hB) rfl dX11_saysName_37 ?_
    refine mj_iload_n C dX11_saysName_40 rfl ?_
    obtain ⟨k1, h⟩ := mj_chk_o h
    refine mj_bald C (sM4 hB) k1 rfl dX11_saysName_41 ?_
    refine mj_bipush (v := 32) C dX11_saysName_42 (by decide) ?_
    refine mj_icmp_eq (tgt := 63) C dX11_saysName_44 (by decide) (fun c2 => ?_) (fun c2 => ?_)
    · replace h := mj_if_t c2 h
      cases h
      refine mj_sub ?_ (hx63)
      exact trivial
    · replace h := mj_if_f c2 h
      refine mj_aload_n C dX11_saysName_47 rfl ?_
      refine mj_aload_n C dX11_saysName_48 rfl ?_
      refine mj_getr (r := (β, 4)) C lF_X11_19 (sM0 hB) rfl dX11_saysName_49 ?_
      refine mj_iload_n C dX11_saysName_52 rfl ?_
      obtain ⟨k3, h⟩ := mj_chk_o h
      refine mj_bald C (sM4 hB) k3 rfl dX11_saysName_53 ?_
      obtain ⟨m4, em4, h⟩ := mj_b1_o h
      refine mj_callV0 (av := [.inl (m 4 (mj_cl l3))]) C lM_X11_294 lV_X11_says (sM0 hB) ⟨_, rfl, rfl⟩ rfl (C_X11_says hB em4) (mj_rmok hR (by decide) (by decide)) rfl (Nat.le_of_ble_eq_true rfl) dX11_saysName_54 ?_
      obtain ⟨x6, hx6, h⟩ := mj_let_o h
      refine mj_iinc (L2 := [some (mj_r (β, 0)), none, none, some (.inl x6)]) C dX11_saysName_57 rfl hx6 rfl ?_
      refine mj_goto (tgt := 36) C dX11_saysName_60 (by decide) ?_
      refine mj_sub (L' := [some (mj_r (β, 0)), none, none, some (.inl x6)]) ⟨rfl, ⟨rfl, trivial⟩⟩ ?_
      exact ih _ _ _ h hx63
def f_X11_saysName_L4 (l1 : Int32) : Nat → Int32 → Int32 → mj_m → Option (Int32)
  | 0, _, _, _ => none
  | n + 1, l2, l3, m => if l1 ≤ l3 then (some l2) else (mj_chk (mj_ok (l2 + 1) 95) (if m 4 (mj_cl (l2 + 1)) = 32 then (mj_let (l3 + 1) (fun x11 => mj_let (l2 + 1) (fun x12 => f_X11_saysName_L4 l1 n x12 x11 m))) else (mj_let (l2 + 1) (fun x10 => f_X11_saysName_L4 l1 n x10 l3 m))))
set_option maxHeartbeats 4000000 in
set_option maxRecDepth 20000 in
theorem C_X11_saysName_L4 {κ : mj_K} {Q : State → Prop} {β : Nat} {M : mj_M} {l1 : Int32} (C : mj_C κ cX11_saysName 4 RX11) (hB : mj_isM (mj_g κ) β) (hR : mj_dp κ 1) : ∀ (n : Nat) (l2 : Int32) (l3 : Int32) (m : mj_m) (o2 : Int32), f_X11_saysName_L4 l1 n l2 l3 m = some o2 → (mj_R κ Q 32 [some (mj_r (β, 0)), none, some (.inl o2), none] [] (va_up M β m)) → mj_R κ Q 4 [some (mj_r (β, 0)), some (.inl l1), some (.inl l2), some (.inl l3)] [] (va_up M β m) := by
  intro n
  induction n with
  | zero =>
    intro l2 l3 m o2 h
    cases h
  | succ n ih =>
    intro l2 l3 m o2 h hx32
    rw [f_X11_saysName_L4] at h
    refine mj_iload_n C dX11_saysName_4 rfl ?_
    refine mj_iload_n C dX11_saysName_5 rfl ?_
    refine mj_icmp_ge (tgt := 32) C dX11_saysName_6 (by decide) (fun c7 => ?_) (fun c7 => ?_)
    · replace h := mj_if_t c7 h
      cases h
      refine mj_sub ?_ (hx32)
      exact ⟨rfl, ⟨rfl, trivial⟩⟩
    · replace h := mj_if_f c7 h
      refine mj_aload_n C dX11_saysName_9 rfl ?_
      refine mj_getr (r := (β, 4)) C lF_X11_19 (sM0 hB) rfl dX11_saysName_10 ?_
      refine mj_iload_n C dX11_saysName_13 rfl ?_
      refine mj_iconst (v := 1) C dX11_saysName_14 (by decide) ?_
      refine mj_iadd C dX11_saysName_15 ?_
      obtain ⟨k8, h⟩ := mj_chk_o h
      refine mj_bald C (sM4 hB) k8 rfl dX11_saysName_16 ?_
      refine mj_bipush (v := 32) C dX11_saysName_17 (by decide) ?_
      refine mj_icmp_ne (tgt := 26) C dX11_saysName_19 (by decide) (fun c9 => ?_) (fun c9 => ?_)
      · replace h := mj_if_f c9 h
        obtain ⟨x10, hx10, h⟩ := mj_let_o h
        refine mj_iinc (L2 := [some (mj_r (β, 0)), some (.inl l1), some (.inl x10), some (.inl l3)]) C dX11_saysName_26 rfl hx10 rfl ?_
        refine mj_goto (tgt := 4) C dX11_saysName_29 (by decide) ?_
        refine mj_sub (L' := [some (mj_r (β, 0)), some (.inl l1), some (.inl x10), some (.inl l3)]) ⟨rfl, ⟨rfl, ⟨rfl, ⟨rfl, trivial⟩⟩⟩⟩ ?_
        exact ih _ _ _ _ h hx32
      · replace h := mj_if_t c9 h
        refine mj_iload_n C dX11_saysName_22 rfl ?_
        refine mj_iconst (v := 1) C dX11_saysName_23 (by decide) ?_
        refine mj_iadd C dX11_saysName_24 ?_
        obtain ⟨x11, hx11, h⟩ := mj_let_o h
        refine mj_nm hx11 ?_
        refine mj_istore_n (L2 := [some (mj_r (β, 0)), some (.inl l1), some (.inl l2), some (.inl x11)]) C dX11_saysName_25 (Nat.le_of_ble_eq_true rfl) rfl ?_
        obtain ⟨x12, hx12, h⟩ := mj_let_o h
        refine mj_iinc (L2 := [some (mj_r (β, 0)), some (.inl l1), some (.inl x12), some (.inl x11)]) C dX11_saysName_26 rfl hx12 rfl ?_
        refine mj_goto (tgt := 4) C dX11_saysName_29 (by decide) ?_
        refine mj_sub (L' := [some (mj_r (β, 0)), some (.inl l1), some (.inl x12), some (.inl x11)]) ⟨rfl, ⟨rfl, ⟨rfl, ⟨rfl, trivial⟩⟩⟩⟩ ?_
        exact ih _ _ _ _ h hx32
def f_X11_saysName (a1 : Int32) (m : mj_m) : Option (mj_m) := mj_b1 (f_X11_saysName_L4 a1 mj_fu 0 0 m) (fun x13 => mj_let (x13 + 1) (fun x15 => mj_b1 (f_X11_saysName_L36 mj_fu x15 m) (fun m16 => some m16)))
set_option maxHeartbeats 4000000 in
set_option maxRecDepth 20000 in
theorem C_X11_saysName {G : mj_G} {β : Nat} {M : mj_M} {a1 : Int32} {m : mj_m} {m0 : mj_m} (hB : mj_isM G β) (h : f_X11_saysName a1 m = some m0) : mj_S1 yX11_saysName cX11_saysName 4 none 1 G [mj_r (β, 0), .inl a1] (va_up M β m) none (va_up M β m0) := by
  refine mj_intro (by decide) (Nat.le_of_ble_eq_true rfl) ?_
  intro κ C hG hR hT
  subst hG
  have C : mj_C κ cX11_saysName 4 RX11 := C
  show mj_R κ (mj_F κ (fun r M' => r = none ∧ M' = (va_up M β m0) ∧ mj_bb none none)) 0 [some (mj_r (β, 0)), some (.inl a1), none, none] [] (va_up M β m)
  unfold f_X11_saysName at h
  refine mj_iconst (v := 0) C dX11_saysName_0 (by decide) ?_
  refine mj_istore_n (L2 := [some (mj_r (β, 0)), some (.inl a1), some (.inl 0), none]) C dX11_saysName_1 (Nat.le_of_ble_eq_true rfl) rfl ?_
  refine mj_iconst (v := 0) C dX11_saysName_2 (by decide) ?_
  refine mj_istore_n (L2 := [some (mj_r (β, 0)), some (.inl a1), some (.inl 0), some (.inl 0)]) C dX11_saysName_3 (Nat.le_of_ble_eq_true rfl) rfl ?_
  obtain ⟨x13, hl14, h⟩ := mj_b1_o h
  refine mj_sub (L' := [some (mj_r (β, 0)), some (.inl a1), some (.inl 0), some (.inl 0)]) ⟨rfl, ⟨rfl, ⟨rfl, ⟨rfl, trivial⟩⟩⟩⟩ ?_
  refine C_X11_saysName_L4 C hB hR _ _ _ _ _ hl14 ?_
  refine mj_iload_n C dX11_saysName_32 rfl ?_
  refine mj_iconst (v := 1) C dX11_saysName_33 (by decide) ?_
  refine mj_iadd C dX11_saysName_34 ?_
  obtain ⟨x15, hx15, h⟩ := mj_let_o h
  refine mj_nm hx15 ?_
  refine mj_istore_n (L2 := [some (mj_r (β, 0)), none, some (.inl x13), some (.inl x15)]) C dX11_saysName_35 (Nat.le_of_ble_eq_true rfl) rfl ?_
  obtain ⟨m16, hl17, h⟩ := mj_b1_o h
  refine mj_sub (L' := [some (mj_r (β, 0)), none, none, some (.inl x15)]) ⟨rfl, ⟨rfl, trivial⟩⟩ ?_
  refine C_X11_saysName_L36 C hB hR _ _ _ _ hl17 ?_
  cases h
  exact mj_vret C hT dX11_saysName_63 ⟨rfl, rfl, mj_bv _⟩
def f_X11_saysNumber_J37 (l1 : Int32) (m : mj_m) : Option (mj_m) := mj_b1 (f_X11_says (48 + (mj_rem l1 10)) m) (fun m1 => some m1)
set_option maxHeartbeats 4000000 in
set_option maxRecDepth 20000 in
theorem C_X11_saysNumber_J37 {κ : mj_K} {β : Nat} {M : mj_M} {l1 : Int32} {m : mj_m} {m0 : mj_m} (C : mj_C κ cX11_saysNumber 2 RX11) (hB : mj_isM (mj_g κ) β) (hR : mj_dp κ 1) (hT : mj_rt κ = none) (h : f_X11_saysNumber_J37 l1 m = some m0) : mj_R κ (mj_F κ (fun r M' => r = none ∧ M' = (va_up M β m0) ∧ mj_bb none none)) 37 [some (mj_r (β, 0)), some (.inl l1)] [] (va_up M β m) := by
  unfold f_X11_saysNumber_J37 at h
  refine mj_aload_n C dX11_saysNumber_37 rfl ?_
  refine mj_bipush (v := 48) C dX11_saysNumber_38 (by decide) ?_
  refine mj_iload_n C dX11_saysNumber_40 rfl ?_
  refine mj_bipush (v := 10) C dX11_saysNumber_41 (by decide) ?_
  refine mj_irem C dX11_saysNumber_43 (by decide) ?_
  refine mj_iadd C dX11_saysNumber_44 ?_
  obtain ⟨m1, em1, h⟩ := mj_b1_o h
  refine mj_callV0 (av := [.inl (48 + (mj_rem l1 10))]) C lM_X11_294 lV_X11_says (sM0 hB) ⟨_, rfl, rfl⟩ rfl (C_X11_says hB em1) (mj_rmok hR (by decide) (by decide)) rfl (Nat.le_of_ble_eq_true rfl) dX11_saysNumber_45 ?_
  cases h
  exact mj_vret C hT dX11_saysNumber_48 ⟨rfl, rfl, mj_bv _⟩
def f_X11_saysNumber_J17 (l1 : Int32) (m : mj_m) : Option (mj_m) := if l1 ≤ 9 then (f_X11_saysNumber_J37 l1 m) else (mj_b1 (f_X11_says (48 + (mj_rem (l1 / 10) 10)) m) (fun m4 => f_X11_saysNumber_J37 l1 m4))
set_option maxHeartbeats 4000000 in
set_option maxRecDepth 20000 in
theorem C_X11_saysNumber_J17 {κ : mj_K} {β : Nat} {M : mj_M} {l1 : Int32} {m : mj_m} {m0 : mj_m} (C : mj_C κ cX11_saysNumber 2 RX11) (hB : mj_isM (mj_g κ) β) (hR : mj_dp κ 1) (hT : mj_rt κ = none) (h : f_X11_saysNumber_J17 l1 m = some m0) : mj_R κ (mj_F κ (fun r M' => r = none ∧ M' = (va_up M β m0) ∧ mj_bb none none)) 17 [some (mj_r (β, 0)), some (.inl l1)] [] (va_up M β m) := by
  unfold f_X11_saysNumber_J17 at h
  refine mj_iload_n C dX11_saysNumber_17 rfl ?_
  refine mj_bipush (v := 9) C dX11_saysNumber_18 (by decide) ?_
  refine mj_icmp_le (tgt := 37) C dX11_saysNumber_20 (by decide) (fun c3 => ?_) (fun c3 => ?_)
  · replace h := mj_if_t c3 h
    refine mj_sub (L' := [some (mj_r (β, 0)), some (.inl l1)]) ⟨rfl, ⟨rfl, trivial⟩⟩ ?_
    exact C_X11_saysNumber_J37 C hB hR hT h
  · replace h := mj_if_f c3 h
    refine mj_aload_n C dX11_saysNumber_23 rfl ?_
    refine mj_bipush (v := 48) C dX11_saysNumber_24 (by decide) ?_
    refine mj_iload_n C dX11_saysNumber_26 rfl ?_
    refine mj_bipush (v := 10) C dX11_saysNumber_27 (by decide) ?_
    refine mj_idiv C dX11_saysNumber_29 (by decide) ?_
    refine mj_bipush (v := 10) C dX11_saysNumber_30 (by decide) ?_
    refine mj_irem C dX11_saysNumber_32 (by decide) ?_
    refine mj_iadd C dX11_saysNumber_33 ?_
    obtain ⟨m4, em4, h⟩ := mj_b1_o h
    refine mj_callV0 (av := [.inl (48 + (mj_rem (l1 / 10) 10))]) C lM_X11_294 lV_X11_says (sM0 hB) ⟨_, rfl, rfl⟩ rfl (C_X11_says hB em4) (mj_rmok hR (by decide) (by decide)) rfl (Nat.le_of_ble_eq_true rfl) dX11_saysNumber_34 ?_
    refine mj_sub (L' := [some (mj_r (β, 0)), some (.inl l1)]) ⟨rfl, ⟨rfl, trivial⟩⟩ ?_
    exact C_X11_saysNumber_J37 C hB hR hT h
def f_X11_saysNumber (a1 : Int32) (m : mj_m) : Option (mj_m) := if a1 ≤ 99 then (f_X11_saysNumber_J17 a1 m) else (mj_b1 (f_X11_says (48 + (a1 / 100)) m) (fun m7 => f_X11_saysNumber_J17 a1 m7))
set_option maxHeartbeats 4000000 in
set_option maxRecDepth 20000 in
theorem C_X11_saysNumber {G : mj_G} {β : Nat} {M : mj_M} {a1 : Int32} {m : mj_m} {m0 : mj_m} (hB : mj_isM G β) (h : f_X11_saysNumber a1 m = some m0) : mj_S1 yX11_saysNumber cX11_saysNumber 2 none 1 G [mj_r (β, 0), .inl a1] (va_up M β m) none (va_up M β m0) := by
  refine mj_intro (by decide) (Nat.le_of_ble_eq_true rfl) ?_
  intro κ C hG hR hT
  subst hG
  have C : mj_C κ cX11_saysNumber 2 RX11 := C
  show mj_R κ (mj_F κ (fun r M' => r = none ∧ M' = (va_up M β m0) ∧ mj_bb none none)) 0 [some (mj_r (β, 0)), some (.inl a1)] [] (va_up M β m)
  unfold f_X11_saysNumber at h
  refine mj_iload_n C dX11_saysNumber_0 rfl ?_
  refine mj_bipush (v := 99) C dX11_saysNumber_1 (by decide) ?_
  refine mj_icmp_le (tgt := 17) C dX11_saysNumber_3 (by decide) (fun c6 => ?_) (fun c6 => ?_)
  · replace h := mj_if_t c6 h
    refine mj_sub (L' := [some (mj_r (β, 0)), some (.inl a1)]) ⟨rfl, ⟨rfl, trivial⟩⟩ ?_
    exact C_X11_saysNumber_J17 C hB hR hT h
  · replace h := mj_if_f c6 h
    refine mj_aload_n C dX11_saysNumber_6 rfl ?_
    refine mj_bipush (v := 48) C dX11_saysNumber_7 (by decide) ?_
    refine mj_iload_n C dX11_saysNumber_9 rfl ?_
    refine mj_bipush (v := 100) C dX11_saysNumber_10 (by decide) ?_
    refine mj_idiv C dX11_saysNumber_12 (by decide) ?_
    refine mj_iadd C dX11_saysNumber_13 ?_
    obtain ⟨m7, em7, h⟩ := mj_b1_o h
    refine mj_callV0 (av := [.inl (48 + (a1 / 100))]) C lM_X11_294 lV_X11_says (sM0 hB) ⟨_, rfl, rfl⟩ rfl (C_X11_says hB em7) (mj_rmok hR (by decide) (by decide)) rfl (Nat.le_of_ble_eq_true rfl) dX11_saysNumber_14 ?_
    refine mj_sub (L' := [some (mj_r (β, 0)), some (.inl a1)]) ⟨rfl, ⟨rfl, trivial⟩⟩ ?_
    exact C_X11_saysNumber_J17 C hB hR hT h
def f_X11_saysReport_J85 (l1 : Int32) (s0 : Int32) (m : mj_m) : Option (mj_m) := mj_b1 (f_X11_says s0 m) (fun m1 => mj_b1 (f_X11_saysNumber (l1 / 8) m1) (fun m3 => mj_b1 (f_X11_says 32 m3) (fun m5 => mj_b1 (f_X11_saysNumber (m5 1 47) m5) (fun m7 => some m7))))
set_option maxHeartbeats 4000000 in
set_option maxRecDepth 20000 in
theorem C_X11_saysReport_J85 {κ : mj_K} {β : Nat} {M : mj_M} {l1 : Int32} {s0 : Int32} {m : mj_m} {m0 : mj_m} (C : mj_C κ cX11_saysReport 2 RX11) (hB : mj_isM (mj_g κ) β) (hR : mj_dp κ 2) (hT : mj_rt κ = none) (h : f_X11_saysReport_J85 l1 s0 m = some m0) : mj_R κ (mj_F κ (fun r M' => r = none ∧ M' = (va_up M β m0) ∧ mj_bb none none)) 85 [some (mj_r (β, 0)), some (.inl l1)] [.inl s0, mj_r (β, 0)] (va_up M β m) := by
  unfold f_X11_saysReport_J85 at h
  obtain ⟨m1, em1, h⟩ := mj_b1_o h
  refine mj_callV0 (av := [.inl s0]) C lM_X11_294 lV_X11_says (sM0 hB) ⟨_, rfl, rfl⟩ rfl (C_X11_says hB em1) (mj_rmok hR (by decide) (by decide)) rfl (Nat.le_of_ble_eq_true rfl) dX11_saysReport_85 ?_
  refine mj_aload_n C dX11_saysReport_88 rfl ?_
  refine mj_iload_n C dX11_saysReport_89 rfl ?_
  refine mj_bipush (v := 8) C dX11_saysReport_90 (by decide) ?_
  refine mj_idiv C dX11_saysReport_92 (by decide) ?_
  obtain ⟨m3, em3, h⟩ := mj_b1_o h
  refine mj_callV0 (av := [.inl (l1 / 8)]) C lM_X11_297 lV_X11_saysNumber (sM0 hB) ⟨_, rfl, rfl⟩ rfl (C_X11_saysNumber hB em3) (mj_rmok hR (by decide) (by decide)) rfl (Nat.le_of_ble_eq_true rfl) dX11_saysReport_93 ?_
  refine mj_aload_n C dX11_saysReport_96 rfl ?_
  refine mj_bipush (v := 32) C dX11_saysReport_97 (by decide) ?_
  obtain ⟨m5, em5, h⟩ := mj_b1_o h
  refine mj_callV0 (av := [.inl 32]) C lM_X11_294 lV_X11_says (sM0 hB) ⟨_, rfl, rfl⟩ rfl (C_X11_says hB em5) (mj_rmok hR (by decide) (by decide)) rfl (Nat.le_of_ble_eq_true rfl) dX11_saysReport_99 ?_
  refine mj_aload_n C dX11_saysReport_102 rfl ?_
  refine mj_aload_n C dX11_saysReport_103 rfl ?_
  refine mj_getr (r := (β, 1)) C lF_X11_7 (sM0 hB) rfl dX11_saysReport_104 ?_
  refine mj_bipush (v := 47) C dX11_saysReport_107 (by decide) ?_
  refine mj_bald C (sM1 hB) (mj_okn 47 1897 (Nat.le_of_ble_eq_true rfl) (Nat.le_of_ble_eq_true rfl)) (mj_cln 47 (Nat.le_of_ble_eq_true rfl)) dX11_saysReport_109 ?_
  obtain ⟨m7, em7, h⟩ := mj_b1_o h
  refine mj_callV0 (av := [.inl (m5 1 47)]) C lM_X11_297 lV_X11_saysNumber (sM0 hB) ⟨_, rfl, rfl⟩ rfl (C_X11_saysNumber hB em7) (mj_rmok hR (by decide) (by decide)) rfl (Nat.le_of_ble_eq_true rfl) dX11_saysReport_110 ?_
  cases h
  exact mj_vret C hT dX11_saysReport_113 ⟨rfl, rfl, mj_bv _⟩
def f_X11_saysReport_J68 (l1 : Int32) (s0 : Int32) (m : mj_m) : Option (mj_m) := mj_b1 (f_X11_says s0 m) (fun m9 => if l1 &&& 4 ≤ 0 then (f_X11_saysReport_J85 l1 45 m9) else (f_X11_saysReport_J85 l1 82 m9))
set_option maxHeartbeats 4000000 in
set_option maxRecDepth 20000 in
theorem C_X11_saysReport_J68 {κ : mj_K} {β : Nat} {M : mj_M} {l1 : Int32} {s0 : Int32} {m : mj_m} {m0 : mj_m} (C : mj_C κ cX11_saysReport 2 RX11) (hB : mj_isM (mj_g κ) β) (hR : mj_dp κ 2) (hT : mj_rt κ = none) (h : f_X11_saysReport_J68 l1 s0 m = some m0) : mj_R κ (mj_F κ (fun r M' => r = none ∧ M' = (va_up M β m0) ∧ mj_bb none none)) 68 [some (mj_r (β, 0)), some (.inl l1)] [.inl s0, mj_r (β, 0)] (va_up M β m) := by
  unfold f_X11_saysReport_J68 at h
  obtain ⟨m9, em9, h⟩ := mj_b1_o h
  refine mj_callV0 (av := [.inl s0]) C lM_X11_294 lV_X11_says (sM0 hB) ⟨_, rfl, rfl⟩ rfl (C_X11_says hB em9) (mj_rmok hR (by decide) (by decide)) rfl (Nat.le_of_ble_eq_true rfl) dX11_saysReport_68 ?_
  refine mj_aload_n C dX11_saysReport_71 rfl ?_
  refine mj_iload_n C dX11_saysReport_72 rfl ?_
  refine mj_iconst (v := 4) C dX11_saysReport_73 (by decide) ?_
  refine mj_iand C dX11_saysReport_74 ?_
  refine mj_if_le (tgt := 83) C dX11_saysReport_75 (by decide) (fun c11 => ?_) (fun c11 => ?_)
  · replace h := mj_if_t c11 h
    refine mj_bipush (v := 45) C dX11_saysReport_83 (by decide) ?_
    refine mj_sub (L' := [some (mj_r (β, 0)), some (.inl l1)]) ⟨rfl, ⟨rfl, trivial⟩⟩ ?_
    exact C_X11_saysReport_J85 C hB hR hT h
  · replace h := mj_if_f c11 h
    refine mj_bipush (v := 82) C dX11_saysReport_78 (by decide) ?_
    refine mj_goto (tgt := 85) C dX11_saysReport_80 (by decide) ?_
    refine mj_sub (L' := [some (mj_r (β, 0)), some (.inl l1)]) ⟨rfl, ⟨rfl, trivial⟩⟩ ?_
    exact C_X11_saysReport_J85 C hB hR hT h
def f_X11_saysReport_J51 (l1 : Int32) (s0 : Int32) (m : mj_m) : Option (mj_m) := mj_b1 (f_X11_says s0 m) (fun m12 => if l1 &&& 2 ≤ 0 then (f_X11_saysReport_J68 l1 45 m12) else (f_X11_saysReport_J68 l1 87 m12))
set_option maxHeartbeats 4000000 in
set_option maxRecDepth 20000 in
theorem C_X11_saysReport_J51 {κ : mj_K} {β : Nat} {M : mj_M} {l1 : Int32} {s0 : Int32} {m : mj_m} {m0 : mj_m} (C : mj_C κ cX11_saysReport 2 RX11) (hB : mj_isM (mj_g κ) β) (hR : mj_dp κ 2) (hT : mj_rt κ = none) (h : f_X11_saysReport_J51 l1 s0 m = some m0) : mj_R κ (mj_F κ (fun r M' => r = none ∧ M' = (va_up M β m0) ∧ mj_bb none none)) 51 [some (mj_r (β, 0)), some (.inl l1)] [.inl s0, mj_r (β, 0)] (va_up M β m) := by
  unfold f_X11_saysReport_J51 at h
  obtain ⟨m12, em12, h⟩ := mj_b1_o h
  refine mj_callV0 (av := [.inl s0]) C lM_X11_294 lV_X11_says (sM0 hB) ⟨_, rfl, rfl⟩ rfl (C_X11_says hB em12) (mj_rmok hR (by decide) (by decide)) rfl (Nat.le_of_ble_eq_true rfl) dX11_saysReport_51 ?_
  refine mj_aload_n C dX11_saysReport_54 rfl ?_
  refine mj_iload_n C dX11_saysReport_55 rfl ?_
  refine mj_iconst (v := 2) C dX11_saysReport_56 (by decide) ?_
  refine mj_iand C dX11_saysReport_57 ?_
  refine mj_if_le (tgt := 66) C dX11_saysReport_58 (by decide) (fun c14 => ?_) (fun c14 => ?_)
  · replace h := mj_if_t c14 h
    refine mj_bipush (v := 45) C dX11_saysReport_66 (by decide) ?_
    refine mj_sub (L' := [some (mj_r (β, 0)), some (.inl l1)]) ⟨rfl, ⟨rfl, trivial⟩⟩ ?_
    exact C_X11_saysReport_J68 C hB hR hT h
  · replace h := mj_if_f c14 h
    refine mj_bipush (v := 87) C dX11_saysReport_61 (by decide) ?_
    refine mj_goto (tgt := 68) C dX11_saysReport_63 (by decide) ?_
    refine mj_sub (L' := [some (mj_r (β, 0)), some (.inl l1)]) ⟨rfl, ⟨rfl, trivial⟩⟩ ?_
    exact C_X11_saysReport_J68 C hB hR hT h
def f_X11_saysReport_J17 (m : mj_m) : Option (mj_m) := if m 1 45 = 2 then (mj_let (m 1 46) (fun x16 => if x16 &&& 1 ≤ 0 then (f_X11_saysReport_J51 x16 45 m) else (f_X11_saysReport_J51 x16 76 m))) else (some m)
set_option maxHeartbeats 4000000 in
set_option maxRecDepth 20000 in
theorem C_X11_saysReport_J17 {κ : mj_K} {β : Nat} {M : mj_M} {m : mj_m} {m0 : mj_m} (C : mj_C κ cX11_saysReport 2 RX11) (hB : mj_isM (mj_g κ) β) (hR : mj_dp κ 2) (hT : mj_rt κ = none) (h : f_X11_saysReport_J17 m = some m0) : mj_R κ (mj_F κ (fun r M' => r = none ∧ M' = (va_up M β m0) ∧ mj_bb none none)) 17 [some (mj_r (β, 0)), none] [] (va_up M β m) := by
  unfold f_X11_saysReport_J17 at h
  refine mj_aload_n C dX11_saysReport_17 rfl ?_
  refine mj_getr (r := (β, 1)) C lF_X11_7 (sM0 hB) rfl dX11_saysReport_18 ?_
  refine mj_bipush (v := 45) C dX11_saysReport_21 (by decide) ?_
  refine mj_bald C (sM1 hB) (mj_okn 45 1897 (Nat.le_of_ble_eq_true rfl) (Nat.le_of_ble_eq_true rfl)) (mj_cln 45 (Nat.le_of_ble_eq_true rfl)) dX11_saysReport_23 ?_
  refine mj_iconst (v := 2) C dX11_saysReport_24 (by decide) ?_
  refine mj_icmp_eq (tgt := 29) C dX11_saysReport_25 (by decide) (fun c15 => ?_) (fun c15 => ?_)
  · replace h := mj_if_t c15 h
    refine mj_aload_n C dX11_saysReport_29 rfl ?_
    refine mj_getr (r := (β, 1)) C lF_X11_7 (sM0 hB) rfl dX11_saysReport_30 ?_
    refine mj_bipush (v := 46) C dX11_saysReport_33 (by decide) ?_
    refine mj_bald C (sM1 hB) (mj_okn 46 1897 (Nat.le_of_ble_eq_true rfl) (Nat.le_of_ble_eq_true rfl)) (mj_cln 46 (Nat.le_of_ble_eq_true rfl)) dX11_saysReport_35 ?_
    obtain ⟨x16, hx16, h⟩ := mj_let_o h
    refine mj_nm hx16 ?_
    refine mj_istore_n (L2 := [some (mj_r (β, 0)), some (.inl x16)]) C dX11_saysReport_36 (Nat.le_of_ble_eq_true rfl) rfl ?_
    refine mj_aload_n C dX11_saysReport_37 rfl ?_
    refine mj_iload_n C dX11_saysReport_38 rfl ?_
    refine mj_iconst (v := 1) C dX11_saysReport_39 (by decide) ?_
    refine mj_iand C dX11_saysReport_40 ?_
    refine mj_if_le (tgt := 49) C dX11_saysReport_41 (by decide) (fun c17 => ?_) (fun c17 => ?_)
    · replace h := mj_if_t c17 h
      refine mj_bipush (v := 45) C dX11_saysReport_49 (by decide) ?_
      refine mj_sub (L' := [some (mj_r (β, 0)), some (.inl x16)]) ⟨rfl, ⟨rfl, trivial⟩⟩ ?_
      exact C_X11_saysReport_J51 C hB hR hT h
    · replace h := mj_if_f c17 h
      refine mj_bipush (v := 76) C dX11_saysReport_44 (by decide) ?_
      refine mj_goto (tgt := 51) C dX11_saysReport_46 (by decide) ?_
      refine mj_sub (L' := [some (mj_r (β, 0)), some (.inl x16)]) ⟨rfl, ⟨rfl, trivial⟩⟩ ?_
      exact C_X11_saysReport_J51 C hB hR hT h
  · replace h := mj_if_f c15 h
    cases h
    exact mj_vret C hT dX11_saysReport_28 ⟨rfl, rfl, mj_bv _⟩
def f_X11_saysReport (m : mj_m) : Option (mj_m) := if m 1 45 = 1 then (mj_b1 (f_X11_says 63 m) (fun m19 => f_X11_saysReport_J17 m19)) else (f_X11_saysReport_J17 m)
set_option maxHeartbeats 4000000 in
set_option maxRecDepth 20000 in
theorem C_X11_saysReport {G : mj_G} {β : Nat} {M : mj_M} {m : mj_m} {m0 : mj_m} (hB : mj_isM G β) (h : f_X11_saysReport m = some m0) : mj_S1 yX11_saysReport cX11_saysReport 2 none 2 G [mj_r (β, 0)] (va_up M β m) none (va_up M β m0) := by
  refine mj_intro (by decide) (Nat.le_of_ble_eq_true rfl) ?_
  intro κ C hG hR hT
  subst hG
  have C : mj_C κ cX11_saysReport 2 RX11 := C
  show mj_R κ (mj_F κ (fun r M' => r = none ∧ M' = (va_up M β m0) ∧ mj_bb none none)) 0 [some (mj_r (β, 0)), none] [] (va_up M β m)
  unfold f_X11_saysReport at h
  refine mj_aload_n C dX11_saysReport_0 rfl ?_
  refine mj_getr (r := (β, 1)) C lF_X11_7 (sM0 hB) rfl dX11_saysReport_1 ?_
  refine mj_bipush (v := 45) C dX11_saysReport_4 (by decide) ?_
  refine mj_bald C (sM1 hB) (mj_okn 45 1897 (Nat.le_of_ble_eq_true rfl) (Nat.le_of_ble_eq_true rfl)) (mj_cln 45 (Nat.le_of_ble_eq_true rfl)) dX11_saysReport_6 ?_
  refine mj_iconst (v := 1) C dX11_saysReport_7 (by decide) ?_
  refine mj_icmp_ne (tgt := 17) C dX11_saysReport_8 (by decide) (fun c18 => ?_) (fun c18 => ?_)
  · replace h := mj_if_f c18 h
    refine mj_sub (L' := [some (mj_r (β, 0)), none]) ⟨rfl, trivial⟩ ?_
    exact C_X11_saysReport_J17 C hB hR hT h
  · replace h := mj_if_t c18 h
    refine mj_aload_n C dX11_saysReport_11 rfl ?_
    refine mj_bipush (v := 63) C dX11_saysReport_12 (by decide) ?_
    obtain ⟨m19, em19, h⟩ := mj_b1_o h
    refine mj_callV0 (av := [.inl 63]) C lM_X11_294 lV_X11_says (sM0 hB) ⟨_, rfl, rfl⟩ rfl (C_X11_says hB em19) (mj_rmok hR (by decide) (by decide)) rfl (Nat.le_of_ble_eq_true rfl) dX11_saysReport_14 ?_
    refine mj_sub (L' := [some (mj_r (β, 0)), none]) ⟨rfl, trivial⟩ ?_
    exact C_X11_saysReport_J17 C hB hR hT h
def f_X11_saysSender (m : mj_m) : Option (mj_m) := mj_let (f_X11_machine m) (fun r1 => mj_b1 (f_X11_saysName (r1 - 1) m) (fun m3 => mj_b1 (f_X11_says 32 m3) (fun m5 => mj_b1 (f_X11_saysNumber (m5 1 25) m5) (fun m7 => mj_b1 (f_X11_says 47 m7) (fun m9 => mj_b1 (f_X11_settingOf 2 m9) (fun r11 => mj_b1 (f_X11_saysNumber r11 m9) (fun m13 => mj_b1 (f_X11_says 32 m13) (fun m15 => mj_b1 (f_X11_says 35 m15) (fun m17 => mj_b1 (f_X11_saysNumber (m17 1 22) m17) (fun m19 => if m19 1 32 = 0 then (some m19) else (mj_b1 (f_X11_says 32 m19) (fun m22 => mj_b1 (f_X11_saysName 14 m22) (fun m24 => mj_b1 (f_X11_says 32 m24) (fun m26 => mj_b1 (f_X11_saysName ((m26 1 32) - 1) m26) (fun m28 => some m28)))))))))))))))
set_option maxHeartbeats 4000000 in
set_option maxRecDepth 20000 in
theorem C_X11_saysSender {G : mj_G} {β : Nat} {M : mj_M} {m : mj_m} {m0 : mj_m} (hB : mj_isM G β) (h : f_X11_saysSender m = some m0) : mj_S1 yX11_saysSender cX11_saysSender 1 none 2 G [mj_r (β, 0)] (va_up M β m) none (va_up M β m0) := by
  refine mj_intro (by decide) (Nat.le_of_ble_eq_true rfl) ?_
  intro κ C hG hR hT
  subst hG
  have C : mj_C κ cX11_saysSender 1 RX11 := C
  show mj_R κ (mj_F κ (fun r M' => r = none ∧ M' = (va_up M β m0) ∧ mj_bb none none)) 0 [some (mj_r (β, 0))] [] (va_up M β m)
  unfold f_X11_saysSender at h
  refine mj_aload_n C dX11_saysSender_0 rfl ?_
  refine mj_aload_n C dX11_saysSender_1 rfl ?_
  obtain ⟨r1, er1, h⟩ := mj_let_o h
  refine mj_callV1 (av := []) C lM_X11_87 lV_X11_machine (sM0 hB) ⟨_, rfl, rfl⟩ rfl (C_X11_machine hB er1) (mj_rmok hR (by decide) (by decide)) rfl (Nat.le_of_ble_eq_true rfl) dX11_saysSender_2 (fun hb2 => ?_)
  refine mj_iconst (v := 1) C dX11_saysSender_5 (by decide) ?_
  refine mj_isub C dX11_saysSender_6 ?_
  obtain ⟨m3, em3, h⟩ := mj_b1_o h
  refine mj_callV0 (av := [.inl (r1 - 1)]) C lM_X11_300 lV_X11_saysName (sM0 hB) ⟨_, rfl, rfl⟩ rfl (C_X11_saysName hB em3) (mj_rmok hR (by decide) (by decide)) rfl (Nat.le_of_ble_eq_true rfl) dX11_saysSender_7 ?_
  refine mj_aload_n C dX11_saysSender_10 rfl ?_
  refine mj_bipush (v := 32) C dX11_saysSender_11 (by decide) ?_
  obtain ⟨m5, em5, h⟩ := mj_b1_o h
  refine mj_callV0 (av := [.inl 32]) C lM_X11_294 lV_X11_says (sM0 hB) ⟨_, rfl, rfl⟩ rfl (C_X11_says hB em5) (mj_rmok hR (by decide) (by decide)) rfl (Nat.le_of_ble_eq_true rfl) dX11_saysSender_13 ?_
  refine mj_aload_n C dX11_saysSender_16 rfl ?_
  refine mj_aload_n C dX11_saysSender_17 rfl ?_
  refine mj_getr (r := (β, 1)) C lF_X11_7 (sM0 hB) rfl dX11_saysSender_18 ?_
  refine mj_bipush (v := 25) C dX11_saysSender_21 (by decide) ?_
  refine mj_bald C (sM1 hB) (mj_okn 25 1897 (Nat.le_of_ble_eq_true rfl) (Nat.le_of_ble_eq_true rfl)) (mj_cln 25 (Nat.le_of_ble_eq_true rfl)) dX11_saysSender_23 ?_
  obtain ⟨m7, em7, h⟩ := mj_b1_o h
  refine mj_callV0 (av := [.inl (m5 1 25)]) C lM_X11_297 lV_X11_saysNumber (sM0 hB) ⟨_, rfl, rfl⟩ rfl (C_X11_saysNumber hB em7) (mj_rmok hR (by decide) (by decide)) rfl (Nat.le_of_ble_eq_true rfl) dX11_saysSender_24 ?_
  refine mj_aload_n C dX11_saysSender_27 rfl ?_
  refine mj_bipush (v := 47) C dX11_saysSender_28 (by decide) ?_
  obtain ⟨m9, em9, h⟩ := mj_b1_o h
  refine mj_callV0 (av := [.inl 47]) C lM_X11_294 lV_X11_says (sM0 hB) ⟨_, rfl, rfl⟩ rfl (C_X11_says hB em9) (mj_rmok hR (by decide) (by decide)) rfl (Nat.le_of_ble_eq_true rfl) dX11_saysSender_30 ?_
  refine mj_aload_n C dX11_saysSender_33 rfl ?_
  refine mj_aload_n C dX11_saysSender_34 rfl ?_
  refine mj_iconst (v := 2) C dX11_saysSender_35 (by decide) ?_
  obtain ⟨r11, er11, h⟩ := mj_b1_o h
  refine mj_callV1 (av := [.inl 2]) C lM_X11_102 lV_X11_settingOf (sM0 hB) ⟨_, rfl, rfl⟩ rfl (C_X11_settingOf hB er11) (mj_rmok hR (by decide) (by decide)) rfl (Nat.le_of_ble_eq_true rfl) dX11_saysSender_36 (fun hb12 => ?_)
  obtain ⟨m13, em13, h⟩ := mj_b1_o h
  refine mj_callV0 (av := [.inl r11]) C lM_X11_297 lV_X11_saysNumber (sM0 hB) ⟨_, rfl, rfl⟩ rfl (C_X11_saysNumber hB em13) (mj_rmok hR (by decide) (by decide)) rfl (Nat.le_of_ble_eq_true rfl) dX11_saysSender_39 ?_
  refine mj_aload_n C dX11_saysSender_42 rfl ?_
  refine mj_bipush (v := 32) C dX11_saysSender_43 (by decide) ?_
  obtain ⟨m15, em15, h⟩ := mj_b1_o h
  refine mj_callV0 (av := [.inl 32]) C lM_X11_294 lV_X11_says (sM0 hB) ⟨_, rfl, rfl⟩ rfl (C_X11_says hB em15) (mj_rmok hR (by decide) (by decide)) rfl (Nat.le_of_ble_eq_true rfl) dX11_saysSender_45 ?_
  refine mj_aload_n C dX11_saysSender_48 rfl ?_
  refine mj_bipush (v := 35) C dX11_saysSender_49 (by decide) ?_
  obtain ⟨m17, em17, h⟩ := mj_b1_o h
  refine mj_callV0 (av := [.inl 35]) C lM_X11_294 lV_X11_says (sM0 hB) ⟨_, rfl, rfl⟩ rfl (C_X11_says hB em17) (mj_rmok hR (by decide) (by decide)) rfl (Nat.le_of_ble_eq_true rfl) dX11_saysSender_51 ?_
  refine mj_aload_n C dX11_saysSender_54 rfl ?_
  refine mj_aload_n C dX11_saysSender_55 rfl ?_
  refine mj_getr (r := (β, 1)) C lF_X11_7 (sM0 hB) rfl dX11_saysSender_56 ?_
  refine mj_bipush (v := 22) C dX11_saysSender_59 (by decide) ?_
  refine mj_bald C (sM1 hB) (mj_okn 22 1897 (Nat.le_of_ble_eq_true rfl) (Nat.le_of_ble_eq_true rfl)) (mj_cln 22 (Nat.le_of_ble_eq_true rfl)) dX11_saysSender_61 ?_
  obtain ⟨m19, em19, h⟩ := mj_b1_o h
  refine mj_callV0 (av := [.inl (m17 1 22)]) C lM_X11_297 lV_X11_saysNumber (sM0 hB) ⟨_, rfl, rfl⟩ rfl (C_X11_saysNumber hB em19) (mj_rmok hR (by decide) (by decide)) rfl (Nat.le_of_ble_eq_true rfl) dX11_saysSender_62 ?_
  refine mj_aload_n C dX11_saysSender_65 rfl ?_
  refine mj_getr (r := (β, 1)) C lF_X11_7 (sM0 hB) rfl dX11_saysSender_66 ?_
  refine mj_bipush (v := 32) C dX11_saysSender_69 (by decide) ?_
  refine mj_bald C (sM1 hB) (mj_okn 32 1897 (Nat.le_of_ble_eq_true rfl) (Nat.le_of_ble_eq_true rfl)) (mj_cln 32 (Nat.le_of_ble_eq_true rfl)) dX11_saysSender_71 ?_
  refine mj_if_ne (tgt := 76) C dX11_saysSender_72 (by decide) (fun c21 => ?_) (fun c21 => ?_)
  · replace h := mj_if_f c21 h
    refine mj_aload_n C dX11_saysSender_76 rfl ?_
    refine mj_bipush (v := 32) C dX11_saysSender_77 (by decide) ?_
    obtain ⟨m22, em22, h⟩ := mj_b1_o h
    refine mj_callV0 (av := [.inl 32]) C lM_X11_294 lV_X11_says (sM0 hB) ⟨_, rfl, rfl⟩ rfl (C_X11_says hB em22) (mj_rmok hR (by decide) (by decide)) rfl (Nat.le_of_ble_eq_true rfl) dX11_saysSender_79 ?_
    refine mj_aload_n C dX11_saysSender_82 rfl ?_
    refine mj_bipush (v := 14) C dX11_saysSender_83 (by decide) ?_
    obtain ⟨m24, em24, h⟩ := mj_b1_o h
    refine mj_callV0 (av := [.inl 14]) C lM_X11_300 lV_X11_saysName (sM0 hB) ⟨_, rfl, rfl⟩ rfl (C_X11_saysName hB em24) (mj_rmok hR (by decide) (by decide)) rfl (Nat.le_of_ble_eq_true rfl) dX11_saysSender_85 ?_
    refine mj_aload_n C dX11_saysSender_88 rfl ?_
    refine mj_bipush (v := 32) C dX11_saysSender_89 (by decide) ?_
    obtain ⟨m26, em26, h⟩ := mj_b1_o h
    refine mj_callV0 (av := [.inl 32]) C lM_X11_294 lV_X11_says (sM0 hB) ⟨_, rfl, rfl⟩ rfl (C_X11_says hB em26) (mj_rmok hR (by decide) (by decide)) rfl (Nat.le_of_ble_eq_true rfl) dX11_saysSender_91 ?_
    refine mj_aload_n C dX11_saysSender_94 rfl ?_
    refine mj_aload_n C dX11_saysSender_95 rfl ?_
    refine mj_getr (r := (β, 1)) C lF_X11_7 (sM0 hB) rfl dX11_saysSender_96 ?_
    refine mj_bipush (v := 32) C dX11_saysSender_99 (by decide) ?_
    refine mj_bald C (sM1 hB) (mj_okn 32 1897 (Nat.le_of_ble_eq_true rfl) (Nat.le_of_ble_eq_true rfl)) (mj_cln 32 (Nat.le_of_ble_eq_true rfl)) dX11_saysSender_101 ?_
    refine mj_iconst (v := 1) C dX11_saysSender_102 (by decide) ?_
    refine mj_isub C dX11_saysSender_103 ?_
    obtain ⟨m28, em28, h⟩ := mj_b1_o h
    refine mj_callV0 (av := [.inl ((m26 1 32) - 1)]) C lM_X11_300 lV_X11_saysName (sM0 hB) ⟨_, rfl, rfl⟩ rfl (C_X11_saysName hB em28) (mj_rmok hR (by decide) (by decide)) rfl (Nat.le_of_ble_eq_true rfl) dX11_saysSender_104 ?_
    cases h
    exact mj_vret C hT dX11_saysSender_107 ⟨rfl, rfl, mj_bv _⟩
  · replace h := mj_if_t c21 h
    cases h
    exact mj_vret C hT dX11_saysSender_75 ⟨rfl, rfl, mj_bv _⟩
def f_X11_saysReceiver_J35 (s0 : Int32) (m : mj_m) : Option (mj_m) := mj_b1 (f_X11_saysName s0 m) (fun m1 => mj_b1 (f_X11_says 32 m1) (fun m3 => mj_b1 (f_X11_saysNumber (m3 1 13) m3) (fun m5 => if m5 1 16 = 1 then (mj_b1 (f_X11_says 82 m5) (fun m8 => some m8)) else (some m5))))
set_option maxHeartbeats 4000000 in
set_option maxRecDepth 20000 in
theorem C_X11_saysReceiver_J35 {κ : mj_K} {β : Nat} {M : mj_M} {s0 : Int32} {m : mj_m} {m0 : mj_m} (C : mj_C κ cX11_saysReceiver 1 RX11) (hB : mj_isM (mj_g κ) β) (hR : mj_dp κ 2) (hT : mj_rt κ = none) (h : f_X11_saysReceiver_J35 s0 m = some m0) : mj_R κ (mj_F κ (fun r M' => r = none ∧ M' = (va_up M β m0) ∧ mj_bb none none)) 35 [some (mj_r (β, 0))] [.inl s0, mj_r (β, 0)] (va_up M β m) := by
  unfold f_X11_saysReceiver_J35 at h
  obtain ⟨m1, em1, h⟩ := mj_b1_o h
  refine mj_callV0 (av := [.inl s0]) C lM_X11_300 lV_X11_saysName (sM0 hB) ⟨_, rfl, rfl⟩ rfl (C_X11_saysName hB em1) (mj_rmok hR (by decide) (by decide)) rfl (Nat.le_of_ble_eq_true rfl) dX11_saysReceiver_35 ?_
  refine mj_aload_n C dX11_saysReceiver_38 rfl ?_
  refine mj_bipush (v := 32) C dX11_saysReceiver_39 (by decide) ?_
  obtain ⟨m3, em3, h⟩ := mj_b1_o h
  refine mj_callV0 (av := [.inl 32]) C lM_X11_294 lV_X11_says (sM0 hB) ⟨_, rfl, rfl⟩ rfl (C_X11_says hB em3) (mj_rmok hR (by decide) (by decide)) rfl (Nat.le_of_ble_eq_true rfl) dX11_saysReceiver_41 ?_
  refine mj_aload_n C dX11_saysReceiver_44 rfl ?_
  refine mj_aload_n C dX11_saysReceiver_45 rfl ?_
  refine mj_getr (r := (β, 1)) C lF_X11_7 (sM0 hB) rfl dX11_saysReceiver_46 ?_
  refine mj_bipush (v := 13) C dX11_saysReceiver_49 (by decide) ?_
  refine mj_bald C (sM1 hB) (mj_okn 13 1897 (Nat.le_of_ble_eq_true rfl) (Nat.le_of_ble_eq_true rfl)) (mj_cln 13 (Nat.le_of_ble_eq_true rfl)) dX11_saysReceiver_51 ?_
  obtain ⟨m5, em5, h⟩ := mj_b1_o h
  refine mj_callV0 (av := [.inl (m3 1 13)]) C lM_X11_297 lV_X11_saysNumber (sM0 hB) ⟨_, rfl, rfl⟩ rfl (C_X11_saysNumber hB em5) (mj_rmok hR (by decide) (by decide)) rfl (Nat.le_of_ble_eq_true rfl) dX11_saysReceiver_52 ?_
  refine mj_aload_n C dX11_saysReceiver_55 rfl ?_
  refine mj_getr (r := (β, 1)) C lF_X11_7 (sM0 hB) rfl dX11_saysReceiver_56 ?_
  refine mj_bipush (v := 16) C dX11_saysReceiver_59 (by decide) ?_
  refine mj_bald C (sM1 hB) (mj_okn 16 1897 (Nat.le_of_ble_eq_true rfl) (Nat.le_of_ble_eq_true rfl)) (mj_cln 16 (Nat.le_of_ble_eq_true rfl)) dX11_saysReceiver_61 ?_
  refine mj_iconst (v := 1) C dX11_saysReceiver_62 (by decide) ?_
  refine mj_icmp_ne (tgt := 72) C dX11_saysReceiver_63 (by decide) (fun c7 => ?_) (fun c7 => ?_)
  · replace h := mj_if_f c7 h
    cases h
    exact mj_vret C hT dX11_saysReceiver_72 ⟨rfl, rfl, mj_bv _⟩
  · replace h := mj_if_t c7 h
    refine mj_aload_n C dX11_saysReceiver_66 rfl ?_
    refine mj_bipush (v := 82) C dX11_saysReceiver_67 (by decide) ?_
    obtain ⟨m8, em8, h⟩ := mj_b1_o h
    refine mj_callV0 (av := [.inl 82]) C lM_X11_294 lV_X11_says (sM0 hB) ⟨_, rfl, rfl⟩ rfl (C_X11_says hB em8) (mj_rmok hR (by decide) (by decide)) rfl (Nat.le_of_ble_eq_true rfl) dX11_saysReceiver_69 ?_
    cases h
    exact mj_vret C hT dX11_saysReceiver_72 ⟨rfl, rfl, mj_bv _⟩
def f_X11_saysReceiver (m : mj_m) : Option (mj_m) := if m 1 14 = 1 then (f_X11_saysReceiver_J35 8 m) else (if m 1 15 = 1 then (f_X11_saysReceiver_J35 7 m) else (f_X11_saysReceiver_J35 6 m))
set_option maxHeartbeats 4000000 in
set_option maxRecDepth 20000 in
theorem C_X11_saysReceiver {G : mj_G} {β : Nat} {M : mj_M} {m : mj_m} {m0 : mj_m} (hB : mj_isM G β) (h : f_X11_saysReceiver m = some m0) : mj_S1 yX11_saysReceiver cX11_saysReceiver 1 none 2 G [mj_r (β, 0)] (va_up M β m) none (va_up M β m0) := by
  refine mj_intro (by decide) (Nat.le_of_ble_eq_true rfl) ?_
  intro κ C hG hR hT
  subst hG
  have C : mj_C κ cX11_saysReceiver 1 RX11 := C
  show mj_R κ (mj_F κ (fun r M' => r = none ∧ M' = (va_up M β m0) ∧ mj_bb none none)) 0 [some (mj_r (β, 0))] [] (va_up M β m)
  unfold f_X11_saysReceiver at h
  refine mj_aload_n C dX11_saysReceiver_0 rfl ?_
  refine mj_aload_n C dX11_saysReceiver_1 rfl ?_
  refine mj_getr (r := (β, 1)) C lF_X11_7 (sM0 hB) rfl dX11_saysReceiver_2 ?_
  refine mj_bipush (v := 14) C dX11_saysReceiver_5 (by decide) ?_
  refine mj_bald C (sM1 hB) (mj_okn 14 1897 (Nat.le_of_ble_eq_true rfl) (Nat.le_of_ble_eq_true rfl)) (mj_cln 14 (Nat.le_of_ble_eq_true rfl)) dX11_saysReceiver_7 ?_
  refine mj_iconst (v := 1) C dX11_saysReceiver_8 (by decide) ?_
  refine mj_icmp_ne (tgt := 17) C dX11_saysReceiver_9 (by decide) (fun c10 => ?_) (fun c10 => ?_)
  · replace h := mj_if_f c10 h
    refine mj_aload_n C dX11_saysReceiver_17 rfl ?_
    refine mj_getr (r := (β, 1)) C lF_X11_7 (sM0 hB) rfl dX11_saysReceiver_18 ?_
    refine mj_bipush (v := 15) C dX11_saysReceiver_21 (by decide) ?_
    refine mj_bald C (sM1 hB) (mj_okn 15 1897 (Nat.le_of_ble_eq_true rfl) (Nat.le_of_ble_eq_true rfl)) (mj_cln 15 (Nat.le_of_ble_eq_true rfl)) dX11_saysReceiver_23 ?_
    refine mj_iconst (v := 1) C dX11_saysReceiver_24 (by decide) ?_
    refine mj_icmp_ne (tgt := 33) C dX11_saysReceiver_25 (by decide) (fun c11 => ?_) (fun c11 => ?_)
    · replace h := mj_if_f c11 h
      refine mj_bipush (v := 6) C dX11_saysReceiver_33 (by decide) ?_
      refine mj_sub (L' := [some (mj_r (β, 0))]) ⟨rfl, trivial⟩ ?_
      exact C_X11_saysReceiver_J35 C hB hR hT h
    · replace h := mj_if_t c11 h
      refine mj_bipush (v := 7) C dX11_saysReceiver_28 (by decide) ?_
      refine mj_goto (tgt := 35) C dX11_saysReceiver_30 (by decide) ?_
      refine mj_sub (L' := [some (mj_r (β, 0))]) ⟨rfl, trivial⟩ ?_
      exact C_X11_saysReceiver_J35 C hB hR hT h
  · replace h := mj_if_t c10 h
    refine mj_bipush (v := 8) C dX11_saysReceiver_12 (by decide) ?_
    refine mj_goto (tgt := 35) C dX11_saysReceiver_14 (by decide) ?_
    refine mj_sub (L' := [some (mj_r (β, 0))]) ⟨rfl, trivial⟩ ?_
    exact C_X11_saysReceiver_J35 C hB hR hT h
def f_X11_told_J79 (l2 : Int32) (m : mj_m) : Option (Int32 × mj_m) := if l2 = (-1) then (some (m 0 7, m)) else (if l2 < 0 then (some ((-1), m)) else (if m 0 7 ≤ l2 then (some ((-1), m)) else (mj_chk (mj_ok l2 60) (some (m 5 (mj_cl l2), m)))))
set_option maxHeartbeats 4000000 in
set_option maxRecDepth 20000 in
theorem C_X11_told_J79 {κ : mj_K} {β : Nat} {M : mj_M} {l2 : Int32} {m : mj_m} {x0 : Int32} {m0 : mj_m} (C : mj_C κ cX11_told 3 RX11) (hB : mj_isM (mj_g κ) β) (hR : mj_dp κ 3) (hT : mj_rt κ = (some .int)) (h : f_X11_told_J79 l2 m = some (x0, m0)) : mj_R κ (mj_F κ (fun r M' => r = (some (.inl x0)) ∧ M' = (va_up M β m0) ∧ mj_bb (some .int) (some (.inl x0)))) 79 [some (mj_r (β, 0)), none, some (.inl l2)] [] (va_up M β m) := by
  unfold f_X11_told_J79 at h
  refine mj_iload_n C dX11_told_79 rfl ?_
  refine mj_iconst (v := (-1)) C dX11_told_80 (by decide) ?_
  refine mj_icmp_ne (tgt := 89) C dX11_told_81 (by decide) (fun c1 => ?_) (fun c1 => ?_)
  · replace h := mj_if_f c1 h
    refine mj_iload_n C dX11_told_89 rfl ?_
    refine mj_if_lt (tgt := 110) C dX11_told_90 (by decide) (fun c2 => ?_) (fun c2 => ?_)
    · replace h := mj_if_t c2 h
      refine mj_iconst (v := (-1)) C dX11_told_110 (by decide) ?_
      cases h
      exact mj_iret C hT (vp_nar_int _) dX11_told_111 ⟨rfl, rfl, mj_bi _⟩
    · replace h := mj_if_f c2 h
      refine mj_iload_n C dX11_told_93 rfl ?_
      refine mj_aload_n C dX11_told_94 rfl ?_
      refine mj_bget C lF_X11_291 (sM0 hB) rfl dX11_told_95 ?_
      refine mj_icmp_ge (tgt := 110) C dX11_told_98 (by decide) (fun c3 => ?_) (fun c3 => ?_)
      · replace h := mj_if_t c3 h
        refine mj_iconst (v := (-1)) C dX11_told_110 (by decide) ?_
        cases h
        exact mj_iret C hT (vp_nar_int _) dX11_told_111 ⟨rfl, rfl, mj_bi _⟩
      · replace h := mj_if_f c3 h
        refine mj_aload_n C dX11_told_101 rfl ?_
        refine mj_getr (r := (β, 5)) C lF_X11_22 (sM0 hB) rfl dX11_told_102 ?_
        refine mj_iload_n C dX11_told_105 rfl ?_
        obtain ⟨k4, h⟩ := mj_chk_o h
        refine mj_bald C (sM5 hB) k4 rfl dX11_told_106 ?_
        refine mj_goto (tgt := 111) C dX11_told_107 (by decide) ?_
        cases h
        exact mj_iret C hT (vp_nar_int _) dX11_told_111 ⟨rfl, rfl, mj_bi _⟩
  · replace h := mj_if_t c1 h
    refine mj_aload_n C dX11_told_84 rfl ?_
    refine mj_bget C lF_X11_291 (sM0 hB) rfl dX11_told_85 ?_
    cases h
    exact mj_iret C hT (vp_nar_int _) dX11_told_88 ⟨rfl, rfl, mj_bi _⟩
def f_X11_told_J48 (l1 : Int32) (l2 : Int32) (m : mj_m) : Option (Int32 × mj_m) := if l1 = 3 then (if m 1 48 ≤ 0 then (f_X11_told_J79 l2 m) else (mj_b1 (f_X11_saysName ((8 + (m 1 48)) - 1) m) (fun m7 => f_X11_told_J79 l2 m7))) else (f_X11_told_J79 l2 m)
set_option maxHeartbeats 4000000 in
set_option maxRecDepth 20000 in
theorem C_X11_told_J48 {κ : mj_K} {β : Nat} {M : mj_M} {l1 : Int32} {l2 : Int32} {m : mj_m} {x0 : Int32} {m0 : mj_m} (C : mj_C κ cX11_told 3 RX11) (hB : mj_isM (mj_g κ) β) (hR : mj_dp κ 3) (hT : mj_rt κ = (some .int)) (h : f_X11_told_J48 l1 l2 m = some (x0, m0)) : mj_R κ (mj_F κ (fun r M' => r = (some (.inl x0)) ∧ M' = (va_up M β m0) ∧ mj_bb (some .int) (some (.inl x0)))) 48 [some (mj_r (β, 0)), some (.inl l1), some (.inl l2)] [] (va_up M β m) := by
  unfold f_X11_told_J48 at h
  refine mj_iload_n C dX11_told_48 rfl ?_
  refine mj_iconst (v := 3) C dX11_told_49 (by decide) ?_
  refine mj_icmp_ne (tgt := 79) C dX11_told_50 (by decide) (fun c5 => ?_) (fun c5 => ?_)
  · replace h := mj_if_f c5 h
    refine mj_sub (L' := [some (mj_r (β, 0)), none, some (.inl l2)]) ⟨rfl, ⟨rfl, trivial⟩⟩ ?_
    exact C_X11_told_J79 C hB hR hT h
  · replace h := mj_if_t c5 h
    refine mj_aload_n C dX11_told_53 rfl ?_
    refine mj_getr (r := (β, 1)) C lF_X11_7 (sM0 hB) rfl dX11_told_54 ?_
    refine mj_bipush (v := 48) C dX11_told_57 (by decide) ?_
    refine mj_bald C (sM1 hB) (mj_okn 48 1897 (Nat.le_of_ble_eq_true rfl) (Nat.le_of_ble_eq_true rfl)) (mj_cln 48 (Nat.le_of_ble_eq_true rfl)) dX11_told_59 ?_
    refine mj_if_le (tgt := 79) C dX11_told_60 (by decide) (fun c6 => ?_) (fun c6 => ?_)
    · replace h := mj_if_t c6 h
      refine mj_sub (L' := [some (mj_r (β, 0)), none, some (.inl l2)]) ⟨rfl, ⟨rfl, trivial⟩⟩ ?_
      exact C_X11_told_J79 C hB hR hT h
    · replace h := mj_if_f c6 h
      refine mj_aload_n C dX11_told_63 rfl ?_
      refine mj_bipush (v := 8) C dX11_told_64 (by decide) ?_
      refine mj_aload_n C dX11_told_66 rfl ?_
      refine mj_getr (r := (β, 1)) C lF_X11_7 (sM0 hB) rfl dX11_told_67 ?_
      refine mj_bipush (v := 48) C dX11_told_70 (by decide) ?_
      refine mj_bald C (sM1 hB) (mj_okn 48 1897 (Nat.le_of_ble_eq_true rfl) (Nat.le_of_ble_eq_true rfl)) (mj_cln 48 (Nat.le_of_ble_eq_true rfl)) dX11_told_72 ?_
      refine mj_iadd C dX11_told_73 ?_
      refine mj_iconst (v := 1) C dX11_told_74 (by decide) ?_
      refine mj_isub C dX11_told_75 ?_
      obtain ⟨m7, em7, h⟩ := mj_b1_o h
      refine mj_callV0 (av := [.inl ((8 + (m 1 48)) - 1)]) C lM_X11_300 lV_X11_saysName (sM0 hB) ⟨_, rfl, rfl⟩ rfl (C_X11_saysName hB em7) (mj_rmok hR (by decide) (by decide)) rfl (Nat.le_of_ble_eq_true rfl) dX11_told_76 ?_
      refine mj_sub (L' := [some (mj_r (β, 0)), none, some (.inl l2)]) ⟨rfl, ⟨rfl, trivial⟩⟩ ?_
      exact C_X11_told_J79 C hB hR hT h
def f_X11_told_J39 (l1 : Int32) (l2 : Int32) (m : mj_m) : Option (Int32 × mj_m) := if l1 = 2 then (mj_b1 (f_X11_saysReceiver m) (fun m10 => f_X11_told_J48 l1 l2 m10)) else (f_X11_told_J48 l1 l2 m)
set_option maxHeartbeats 4000000 in
set_option maxRecDepth 20000 in
theorem C_X11_told_J39 {κ : mj_K} {β : Nat} {M : mj_M} {l1 : Int32} {l2 : Int32} {m : mj_m} {x0 : Int32} {m0 : mj_m} (C : mj_C κ cX11_told 3 RX11) (hB : mj_isM (mj_g κ) β) (hR : mj_dp κ 3) (hT : mj_rt κ = (some .int)) (h : f_X11_told_J39 l1 l2 m = some (x0, m0)) : mj_R κ (mj_F κ (fun r M' => r = (some (.inl x0)) ∧ M' = (va_up M β m0) ∧ mj_bb (some .int) (some (.inl x0)))) 39 [some (mj_r (β, 0)), some (.inl l1), some (.inl l2)] [] (va_up M β m) := by
  unfold f_X11_told_J39 at h
  refine mj_iload_n C dX11_told_39 rfl ?_
  refine mj_iconst (v := 2) C dX11_told_40 (by decide) ?_
  refine mj_icmp_ne (tgt := 48) C dX11_told_41 (by decide) (fun c9 => ?_) (fun c9 => ?_)
  · replace h := mj_if_f c9 h
    refine mj_sub (L' := [some (mj_r (β, 0)), some (.inl l1), some (.inl l2)]) ⟨rfl, ⟨rfl, ⟨rfl, trivial⟩⟩⟩ ?_
    exact C_X11_told_J48 C hB hR hT h
  · replace h := mj_if_t c9 h
    refine mj_aload_n C dX11_told_44 rfl ?_
    obtain ⟨m10, em10, h⟩ := mj_b1_o h
    refine mj_callV0 (av := []) C lM_X11_309 lV_X11_saysReceiver (sM0 hB) ⟨_, rfl, rfl⟩ rfl (C_X11_saysReceiver hB em10) (mj_rmok hR (by decide) (by decide)) rfl (Nat.le_of_ble_eq_true rfl) dX11_told_45 ?_
    refine mj_sub (L' := [some (mj_r (β, 0)), some (.inl l1), some (.inl l2)]) ⟨rfl, ⟨rfl, ⟨rfl, trivial⟩⟩⟩ ?_
    exact C_X11_told_J48 C hB hR hT h
def f_X11_told_J30 (l1 : Int32) (l2 : Int32) (m : mj_m) : Option (Int32 × mj_m) := if l1 = 1 then (mj_b1 (f_X11_saysSender m) (fun m13 => f_X11_told_J39 l1 l2 m13)) else (f_X11_told_J39 l1 l2 m)
set_option maxHeartbeats 4000000 in
set_option maxRecDepth 20000 in
theorem C_X11_told_J30 {κ : mj_K} {β : Nat} {M : mj_M} {l1 : Int32} {l2 : Int32} {m : mj_m} {x0 : Int32} {m0 : mj_m} (C : mj_C κ cX11_told 3 RX11) (hB : mj_isM (mj_g κ) β) (hR : mj_dp κ 3) (hT : mj_rt κ = (some .int)) (h : f_X11_told_J30 l1 l2 m = some (x0, m0)) : mj_R κ (mj_F κ (fun r M' => r = (some (.inl x0)) ∧ M' = (va_up M β m0) ∧ mj_bb (some .int) (some (.inl x0)))) 30 [some (mj_r (β, 0)), some (.inl l1), some (.inl l2)] [] (va_up M β m) := by
  unfold f_X11_told_J30 at h
  refine mj_iload_n C dX11_told_30 rfl ?_
  refine mj_iconst (v := 1) C dX11_told_31 (by decide) ?_
  refine mj_icmp_ne (tgt := 39) C dX11_told_32 (by decide) (fun c12 => ?_) (fun c12 => ?_)
  · replace h := mj_if_f c12 h
    refine mj_sub (L' := [some (mj_r (β, 0)), some (.inl l1), some (.inl l2)]) ⟨rfl, ⟨rfl, ⟨rfl, trivial⟩⟩⟩ ?_
    exact C_X11_told_J39 C hB hR hT h
  · replace h := mj_if_t c12 h
    refine mj_aload_n C dX11_told_35 rfl ?_
    obtain ⟨m13, em13, h⟩ := mj_b1_o h
    refine mj_callV0 (av := []) C lM_X11_306 lV_X11_saysSender (sM0 hB) ⟨_, rfl, rfl⟩ rfl (C_X11_saysSender hB em13) (mj_rmok hR (by decide) (by decide)) rfl (Nat.le_of_ble_eq_true rfl) dX11_told_36 ?_
    refine mj_sub (L' := [some (mj_r (β, 0)), some (.inl l1), some (.inl l2)]) ⟨rfl, ⟨rfl, ⟨rfl, trivial⟩⟩⟩ ?_
    exact C_X11_told_J39 C hB hR hT h
def f_X11_told (a1 : Int32) (a2 : Int32) (m : mj_m) : Option (Int32 × mj_m) := mj_let (mj_wrs m 0 0 0) (fun m15 => mj_let (f_X11_isIn a1 0 3) (fun r16 => if r16 = 0 then (some ((-1), m15)) else (mj_let (mj_wrs m15 0 7 0) (fun m19 => if a1 = 0 then (mj_b1 (f_X11_saysReport m19) (fun m21 => f_X11_told_J30 a1 a2 m21)) else (f_X11_told_J30 a1 a2 m19)))))
set_option maxHeartbeats 4000000 in
set_option maxRecDepth 20000 in
theorem C_X11_told {G : mj_G} {β : Nat} {M : mj_M} {a1 : Int32} {a2 : Int32} {m : mj_m} {x0 : Int32} {m0 : mj_m} (hB : mj_isM G β) (h : f_X11_told a1 a2 m = some (x0, m0)) : mj_S1 yX11_told cX11_told 3 (some .int) 3 G [mj_r (β, 0), .inl a1, .inl a2] (va_up M β m) (some (.inl x0)) (va_up M β m0) := by
  refine mj_intro (by decide) (Nat.le_of_ble_eq_true rfl) ?_
  intro κ C hG hR hT
  subst hG
  have C : mj_C κ cX11_told 3 RX11 := C
  show mj_R κ (mj_F κ (fun r M' => r = (some (.inl x0)) ∧ M' = (va_up M β m0) ∧ mj_bb (some .int) (some (.inl x0)))) 0 [some (mj_r (β, 0)), some (.inl a1), some (.inl a2)] [] (va_up M β m)
  unfold f_X11_told at h
  refine mj_aload_n C dX11_told_0 rfl ?_
  refine mj_iconst (v := 0) C dX11_told_1 (by decide) ?_
  obtain ⟨m15, hm15, h⟩ := mj_let_o h
  refine mj_bput C lF_X11_41 fP_12_0 (vp_nar_int _) rfl (sM0 hB) rfl dX11_told_2 hm15 ?_
  refine mj_aload_n C dX11_told_5 rfl ?_
  refine mj_iload_n C dX11_told_6 rfl ?_
  refine mj_iconst (v := 0) C dX11_told_7 (by decide) ?_
  refine mj_iconst (v := 3) C dX11_told_8 (by decide) ?_
  obtain ⟨r16, er16, h⟩ := mj_let_o h
  refine mj_callV1 (av := [.inl a1, .inl 0, .inl 3]) C lM_X11_48 lV_X11_isIn (sM0 hB) ⟨_, rfl, rfl⟩ rfl (C_X11_isIn hB er16) (mj_rmok hR (by decide) (by decide)) rfl (Nat.le_of_ble_eq_true rfl) dX11_told_9 (fun hb17 => ?_)
  refine mj_if_ne (tgt := 17) C dX11_told_12 (by decide) (fun c18 => ?_) (fun c18 => ?_)
  · replace h := mj_if_f c18 h
    refine mj_aload_n C dX11_told_17 rfl ?_
    refine mj_iconst (v := 0) C dX11_told_18 (by decide) ?_
    obtain ⟨m19, hm19, h⟩ := mj_let_o h
    refine mj_bput C lF_X11_291 fP_12_7 (vp_nar_int _) rfl (sM0 hB) rfl dX11_told_19 hm19 ?_
    refine mj_iload_n C dX11_told_22 rfl ?_
    refine mj_if_ne (tgt := 30) C dX11_told_23 (by decide) (fun c20 => ?_) (fun c20 => ?_)
    · replace h := mj_if_f c20 h
      refine mj_sub (L' := [some (mj_r (β, 0)), some (.inl a1), some (.inl a2)]) ⟨rfl, ⟨rfl, ⟨rfl, trivial⟩⟩⟩ ?_
      exact C_X11_told_J30 C hB hR hT h
    · replace h := mj_if_t c20 h
      refine mj_aload_n C dX11_told_26 rfl ?_
      obtain ⟨m21, em21, h⟩ := mj_b1_o h
      refine mj_callV0 (av := []) C lM_X11_303 lV_X11_saysReport (sM0 hB) ⟨_, rfl, rfl⟩ rfl (C_X11_saysReport hB em21) (mj_rmok hR (by decide) (by decide)) rfl (Nat.le_of_ble_eq_true rfl) dX11_told_27 ?_
      refine mj_sub (L' := [some (mj_r (β, 0)), some (.inl a1), some (.inl a2)]) ⟨rfl, ⟨rfl, ⟨rfl, trivial⟩⟩⟩ ?_
      exact C_X11_told_J30 C hB hR hT h
  · replace h := mj_if_t c18 h
    refine mj_iconst (v := (-1)) C dX11_told_15 (by decide) ?_
    cases h
    exact mj_iret C hT (vp_nar_int _) dX11_told_16 ⟨rfl, rfl, mj_bi _⟩
def f_X11_markedMany_L4 : Nat → Int32 → Int32 → mj_m → Option (Int32)
  | 0, _, _, _ => none
  | n + 1, l1, l2, m => if m 1 25 ≤ l2 then (some l1) else (mj_chk (mj_ok (86 + l2) 1897) (mj_let (l1 + (m 1 (mj_cl (86 + l2)))) (fun x3 => mj_let (l2 + 1) (fun x4 => f_X11_markedMany_L4 n x3 x4 m))))
set_option maxHeartbeats 4000000 in
set_option maxRecDepth 20000 in
theorem C_X11_markedMany_L4 {κ : mj_K} {Q : State → Prop} {β : Nat} {M : mj_M} (C : mj_C κ cX11_markedMany 3 RX11) (hB : mj_isM (mj_g κ) β) (hR : mj_dp κ 0) : ∀ (n : Nat) (l1 : Int32) (l2 : Int32) (m : mj_m) (o1 : Int32), f_X11_markedMany_L4 n l1 l2 m = some o1 → (mj_R κ Q 33 [none, some (.inl o1), none] [] (va_up M β m)) → mj_R κ Q 4 [some (mj_r (β, 0)), some (.inl l1), some (.inl l2)] [] (va_up M β m) := by
  intro n
  induction n with
  | zero =>
    intro l1 l2 m o1 h
    cases h
  | succ n ih =>
    intro l1 l2 m o1 h hx33
    rw [f_X11_markedMany_L4] at h
    refine mj_iload_n C dX11_markedMany_4 rfl ?_
    refine mj_aload_n C dX11_markedMany_5 rfl ?_
    refine mj_getr (r := (β, 1)) C lF_X11_7 (sM0 hB) rfl dX11_markedMany_6 ?_
    refine mj_bipush (v := 25) C dX11_markedMany_9 (by decide) ?_
    refine mj_bald C (sM1 hB) (mj_okn 25 1897 (Nat.le_of_ble_eq_true rfl) (Nat.le_of_ble_eq_true rfl)) (mj_cln 25 (Nat.le_of_ble_eq_true rfl)) dX11_markedMany_11 ?_
    refine mj_icmp_ge (tgt := 33) C dX11_markedMany_12 (by decide) (fun c1 => ?_) (fun c1 => ?_)
    · replace h := mj_if_t c1 h
      cases h
      refine mj_sub ?_ (hx33)
      exact ⟨rfl, trivial⟩
    · replace h := mj_if_f c1 h
      refine mj_iload_n C dX11_markedMany_15 rfl ?_
      refine mj_aload_n C dX11_markedMany_16 rfl ?_
      refine mj_getr (r := (β, 1)) C lF_X11_7 (sM0 hB) rfl dX11_markedMany_17 ?_
      refine mj_bipush (v := 86) C dX11_markedMany_20 (by decide) ?_
      refine mj_iload_n C dX11_markedMany_22 rfl ?_
      refine mj_iadd C dX11_markedMany_23 ?_
      obtain ⟨k2, h⟩ := mj_chk_o h
      refine mj_bald C (sM1 hB) k2 rfl dX11_markedMany_24 ?_
      refine mj_iadd C dX11_markedMany_25 ?_
      obtain ⟨x3, hx3, h⟩ := mj_let_o h
      refine mj_nm hx3 ?_
      refine mj_istore_n (L2 := [some (mj_r (β, 0)), some (.inl x3), some (.inl l2)]) C dX11_markedMany_26 (Nat.le_of_ble_eq_true rfl) rfl ?_
      obtain ⟨x4, hx4, h⟩ := mj_let_o h
      refine mj_iinc (L2 := [some (mj_r (β, 0)), some (.inl x3), some (.inl x4)]) C dX11_markedMany_27 rfl hx4 rfl ?_
      refine mj_goto (tgt := 4) C dX11_markedMany_30 (by decide) ?_
      refine mj_sub (L' := [some (mj_r (β, 0)), some (.inl x3), some (.inl x4)]) ⟨rfl, ⟨rfl, ⟨rfl, trivial⟩⟩⟩ ?_
      exact ih _ _ _ _ h hx33
def f_X11_markedMany (m : mj_m) : Option (Int32) := mj_b1 (f_X11_markedMany_L4 mj_fu 0 0 m) (fun x5 => some x5)
set_option maxHeartbeats 4000000 in
set_option maxRecDepth 20000 in
theorem C_X11_markedMany {G : mj_G} {β : Nat} {M : mj_M} {m : mj_m} {x0 : Int32} (hB : mj_isM G β) (h : f_X11_markedMany m = some x0) : mj_S1 yX11_markedMany cX11_markedMany 3 (some .int) 0 G [mj_r (β, 0)] (va_up M β m) (some (.inl x0)) (va_up M β m) := by
  refine mj_intro (by decide) (Nat.le_of_ble_eq_true rfl) ?_
  intro κ C hG hR hT
  subst hG
  have C : mj_C κ cX11_markedMany 3 RX11 := C
  show mj_R κ (mj_F κ (fun r M' => r = (some (.inl x0)) ∧ M' = (va_up M β m) ∧ mj_bb (some .int) (some (.inl x0)))) 0 [some (mj_r (β, 0)), none, none] [] (va_up M β m)
  unfold f_X11_markedMany at h
  refine mj_iconst (v := 0) C dX11_markedMany_0 (by decide) ?_
  refine mj_istore_n (L2 := [some (mj_r (β, 0)), some (.inl 0), none]) C dX11_markedMany_1 (Nat.le_of_ble_eq_true rfl) rfl ?_
  refine mj_iconst (v := 0) C dX11_markedMany_2 (by decide) ?_
  refine mj_istore_n (L2 := [some (mj_r (β, 0)), some (.inl 0), some (.inl 0)]) C dX11_markedMany_3 (Nat.le_of_ble_eq_true rfl) rfl ?_
  obtain ⟨x5, hl6, h⟩ := mj_b1_o h
  refine mj_sub (L' := [some (mj_r (β, 0)), some (.inl 0), some (.inl 0)]) ⟨rfl, ⟨rfl, ⟨rfl, trivial⟩⟩⟩ ?_
  refine C_X11_markedMany_L4 C hB hR _ _ _ _ _ hl6 ?_
  refine mj_iload_n C dX11_markedMany_33 rfl ?_
  cases h
  exact mj_iret C hT (vp_nar_int _) dX11_markedMany_34 ⟨rfl, rfl, mj_bi _⟩
def f_X11_sender (a1 : Int32) (m : mj_m) : Option (Int32 × mj_m) := mj_let (mj_wrs m 0 0 0) (fun m1 => if a1 = 0 then (mj_let (f_X11_machine m1) (fun r24 => some (r24, m1))) else (if a1 = 1 then (some (m1 1 22, m1)) else (if a1 = 2 then (some (m1 1 23, m1)) else (if a1 = 3 then (some (m1 1 24, m1)) else (if a1 = 4 then (some (m1 1 25, m1)) else (if a1 = 5 then (mj_b1 (f_X11_markedMany m1) (fun r22 => some (r22, m1))) else (if a1 = 6 then (some (m1 1 29, m1)) else (if a1 = 7 then (some (m1 1 30, m1)) else (if a1 = 8 then (some (m1 1 31, m1)) else (if a1 = 9 then (some (m1 1 32, m1)) else (if a1 = 10 then (some ((m1 1 26) - 1, m1)) else (mj_let (f_X11_isIn a1 100 (99 + (m1 1 25))) (fun r13 => if r13 = 0 then (mj_let (f_X11_isIn a1 200 (199 + (m1 1 25))) (fun r16 => if r16 = 0 then (some ((-2), m1)) else (mj_let (f_X11_numberOf (a1 - 200) m1) (fun r19 => some (r19, m1))))) else (mj_chk (mj_ok ((66 + a1) - 100) 1897) (some (m1 1 (mj_cl ((66 + a1) - 100)), m1))))))))))))))))
set_option maxHeartbeats 4000000 in
set_option maxRecDepth 20000 in
theorem C_X11_sender {G : mj_G} {β : Nat} {M : mj_M} {a1 : Int32} {m : mj_m} {x0 : Int32} {m0 : mj_m} (hB : mj_isM G β) (h : f_X11_sender a1 m = some (x0, m0)) : mj_S1 yX11_sender cX11_sender 2 (some .int) 2 G [mj_r (β, 0), .inl a1] (va_up M β m) (some (.inl x0)) (va_up M β m0) := by
  refine mj_intro (by decide) (Nat.le_of_ble_eq_true rfl) ?_
  intro κ C hG hR hT
  subst hG
  have C : mj_C κ cX11_sender 2 RX11 := C
  show mj_R κ (mj_F κ (fun r M' => r = (some (.inl x0)) ∧ M' = (va_up M β m0) ∧ mj_bb (some .int) (some (.inl x0)))) 0 [some (mj_r (β, 0)), some (.inl a1)] [] (va_up M β m)
  unfold f_X11_sender at h
  refine mj_aload_n C dX11_sender_0 rfl ?_
  refine mj_iconst (v := 0) C dX11_sender_1 (by decide) ?_
  obtain ⟨m1, hm1, h⟩ := mj_let_o h
  refine mj_bput C lF_X11_41 fP_12_0 (vp_nar_int _) rfl (sM0 hB) rfl dX11_sender_2 hm1 ?_
  refine mj_iload_n C dX11_sender_5 rfl ?_
  refine mj_if_ne (tgt := 14) C dX11_sender_6 (by decide) (fun c2 => ?_) (fun c2 => ?_)
  · replace h := mj_if_f c2 h
    refine mj_iload_n C dX11_sender_14 rfl ?_
    refine mj_iconst (v := 1) C dX11_sender_15 (by decide) ?_
    refine mj_icmp_ne (tgt := 27) C dX11_sender_16 (by decide) (fun c3 => ?_) (fun c3 => ?_)
    · replace h := mj_if_f c3 h
      refine mj_iload_n C dX11_sender_27 rfl ?_
      refine mj_iconst (v := 2) C dX11_sender_28 (by decide) ?_
      refine mj_icmp_ne (tgt := 40) C dX11_sender_29 (by decide) (fun c4 => ?_) (fun c4 => ?_)
      · replace h := mj_if_f c4 h
        refine mj_iload_n C dX11_sender_40 rfl ?_
        refine mj_iconst (v := 3) C dX11_sender_41 (by decide) ?_
        refine mj_icmp_ne (tgt := 53) C dX11_sender_42 (by decide) (fun c5 => ?_) (fun c5 => ?_)
        · replace h := mj_if_f c5 h
          refine mj_iload_n C dX11_sender_53 rfl ?_
          refine mj_iconst (v := 4) C dX11_sender_54 (by decide) ?_
          refine mj_icmp_ne (tgt := 66) C dX11_sender_55 (by decide) (fun c6 => ?_) (fun c6 => ?_)
          · replace h := mj_if_f c6 h
            refine mj_iload_n C dX11_sender_66 rfl ?_
            refine mj_iconst (v := 5) C dX11_sender_67 (by decide) ?_
            refine mj_icmp_ne (tgt := 76) C dX11_sender_68 (by decide) (fun c7 => ?_) (fun c7 => ?_)
            · replace h := mj_if_f c7 h
              refine mj_iload_n C dX11_sender_76 rfl ?_
              refine mj_bipush (v := 6) C dX11_sender_77 (by decide) ?_
              refine mj_icmp_ne (tgt := 90) C dX11_sender_79 (by decide) (fun c8 => ?_) (fun c8 => ?_)
              · replace h := mj_if_f c8 h
                refine mj_iload_n C dX11_sender_90 rfl ?_
                refine mj_bipush (v := 7) C dX11_sender_91 (by decide) ?_
                refine mj_icmp_ne (tgt := 104) C dX11_sender_93 (by decide) (fun c9 => ?_) (fun c9 => ?_)
                · replace h := mj_if_f c9 h
                  refine mj_iload_n C dX11_sender_104 rfl ?_
                  refine mj_bipush (v := 8) C dX11_sender_105 (by decide) ?_
                  refine mj_icmp_ne (tgt := 118) C dX11_sender_107 (by decide) (fun c10 => ?_) (fun c10 => ?_)
                  · replace h := mj_if_f c10 h
                    refine mj_iload_n C dX11_sender_118 rfl ?_
                    refine mj_bipush (v := 9) C dX11_sender_119 (by decide) ?_
                    refine mj_icmp_ne (tgt := 132) C dX11_sender_121 (by decide) (fun c11 => ?_) (fun c11 => ?_)
                    · replace h := mj_if_f c11 h
                      refine mj_iload_n C dX11_sender_132 rfl ?_
                      refine mj_bipush (v := 10) C dX11_sender_133 (by decide) ?_
                      refine mj_icmp_ne (tgt := 148) C dX11_sender_135 (by decide) (fun c12 => ?_) (fun c12 => ?_)
                      · replace h := mj_if_f c12 h
                        refine mj_aload_n C dX11_sender_148 rfl ?_
                        refine mj_iload_n C dX11_sender_149 rfl ?_
                        refine mj_bipush (v := 100) C dX11_sender_150 (by decide) ?_
                        refine mj_bipush (v := 99) C dX11_sender_152 (by decide) ?_
                        refine mj_aload_n C dX11_sender_154 rfl ?_
                        refine mj_getr (r := (β, 1)) C lF_X11_7 (sM0 hB) rfl dX11_sender_155 ?_
                        refine mj_bipush (v := 25) C dX11_sender_158 (by decide) ?_
                        refine mj_bald C (sM1 hB) (mj_okn 25 1897 (Nat.le_of_ble_eq_true rfl) (Nat.le_of_ble_eq_true rfl)) (mj_cln 25 (Nat.le_of_ble_eq_true rfl)) dX11_sender_160 ?_
                        refine mj_iadd C dX11_sender_161 ?_
                        obtain ⟨r13, er13, h⟩ := mj_let_o h
                        refine mj_callV1 (av := [.inl a1, .inl 100, .inl (99 + (m1 1 25))]) C lM_X11_48 lV_X11_isIn (sM0 hB) ⟨_, rfl, rfl⟩ rfl (C_X11_isIn hB er13) (mj_rmok hR (by decide) (by decide)) rfl (Nat.le_of_ble_eq_true rfl) dX11_sender_162 (fun hb14 => ?_)
                        refine mj_if_eq (tgt := 181) C dX11_sender_165 (by decide) (fun c15 => ?_) (fun c15 => ?_)
                        · replace h := mj_if_t c15 h
                          refine mj_aload_n C dX11_sender_181 rfl ?_
                          refine mj_iload_n C dX11_sender_182 rfl ?_
                          refine mj_sipush (v := 200) C dX11_sender_183 (by decide) ?_
                          refine mj_sipush (v := 199) C dX11_sender_186 (by decide) ?_
                          refine mj_aload_n C dX11_sender_189 rfl ?_
                          refine mj_getr (r := (β, 1)) C lF_X11_7 (sM0 hB) rfl dX11_sender_190 ?_
                          refine mj_bipush (v := 25) C dX11_sender_193 (by decide) ?_
                          refine mj_bald C (sM1 hB) (mj_okn 25 1897 (Nat.le_of_ble_eq_true rfl) (Nat.le_of_ble_eq_true rfl)) (mj_cln 25 (Nat.le_of_ble_eq_true rfl)) dX11_sender_195 ?_
                          refine mj_iadd C dX11_sender_196 ?_
                          obtain ⟨r16, er16, h⟩ := mj_let_o h
                          refine mj_callV1 (av := [.inl a1, .inl 200, .inl (199 + (m1 1 25))]) C lM_X11_48 lV_X11_isIn (sM0 hB) ⟨_, rfl, rfl⟩ rfl (C_X11_isIn hB er16) (mj_rmok hR (by decide) (by decide)) rfl (Nat.le_of_ble_eq_true rfl) dX11_sender_197 (fun hb17 => ?_)
                          refine mj_if_eq (tgt := 215) C dX11_sender_200 (by decide) (fun c18 => ?_) (fun c18 => ?_)
                          · replace h := mj_if_t c18 h
                            refine mj_bipush (v := (-2)) C dX11_sender_215 (by decide) ?_
                            cases h
                            exact mj_iret C hT (vp_nar_int _) dX11_sender_217 ⟨rfl, rfl, mj_bi _⟩
                          · replace h := mj_if_f c18 h
                            refine mj_aload_n C dX11_sender_203 rfl ?_
                            refine mj_iload_n C dX11_sender_204 rfl ?_
                            refine mj_sipush (v := 200) C dX11_sender_205 (by decide) ?_
                            refine mj_isub C dX11_sender_208 ?_
                            obtain ⟨r19, er19, h⟩ := mj_let_o h
                            refine mj_callV1 (av := [.inl (a1 - 200)]) C lM_X11_207 lV_X11_numberOf (sM0 hB) ⟨_, rfl, rfl⟩ rfl (C_X11_numberOf hB er19) (mj_rmok hR (by decide) (by decide)) rfl (Nat.le_of_ble_eq_true rfl) dX11_sender_209 (fun hb20 => ?_)
                            refine mj_goto (tgt := 217) C dX11_sender_212 (by decide) ?_
                            cases h
                            exact mj_iret C hT (vp_nar_int _) dX11_sender_217 ⟨rfl, rfl, mj_bi _⟩
                        · replace h := mj_if_f c15 h
                          refine mj_aload_n C dX11_sender_168 rfl ?_
                          refine mj_getr (r := (β, 1)) C lF_X11_7 (sM0 hB) rfl dX11_sender_169 ?_
                          refine mj_bipush (v := 66) C dX11_sender_172 (by decide) ?_
                          refine mj_iload_n C dX11_sender_174 rfl ?_
                          refine mj_iadd C dX11_sender_175 ?_
                          refine mj_bipush (v := 100) C dX11_sender_176 (by decide) ?_
                          refine mj_isub C dX11_sender_178 ?_
                          obtain ⟨k21, h⟩ := mj_chk_o h
                          refine mj_bald C (sM1 hB) k21 rfl dX11_sender_179 ?_
                          cases h
                          exact mj_iret C hT (vp_nar_int _) dX11_sender_180 ⟨rfl, rfl, mj_bi _⟩
                      · replace h := mj_if_t c12 h
                        refine mj_aload_n C dX11_sender_138 rfl ?_
                        refine mj_getr (r := (β, 1)) C lF_X11_7 (sM0 hB) rfl dX11_sender_139 ?_
                        refine mj_bipush (v := 26) C dX11_sender_142 (by decide) ?_
                        refine mj_bald C (sM1 hB) (mj_okn 26 1897 (Nat.le_of_ble_eq_true rfl) (Nat.le_of_ble_eq_true rfl)) (mj_cln 26 (Nat.le_of_ble_eq_true rfl)) dX11_sender_144 ?_
                        refine mj_iconst (v := 1) C dX11_sender_145 (by decide) ?_
                        refine mj_isub C dX11_sender_146 ?_
                        cases h
                        exact mj_iret C hT (vp_nar_int _) dX11_sender_147 ⟨rfl, rfl, mj_bi _⟩
                    · replace h := mj_if_t c11 h
                      refine mj_aload_n C dX11_sender_124 rfl ?_
                      refine mj_getr (r := (β, 1)) C lF_X11_7 (sM0 hB) rfl dX11_sender_125 ?_
                      refine mj_bipush (v := 32) C dX11_sender_128 (by decide) ?_
                      refine mj_bald C (sM1 hB) (mj_okn 32 1897 (Nat.le_of_ble_eq_true rfl) (Nat.le_of_ble_eq_true rfl)) (mj_cln 32 (Nat.le_of_ble_eq_true rfl)) dX11_sender_130 ?_
                      cases h
                      exact mj_iret C hT (vp_nar_int _) dX11_sender_131 ⟨rfl, rfl, mj_bi _⟩
                  · replace h := mj_if_t c10 h
                    refine mj_aload_n C dX11_sender_110 rfl ?_
                    refine mj_getr (r := (β, 1)) C lF_X11_7 (sM0 hB) rfl dX11_sender_111 ?_
                    refine mj_bipush (v := 31) C dX11_sender_114 (by decide) ?_
                    refine mj_bald C (sM1 hB) (mj_okn 31 1897 (Nat.le_of_ble_eq_true rfl) (Nat.le_of_ble_eq_true rfl)) (mj_cln 31 (Nat.le_of_ble_eq_true rfl)) dX11_sender_116 ?_
                    cases h
                    exact mj_iret C hT (vp_nar_int _) dX11_sender_117 ⟨rfl, rfl, mj_bi _⟩
                · replace h := mj_if_t c9 h
                  refine mj_aload_n C dX11_sender_96 rfl ?_
                  refine mj_getr (r := (β, 1)) C lF_X11_7 (sM0 hB) rfl dX11_sender_97 ?_
                  refine mj_bipush (v := 30) C dX11_sender_100 (by decide) ?_
                  refine mj_bald C (sM1 hB) (mj_okn 30 1897 (Nat.le_of_ble_eq_true rfl) (Nat.le_of_ble_eq_true rfl)) (mj_cln 30 (Nat.le_of_ble_eq_true rfl)) dX11_sender_102 ?_
                  cases h
                  exact mj_iret C hT (vp_nar_int _) dX11_sender_103 ⟨rfl, rfl, mj_bi _⟩
              · replace h := mj_if_t c8 h
                refine mj_aload_n C dX11_sender_82 rfl ?_
                refine mj_getr (r := (β, 1)) C lF_X11_7 (sM0 hB) rfl dX11_sender_83 ?_
                refine mj_bipush (v := 29) C dX11_sender_86 (by decide) ?_
                refine mj_bald C (sM1 hB) (mj_okn 29 1897 (Nat.le_of_ble_eq_true rfl) (Nat.le_of_ble_eq_true rfl)) (mj_cln 29 (Nat.le_of_ble_eq_true rfl)) dX11_sender_88 ?_
                cases h
                exact mj_iret C hT (vp_nar_int _) dX11_sender_89 ⟨rfl, rfl, mj_bi _⟩
            · replace h := mj_if_t c7 h
              refine mj_aload_n C dX11_sender_71 rfl ?_
              obtain ⟨r22, er22, h⟩ := mj_b1_o h
              refine mj_callV1 (av := []) C lM_X11_312 lV_X11_markedMany (sM0 hB) ⟨_, rfl, rfl⟩ rfl (C_X11_markedMany hB er22) (mj_rmok hR (by decide) (by decide)) rfl (Nat.le_of_ble_eq_true rfl) dX11_sender_72 (fun hb23 => ?_)
              cases h
              exact mj_iret C hT (vp_nar_int _) dX11_sender_75 ⟨rfl, rfl, mj_bi _⟩
          · replace h := mj_if_t c6 h
            refine mj_aload_n C dX11_sender_58 rfl ?_
            refine mj_getr (r := (β, 1)) C lF_X11_7 (sM0 hB) rfl dX11_sender_59 ?_
            refine mj_bipush (v := 25) C dX11_sender_62 (by decide) ?_
            refine mj_bald C (sM1 hB) (mj_okn 25 1897 (Nat.le_of_ble_eq_true rfl) (Nat.le_of_ble_eq_true rfl)) (mj_cln 25 (Nat.le_of_ble_eq_true rfl)) dX11_sender_64 ?_
            cases h
            exact mj_iret C hT (vp_nar_int _) dX11_sender_65 ⟨rfl, rfl, mj_bi _⟩
        · replace h := mj_if_t c5 h
          refine mj_aload_n C dX11_sender_45 rfl ?_
          refine mj_getr (r := (β, 1)) C lF_X11_7 (sM0 hB) rfl dX11_sender_46 ?_
          refine mj_bipush (v := 24) C dX11_sender_49 (by decide) ?_
          refine mj_bald C (sM1 hB) (mj_okn 24 1897 (Nat.le_of_ble_eq_true rfl) (Nat.le_of_ble_eq_true rfl)) (mj_cln 24 (Nat.le_of_ble_eq_true rfl)) dX11_sender_51 ?_
          cases h
          exact mj_iret C hT (vp_nar_int _) dX11_sender_52 ⟨rfl, rfl, mj_bi _⟩
      · replace h := mj_if_t c4 h
        refine mj_aload_n C dX11_sender_32 rfl ?_
        refine mj_getr (r := (β, 1)) C lF_X11_7 (sM0 hB) rfl dX11_sender_33 ?_
        refine mj_bipush (v := 23) C dX11_sender_36 (by decide) ?_
        refine mj_bald C (sM1 hB) (mj_okn 23 1897 (Nat.le_of_ble_eq_true rfl) (Nat.le_of_ble_eq_true rfl)) (mj_cln 23 (Nat.le_of_ble_eq_true rfl)) dX11_sender_38 ?_
        cases h
        exact mj_iret C hT (vp_nar_int _) dX11_sender_39 ⟨rfl, rfl, mj_bi _⟩
    · replace h := mj_if_t c3 h
      refine mj_aload_n C dX11_sender_19 rfl ?_
      refine mj_getr (r := (β, 1)) C lF_X11_7 (sM0 hB) rfl dX11_sender_20 ?_
      refine mj_bipush (v := 22) C dX11_sender_23 (by decide) ?_
      refine mj_bald C (sM1 hB) (mj_okn 22 1897 (Nat.le_of_ble_eq_true rfl) (Nat.le_of_ble_eq_true rfl)) (mj_cln 22 (Nat.le_of_ble_eq_true rfl)) dX11_sender_25 ?_
      cases h
      exact mj_iret C hT (vp_nar_int _) dX11_sender_26 ⟨rfl, rfl, mj_bi _⟩
  · replace h := mj_if_t c2 h
    refine mj_aload_n C dX11_sender_9 rfl ?_
    obtain ⟨r24, er24, h⟩ := mj_let_o h
    refine mj_callV1 (av := []) C lM_X11_87 lV_X11_machine (sM0 hB) ⟨_, rfl, rfl⟩ rfl (C_X11_machine hB er24) (mj_rmok hR (by decide) (by decide)) rfl (Nat.le_of_ble_eq_true rfl) dX11_sender_10 (fun hb25 => ?_)
    cases h
    exact mj_iret C hT (vp_nar_int _) dX11_sender_13 ⟨rfl, rfl, mj_bi _⟩
def f_X11_keptOf (a1 : Int32) (m : mj_m) : Option (Int32) := mj_chk (mj_ok a1 1897) (if 100 ≤ m 1 (mj_cl a1) then (some 100) else (mj_chk (mj_ok a1 1897) (some (m 1 (mj_cl a1)))))
set_option maxHeartbeats 4000000 in
set_option maxRecDepth 20000 in
theorem C_X11_keptOf {G : mj_G} {β : Nat} {M : mj_M} {a1 : Int32} {m : mj_m} {x0 : Int32} (hB : mj_isM G β) (h : f_X11_keptOf a1 m = some x0) : mj_S1 yX11_keptOf cX11_keptOf 2 (some .int) 0 G [mj_r (β, 0), .inl a1] (va_up M β m) (some (.inl x0)) (va_up M β m) := by
  refine mj_intro (by decide) (Nat.le_of_ble_eq_true rfl) ?_
  intro κ C hG hR hT
  subst hG
  have C : mj_C κ cX11_keptOf 2 RX11 := C
  show mj_R κ (mj_F κ (fun r M' => r = (some (.inl x0)) ∧ M' = (va_up M β m) ∧ mj_bb (some .int) (some (.inl x0)))) 0 [some (mj_r (β, 0)), some (.inl a1)] [] (va_up M β m)
  unfold f_X11_keptOf at h
  refine mj_aload_n C dX11_keptOf_0 rfl ?_
  refine mj_getr (r := (β, 1)) C lF_X11_7 (sM0 hB) rfl dX11_keptOf_1 ?_
  refine mj_iload_n C dX11_keptOf_4 rfl ?_
  obtain ⟨k1, h⟩ := mj_chk_o h
  refine mj_bald C (sM1 hB) k1 rfl dX11_keptOf_5 ?_
  refine mj_bipush (v := 100) C dX11_keptOf_6 (by decide) ?_
  refine mj_icmp_ge (tgt := 20) C dX11_keptOf_8 (by decide) (fun c2 => ?_) (fun c2 => ?_)
  · replace h := mj_if_t c2 h
    refine mj_bipush (v := 100) C dX11_keptOf_20 (by decide) ?_
    cases h
    exact mj_iret C hT (vp_nar_int _) dX11_keptOf_22 ⟨rfl, rfl, mj_bi _⟩
  · replace h := mj_if_f c2 h
    refine mj_aload_n C dX11_keptOf_11 rfl ?_
    refine mj_getr (r := (β, 1)) C lF_X11_7 (sM0 hB) rfl dX11_keptOf_12 ?_
    refine mj_iload_n C dX11_keptOf_15 rfl ?_
    obtain ⟨k3, h⟩ := mj_chk_o h
    refine mj_bald C (sM1 hB) k3 rfl dX11_keptOf_16 ?_
    refine mj_goto (tgt := 22) C dX11_keptOf_17 (by decide) ?_
    cases h
    exact mj_iret C hT (vp_nar_int _) dX11_keptOf_22 ⟨rfl, rfl, mj_bi _⟩
def f_X11_receiver (a1 : Int32) (m : mj_m) : Option (Int32 × mj_m) := mj_let (mj_wrs m 0 0 0) (fun m1 => mj_let (f_X11_isIn a1 0 7) (fun r2 => if r2 = 0 then (mj_b1 (f_X11_keptOf 19 m1) (fun r5 => mj_let (f_X11_isIn a1 100 (99 + r5)) (fun r7 => if r7 = 0 then (mj_b1 (f_X11_keptOf 20 m1) (fun r10 => mj_let (f_X11_isIn a1 200 (199 + r10)) (fun r12 => if r12 = 0 then (some ((-2), m1)) else (mj_chk (mj_ok ((519 + a1) - 200) 1897) (some (m1 1 (mj_cl ((519 + a1) - 200)), m1)))))) else (mj_chk (mj_ok ((419 + a1) - 100) 1897) (some (m1 1 (mj_cl ((419 + a1) - 100)), m1)))))) else (mj_chk (mj_ok (13 + a1) 1897) (some (m1 1 (mj_cl (13 + a1)), m1)))))
set_option maxHeartbeats 4000000 in
set_option maxRecDepth 20000 in
theorem C_X11_receiver {G : mj_G} {β : Nat} {M : mj_M} {a1 : Int32} {m : mj_m} {x0 : Int32} {m0 : mj_m} (hB : mj_isM G β) (h : f_X11_receiver a1 m = some (x0, m0)) : mj_S1 yX11_receiver cX11_receiver 2 (some .int) 1 G [mj_r (β, 0), .inl a1] (va_up M β m) (some (.inl x0)) (va_up M β m0) := by
  refine mj_intro (by decide) (Nat.le_of_ble_eq_true rfl) ?_
  intro κ C hG hR hT
  subst hG
  have C : mj_C κ cX11_receiver 2 RX11 := C
  show mj_R κ (mj_F κ (fun r M' => r = (some (.inl x0)) ∧ M' = (va_up M β m0) ∧ mj_bb (some .int) (some (.inl x0)))) 0 [some (mj_r (β, 0)), some (.inl a1)] [] (va_up M β m)
  unfold f_X11_receiver at h
  refine mj_aload_n C dX11_receiver_0 rfl ?_
  refine mj_iconst (v := 0) C dX11_receiver_1 (by decide) ?_
  obtain ⟨m1, hm1, h⟩ := mj_let_o h
  refine mj_bput C lF_X11_41 fP_12_0 (vp_nar_int _) rfl (sM0 hB) rfl dX11_receiver_2 hm1 ?_
  refine mj_aload_n C dX11_receiver_5 rfl ?_
  refine mj_iload_n C dX11_receiver_6 rfl ?_
  refine mj_iconst (v := 0) C dX11_receiver_7 (by decide) ?_
  refine mj_bipush (v := 7) C dX11_receiver_8 (by decide) ?_
  obtain ⟨r2, er2, h⟩ := mj_let_o h
  refine mj_callV1 (av := [.inl a1, .inl 0, .inl 7]) C lM_X11_48 lV_X11_isIn (sM0 hB) ⟨_, rfl, rfl⟩ rfl (C_X11_isIn hB er2) (mj_rmok hR (by decide) (by decide)) rfl (Nat.le_of_ble_eq_true rfl) dX11_receiver_10 (fun hb3 => ?_)
  refine mj_if_eq (tgt := 26) C dX11_receiver_13 (by decide) (fun c4 => ?_) (fun c4 => ?_)
  · replace h := mj_if_t c4 h
    refine mj_aload_n C dX11_receiver_26 rfl ?_
    refine mj_iload_n C dX11_receiver_27 rfl ?_
    refine mj_bipush (v := 100) C dX11_receiver_28 (by decide) ?_
    refine mj_bipush (v := 99) C dX11_receiver_30 (by decide) ?_
    refine mj_aload_n C dX11_receiver_32 rfl ?_
    refine mj_bipush (v := 19) C dX11_receiver_33 (by decide) ?_
    obtain ⟨r5, er5, h⟩ := mj_b1_o h
    refine mj_callV1 (av := [.inl 19]) C lM_X11_315 lV_X11_keptOf (sM0 hB) ⟨_, rfl, rfl⟩ rfl (C_X11_keptOf hB er5) (mj_rmok hR (by decide) (by decide)) rfl (Nat.le_of_ble_eq_true rfl) dX11_receiver_35 (fun hb6 => ?_)
    refine mj_iadd C dX11_receiver_38 ?_
    obtain ⟨r7, er7, h⟩ := mj_let_o h
    refine mj_callV1 (av := [.inl a1, .inl 100, .inl (99 + r5)]) C lM_X11_48 lV_X11_isIn (sM0 hB) ⟨_, rfl, rfl⟩ rfl (C_X11_isIn hB er7) (mj_rmok hR (by decide) (by decide)) rfl (Nat.le_of_ble_eq_true rfl) dX11_receiver_39 (fun hb8 => ?_)
    refine mj_if_eq (tgt := 59) C dX11_receiver_42 (by decide) (fun c9 => ?_) (fun c9 => ?_)
    · replace h := mj_if_t c9 h
      refine mj_aload_n C dX11_receiver_59 rfl ?_
      refine mj_iload_n C dX11_receiver_60 rfl ?_
      refine mj_sipush (v := 200) C dX11_receiver_61 (by decide) ?_
      refine mj_sipush (v := 199) C dX11_receiver_64 (by decide) ?_
      refine mj_aload_n C dX11_receiver_67 rfl ?_
      refine mj_bipush (v := 20) C dX11_receiver_68 (by decide) ?_
      obtain ⟨r10, er10, h⟩ := mj_b1_o h
      refine mj_callV1 (av := [.inl 20]) C lM_X11_315 lV_X11_keptOf (sM0 hB) ⟨_, rfl, rfl⟩ rfl (C_X11_keptOf hB er10) (mj_rmok hR (by decide) (by decide)) rfl (Nat.le_of_ble_eq_true rfl) dX11_receiver_70 (fun hb11 => ?_)
      refine mj_iadd C dX11_receiver_73 ?_
      obtain ⟨r12, er12, h⟩ := mj_let_o h
      refine mj_callV1 (av := [.inl a1, .inl 200, .inl (199 + r10)]) C lM_X11_48 lV_X11_isIn (sM0 hB) ⟨_, rfl, rfl⟩ rfl (C_X11_isIn hB er12) (mj_rmok hR (by decide) (by decide)) rfl (Nat.le_of_ble_eq_true rfl) dX11_receiver_74 (fun hb13 => ?_)
      refine mj_if_eq (tgt := 97) C dX11_receiver_77 (by decide) (fun c14 => ?_) (fun c14 => ?_)
      · replace h := mj_if_t c14 h
        refine mj_bipush (v := (-2)) C dX11_receiver_97 (by decide) ?_
        cases h
        exact mj_iret C hT (vp_nar_int _) dX11_receiver_99 ⟨rfl, rfl, mj_bi _⟩
      · replace h := mj_if_f c14 h
        refine mj_aload_n C dX11_receiver_80 rfl ?_
        refine mj_getr (r := (β, 1)) C lF_X11_7 (sM0 hB) rfl dX11_receiver_81 ?_
        refine mj_sipush (v := 519) C dX11_receiver_84 (by decide) ?_
        refine mj_iload_n C dX11_receiver_87 rfl ?_
        refine mj_iadd C dX11_receiver_88 ?_
        refine mj_sipush (v := 200) C dX11_receiver_89 (by decide) ?_
        refine mj_isub C dX11_receiver_92 ?_
        obtain ⟨k15, h⟩ := mj_chk_o h
        refine mj_bald C (sM1 hB) k15 rfl dX11_receiver_93 ?_
        refine mj_goto (tgt := 99) C dX11_receiver_94 (by decide) ?_
        cases h
        exact mj_iret C hT (vp_nar_int _) dX11_receiver_99 ⟨rfl, rfl, mj_bi _⟩
    · replace h := mj_if_f c9 h
      refine mj_aload_n C dX11_receiver_45 rfl ?_
      refine mj_getr (r := (β, 1)) C lF_X11_7 (sM0 hB) rfl dX11_receiver_46 ?_
      refine mj_sipush (v := 419) C dX11_receiver_49 (by decide) ?_
      refine mj_iload_n C dX11_receiver_52 rfl ?_
      refine mj_iadd C dX11_receiver_53 ?_
      refine mj_bipush (v := 100) C dX11_receiver_54 (by decide) ?_
      refine mj_isub C dX11_receiver_56 ?_
      obtain ⟨k16, h⟩ := mj_chk_o h
      refine mj_bald C (sM1 hB) k16 rfl dX11_receiver_57 ?_
      cases h
      exact mj_iret C hT (vp_nar_int _) dX11_receiver_58 ⟨rfl, rfl, mj_bi _⟩
  · replace h := mj_if_f c4 h
    refine mj_aload_n C dX11_receiver_16 rfl ?_
    refine mj_getr (r := (β, 1)) C lF_X11_7 (sM0 hB) rfl dX11_receiver_17 ?_
    refine mj_bipush (v := 13) C dX11_receiver_20 (by decide) ?_
    refine mj_iload_n C dX11_receiver_22 rfl ?_
    refine mj_iadd C dX11_receiver_23 ?_
    obtain ⟨k17, h⟩ := mj_chk_o h
    refine mj_bald C (sM1 hB) k17 rfl dX11_receiver_24 ?_
    cases h
    exact mj_iret C hT (vp_nar_int _) dX11_receiver_25 ⟨rfl, rfl, mj_bi _⟩
def f_X11_alarm (a1 : Int32) (m : mj_m) : Option (Int32 × mj_m) := mj_let (mj_wrs m 0 0 0) (fun m1 => if a1 = (-1) then (some (m1 1 33, m1)) else (if a1 < 0 then (some ((-1), m1)) else (if m1 1 33 ≤ a1 then (some ((-1), m1)) else (if 60 ≤ a1 then (some ((-1), m1)) else (mj_chk (mj_ok (119 + a1) 1897) (some (m1 1 (mj_cl (119 + a1)), m1)))))))
set_option maxHeartbeats 4000000 in
set_option maxRecDepth 20000 in
theorem C_X11_alarm {G : mj_G} {β : Nat} {M : mj_M} {a1 : Int32} {m : mj_m} {x0 : Int32} {m0 : mj_m} (hB : mj_isM G β) (h : f_X11_alarm a1 m = some (x0, m0)) : mj_S1 yX11_alarm cX11_alarm 2 (some .int) 0 G [mj_r (β, 0), .inl a1] (va_up M β m) (some (.inl x0)) (va_up M β m0) := by
  refine mj_intro (by decide) (Nat.le_of_ble_eq_true rfl) ?_
  intro κ C hG hR hT
  subst hG
  have C : mj_C κ cX11_alarm 2 RX11 := C
  show mj_R κ (mj_F κ (fun r M' => r = (some (.inl x0)) ∧ M' = (va_up M β m0) ∧ mj_bb (some .int) (some (.inl x0)))) 0 [some (mj_r (β, 0)), some (.inl a1)] [] (va_up M β m)
  unfold f_X11_alarm at h
  refine mj_aload_n C dX11_alarm_0 rfl ?_
  refine mj_iconst (v := 0) C dX11_alarm_1 (by decide) ?_
  obtain ⟨m1, hm1, h⟩ := mj_let_o h
  refine mj_bput C lF_X11_41 fP_12_0 (vp_nar_int _) rfl (sM0 hB) rfl dX11_alarm_2 hm1 ?_
  refine mj_iload_n C dX11_alarm_5 rfl ?_
  refine mj_iconst (v := (-1)) C dX11_alarm_6 (by decide) ?_
  refine mj_icmp_ne (tgt := 18) C dX11_alarm_7 (by decide) (fun c2 => ?_) (fun c2 => ?_)
  · replace h := mj_if_f c2 h
    refine mj_iload_n C dX11_alarm_18 rfl ?_
    refine mj_if_lt (tgt := 51) C dX11_alarm_19 (by decide) (fun c3 => ?_) (fun c3 => ?_)
    · replace h := mj_if_t c3 h
      refine mj_iconst (v := (-1)) C dX11_alarm_51 (by decide) ?_
      cases h
      exact mj_iret C hT (vp_nar_int _) dX11_alarm_52 ⟨rfl, rfl, mj_bi _⟩
    · replace h := mj_if_f c3 h
      refine mj_iload_n C dX11_alarm_22 rfl ?_
      refine mj_aload_n C dX11_alarm_23 rfl ?_
      refine mj_getr (r := (β, 1)) C lF_X11_7 (sM0 hB) rfl dX11_alarm_24 ?_
      refine mj_bipush (v := 33) C dX11_alarm_27 (by decide) ?_
      refine mj_bald C (sM1 hB) (mj_okn 33 1897 (Nat.le_of_ble_eq_true rfl) (Nat.le_of_ble_eq_true rfl)) (mj_cln 33 (Nat.le_of_ble_eq_true rfl)) dX11_alarm_29 ?_
      refine mj_icmp_ge (tgt := 51) C dX11_alarm_30 (by decide) (fun c4 => ?_) (fun c4 => ?_)
      · replace h := mj_if_t c4 h
        refine mj_iconst (v := (-1)) C dX11_alarm_51 (by decide) ?_
        cases h
        exact mj_iret C hT (vp_nar_int _) dX11_alarm_52 ⟨rfl, rfl, mj_bi _⟩
      · replace h := mj_if_f c4 h
        refine mj_iload_n C dX11_alarm_33 rfl ?_
        refine mj_bipush (v := 60) C dX11_alarm_34 (by decide) ?_
        refine mj_icmp_ge (tgt := 51) C dX11_alarm_36 (by decide) (fun c5 => ?_) (fun c5 => ?_)
        · replace h := mj_if_t c5 h
          refine mj_iconst (v := (-1)) C dX11_alarm_51 (by decide) ?_
          cases h
          exact mj_iret C hT (vp_nar_int _) dX11_alarm_52 ⟨rfl, rfl, mj_bi _⟩
        · replace h := mj_if_f c5 h
          refine mj_aload_n C dX11_alarm_39 rfl ?_
          refine mj_getr (r := (β, 1)) C lF_X11_7 (sM0 hB) rfl dX11_alarm_40 ?_
          refine mj_bipush (v := 119) C dX11_alarm_43 (by decide) ?_
          refine mj_iload_n C dX11_alarm_45 rfl ?_
          refine mj_iadd C dX11_alarm_46 ?_
          obtain ⟨k6, h⟩ := mj_chk_o h
          refine mj_bald C (sM1 hB) k6 rfl dX11_alarm_47 ?_
          refine mj_goto (tgt := 52) C dX11_alarm_48 (by decide) ?_
          cases h
          exact mj_iret C hT (vp_nar_int _) dX11_alarm_52 ⟨rfl, rfl, mj_bi _⟩
  · replace h := mj_if_t c2 h
    refine mj_aload_n C dX11_alarm_10 rfl ?_
    refine mj_getr (r := (β, 1)) C lF_X11_7 (sM0 hB) rfl dX11_alarm_11 ?_
    refine mj_bipush (v := 33) C dX11_alarm_14 (by decide) ?_
    refine mj_bald C (sM1 hB) (mj_okn 33 1897 (Nat.le_of_ble_eq_true rfl) (Nat.le_of_ble_eq_true rfl)) (mj_cln 33 (Nat.le_of_ble_eq_true rfl)) dX11_alarm_16 ?_
    cases h
    exact mj_iret C hT (vp_nar_int _) dX11_alarm_17 ⟨rfl, rfl, mj_bi _⟩
def f_X11_diary (a1 : Int32) (a2 : Int32) (m : mj_m) : Option (Int32 × mj_m) := mj_let (mj_wrs m 0 0 0) (fun m1 => if a1 = (-1) then (some (m1 1 34, m1)) else (if a1 < 0 then (some ((-1), m1)) else (if m1 1 34 ≤ a1 then (some ((-1), m1)) else (mj_let (f_X11_isIn a2 0 2) (fun r5 => if r5 = 0 then (some ((-1), m1)) else (mj_chk (mj_ok ((179 + (3 * a1)) + a2) 1897) (some (m1 1 (mj_cl ((179 + (3 * a1)) + a2)), m1))))))))
set_option maxHeartbeats 4000000 in
set_option maxRecDepth 20000 in
theorem C_X11_diary {G : mj_G} {β : Nat} {M : mj_M} {a1 : Int32} {a2 : Int32} {m : mj_m} {x0 : Int32} {m0 : mj_m} (hB : mj_isM G β) (h : f_X11_diary a1 a2 m = some (x0, m0)) : mj_S1 yX11_diary cX11_diary 3 (some .int) 1 G [mj_r (β, 0), .inl a1, .inl a2] (va_up M β m) (some (.inl x0)) (va_up M β m0) := by
  refine mj_intro (by decide) (Nat.le_of_ble_eq_true rfl) ?_
  intro κ C hG hR hT
  subst hG
  have C : mj_C κ cX11_diary 3 RX11 := C
  show mj_R κ (mj_F κ (fun r M' => r = (some (.inl x0)) ∧ M' = (va_up M β m0) ∧ mj_bb (some .int) (some (.inl x0)))) 0 [some (mj_r (β, 0)), some (.inl a1), some (.inl a2)] [] (va_up M β m)
  unfold f_X11_diary at h
  refine mj_aload_n C dX11_diary_0 rfl ?_
  refine mj_iconst (v := 0) C dX11_diary_1 (by decide) ?_
  obtain ⟨m1, hm1, h⟩ := mj_let_o h
  refine mj_bput C lF_X11_41 fP_12_0 (vp_nar_int _) rfl (sM0 hB) rfl dX11_diary_2 hm1 ?_
  refine mj_iload_n C dX11_diary_5 rfl ?_
  refine mj_iconst (v := (-1)) C dX11_diary_6 (by decide) ?_
  refine mj_icmp_ne (tgt := 18) C dX11_diary_7 (by decide) (fun c2 => ?_) (fun c2 => ?_)
  · replace h := mj_if_f c2 h
    refine mj_iload_n C dX11_diary_18 rfl ?_
    refine mj_if_lt (tgt := 60) C dX11_diary_19 (by decide) (fun c3 => ?_) (fun c3 => ?_)
    · replace h := mj_if_t c3 h
      refine mj_iconst (v := (-1)) C dX11_diary_60 (by decide) ?_
      cases h
      exact mj_iret C hT (vp_nar_int _) dX11_diary_61 ⟨rfl, rfl, mj_bi _⟩
    · replace h := mj_if_f c3 h
      refine mj_iload_n C dX11_diary_22 rfl ?_
      refine mj_aload_n C dX11_diary_23 rfl ?_
      refine mj_getr (r := (β, 1)) C lF_X11_7 (sM0 hB) rfl dX11_diary_24 ?_
      refine mj_bipush (v := 34) C dX11_diary_27 (by decide) ?_
      refine mj_bald C (sM1 hB) (mj_okn 34 1897 (Nat.le_of_ble_eq_true rfl) (Nat.le_of_ble_eq_true rfl)) (mj_cln 34 (Nat.le_of_ble_eq_true rfl)) dX11_diary_29 ?_
      refine mj_icmp_ge (tgt := 60) C dX11_diary_30 (by decide) (fun c4 => ?_) (fun c4 => ?_)
      · replace h := mj_if_t c4 h
        refine mj_iconst (v := (-1)) C dX11_diary_60 (by decide) ?_
        cases h
        exact mj_iret C hT (vp_nar_int _) dX11_diary_61 ⟨rfl, rfl, mj_bi _⟩
      · replace h := mj_if_f c4 h
        refine mj_aload_n C dX11_diary_33 rfl ?_
        refine mj_iload_n C dX11_diary_34 rfl ?_
        refine mj_iconst (v := 0) C dX11_diary_35 (by decide) ?_
        refine mj_iconst (v := 2) C dX11_diary_36 (by decide) ?_
        obtain ⟨r5, er5, h⟩ := mj_let_o h
        refine mj_callV1 (av := [.inl a2, .inl 0, .inl 2]) C lM_X11_48 lV_X11_isIn (sM0 hB) ⟨_, rfl, rfl⟩ rfl (C_X11_isIn hB er5) (mj_rmok hR (by decide) (by decide)) rfl (Nat.le_of_ble_eq_true rfl) dX11_diary_37 (fun hb6 => ?_)
        refine mj_if_eq (tgt := 60) C dX11_diary_40 (by decide) (fun c7 => ?_) (fun c7 => ?_)
        · replace h := mj_if_t c7 h
          refine mj_iconst (v := (-1)) C dX11_diary_60 (by decide) ?_
          cases h
          exact mj_iret C hT (vp_nar_int _) dX11_diary_61 ⟨rfl, rfl, mj_bi _⟩
        · replace h := mj_if_f c7 h
          refine mj_aload_n C dX11_diary_43 rfl ?_
          refine mj_getr (r := (β, 1)) C lF_X11_7 (sM0 hB) rfl dX11_diary_44 ?_
          refine mj_sipush (v := 179) C dX11_diary_47 (by decide) ?_
          refine mj_iconst (v := 3) C dX11_diary_50 (by decide) ?_
          refine mj_iload_n C dX11_diary_51 rfl ?_
          refine mj_imul C dX11_diary_52 ?_
          refine mj_iadd C dX11_diary_53 ?_
          refine mj_iload_n C dX11_diary_54 rfl ?_
          refine mj_iadd C dX11_diary_55 ?_
          obtain ⟨k8, h⟩ := mj_chk_o h
          refine mj_bald C (sM1 hB) k8 rfl dX11_diary_56 ?_
          refine mj_goto (tgt := 61) C dX11_diary_57 (by decide) ?_
          cases h
          exact mj_iret C hT (vp_nar_int _) dX11_diary_61 ⟨rfl, rfl, mj_bi _⟩
  · replace h := mj_if_t c2 h
    refine mj_aload_n C dX11_diary_10 rfl ?_
    refine mj_getr (r := (β, 1)) C lF_X11_7 (sM0 hB) rfl dX11_diary_11 ?_
    refine mj_bipush (v := 34) C dX11_diary_14 (by decide) ?_
    refine mj_bald C (sM1 hB) (mj_okn 34 1897 (Nat.le_of_ble_eq_true rfl) (Nat.le_of_ble_eq_true rfl)) (mj_cln 34 (Nat.le_of_ble_eq_true rfl)) dX11_diary_16 ?_
    cases h
    exact mj_iret C hT (vp_nar_int _) dX11_diary_17 ⟨rfl, rfl, mj_bi _⟩
def f_X11_takenMany_L4 : Nat → Int32 → Int32 → mj_m → Option (Int32)
  | 0, _, _, _ => none
  | n + 1, l1, l2, m => if m 1 25 ≤ l2 then (some l1) else (mj_let (f_X11_numberOf l2 m) (fun r2 => mj_let (f_X11_round (r2 - (m 1 23))) (fun r4 => mj_let (f_X11_round ((m 1 13) - (m 1 23))) (fun r6 => if r6 ≤ r4 then (mj_let (l2 + 1) (fun x9 => f_X11_takenMany_L4 n l1 x9 m)) else (mj_let (l1 + 1) (fun x10 => mj_let (l2 + 1) (fun x11 => f_X11_takenMany_L4 n x10 x11 m)))))))
set_option maxHeartbeats 4000000 in
set_option maxRecDepth 20000 in
theorem C_X11_takenMany_L4 {κ : mj_K} {Q : State → Prop} {β : Nat} {M : mj_M} (C : mj_C κ cX11_takenMany 3 RX11) (hB : mj_isM (mj_g κ) β) (hR : mj_dp κ 2) : ∀ (n : Nat) (l1 : Int32) (l2 : Int32) (m : mj_m) (o1 : Int32), f_X11_takenMany_L4 n l1 l2 m = some o1 → (mj_R κ Q 64 [none, some (.inl o1), none] [] (va_up M β m)) → mj_R κ Q 4 [some (mj_r (β, 0)), some (.inl l1), some (.inl l2)] [] (va_up M β m) := by
  intro n
  induction n with
  | zero =>
    intro l1 l2 m o1 h
    cases h
  | succ n ih =>
    intro l1 l2 m o1 h hx64
    rw [f_X11_takenMany_L4] at h
    refine mj_iload_n C dX11_takenMany_4 rfl ?_
    refine mj_aload_n C dX11_takenMany_5 rfl ?_
    refine mj_getr (r := (β, 1)) C lF_X11_7 (sM0 hB) rfl dX11_takenMany_6 ?_
    refine mj_bipush (v := 25) C dX11_takenMany_9 (by decide) ?_
    refine mj_bald C (sM1 hB) (mj_okn 25 1897 (Nat.le_of_ble_eq_true rfl) (Nat.le_of_ble_eq_true rfl)) (mj_cln 25 (Nat.le_of_ble_eq_true rfl)) dX11_takenMany_11 ?_
    refine mj_icmp_ge (tgt := 64) C dX11_takenMany_12 (by decide) (fun c1 => ?_) (fun c1 => ?_)
    · replace h := mj_if_t c1 h
      cases h
      refine mj_sub ?_ (hx64)
      exact ⟨rfl, trivial⟩
    · replace h := mj_if_f c1 h
      refine mj_aload_n C dX11_takenMany_15 rfl ?_
      refine mj_aload_n C dX11_takenMany_16 rfl ?_
      refine mj_iload_n C dX11_takenMany_17 rfl ?_
      obtain ⟨r2, er2, h⟩ := mj_let_o h
      refine mj_callV1 (av := [.inl l2]) C lM_X11_207 lV_X11_numberOf (sM0 hB) ⟨_, rfl, rfl⟩ rfl (C_X11_numberOf hB er2) (mj_rmok hR (by decide) (by decide)) rfl (Nat.le_of_ble_eq_true rfl) dX11_takenMany_18 (fun hb3 => ?_)
      refine mj_aload_n C dX11_takenMany_21 rfl ?_
      refine mj_getr (r := (β, 1)) C lF_X11_7 (sM0 hB) rfl dX11_takenMany_22 ?_
      refine mj_bipush (v := 23) C dX11_takenMany_25 (by decide) ?_
      refine mj_bald C (sM1 hB) (mj_okn 23 1897 (Nat.le_of_ble_eq_true rfl) (Nat.le_of_ble_eq_true rfl)) (mj_cln 23 (Nat.le_of_ble_eq_true rfl)) dX11_takenMany_27 ?_
      refine mj_isub C dX11_takenMany_28 ?_
      obtain ⟨r4, er4, h⟩ := mj_let_o h
      refine mj_callV1 (av := [.inl (r2 - (m 1 23))]) C lM_X11_155 lV_X11_round (sM0 hB) ⟨_, rfl, rfl⟩ rfl (C_X11_round hB er4) (mj_rmok hR (by decide) (by decide)) rfl (Nat.le_of_ble_eq_true rfl) dX11_takenMany_29 (fun hb5 => ?_)
      refine mj_aload_n C dX11_takenMany_32 rfl ?_
      refine mj_aload_n C dX11_takenMany_33 rfl ?_
      refine mj_getr (r := (β, 1)) C lF_X11_7 (sM0 hB) rfl dX11_takenMany_34 ?_
      refine mj_bipush (v := 13) C dX11_takenMany_37 (by decide) ?_
      refine mj_bald C (sM1 hB) (mj_okn 13 1897 (Nat.le_of_ble_eq_true rfl) (Nat.le_of_ble_eq_true rfl)) (mj_cln 13 (Nat.le_of_ble_eq_true rfl)) dX11_takenMany_39 ?_
      refine mj_aload_n C dX11_takenMany_40 rfl ?_
      refine mj_getr (r := (β, 1)) C lF_X11_7 (sM0 hB) rfl dX11_takenMany_41 ?_
      refine mj_bipush (v := 23) C dX11_takenMany_44 (by decide) ?_
      refine mj_bald C (sM1 hB) (mj_okn 23 1897 (Nat.le_of_ble_eq_true rfl) (Nat.le_of_ble_eq_true rfl)) (mj_cln 23 (Nat.le_of_ble_eq_true rfl)) dX11_takenMany_46 ?_
      refine mj_isub C dX11_takenMany_47 ?_
      obtain ⟨r6, er6, h⟩ := mj_let_o h
      refine mj_callV1 (av := [.inl ((m 1 13) - (m 1 23))]) C lM_X11_155 lV_X11_round (sM0 hB) ⟨_, rfl, rfl⟩ rfl (C_X11_round hB er6) (mj_rmok hR (by decide) (by decide)) rfl (Nat.le_of_ble_eq_true rfl) dX11_takenMany_48 (fun hb7 => ?_)
      refine mj_icmp_ge (tgt := 58) C dX11_takenMany_51 (by decide) (fun c8 => ?_) (fun c8 => ?_)
      · replace h := mj_if_t c8 h
        obtain ⟨x9, hx9, h⟩ := mj_let_o h
        refine mj_iinc (L2 := [some (mj_r (β, 0)), some (.inl l1), some (.inl x9)]) C dX11_takenMany_58 rfl hx9 rfl ?_
        refine mj_goto (tgt := 4) C dX11_takenMany_61 (by decide) ?_
        refine mj_sub (L' := [some (mj_r (β, 0)), some (.inl l1), some (.inl x9)]) ⟨rfl, ⟨rfl, ⟨rfl, trivial⟩⟩⟩ ?_
        exact ih _ _ _ _ h hx64
      · replace h := mj_if_f c8 h
        refine mj_iload_n C dX11_takenMany_54 rfl ?_
        refine mj_iconst (v := 1) C dX11_takenMany_55 (by decide) ?_
        refine mj_iadd C dX11_takenMany_56 ?_
        obtain ⟨x10, hx10, h⟩ := mj_let_o h
        refine mj_nm hx10 ?_
        refine mj_istore_n (L2 := [some (mj_r (β, 0)), some (.inl x10), some (.inl l2)]) C dX11_takenMany_57 (Nat.le_of_ble_eq_true rfl) rfl ?_
        obtain ⟨x11, hx11, h⟩ := mj_let_o h
        refine mj_iinc (L2 := [some (mj_r (β, 0)), some (.inl x10), some (.inl x11)]) C dX11_takenMany_58 rfl hx11 rfl ?_
        refine mj_goto (tgt := 4) C dX11_takenMany_61 (by decide) ?_
        refine mj_sub (L' := [some (mj_r (β, 0)), some (.inl x10), some (.inl x11)]) ⟨rfl, ⟨rfl, ⟨rfl, trivial⟩⟩⟩ ?_
        exact ih _ _ _ _ h hx64
def f_X11_takenMany (m : mj_m) : Option (Int32) := mj_b1 (f_X11_takenMany_L4 mj_fu 0 0 m) (fun x12 => some x12)
set_option maxHeartbeats 4000000 in
set_option maxRecDepth 20000 in
theorem C_X11_takenMany {G : mj_G} {β : Nat} {M : mj_M} {m : mj_m} {x0 : Int32} (hB : mj_isM G β) (h : f_X11_takenMany m = some x0) : mj_S1 yX11_takenMany cX11_takenMany 3 (some .int) 2 G [mj_r (β, 0)] (va_up M β m) (some (.inl x0)) (va_up M β m) := by
  refine mj_intro (by decide) (Nat.le_of_ble_eq_true rfl) ?_
  intro κ C hG hR hT
  subst hG
  have C : mj_C κ cX11_takenMany 3 RX11 := C
  show mj_R κ (mj_F κ (fun r M' => r = (some (.inl x0)) ∧ M' = (va_up M β m) ∧ mj_bb (some .int) (some (.inl x0)))) 0 [some (mj_r (β, 0)), none, none] [] (va_up M β m)
  unfold f_X11_takenMany at h
  refine mj_iconst (v := 0) C dX11_takenMany_0 (by decide) ?_
  refine mj_istore_n (L2 := [some (mj_r (β, 0)), some (.inl 0), none]) C dX11_takenMany_1 (Nat.le_of_ble_eq_true rfl) rfl ?_
  refine mj_iconst (v := 0) C dX11_takenMany_2 (by decide) ?_
  refine mj_istore_n (L2 := [some (mj_r (β, 0)), some (.inl 0), some (.inl 0)]) C dX11_takenMany_3 (Nat.le_of_ble_eq_true rfl) rfl ?_
  obtain ⟨x12, hl13, h⟩ := mj_b1_o h
  refine mj_sub (L' := [some (mj_r (β, 0)), some (.inl 0), some (.inl 0)]) ⟨rfl, ⟨rfl, ⟨rfl, trivial⟩⟩⟩ ?_
  refine C_X11_takenMany_L4 C hB hR _ _ _ _ _ hl13 ?_
  refine mj_iload_n C dX11_takenMany_64 rfl ?_
  cases h
  exact mj_iret C hT (vp_nar_int _) dX11_takenMany_65 ⟨rfl, rfl, mj_bi _⟩
def f_X11_truth (a1 : Int32) (m : mj_m) : Option (Int32 × mj_m) := mj_let (mj_wrs m 0 0 0) (fun m1 => if a1 = 0 then (mj_b1 (f_X11_takenMany m1) (fun r11 => some (r11, m1))) else (if a1 = 1 then (mj_let (f_X11_round ((m1 1 13) - (m1 1 23))) (fun r9 => some (r9, m1))) else (if a1 = 2 then (mj_let (f_X11_round ((m1 1 22) - (m1 1 13))) (fun r7 => some (r7, m1))) else (if a1 = 3 then (some (((m1 1 40) - (m1 1 24)) - (m1 1 25), m1)) else (if a1 = 4 then (some (m1 1 40, m1)) else (some ((-1), m1)))))))
set_option maxHeartbeats 4000000 in
set_option maxRecDepth 20000 in
theorem C_X11_truth {G : mj_G} {β : Nat} {M : mj_M} {a1 : Int32} {m : mj_m} {x0 : Int32} {m0 : mj_m} (hB : mj_isM G β) (h : f_X11_truth a1 m = some (x0, m0)) : mj_S1 yX11_truth cX11_truth 2 (some .int) 3 G [mj_r (β, 0), .inl a1] (va_up M β m) (some (.inl x0)) (va_up M β m0) := by
  refine mj_intro (by decide) (Nat.le_of_ble_eq_true rfl) ?_
  intro κ C hG hR hT
  subst hG
  have C : mj_C κ cX11_truth 2 RX11 := C
  show mj_R κ (mj_F κ (fun r M' => r = (some (.inl x0)) ∧ M' = (va_up M β m0) ∧ mj_bb (some .int) (some (.inl x0)))) 0 [some (mj_r (β, 0)), some (.inl a1)] [] (va_up M β m)
  unfold f_X11_truth at h
  refine mj_aload_n C dX11_truth_0 rfl ?_
  refine mj_iconst (v := 0) C dX11_truth_1 (by decide) ?_
  obtain ⟨m1, hm1, h⟩ := mj_let_o h
  refine mj_bput C lF_X11_41 fP_12_0 (vp_nar_int _) rfl (sM0 hB) rfl dX11_truth_2 hm1 ?_
  refine mj_iload_n C dX11_truth_5 rfl ?_
  refine mj_if_ne (tgt := 14) C dX11_truth_6 (by decide) (fun c2 => ?_) (fun c2 => ?_)
  · replace h := mj_if_f c2 h
    refine mj_iload_n C dX11_truth_14 rfl ?_
    refine mj_iconst (v := 1) C dX11_truth_15 (by decide) ?_
    refine mj_icmp_ne (tgt := 39) C dX11_truth_16 (by decide) (fun c3 => ?_) (fun c3 => ?_)
    · replace h := mj_if_f c3 h
      refine mj_iload_n C dX11_truth_39 rfl ?_
      refine mj_iconst (v := 2) C dX11_truth_40 (by decide) ?_
      refine mj_icmp_ne (tgt := 64) C dX11_truth_41 (by decide) (fun c4 => ?_) (fun c4 => ?_)
      · replace h := mj_if_f c4 h
        refine mj_iload_n C dX11_truth_64 rfl ?_
        refine mj_iconst (v := 3) C dX11_truth_65 (by decide) ?_
        refine mj_icmp_ne (tgt := 93) C dX11_truth_66 (by decide) (fun c5 => ?_) (fun c5 => ?_)
        · replace h := mj_if_f c5 h
          refine mj_iload_n C dX11_truth_93 rfl ?_
          refine mj_iconst (v := 4) C dX11_truth_94 (by decide) ?_
          refine mj_icmp_ne (tgt := 108) C dX11_truth_95 (by decide) (fun c6 => ?_) (fun c6 => ?_)
          · replace h := mj_if_f c6 h
            refine mj_iconst (v := (-1)) C dX11_truth_108 (by decide) ?_
            cases h
            exact mj_iret C hT (vp_nar_int _) dX11_truth_109 ⟨rfl, rfl, mj_bi _⟩
          · replace h := mj_if_t c6 h
            refine mj_aload_n C dX11_truth_98 rfl ?_
            refine mj_getr (r := (β, 1)) C lF_X11_7 (sM0 hB) rfl dX11_truth_99 ?_
            refine mj_bipush (v := 40) C dX11_truth_102 (by decide) ?_
            refine mj_bald C (sM1 hB) (mj_okn 40 1897 (Nat.le_of_ble_eq_true rfl) (Nat.le_of_ble_eq_true rfl)) (mj_cln 40 (Nat.le_of_ble_eq_true rfl)) dX11_truth_104 ?_
            refine mj_goto (tgt := 109) C dX11_truth_105 (by decide) ?_
            cases h
            exact mj_iret C hT (vp_nar_int _) dX11_truth_109 ⟨rfl, rfl, mj_bi _⟩
        · replace h := mj_if_t c5 h
          refine mj_aload_n C dX11_truth_69 rfl ?_
          refine mj_getr (r := (β, 1)) C lF_X11_7 (sM0 hB) rfl dX11_truth_70 ?_
          refine mj_bipush (v := 40) C dX11_truth_73 (by decide) ?_
          refine mj_bald C (sM1 hB) (mj_okn 40 1897 (Nat.le_of_ble_eq_true rfl) (Nat.le_of_ble_eq_true rfl)) (mj_cln 40 (Nat.le_of_ble_eq_true rfl)) dX11_truth_75 ?_
          refine mj_aload_n C dX11_truth_76 rfl ?_
          refine mj_getr (r := (β, 1)) C lF_X11_7 (sM0 hB) rfl dX11_truth_77 ?_
          refine mj_bipush (v := 24) C dX11_truth_80 (by decide) ?_
          refine mj_bald C (sM1 hB) (mj_okn 24 1897 (Nat.le_of_ble_eq_true rfl) (Nat.le_of_ble_eq_true rfl)) (mj_cln 24 (Nat.le_of_ble_eq_true rfl)) dX11_truth_82 ?_
          refine mj_isub C dX11_truth_83 ?_
          refine mj_aload_n C dX11_truth_84 rfl ?_
          refine mj_getr (r := (β, 1)) C lF_X11_7 (sM0 hB) rfl dX11_truth_85 ?_
          refine mj_bipush (v := 25) C dX11_truth_88 (by decide) ?_
          refine mj_bald C (sM1 hB) (mj_okn 25 1897 (Nat.le_of_ble_eq_true rfl) (Nat.le_of_ble_eq_true rfl)) (mj_cln 25 (Nat.le_of_ble_eq_true rfl)) dX11_truth_90 ?_
          refine mj_isub C dX11_truth_91 ?_
          cases h
          exact mj_iret C hT (vp_nar_int _) dX11_truth_92 ⟨rfl, rfl, mj_bi _⟩
      · replace h := mj_if_t c4 h
        refine mj_aload_n C dX11_truth_44 rfl ?_
        refine mj_aload_n C dX11_truth_45 rfl ?_
        refine mj_getr (r := (β, 1)) C lF_X11_7 (sM0 hB) rfl dX11_truth_46 ?_
        refine mj_bipush (v := 22) C dX11_truth_49 (by decide) ?_
        refine mj_bald C (sM1 hB) (mj_okn 22 1897 (Nat.le_of_ble_eq_true rfl) (Nat.le_of_ble_eq_true rfl)) (mj_cln 22 (Nat.le_of_ble_eq_true rfl)) dX11_truth_51 ?_
        refine mj_aload_n C dX11_truth_52 rfl ?_
        refine mj_getr (r := (β, 1)) C lF_X11_7 (sM0 hB) rfl dX11_truth_53 ?_
        refine mj_bipush (v := 13) C dX11_truth_56 (by decide) ?_
        refine mj_bald C (sM1 hB) (mj_okn 13 1897 (Nat.le_of_ble_eq_true rfl) (Nat.le_of_ble_eq_true rfl)) (mj_cln 13 (Nat.le_of_ble_eq_true rfl)) dX11_truth_58 ?_
        refine mj_isub C dX11_truth_59 ?_
        obtain ⟨r7, er7, h⟩ := mj_let_o h
        refine mj_callV1 (av := [.inl ((m1 1 22) - (m1 1 13))]) C lM_X11_155 lV_X11_round (sM0 hB) ⟨_, rfl, rfl⟩ rfl (C_X11_round hB er7) (mj_rmok hR (by decide) (by decide)) rfl (Nat.le_of_ble_eq_true rfl) dX11_truth_60 (fun hb8 => ?_)
        cases h
        exact mj_iret C hT (vp_nar_int _) dX11_truth_63 ⟨rfl, rfl, mj_bi _⟩
    · replace h := mj_if_t c3 h
      refine mj_aload_n C dX11_truth_19 rfl ?_
      refine mj_aload_n C dX11_truth_20 rfl ?_
      refine mj_getr (r := (β, 1)) C lF_X11_7 (sM0 hB) rfl dX11_truth_21 ?_
      refine mj_bipush (v := 13) C dX11_truth_24 (by decide) ?_
      refine mj_bald C (sM1 hB) (mj_okn 13 1897 (Nat.le_of_ble_eq_true rfl) (Nat.le_of_ble_eq_true rfl)) (mj_cln 13 (Nat.le_of_ble_eq_true rfl)) dX11_truth_26 ?_
      refine mj_aload_n C dX11_truth_27 rfl ?_
      refine mj_getr (r := (β, 1)) C lF_X11_7 (sM0 hB) rfl dX11_truth_28 ?_
      refine mj_bipush (v := 23) C dX11_truth_31 (by decide) ?_
      refine mj_bald C (sM1 hB) (mj_okn 23 1897 (Nat.le_of_ble_eq_true rfl) (Nat.le_of_ble_eq_true rfl)) (mj_cln 23 (Nat.le_of_ble_eq_true rfl)) dX11_truth_33 ?_
      refine mj_isub C dX11_truth_34 ?_
      obtain ⟨r9, er9, h⟩ := mj_let_o h
      refine mj_callV1 (av := [.inl ((m1 1 13) - (m1 1 23))]) C lM_X11_155 lV_X11_round (sM0 hB) ⟨_, rfl, rfl⟩ rfl (C_X11_round hB er9) (mj_rmok hR (by decide) (by decide)) rfl (Nat.le_of_ble_eq_true rfl) dX11_truth_35 (fun hb10 => ?_)
      cases h
      exact mj_iret C hT (vp_nar_int _) dX11_truth_38 ⟨rfl, rfl, mj_bi _⟩
  · replace h := mj_if_t c2 h
    refine mj_aload_n C dX11_truth_9 rfl ?_
    obtain ⟨r11, er11, h⟩ := mj_b1_o h
    refine mj_callV1 (av := []) C lM_X11_318 lV_X11_takenMany (sM0 hB) ⟨_, rfl, rfl⟩ rfl (C_X11_takenMany hB er11) (mj_rmok hR (by decide) (by decide)) rfl (Nat.le_of_ble_eq_true rfl) dX11_truth_10 (fun hb12 => ?_)
    cases h
    exact mj_iret C hT (vp_nar_int _) dX11_truth_13 ⟨rfl, rfl, mj_bi _⟩
def f_X11_look (a1 : Int32) (m : mj_m) : Option (Int32 × mj_m) := mj_let (mj_wrs m 0 0 0) (fun m1 => if a1 = 0 then (some (m1 1 11, m1)) else (mj_let (f_X11_isIn a1 1 11) (fun r3 => if r3 = 0 then (if a1 = 12 then (some (m1 1 12, m1)) else (mj_let (f_X11_isIn a1 13 17) (fun r7 => if r7 = 0 then (if a1 = 18 then (some (m1 0 19, m1)) else (if a1 = 19 then (some (m1 1 49, m1)) else (some ((-100000), m1)))) else (mj_chk (mj_ok ((35 + a1) - 13) 1897) (some (m1 1 (mj_cl ((35 + a1) - 13)), m1)))))) else (mj_b1 (f_X11_settingOf (a1 - 1) m1) (fun r13 => some (r13, m1))))))
set_option maxHeartbeats 4000000 in
set_option maxRecDepth 20000 in
theorem C_X11_look {G : mj_G} {β : Nat} {M : mj_M} {a1 : Int32} {m : mj_m} {x0 : Int32} {m0 : mj_m} (hB : mj_isM G β) (h : f_X11_look a1 m = some (x0, m0)) : mj_S1 yX11_look cX11_look 2 (some .int) 2 G [mj_r (β, 0), .inl a1] (va_up M β m) (some (.inl x0)) (va_up M β m0) := by
  refine mj_intro (by decide) (Nat.le_of_ble_eq_true rfl) ?_
  intro κ C hG hR hT
  subst hG
  have C : mj_C κ cX11_look 2 RX11 := C
  show mj_R κ (mj_F κ (fun r M' => r = (some (.inl x0)) ∧ M' = (va_up M β m0) ∧ mj_bb (some .int) (some (.inl x0)))) 0 [some (mj_r (β, 0)), some (.inl a1)] [] (va_up M β m)
  unfold f_X11_look at h
  refine mj_aload_n C dX11_look_0 rfl ?_
  refine mj_iconst (v := 0) C dX11_look_1 (by decide) ?_
  obtain ⟨m1, hm1, h⟩ := mj_let_o h
  refine mj_bput C lF_X11_41 fP_12_0 (vp_nar_int _) rfl (sM0 hB) rfl dX11_look_2 hm1 ?_
  refine mj_iload_n C dX11_look_5 rfl ?_
  refine mj_if_ne (tgt := 17) C dX11_look_6 (by decide) (fun c2 => ?_) (fun c2 => ?_)
  · replace h := mj_if_f c2 h
    refine mj_aload_n C dX11_look_17 rfl ?_
    refine mj_iload_n C dX11_look_18 rfl ?_
    refine mj_iconst (v := 1) C dX11_look_19 (by decide) ?_
    refine mj_bipush (v := 11) C dX11_look_20 (by decide) ?_
    obtain ⟨r3, er3, h⟩ := mj_let_o h
    refine mj_callV1 (av := [.inl a1, .inl 1, .inl 11]) C lM_X11_48 lV_X11_isIn (sM0 hB) ⟨_, rfl, rfl⟩ rfl (C_X11_isIn hB er3) (mj_rmok hR (by decide) (by decide)) rfl (Nat.le_of_ble_eq_true rfl) dX11_look_22 (fun hb4 => ?_)
    refine mj_if_eq (tgt := 36) C dX11_look_25 (by decide) (fun c5 => ?_) (fun c5 => ?_)
    · replace h := mj_if_t c5 h
      refine mj_iload_n C dX11_look_36 rfl ?_
      refine mj_bipush (v := 12) C dX11_look_37 (by decide) ?_
      refine mj_icmp_ne (tgt := 50) C dX11_look_39 (by decide) (fun c6 => ?_) (fun c6 => ?_)
      · replace h := mj_if_f c6 h
        refine mj_aload_n C dX11_look_50 rfl ?_
        refine mj_iload_n C dX11_look_51 rfl ?_
        refine mj_bipush (v := 13) C dX11_look_52 (by decide) ?_
        refine mj_bipush (v := 17) C dX11_look_54 (by decide) ?_
        obtain ⟨r7, er7, h⟩ := mj_let_o h
        refine mj_callV1 (av := [.inl a1, .inl 13, .inl 17]) C lM_X11_48 lV_X11_isIn (sM0 hB) ⟨_, rfl, rfl⟩ rfl (C_X11_isIn hB er7) (mj_rmok hR (by decide) (by decide)) rfl (Nat.le_of_ble_eq_true rfl) dX11_look_56 (fun hb8 => ?_)
        refine mj_if_eq (tgt := 75) C dX11_look_59 (by decide) (fun c9 => ?_) (fun c9 => ?_)
        · replace h := mj_if_t c9 h
          refine mj_iload_n C dX11_look_75 rfl ?_
          refine mj_bipush (v := 18) C dX11_look_76 (by decide) ?_
          refine mj_icmp_ne (tgt := 86) C dX11_look_78 (by decide) (fun c10 => ?_) (fun c10 => ?_)
          · replace h := mj_if_f c10 h
            refine mj_iload_n C dX11_look_86 rfl ?_
            refine mj_bipush (v := 19) C dX11_look_87 (by decide) ?_
            refine mj_icmp_ne (tgt := 102) C dX11_look_89 (by decide) (fun c11 => ?_) (fun c11 => ?_)
            · replace h := mj_if_f c11 h
              refine mj_ldcw (v := (-100000)) C lC_X11_324 dX11_look_102 ?_
              cases h
              exact mj_iret C hT (vp_nar_int _) dX11_look_105 ⟨rfl, rfl, mj_bi _⟩
            · replace h := mj_if_t c11 h
              refine mj_aload_n C dX11_look_92 rfl ?_
              refine mj_getr (r := (β, 1)) C lF_X11_7 (sM0 hB) rfl dX11_look_93 ?_
              refine mj_bipush (v := 49) C dX11_look_96 (by decide) ?_
              refine mj_bald C (sM1 hB) (mj_okn 49 1897 (Nat.le_of_ble_eq_true rfl) (Nat.le_of_ble_eq_true rfl)) (mj_cln 49 (Nat.le_of_ble_eq_true rfl)) dX11_look_98 ?_
              refine mj_goto (tgt := 105) C dX11_look_99 (by decide) ?_
              cases h
              exact mj_iret C hT (vp_nar_int _) dX11_look_105 ⟨rfl, rfl, mj_bi _⟩
          · replace h := mj_if_t c10 h
            refine mj_aload_n C dX11_look_81 rfl ?_
            refine mj_bget C lF_X11_321 (sM0 hB) rfl dX11_look_82 ?_
            cases h
            exact mj_iret C hT (vp_nar_int _) dX11_look_85 ⟨rfl, rfl, mj_bi _⟩
        · replace h := mj_if_f c9 h
          refine mj_aload_n C dX11_look_62 rfl ?_
          refine mj_getr (r := (β, 1)) C lF_X11_7 (sM0 hB) rfl dX11_look_63 ?_
          refine mj_bipush (v := 35) C dX11_look_66 (by decide) ?_
          refine mj_iload_n C dX11_look_68 rfl ?_
          refine mj_iadd C dX11_look_69 ?_
          refine mj_bipush (v := 13) C dX11_look_70 (by decide) ?_
          refine mj_isub C dX11_look_72 ?_
          obtain ⟨k12, h⟩ := mj_chk_o h
          refine mj_bald C (sM1 hB) k12 rfl dX11_look_73 ?_
          cases h
          exact mj_iret C hT (vp_nar_int _) dX11_look_74 ⟨rfl, rfl, mj_bi _⟩
      · replace h := mj_if_t c6 h
        refine mj_aload_n C dX11_look_42 rfl ?_
        refine mj_getr (r := (β, 1)) C lF_X11_7 (sM0 hB) rfl dX11_look_43 ?_
        refine mj_bipush (v := 12) C dX11_look_46 (by decide) ?_
        refine mj_bald C (sM1 hB) (mj_okn 12 1897 (Nat.le_of_ble_eq_true rfl) (Nat.le_of_ble_eq_true rfl)) (mj_cln 12 (Nat.le_of_ble_eq_true rfl)) dX11_look_48 ?_
        cases h
        exact mj_iret C hT (vp_nar_int _) dX11_look_49 ⟨rfl, rfl, mj_bi _⟩
    · replace h := mj_if_f c5 h
      refine mj_aload_n C dX11_look_28 rfl ?_
      refine mj_iload_n C dX11_look_29 rfl ?_
      refine mj_iconst (v := 1) C dX11_look_30 (by decide) ?_
      refine mj_isub C dX11_look_31 ?_
      obtain ⟨r13, er13, h⟩ := mj_b1_o h
      refine mj_callV1 (av := [.inl (a1 - 1)]) C lM_X11_102 lV_X11_settingOf (sM0 hB) ⟨_, rfl, rfl⟩ rfl (C_X11_settingOf hB er13) (mj_rmok hR (by decide) (by decide)) rfl (Nat.le_of_ble_eq_true rfl) dX11_look_32 (fun hb14 => ?_)
      cases h
      exact mj_iret C hT (vp_nar_int _) dX11_look_35 ⟨rfl, rfl, mj_bi _⟩
  · replace h := mj_if_t c2 h
    refine mj_aload_n C dX11_look_9 rfl ?_
    refine mj_getr (r := (β, 1)) C lF_X11_7 (sM0 hB) rfl dX11_look_10 ?_
    refine mj_bipush (v := 11) C dX11_look_13 (by decide) ?_
    refine mj_bald C (sM1 hB) (mj_okn 11 1897 (Nat.le_of_ble_eq_true rfl) (Nat.le_of_ble_eq_true rfl)) (mj_cln 11 (Nat.le_of_ble_eq_true rfl)) dX11_look_15 ?_
    cases h
    exact mj_iret C hT (vp_nar_int _) dX11_look_16 ⟨rfl, rfl, mj_bi _⟩
def f_X11_types_L3 (l1 : Int32) : Nat → Int32 → mj_m → Option (mj_m)
  | 0, _, _ => none
  | n + 1, l2, m => if l2 < 0 then (some m) else (mj_chk (mj_ok (m 0 9) 400) (mj_let (mj_wrs m 6 (mj_cl (m 0 9)) ((mj_shr l1 l2) &&& 255)) (fun m3 => mj_let (mj_wrs m3 0 9 ((m3 0 9) + 1)) (fun m4 => mj_let (l2 + (-8)) (fun x5 => f_X11_types_L3 l1 n x5 m4)))))
set_option maxHeartbeats 4000000 in
set_option maxRecDepth 20000 in
theorem C_X11_types_L3 {κ : mj_K} {Q : State → Prop} {β : Nat} {M : mj_M} {l1 : Int32} (C : mj_C κ cX11_types 3 RX11) (hB : mj_isM (mj_g κ) β) (hR : mj_dp κ 0) : ∀ (n : Nat) (l2 : Int32) (m : mj_m) (mo : mj_m), f_X11_types_L3 l1 n l2 m = some mo → (mj_R κ Q 39 [none, none, none] [] (va_up M β mo)) → mj_R κ Q 3 [some (mj_r (β, 0)), some (.inl l1), some (.inl l2)] [] (va_up M β m) := by
  intro n
  induction n with
  | zero =>
    intro l2 m mo h
    cases h
  | succ n ih =>
    intro l2 m mo h hx39
    rw [f_X11_types_L3] at h
    refine mj_iload_n C dX11_types_3 rfl ?_
    refine mj_if_lt (tgt := 39) C dX11_types_4 (by decide) (fun c1 => ?_) (fun c1 => ?_)
    · replace h := mj_if_t c1 h
      cases h
      refine mj_sub ?_ (hx39)
      exact trivial
    · replace h := mj_if_f c1 h
      refine mj_aload_n C dX11_types_7 rfl ?_
      refine mj_getr (r := (β, 6)) C lF_X11_25 (sM0 hB) rfl dX11_types_8 ?_
      refine mj_aload_n C dX11_types_11 rfl ?_
      refine mj_bget C lF_X11_325 (sM0 hB) rfl dX11_types_12 ?_
      refine mj_iload_n C dX11_types_15 rfl ?_
      refine mj_iload_n C dX11_types_16 rfl ?_
      refine mj_ishr C dX11_types_17 ?_
      refine mj_sipush (v := 255) C dX11_types_18 (by decide) ?_
      refine mj_iand C dX11_types_21 ?_
      obtain ⟨k2, h⟩ := mj_chk_o h
      obtain ⟨m3, hm3, h⟩ := mj_let_o h
      refine mj_bast C (sM6 hB) k2 rfl dX11_types_22 hm3 ?_
      refine mj_aload_n C dX11_types_23 rfl ?_
      refine mj_aload_n C dX11_types_24 rfl ?_
      refine mj_bget C lF_X11_325 (sM0 hB) rfl dX11_types_25 ?_
      refine mj_iconst (v := 1) C dX11_types_28 (by decide) ?_
      refine mj_iadd C dX11_types_29 ?_
      obtain ⟨m4, hm4, h⟩ := mj_let_o h
      refine mj_bput C lF_X11_325 fP_12_9 (vp_nar_int _) rfl (sM0 hB) rfl dX11_types_30 hm4 ?_
      obtain ⟨x5, hx5, h⟩ := mj_let_o h
      refine mj_iinc (L2 := [some (mj_r (β, 0)), some (.inl l1), some (.inl x5)]) C dX11_types_33 rfl hx5 rfl ?_
      refine mj_goto (tgt := 3) C dX11_types_36 (by decide) ?_
      refine mj_sub (L' := [some (mj_r (β, 0)), some (.inl l1), some (.inl x5)]) ⟨rfl, ⟨rfl, ⟨rfl, trivial⟩⟩⟩ ?_
      exact ih _ _ _ h hx39
def f_X11_types (a1 : Int32) (m : mj_m) : Option (mj_m) := mj_b1 (f_X11_types_L3 a1 mj_fu 24 m) (fun m6 => some m6)
set_option maxHeartbeats 4000000 in
set_option maxRecDepth 20000 in
theorem C_X11_types {G : mj_G} {β : Nat} {M : mj_M} {a1 : Int32} {m : mj_m} {m0 : mj_m} (hB : mj_isM G β) (h : f_X11_types a1 m = some m0) : mj_S1 yX11_types cX11_types 3 none 0 G [mj_r (β, 0), .inl a1] (va_up M β m) none (va_up M β m0) := by
  refine mj_intro (by decide) (Nat.le_of_ble_eq_true rfl) ?_
  intro κ C hG hR hT
  subst hG
  have C : mj_C κ cX11_types 3 RX11 := C
  show mj_R κ (mj_F κ (fun r M' => r = none ∧ M' = (va_up M β m0) ∧ mj_bb none none)) 0 [some (mj_r (β, 0)), some (.inl a1), none] [] (va_up M β m)
  unfold f_X11_types at h
  refine mj_bipush (v := 24) C dX11_types_0 (by decide) ?_
  refine mj_istore_n (L2 := [some (mj_r (β, 0)), some (.inl a1), some (.inl 24)]) C dX11_types_2 (Nat.le_of_ble_eq_true rfl) rfl ?_
  obtain ⟨m6, hl7, h⟩ := mj_b1_o h
  refine mj_sub (L' := [some (mj_r (β, 0)), some (.inl a1), some (.inl 24)]) ⟨rfl, ⟨rfl, ⟨rfl, trivial⟩⟩⟩ ?_
  refine C_X11_types_L3 C hB hR _ _ _ _ hl7 ?_
  cases h
  exact mj_vret C hT dX11_types_39 ⟨rfl, rfl, mj_bv _⟩
def f_X11_feed (a1 : Int32) (a2 : Int32) (a3 : Int32) (a4 : Int32) (a5 : Int32) (m : mj_m) : Option (Int32 × mj_m) := mj_let (mj_wrs m 0 0 0) (fun m1 => if m1 0 9 ≤ 380 then (mj_b1 (f_X11_types a1 m1) (fun m3 => mj_b1 (f_X11_types a2 m3) (fun m5 => mj_b1 (f_X11_types a3 m5) (fun m7 => mj_b1 (f_X11_types a4 m7) (fun m9 => mj_b1 (f_X11_types a5 m9) (fun m11 => some (m11 0 9, m11))))))) else (some ((-1), m1)))
set_option maxHeartbeats 4000000 in
set_option maxRecDepth 20000 in
theorem C_X11_feed {G : mj_G} {β : Nat} {M : mj_M} {a1 : Int32} {a2 : Int32} {a3 : Int32} {a4 : Int32} {a5 : Int32} {m : mj_m} {x0 : Int32} {m0 : mj_m} (hB : mj_isM G β) (h : f_X11_feed a1 a2 a3 a4 a5 m = some (x0, m0)) : mj_S1 yX11_feed cX11_feed 6 (some .int) 1 G [mj_r (β, 0), .inl a1, .inl a2, .inl a3, .inl a4, .inl a5] (va_up M β m) (some (.inl x0)) (va_up M β m0) := by
  refine mj_intro (by decide) (Nat.le_of_ble_eq_true rfl) ?_
  intro κ C hG hR hT
  subst hG
  have C : mj_C κ cX11_feed 6 RX11 := C
  show mj_R κ (mj_F κ (fun r M' => r = (some (.inl x0)) ∧ M' = (va_up M β m0) ∧ mj_bb (some .int) (some (.inl x0)))) 0 [some (mj_r (β, 0)), some (.inl a1), some (.inl a2), some (.inl a3), some (.inl a4), some (.inl a5)] [] (va_up M β m)
  unfold f_X11_feed at h
  refine mj_aload_n C dX11_feed_0 rfl ?_
  refine mj_iconst (v := 0) C dX11_feed_1 (by decide) ?_
  obtain ⟨m1, hm1, h⟩ := mj_let_o h
  refine mj_bput C lF_X11_41 fP_12_0 (vp_nar_int _) rfl (sM0 hB) rfl dX11_feed_2 hm1 ?_
  refine mj_aload_n C dX11_feed_5 rfl ?_
  refine mj_bget C lF_X11_325 (sM0 hB) rfl dX11_feed_6 ?_
  refine mj_sipush (v := 380) C dX11_feed_9 (by decide) ?_
  refine mj_icmp_le (tgt := 17) C dX11_feed_12 (by decide) (fun c2 => ?_) (fun c2 => ?_)
  · replace h := mj_if_t c2 h
    refine mj_aload_n C dX11_feed_17 rfl ?_
    refine mj_iload_n C dX11_feed_18 rfl ?_
    obtain ⟨m3, em3, h⟩ := mj_b1_o h
    refine mj_callV0 (av := [.inl a1]) C lM_X11_328 lV_X11_types (sM0 hB) ⟨_, rfl, rfl⟩ rfl (C_X11_types hB em3) (mj_rmok hR (by decide) (by decide)) rfl (Nat.le_of_ble_eq_true rfl) dX11_feed_19 ?_
    refine mj_aload_n C dX11_feed_22 rfl ?_
    refine mj_iload_n C dX11_feed_23 rfl ?_
    obtain ⟨m5, em5, h⟩ := mj_b1_o h
    refine mj_callV0 (av := [.inl a2]) C lM_X11_328 lV_X11_types (sM0 hB) ⟨_, rfl, rfl⟩ rfl (C_X11_types hB em5) (mj_rmok hR (by decide) (by decide)) rfl (Nat.le_of_ble_eq_true rfl) dX11_feed_24 ?_
    refine mj_aload_n C dX11_feed_27 rfl ?_
    refine mj_iload_n C dX11_feed_28 rfl ?_
    obtain ⟨m7, em7, h⟩ := mj_b1_o h
    refine mj_callV0 (av := [.inl a3]) C lM_X11_328 lV_X11_types (sM0 hB) ⟨_, rfl, rfl⟩ rfl (C_X11_types hB em7) (mj_rmok hR (by decide) (by decide)) rfl (Nat.le_of_ble_eq_true rfl) dX11_feed_29 ?_
    refine mj_aload_n C dX11_feed_32 rfl ?_
    refine mj_iload C dX11_feed_33 rfl ?_
    obtain ⟨m9, em9, h⟩ := mj_b1_o h
    refine mj_callV0 (av := [.inl a4]) C lM_X11_328 lV_X11_types (sM0 hB) ⟨_, rfl, rfl⟩ rfl (C_X11_types hB em9) (mj_rmok hR (by decide) (by decide)) rfl (Nat.le_of_ble_eq_true rfl) dX11_feed_35 ?_
    refine mj_aload_n C dX11_feed_38 rfl ?_
    refine mj_iload C dX11_feed_39 rfl ?_
    obtain ⟨m11, em11, h⟩ := mj_b1_o h
    refine mj_callV0 (av := [.inl a5]) C lM_X11_328 lV_X11_types (sM0 hB) ⟨_, rfl, rfl⟩ rfl (C_X11_types hB em11) (mj_rmok hR (by decide) (by decide)) rfl (Nat.le_of_ble_eq_true rfl) dX11_feed_41 ?_
    refine mj_aload_n C dX11_feed_44 rfl ?_
    refine mj_bget C lF_X11_325 (sM0 hB) rfl dX11_feed_45 ?_
    cases h
    exact mj_iret C hT (vp_nar_int _) dX11_feed_48 ⟨rfl, rfl, mj_bi _⟩
  · replace h := mj_if_f c2 h
    refine mj_iconst (v := (-1)) C dX11_feed_15 (by decide) ?_
    cases h
    exact mj_iret C hT (vp_nar_int _) dX11_feed_16 ⟨rfl, rfl, mj_bi _⟩
def f_X11_end (a1 : Int32) (m : mj_m) : Int32 × mj_m := mj_let (mj_wrs m 0 0 0) (fun m1 => mj_let (f_X11_isIn a1 0 (m1 0 9)) (fun r2 => if r2 = 0 then ((0, m1)) else (mj_let (mj_wrs m1 0 9 a1) (fun m5 => (1, m5)))))
set_option maxHeartbeats 4000000 in
set_option maxRecDepth 20000 in
theorem C_X11_end {G : mj_G} {β : Nat} {M : mj_M} {a1 : Int32} {m : mj_m} {x0 : Int32} {m0 : mj_m} (hB : mj_isM G β) (h : f_X11_end a1 m = (x0, m0)) : mj_S1 yX11_end cX11_end 2 (some .boolean) 1 G [mj_r (β, 0), .inl a1] (va_up M β m) (some (.inl x0)) (va_up M β m0) := by
  refine mj_intro (by decide) (Nat.le_of_ble_eq_true rfl) ?_
  intro κ C hG hR hT
  subst hG
  have C : mj_C κ cX11_end 2 RX11 := C
  show mj_R κ (mj_F κ (fun r M' => r = (some (.inl x0)) ∧ M' = (va_up M β m0) ∧ mj_bb (some .boolean) (some (.inl x0)))) 0 [some (mj_r (β, 0)), some (.inl a1)] [] (va_up M β m)
  unfold f_X11_end at h
  refine mj_aload_n C dX11_end_0 rfl ?_
  refine mj_iconst (v := 0) C dX11_end_1 (by decide) ?_
  obtain ⟨m1, hm1, h⟩ := mj_let_o h
  refine mj_bput C lF_X11_41 fP_12_0 (vp_nar_int _) rfl (sM0 hB) rfl dX11_end_2 hm1 ?_
  refine mj_aload_n C dX11_end_5 rfl ?_
  refine mj_iload_n C dX11_end_6 rfl ?_
  refine mj_iconst (v := 0) C dX11_end_7 (by decide) ?_
  refine mj_aload_n C dX11_end_8 rfl ?_
  refine mj_bget C lF_X11_325 (sM0 hB) rfl dX11_end_9 ?_
  obtain ⟨r2, er2, h⟩ := mj_let_o h
  refine mj_callV1 (av := [.inl a1, .inl 0, .inl (m1 0 9)]) C lM_X11_48 lV_X11_isIn (sM0 hB) ⟨_, rfl, rfl⟩ rfl (C_X11_isIn hB er2) (mj_rmok hR (by decide) (by decide)) rfl (Nat.le_of_ble_eq_true rfl) dX11_end_12 (fun hb3 => ?_)
  refine mj_if_ne (tgt := 20) C dX11_end_15 (by decide) (fun c4 => ?_) (fun c4 => ?_)
  · replace h := mj_if_f c4 h
    refine mj_aload_n C dX11_end_20 rfl ?_
    refine mj_iload_n C dX11_end_21 rfl ?_
    obtain ⟨m5, hm5, h⟩ := mj_let_o h
    refine mj_bput C lF_X11_325 fP_12_9 (vp_nar_int _) rfl (sM0 hB) rfl dX11_end_22 hm5 ?_
    refine mj_iconst (v := 1) C dX11_end_25 (by decide) ?_
    cases h
    exact mj_iret C hT (mj_nb mj_b1') dX11_end_26 ⟨rfl, rfl, mj_b1'⟩
  · replace h := mj_if_t c4 h
    refine mj_iconst (v := 0) C dX11_end_18 (by decide) ?_
    cases h
    exact mj_iret C hT (mj_nb mj_b0) dX11_end_19 ⟨rfl, rfl, mj_b0⟩
def f_X11_raw (a1 : Int32) (m : mj_m) : Option (Int32) := if m 0 9 ≤ a1 then (some (-1)) else (mj_chk (mj_ok a1 400) (some (m 6 (mj_cl a1))))
set_option maxHeartbeats 4000000 in
set_option maxRecDepth 20000 in
theorem C_X11_raw {G : mj_G} {β : Nat} {M : mj_M} {a1 : Int32} {m : mj_m} {x0 : Int32} (hB : mj_isM G β) (h : f_X11_raw a1 m = some x0) : mj_S1 yX11_raw cX11_raw 2 (some .int) 0 G [mj_r (β, 0), .inl a1] (va_up M β m) (some (.inl x0)) (va_up M β m) := by
  refine mj_intro (by decide) (Nat.le_of_ble_eq_true rfl) ?_
  intro κ C hG hR hT
  subst hG
  have C : mj_C κ cX11_raw 2 RX11 := C
  show mj_R κ (mj_F κ (fun r M' => r = (some (.inl x0)) ∧ M' = (va_up M β m) ∧ mj_bb (some .int) (some (.inl x0)))) 0 [some (mj_r (β, 0)), some (.inl a1)] [] (va_up M β m)
  unfold f_X11_raw at h
  refine mj_iload_n C dX11_raw_0 rfl ?_
  refine mj_aload_n C dX11_raw_1 rfl ?_
  refine mj_bget C lF_X11_325 (sM0 hB) rfl dX11_raw_2 ?_
  refine mj_icmp_ge (tgt := 17) C dX11_raw_5 (by decide) (fun c1 => ?_) (fun c1 => ?_)
  · replace h := mj_if_t c1 h
    refine mj_iconst (v := (-1)) C dX11_raw_17 (by decide) ?_
    cases h
    exact mj_iret C hT (vp_nar_int _) dX11_raw_18 ⟨rfl, rfl, mj_bi _⟩
  · replace h := mj_if_f c1 h
    refine mj_aload_n C dX11_raw_8 rfl ?_
    refine mj_getr (r := (β, 6)) C lF_X11_25 (sM0 hB) rfl dX11_raw_9 ?_
    refine mj_iload_n C dX11_raw_12 rfl ?_
    obtain ⟨k2, h⟩ := mj_chk_o h
    refine mj_bald C (sM6 hB) k2 rfl dX11_raw_13 ?_
    refine mj_goto (tgt := 18) C dX11_raw_14 (by decide) ?_
    cases h
    exact mj_iret C hT (vp_nar_int _) dX11_raw_18 ⟨rfl, rfl, mj_bi _⟩
def f_X11_isLetter (a1 : Int32) : Int32 := mj_let (f_X11_isIn a1 97 122) (fun r1 => if r1 = 0 then (mj_let (f_X11_isIn a1 65 90) (fun r4 => if r4 = 0 then (0) else (1))) else (1))
set_option maxHeartbeats 4000000 in
set_option maxRecDepth 20000 in
theorem C_X11_isLetter {G : mj_G} {β : Nat} {M : mj_M} {a1 : Int32} {m : mj_m} {x0 : Int32} (hB : mj_isM G β) (h : f_X11_isLetter a1 = x0) : mj_S1 yX11_isLetter cX11_isLetter 2 (some .boolean) 1 G [mj_r (β, 0), .inl a1] (va_up M β m) (some (.inl x0)) (va_up M β m) := by
  refine mj_intro (by decide) (Nat.le_of_ble_eq_true rfl) ?_
  intro κ C hG hR hT
  subst hG
  have C : mj_C κ cX11_isLetter 2 RX11 := C
  show mj_R κ (mj_F κ (fun r M' => r = (some (.inl x0)) ∧ M' = (va_up M β m) ∧ mj_bb (some .boolean) (some (.inl x0)))) 0 [some (mj_r (β, 0)), some (.inl a1)] [] (va_up M β m)
  unfold f_X11_isLetter at h
  refine mj_aload_n C dX11_isLetter_0 rfl ?_
  refine mj_iload_n C dX11_isLetter_1 rfl ?_
  refine mj_bipush (v := 97) C dX11_isLetter_2 (by decide) ?_
  refine mj_bipush (v := 122) C dX11_isLetter_4 (by decide) ?_
  obtain ⟨r1, er1, h⟩ := mj_let_o h
  refine mj_callV1 (av := [.inl a1, .inl 97, .inl 122]) C lM_X11_48 lV_X11_isIn (sM0 hB) ⟨_, rfl, rfl⟩ rfl (C_X11_isIn hB er1) (mj_rmok hR (by decide) (by decide)) rfl (Nat.le_of_ble_eq_true rfl) dX11_isLetter_6 (fun hb2 => ?_)
  refine mj_if_ne (tgt := 24) C dX11_isLetter_9 (by decide) (fun c3 => ?_) (fun c3 => ?_)
  · replace h := mj_if_f c3 h
    refine mj_iconst (v := 1) C dX11_isLetter_24 (by decide) ?_
    refine mj_goto (tgt := 29) C dX11_isLetter_25 (by decide) ?_
    cases h
    exact mj_iret C hT (mj_nb mj_b1') dX11_isLetter_29 ⟨rfl, rfl, mj_b1'⟩
  · replace h := mj_if_t c3 h
    refine mj_aload_n C dX11_isLetter_12 rfl ?_
    refine mj_iload_n C dX11_isLetter_13 rfl ?_
    refine mj_bipush (v := 65) C dX11_isLetter_14 (by decide) ?_
    refine mj_bipush (v := 90) C dX11_isLetter_16 (by decide) ?_
    obtain ⟨r4, er4, h⟩ := mj_let_o h
    refine mj_callV1 (av := [.inl a1, .inl 65, .inl 90]) C lM_X11_48 lV_X11_isIn (sM0 hB) ⟨_, rfl, rfl⟩ rfl (C_X11_isIn hB er4) (mj_rmok hR (by decide) (by decide)) rfl (Nat.le_of_ble_eq_true rfl) dX11_isLetter_18 (fun hb5 => ?_)
    refine mj_if_eq (tgt := 28) C dX11_isLetter_21 (by decide) (fun c6 => ?_) (fun c6 => ?_)
    · replace h := mj_if_t c6 h
      refine mj_iconst (v := 0) C dX11_isLetter_28 (by decide) ?_
      cases h
      exact mj_iret C hT (mj_nb mj_b0) dX11_isLetter_29 ⟨rfl, rfl, mj_b0⟩
    · replace h := mj_if_f c6 h
      refine mj_iconst (v := 1) C dX11_isLetter_24 (by decide) ?_
      refine mj_goto (tgt := 29) C dX11_isLetter_25 (by decide) ?_
      cases h
      exact mj_iret C hT (mj_nb mj_b1') dX11_isLetter_29 ⟨rfl, rfl, mj_b1'⟩
def f_X11_isDigit (a1 : Int32) : Int32 := mj_let (f_X11_isIn a1 48 57) (fun r1 => r1)
set_option maxHeartbeats 4000000 in
set_option maxRecDepth 20000 in
theorem C_X11_isDigit {G : mj_G} {β : Nat} {M : mj_M} {a1 : Int32} {m : mj_m} {x0 : Int32} (hB : mj_isM G β) (h : f_X11_isDigit a1 = x0) : mj_S1 yX11_isDigit cX11_isDigit 2 (some .boolean) 1 G [mj_r (β, 0), .inl a1] (va_up M β m) (some (.inl x0)) (va_up M β m) := by
  refine mj_intro (by decide) (Nat.le_of_ble_eq_true rfl) ?_
  intro κ C hG hR hT
  subst hG
  have C : mj_C κ cX11_isDigit 2 RX11 := C
  show mj_R κ (mj_F κ (fun r M' => r = (some (.inl x0)) ∧ M' = (va_up M β m) ∧ mj_bb (some .boolean) (some (.inl x0)))) 0 [some (mj_r (β, 0)), some (.inl a1)] [] (va_up M β m)
  unfold f_X11_isDigit at h
  refine mj_aload_n C dX11_isDigit_0 rfl ?_
  refine mj_iload_n C dX11_isDigit_1 rfl ?_
  refine mj_bipush (v := 48) C dX11_isDigit_2 (by decide) ?_
  refine mj_bipush (v := 57) C dX11_isDigit_4 (by decide) ?_
  obtain ⟨r1, er1, h⟩ := mj_let_o h
  refine mj_callV1 (av := [.inl a1, .inl 48, .inl 57]) C lM_X11_48 lV_X11_isIn (sM0 hB) ⟨_, rfl, rfl⟩ rfl (C_X11_isIn hB er1) (mj_rmok hR (by decide) (by decide)) rfl (Nat.le_of_ble_eq_true rfl) dX11_isDigit_6 (fun hb2 => ?_)
  cases h
  exact mj_iret C hT (mj_nb hb2) dX11_isDigit_9 ⟨rfl, rfl, hb2⟩
def f_X11_wordAt_L93 (l1 : Int32) (l2 : Int32) (l3 : Int32) : Nat → Int32 → mj_m → Option (Int32)
  | 0, _, _ => none
  | n + 1, l4, m => mj_chk (mj_ok l4 71) (if m 7 (mj_cl l4) = 32 then (some l4) else (mj_let (l4 + 1) (fun x3 => f_X11_wordAt_L93 l1 l2 l3 n x3 m)))
set_option maxHeartbeats 4000000 in
set_option maxRecDepth 20000 in
theorem C_X11_wordAt_L93 {κ : mj_K} {Q : State → Prop} {β : Nat} {M : mj_M} {l1 : Int32} {l2 : Int32} {l3 : Int32} (C : mj_C κ cX11_wordAt 6 RX11) (hB : mj_isM (mj_g κ) β) (hR : mj_dp κ 0) : ∀ (n : Nat) (l4 : Int32) (m : mj_m) (o4 : Int32), f_X11_wordAt_L93 l1 l2 l3 n l4 m = some o4 → (mj_R κ Q 114 [some (mj_r (β, 0)), some (.inl l1), some (.inl l2), some (.inl l3), some (.inl o4), none] [] (va_up M β m)) → mj_R κ Q 93 [some (mj_r (β, 0)), some (.inl l1), some (.inl l2), some (.inl l3), some (.inl l4), none] [] (va_up M β m) := by
  intro n
  induction n with
  | zero =>
    intro l4 m o4 h
    cases h
  | succ n ih =>
    intro l4 m o4 h hx114
    rw [f_X11_wordAt_L93] at h
    refine mj_aload_n C dX11_wordAt_93 rfl ?_
    refine mj_getr (r := (β, 7)) C lF_X11_28 (sM0 hB) rfl dX11_wordAt_94 ?_
    refine mj_iload C dX11_wordAt_97 rfl ?_
    obtain ⟨k1, h⟩ := mj_chk_o h
    refine mj_bald C (sM7 hB) k1 rfl dX11_wordAt_99 ?_
    refine mj_bipush (v := 32) C dX11_wordAt_100 (by decide) ?_
    refine mj_icmp_eq (tgt := 114) C dX11_wordAt_102 (by decide) (fun c2 => ?_) (fun c2 => ?_)
    · replace h := mj_if_t c2 h
      cases h
      refine mj_sub ?_ (hx114)
      exact ⟨rfl, ⟨rfl, ⟨rfl, ⟨rfl, ⟨rfl, trivial⟩⟩⟩⟩⟩
    · replace h := mj_if_f c2 h
      refine mj_iload C dX11_wordAt_105 rfl ?_
      refine mj_iconst (v := 1) C dX11_wordAt_107 (by decide) ?_
      refine mj_iadd C dX11_wordAt_108 ?_
      obtain ⟨x3, hx3, h⟩ := mj_let_o h
      refine mj_nm hx3 ?_
      refine mj_istore (L2 := [some (mj_r (β, 0)), some (.inl l1), some (.inl l2), some (.inl l3), some (.inl x3), none]) C dX11_wordAt_109 (Nat.le_of_ble_eq_true rfl) rfl ?_
      refine mj_goto (tgt := 93) C dX11_wordAt_111 (by decide) ?_
      refine mj_sub (L' := [some (mj_r (β, 0)), some (.inl l1), some (.inl l2), some (.inl l3), some (.inl x3), none]) ⟨rfl, ⟨rfl, ⟨rfl, ⟨rfl, ⟨rfl, trivial⟩⟩⟩⟩⟩ ?_
      exact ih _ _ _ h hx114
def f_X11_wordAt_L19 (l1 : Int32) (l2 : Int32) (l3 : Int32) (l4 : Int32) : Nat → Int32 → mj_m → Option (Int32)
  | 0, _, _ => none
  | n + 1, l5, m => if l2 ≤ l1 + l5 then (some l5) else (mj_chk (mj_ok ((l4 + 1) + l5) 71) (mj_chk (mj_ok (l1 + l5) 400) (if m 7 (mj_cl ((l4 + 1) + l5)) = m 6 (mj_cl (l1 + l5)) then (mj_let (l5 + 1) (fun x8 => f_X11_wordAt_L19 l1 l2 l3 l4 n x8 m)) else (some l5))))
set_option maxHeartbeats 4000000 in
set_option maxRecDepth 20000 in
theorem C_X11_wordAt_L19 {κ : mj_K} {Q : State → Prop} {β : Nat} {M : mj_M} {l1 : Int32} {l2 : Int32} {l3 : Int32} {l4 : Int32} (C : mj_C κ cX11_wordAt 6 RX11) (hB : mj_isM (mj_g κ) β) (hR : mj_dp κ 0) : ∀ (n : Nat) (l5 : Int32) (m : mj_m) (o5 : Int32), f_X11_wordAt_L19 l1 l2 l3 l4 n l5 m = some o5 → (mj_R κ Q 60 [some (mj_r (β, 0)), some (.inl l1), some (.inl l2), some (.inl l3), some (.inl l4), some (.inl o5)] [] (va_up M β m)) → mj_R κ Q 19 [some (mj_r (β, 0)), some (.inl l1), some (.inl l2), some (.inl l3), some (.inl l4), some (.inl l5)] [] (va_up M β m) := by
  intro n
  induction n with
  | zero =>
    intro l5 m o5 h
    cases h
  | succ n ih =>
    intro l5 m o5 h hx60
    rw [f_X11_wordAt_L19] at h
    refine mj_iload_n C dX11_wordAt_19 rfl ?_
    refine mj_iload C dX11_wordAt_20 rfl ?_
    refine mj_iadd C dX11_wordAt_22 ?_
    refine mj_iload_n C dX11_wordAt_23 rfl ?_
    refine mj_icmp_ge (tgt := 60) C dX11_wordAt_24 (by decide) (fun c4 => ?_) (fun c4 => ?_)
    · replace h := mj_if_t c4 h
      cases h
      refine mj_sub ?_ (hx60)
      exact ⟨rfl, ⟨rfl, ⟨rfl, ⟨rfl, ⟨rfl, ⟨rfl, trivial⟩⟩⟩⟩⟩⟩
    · replace h := mj_if_f c4 h
      refine mj_aload_n C dX11_wordAt_27 rfl ?_
      refine mj_getr (r := (β, 7)) C lF_X11_28 (sM0 hB) rfl dX11_wordAt_28 ?_
      refine mj_iload C dX11_wordAt_31 rfl ?_
      refine mj_iconst (v := 1) C dX11_wordAt_33 (by decide) ?_
      refine mj_iadd C dX11_wordAt_34 ?_
      refine mj_iload C dX11_wordAt_35 rfl ?_
      refine mj_iadd C dX11_wordAt_37 ?_
      obtain ⟨k5, h⟩ := mj_chk_o h
      refine mj_bald C (sM7 hB) k5 rfl dX11_wordAt_38 ?_
      refine mj_aload_n C dX11_wordAt_39 rfl ?_
      refine mj_getr (r := (β, 6)) C lF_X11_25 (sM0 hB) rfl dX11_wordAt_40 ?_
      refine mj_iload_n C dX11_wordAt_43 rfl ?_
      refine mj_iload C dX11_wordAt_44 rfl ?_
      refine mj_iadd C dX11_wordAt_46 ?_
      obtain ⟨k6, h⟩ := mj_chk_o h
      refine mj_bald C (sM6 hB) k6 rfl dX11_wordAt_47 ?_
      refine mj_icmp_ne (tgt := 60) C dX11_wordAt_48 (by decide) (fun c7 => ?_) (fun c7 => ?_)
      · replace h := mj_if_f c7 h
        cases h
        refine mj_sub ?_ (hx60)
        exact ⟨rfl, ⟨rfl, ⟨rfl, ⟨rfl, ⟨rfl, ⟨rfl, trivial⟩⟩⟩⟩⟩⟩
      · replace h := mj_if_t c7 h
        refine mj_iload C dX11_wordAt_51 rfl ?_
        refine mj_iconst (v := 1) C dX11_wordAt_53 (by decide) ?_
        refine mj_iadd C dX11_wordAt_54 ?_
        obtain ⟨x8, hx8, h⟩ := mj_let_o h
        refine mj_nm hx8 ?_
        refine mj_istore (L2 := [some (mj_r (β, 0)), some (.inl l1), some (.inl l2), some (.inl l3), some (.inl l4), some (.inl x8)]) C dX11_wordAt_55 (Nat.le_of_ble_eq_true rfl) rfl ?_
        refine mj_goto (tgt := 19) C dX11_wordAt_57 (by decide) ?_
        refine mj_sub (L' := [some (mj_r (β, 0)), some (.inl l1), some (.inl l2), some (.inl l3), some (.inl l4), some (.inl x8)]) ⟨rfl, ⟨rfl, ⟨rfl, ⟨rfl, ⟨rfl, ⟨rfl, trivial⟩⟩⟩⟩⟩⟩ ?_
        exact ih _ _ _ h hx60
def f_X11_wordAt_L5 (l1 : Int32) (l2 : Int32) : Nat → Int32 → Int32 → mj_m → Option (Nat × Int32)
  | 0, _, _, _ => none
  | n + 1, l3, l4, m => if 70 ≤ l4 then (some (117, 0)) else (mj_let (l3 + 1) (fun x10 => mj_b1 (f_X11_wordAt_L19 l1 l2 x10 l4 mj_fu 0 m) (fun x11 => if l1 + x11 = l2 then (mj_chk (mj_ok ((l4 + 1) + x11) 71) (if m 7 (mj_cl ((l4 + 1) + x11)) = 32 then (some (85, x10)) else (mj_let (l4 + 1) (fun x19 => mj_b1 (f_X11_wordAt_L93 l1 l2 x10 mj_fu x19 m) (fun x20 => f_X11_wordAt_L5 l1 l2 n x10 x20 m))))) else (mj_let (l4 + 1) (fun x14 => mj_b1 (f_X11_wordAt_L93 l1 l2 x10 mj_fu x14 m) (fun x15 => f_X11_wordAt_L5 l1 l2 n x10 x15 m))))))
set_option maxHeartbeats 4000000 in
set_option maxRecDepth 20000 in
theorem C_X11_wordAt_L5 {κ : mj_K} {Q : State → Prop} {β : Nat} {M : mj_M} {l1 : Int32} {l2 : Int32} (C : mj_C κ cX11_wordAt 6 RX11) (hB : mj_isM (mj_g κ) β) (hR : mj_dp κ 0) : ∀ (n : Nat) (l3 : Int32) (l4 : Int32) (m : mj_m) (tg : Nat) (o3 : Int32), f_X11_wordAt_L5 l1 l2 n l3 l4 m = some (tg, o3) → (tg = 85 → mj_R κ Q 85 [none, none, none, some (.inl o3), none, none] [] (va_up M β m)) → (tg = 117 → mj_R κ Q 117 [none, none, none, none, none, none] [] (va_up M β m)) → mj_R κ Q 5 [some (mj_r (β, 0)), some (.inl l1), some (.inl l2), some (.inl l3), some (.inl l4), none] [] (va_up M β m) := by
  intro n
  induction n with
  | zero =>
    intro l3 l4 m tg o3 h
    cases h
  | succ n ih =>
    intro l3 l4 m tg o3 h hx85 hx117
    rw [f_X11_wordAt_L5] at h
    refine mj_iload C dX11_wordAt_5 rfl ?_
    refine mj_bipush (v := 70) C dX11_wordAt_7 (by decide) ?_
    refine mj_icmp_ge (tgt := 117) C dX11_wordAt_9 (by decide) (fun c9 => ?_) (fun c9 => ?_)
    · replace h := mj_if_t c9 h
      cases h
      refine mj_sub ?_ (hx117 rfl)
      exact trivial
    · replace h := mj_if_f c9 h
      refine mj_iconst (v := 0) C dX11_wordAt_12 (by decide) ?_
      refine mj_istore (L2 := [some (mj_r (β, 0)), some (.inl l1), some (.inl l2), some (.inl l3), some (.inl l4), some (.inl 0)]) C dX11_wordAt_13 (Nat.le_of_ble_eq_true rfl) rfl ?_
      refine mj_iload_n C dX11_wordAt_15 rfl ?_
      refine mj_iconst (v := 1) C dX11_wordAt_16 (by decide) ?_
      refine mj_iadd C dX11_wordAt_17 ?_
      obtain ⟨x10, hx10, h⟩ := mj_let_o h
      refine mj_nm hx10 ?_
      refine mj_istore_n (L2 := [some (mj_r (β, 0)), some (.inl l1), some (.inl l2), some (.inl x10), some (.inl l4), some (.inl 0)]) C dX11_wordAt_18 (Nat.le_of_ble_eq_true rfl) rfl ?_
      obtain ⟨x11, hl12, h⟩ := mj_b1_o h
      refine mj_sub (L' := [some (mj_r (β, 0)), some (.inl l1), some (.inl l2), some (.inl x10), some (.inl l4), some (.inl 0)]) ⟨rfl, ⟨rfl, ⟨rfl, ⟨rfl, ⟨rfl, ⟨rfl, trivial⟩⟩⟩⟩⟩⟩ ?_
      refine C_X11_wordAt_L19 C hB hR _ _ _ _ hl12 ?_
      refine mj_iload_n C dX11_wordAt_60 rfl ?_
      refine mj_iload C dX11_wordAt_61 rfl ?_
      refine mj_iadd C dX11_wordAt_63 ?_
      refine mj_iload_n C dX11_wordAt_64 rfl ?_
      refine mj_icmp_ne (tgt := 87) C dX11_wordAt_65 (by decide) (fun c13 => ?_) (fun c13 => ?_)
      · replace h := mj_if_f c13 h
        refine mj_iload C dX11_wordAt_87 rfl ?_
        refine mj_iconst (v := 1) C dX11_wordAt_89 (by decide) ?_
        refine mj_iadd C dX11_wordAt_90 ?_
        obtain ⟨x14, hx14, h⟩ := mj_let_o h
        refine mj_nm hx14 ?_
        refine mj_istore (L2 := [some (mj_r (β, 0)), some (.inl l1), some (.inl l2), some (.inl x10), some (.inl x14), some (.inl x11)]) C dX11_wordAt_91 (Nat.le_of_ble_eq_true rfl) rfl ?_
        obtain ⟨x15, hl16, h⟩ := mj_b1_o h
        refine mj_sub (L' := [some (mj_r (β, 0)), some (.inl l1), some (.inl l2), some (.inl x10), some (.inl x14), none]) ⟨rfl, ⟨rfl, ⟨rfl, ⟨rfl, ⟨rfl, trivial⟩⟩⟩⟩⟩ ?_
        refine C_X11_wordAt_L93 C hB hR _ _ _ _ hl16 ?_
        refine mj_goto (tgt := 5) C dX11_wordAt_114 (by decide) ?_
        refine mj_sub (L' := [some (mj_r (β, 0)), some (.inl l1), some (.inl l2), some (.inl x10), some (.inl x15), none]) ⟨rfl, ⟨rfl, ⟨rfl, ⟨rfl, ⟨rfl, trivial⟩⟩⟩⟩⟩ ?_
        exact ih _ _ _ _ _ h hx85 hx117
      · replace h := mj_if_t c13 h
        refine mj_aload_n C dX11_wordAt_68 rfl ?_
        refine mj_getr (r := (β, 7)) C lF_X11_28 (sM0 hB) rfl dX11_wordAt_69 ?_
        refine mj_iload C dX11_wordAt_72 rfl ?_
        refine mj_iconst (v := 1) C dX11_wordAt_74 (by decide) ?_
        refine mj_iadd C dX11_wordAt_75 ?_
        refine mj_iload C dX11_wordAt_76 rfl ?_
        refine mj_iadd C dX11_wordAt_78 ?_
        obtain ⟨k17, h⟩ := mj_chk_o h
        refine mj_bald C (sM7 hB) k17 rfl dX11_wordAt_79 ?_
        refine mj_bipush (v := 32) C dX11_wordAt_80 (by decide) ?_
        refine mj_icmp_ne (tgt := 87) C dX11_wordAt_82 (by decide) (fun c18 => ?_) (fun c18 => ?_)
        · replace h := mj_if_f c18 h
          refine mj_iload C dX11_wordAt_87 rfl ?_
          refine mj_iconst (v := 1) C dX11_wordAt_89 (by decide) ?_
          refine mj_iadd C dX11_wordAt_90 ?_
          obtain ⟨x19, hx19, h⟩ := mj_let_o h
          refine mj_nm hx19 ?_
          refine mj_istore (L2 := [some (mj_r (β, 0)), some (.inl l1), some (.inl l2), some (.inl x10), some (.inl x19), some (.inl x11)]) C dX11_wordAt_91 (Nat.le_of_ble_eq_true rfl) rfl ?_
          obtain ⟨x20, hl21, h⟩ := mj_b1_o h
          refine mj_sub (L' := [some (mj_r (β, 0)), some (.inl l1), some (.inl l2), some (.inl x10), some (.inl x19), none]) ⟨rfl, ⟨rfl, ⟨rfl, ⟨rfl, ⟨rfl, trivial⟩⟩⟩⟩⟩ ?_
          refine C_X11_wordAt_L93 C hB hR _ _ _ _ hl21 ?_
          refine mj_goto (tgt := 5) C dX11_wordAt_114 (by decide) ?_
          refine mj_sub (L' := [some (mj_r (β, 0)), some (.inl l1), some (.inl l2), some (.inl x10), some (.inl x20), none]) ⟨rfl, ⟨rfl, ⟨rfl, ⟨rfl, ⟨rfl, trivial⟩⟩⟩⟩⟩ ?_
          exact ih _ _ _ _ _ h hx85 hx117
        · replace h := mj_if_t c18 h
          cases h
          refine mj_sub ?_ (hx85 rfl)
          exact ⟨rfl, trivial⟩
def f_X11_wordAt (a1 : Int32) (a2 : Int32) (m : mj_m) : Option (Int32) := mj_b2 (f_X11_wordAt_L5 a1 a2 mj_fu (-1) 0 m) (fun t22 x23 => if t22 = 85 then (some x23) else (some (-1)))
set_option maxHeartbeats 4000000 in
set_option maxRecDepth 20000 in
theorem C_X11_wordAt {G : mj_G} {β : Nat} {M : mj_M} {a1 : Int32} {a2 : Int32} {m : mj_m} {x0 : Int32} (hB : mj_isM G β) (h : f_X11_wordAt a1 a2 m = some x0) : mj_S1 yX11_wordAt cX11_wordAt 6 (some .int) 0 G [mj_r (β, 0), .inl a1, .inl a2] (va_up M β m) (some (.inl x0)) (va_up M β m) := by
  refine mj_intro (by decide) (Nat.le_of_ble_eq_true rfl) ?_
  intro κ C hG hR hT
  subst hG
  have C : mj_C κ cX11_wordAt 6 RX11 := C
  show mj_R κ (mj_F κ (fun r M' => r = (some (.inl x0)) ∧ M' = (va_up M β m) ∧ mj_bb (some .int) (some (.inl x0)))) 0 [some (mj_r (β, 0)), some (.inl a1), some (.inl a2), none, none, none] [] (va_up M β m)
  unfold f_X11_wordAt at h
  refine mj_iconst (v := (-1)) C dX11_wordAt_0 (by decide) ?_
  refine mj_istore_n (L2 := [some (mj_r (β, 0)), some (.inl a1), some (.inl a2), some (.inl (-1)), none, none]) C dX11_wordAt_1 (Nat.le_of_ble_eq_true rfl) rfl ?_
  refine mj_iconst (v := 0) C dX11_wordAt_2 (by decide) ?_
  refine mj_istore (L2 := [some (mj_r (β, 0)), some (.inl a1), some (.inl a2), some (.inl (-1)), some (.inl 0), none]) C dX11_wordAt_3 (Nat.le_of_ble_eq_true rfl) rfl ?_
  obtain ⟨t22, x23, hl24, h⟩ := mj_b2_o h
  refine mj_sub (L' := [some (mj_r (β, 0)), some (.inl a1), some (.inl a2), some (.inl (-1)), some (.inl 0), none]) ⟨rfl, ⟨rfl, ⟨rfl, ⟨rfl, ⟨rfl, trivial⟩⟩⟩⟩⟩ ?_
  refine C_X11_wordAt_L5 C hB hR _ _ _ _ _ _ hl24 (fun te => ?_) (fun te => ?_)
  · subst te
    replace h := mj_if_t rfl h
    refine mj_iload_n C dX11_wordAt_85 rfl ?_
    cases h
    exact mj_iret C hT (vp_nar_int _) dX11_wordAt_86 ⟨rfl, rfl, mj_bi _⟩
  · subst te
    replace h := mj_if_f (by decide) h
    refine mj_iconst (v := (-1)) C dX11_wordAt_117 (by decide) ?_
    cases h
    exact mj_iret C hT (vp_nar_int _) dX11_wordAt_118 ⟨rfl, rfl, mj_bi _⟩
def f_X11_reads_L90 : Nat → mj_m → Option (mj_m)
  | 0, _ => none
  | n + 1, m => mj_b1 (f_X11_raw (m 0 10) m) (fun r1 => mj_let (f_X11_isLetter r1) (fun r3 => if r3 = 0 then (some m) else (mj_let (mj_wrs m 0 10 ((m 0 10) + 1)) (fun m6 => f_X11_reads_L90 n m6))))
set_option maxHeartbeats 4000000 in
set_option maxRecDepth 20000 in
theorem C_X11_reads_L90 {κ : mj_K} {Q : State → Prop} {β : Nat} {M : mj_M} (C : mj_C κ cX11_reads 2 RX11) (hB : mj_isM (mj_g κ) β) (hR : mj_dp κ 2) : ∀ (n : Nat) (m : mj_m) (mo : mj_m), f_X11_reads_L90 n m = some mo → (mj_R κ Q 118 [some (mj_r (β, 0)), none] [] (va_up M β mo)) → mj_R κ Q 90 [some (mj_r (β, 0)), none] [] (va_up M β m) := by
  intro n
  induction n with
  | zero =>
    intro m mo h
    cases h
  | succ n ih =>
    intro m mo h hx118
    rw [f_X11_reads_L90] at h
    refine mj_aload_n C dX11_reads_90 rfl ?_
    refine mj_aload_n C dX11_reads_91 rfl ?_
    refine mj_aload_n C dX11_reads_92 rfl ?_
    refine mj_bget C lF_X11_331 (sM0 hB) rfl dX11_reads_93 ?_
    obtain ⟨r1, er1, h⟩ := mj_b1_o h
    refine mj_callV1 (av := [.inl (m 0 10)]) C lM_X11_334 lV_X11_raw (sM0 hB) ⟨_, rfl, rfl⟩ rfl (C_X11_raw hB er1) (mj_rmok hR (by decide) (by decide)) rfl (Nat.le_of_ble_eq_true rfl) dX11_reads_96 (fun hb2 => ?_)
    obtain ⟨r3, er3, h⟩ := mj_let_o h
    refine mj_callV1 (av := [.inl r1]) C lM_X11_343 lV_X11_isLetter (sM0 hB) ⟨_, rfl, rfl⟩ rfl (C_X11_isLetter hB er3) (mj_rmok hR (by decide) (by decide)) rfl (Nat.le_of_ble_eq_true rfl) dX11_reads_99 (fun hb4 => ?_)
    refine mj_if_eq (tgt := 118) C dX11_reads_102 (by decide) (fun c5 => ?_) (fun c5 => ?_)
    · replace h := mj_if_t c5 h
      cases h
      refine mj_sub ?_ (hx118)
      exact ⟨rfl, trivial⟩
    · replace h := mj_if_f c5 h
      refine mj_aload_n C dX11_reads_105 rfl ?_
      refine mj_aload_n C dX11_reads_106 rfl ?_
      refine mj_bget C lF_X11_331 (sM0 hB) rfl dX11_reads_107 ?_
      refine mj_iconst (v := 1) C dX11_reads_110 (by decide) ?_
      refine mj_iadd C dX11_reads_111 ?_
      obtain ⟨m6, hm6, h⟩ := mj_let_o h
      refine mj_bput C lF_X11_331 fP_12_10 (vp_nar_int _) rfl (sM0 hB) rfl dX11_reads_112 hm6 ?_
      refine mj_goto (tgt := 90) C dX11_reads_115 (by decide) ?_
      refine mj_sub (L' := [some (mj_r (β, 0)), none]) ⟨rfl, trivial⟩ ?_
      exact ih _ _ h hx118
def f_X11_reads_L0 : Nat → mj_m → Option (mj_m)
  | 0, _ => none
  | n + 1, m => mj_b1 (f_X11_raw (m 0 10) m) (fun r7 => if r7 = 32 then (mj_let (mj_wrs m 0 10 ((m 0 10) + 1)) (fun m10 => f_X11_reads_L0 n m10)) else (mj_b1 (f_X11_raw (m 0 10) m) (fun r11 => if r11 = 10 then (mj_let (mj_wrs m 0 10 ((m 0 10) + 1)) (fun m14 => f_X11_reads_L0 n m14)) else (some m))))
set_option maxHeartbeats 4000000 in
set_option maxRecDepth 20000 in
theorem C_X11_reads_L0 {κ : mj_K} {Q : State → Prop} {β : Nat} {M : mj_M} (C : mj_C κ cX11_reads 2 RX11) (hB : mj_isM (mj_g κ) β) (hR : mj_dp κ 2) : ∀ (n : Nat) (m : mj_m) (mo : mj_m), f_X11_reads_L0 n m = some mo → (mj_R κ Q 39 [some (mj_r (β, 0)), none] [] (va_up M β mo)) → mj_R κ Q 0 [some (mj_r (β, 0)), none] [] (va_up M β m) := by
  intro n
  induction n with
  | zero =>
    intro m mo h
    cases h
  | succ n ih =>
    intro m mo h hx39
    rw [f_X11_reads_L0] at h
    refine mj_aload_n C dX11_reads_0 rfl ?_
    refine mj_aload_n C dX11_reads_1 rfl ?_
    refine mj_bget C lF_X11_331 (sM0 hB) rfl dX11_reads_2 ?_
    obtain ⟨r7, er7, h⟩ := mj_b1_o h
    refine mj_callV1 (av := [.inl (m 0 10)]) C lM_X11_334 lV_X11_raw (sM0 hB) ⟨_, rfl, rfl⟩ rfl (C_X11_raw hB er7) (mj_rmok hR (by decide) (by decide)) rfl (Nat.le_of_ble_eq_true rfl) dX11_reads_5 (fun hb8 => ?_)
    refine mj_bipush (v := 32) C dX11_reads_8 (by decide) ?_
    refine mj_icmp_eq (tgt := 26) C dX11_reads_10 (by decide) (fun c9 => ?_) (fun c9 => ?_)
    · replace h := mj_if_t c9 h
      refine mj_aload_n C dX11_reads_26 rfl ?_
      refine mj_aload_n C dX11_reads_27 rfl ?_
      refine mj_bget C lF_X11_331 (sM0 hB) rfl dX11_reads_28 ?_
      refine mj_iconst (v := 1) C dX11_reads_31 (by decide) ?_
      refine mj_iadd C dX11_reads_32 ?_
      obtain ⟨m10, hm10, h⟩ := mj_let_o h
      refine mj_bput C lF_X11_331 fP_12_10 (vp_nar_int _) rfl (sM0 hB) rfl dX11_reads_33 hm10 ?_
      refine mj_goto (tgt := 0) C dX11_reads_36 (by decide) ?_
      refine mj_sub (L' := [some (mj_r (β, 0)), none]) ⟨rfl, trivial⟩ ?_
      exact ih _ _ h hx39
    · replace h := mj_if_f c9 h
      refine mj_aload_n C dX11_reads_13 rfl ?_
      refine mj_aload_n C dX11_reads_14 rfl ?_
      refine mj_bget C lF_X11_331 (sM0 hB) rfl dX11_reads_15 ?_
      obtain ⟨r11, er11, h⟩ := mj_b1_o h
      refine mj_callV1 (av := [.inl (m 0 10)]) C lM_X11_334 lV_X11_raw (sM0 hB) ⟨_, rfl, rfl⟩ rfl (C_X11_raw hB er11) (mj_rmok hR (by decide) (by decide)) rfl (Nat.le_of_ble_eq_true rfl) dX11_reads_18 (fun hb12 => ?_)
      refine mj_bipush (v := 10) C dX11_reads_21 (by decide) ?_
      refine mj_icmp_ne (tgt := 39) C dX11_reads_23 (by decide) (fun c13 => ?_) (fun c13 => ?_)
      · replace h := mj_if_f c13 h
        cases h
        refine mj_sub ?_ (hx39)
        exact ⟨rfl, trivial⟩
      · replace h := mj_if_t c13 h
        refine mj_aload_n C dX11_reads_26 rfl ?_
        refine mj_aload_n C dX11_reads_27 rfl ?_
        refine mj_bget C lF_X11_331 (sM0 hB) rfl dX11_reads_28 ?_
        refine mj_iconst (v := 1) C dX11_reads_31 (by decide) ?_
        refine mj_iadd C dX11_reads_32 ?_
        obtain ⟨m14, hm14, h⟩ := mj_let_o h
        refine mj_bput C lF_X11_331 fP_12_10 (vp_nar_int _) rfl (sM0 hB) rfl dX11_reads_33 hm14 ?_
        refine mj_goto (tgt := 0) C dX11_reads_36 (by decide) ?_
        refine mj_sub (L' := [some (mj_r (β, 0)), none]) ⟨rfl, trivial⟩ ?_
        exact ih _ _ h hx39
def f_X11_reads_L166 : Nat → mj_m → Option (mj_m)
  | 0, _ => none
  | n + 1, m => mj_b1 (f_X11_raw (m 0 10) m) (fun r15 => mj_let (f_X11_isDigit r15) (fun r17 => if r17 = 0 then (some m) else (if 10000 ≤ m 0 13 then (mj_let (mj_wrs m 0 13 (m 0 13)) (fun m21 => mj_let (mj_wrs m21 0 10 ((m21 0 10) + 1)) (fun m22 => f_X11_reads_L166 n m22))) else (mj_b1 (f_X11_raw (m 0 10) m) (fun r23 => mj_let (mj_wrs m 0 13 (((10 * (m 0 13)) + r23) - 48)) (fun m25 => mj_let (mj_wrs m25 0 10 ((m25 0 10) + 1)) (fun m26 => f_X11_reads_L166 n m26)))))))
set_option maxHeartbeats 4000000 in
set_option maxRecDepth 20000 in
theorem C_X11_reads_L166 {κ : mj_K} {Q : State → Prop} {β : Nat} {M : mj_M} (C : mj_C κ cX11_reads 2 RX11) (hB : mj_isM (mj_g κ) β) (hR : mj_dp κ 2) : ∀ (n : Nat) (m : mj_m) (mo : mj_m), f_X11_reads_L166 n m = some mo → (mj_R κ Q 234 [some (mj_r (β, 0)), none] [] (va_up M β mo)) → mj_R κ Q 166 [some (mj_r (β, 0)), none] [] (va_up M β m) := by
  intro n
  induction n with
  | zero =>
    intro m mo h
    cases h
  | succ n ih =>
    intro m mo h hx234
    rw [f_X11_reads_L166] at h
    refine mj_aload_n C dX11_reads_166 rfl ?_
    refine mj_aload_n C dX11_reads_167 rfl ?_
    refine mj_aload_n C dX11_reads_168 rfl ?_
    refine mj_bget C lF_X11_331 (sM0 hB) rfl dX11_reads_169 ?_
    obtain ⟨r15, er15, h⟩ := mj_b1_o h
    refine mj_callV1 (av := [.inl (m 0 10)]) C lM_X11_334 lV_X11_raw (sM0 hB) ⟨_, rfl, rfl⟩ rfl (C_X11_raw hB er15) (mj_rmok hR (by decide) (by decide)) rfl (Nat.le_of_ble_eq_true rfl) dX11_reads_172 (fun hb16 => ?_)
    obtain ⟨r17, er17, h⟩ := mj_let_o h
    refine mj_callV1 (av := [.inl r15]) C lM_X11_352 lV_X11_isDigit (sM0 hB) ⟨_, rfl, rfl⟩ rfl (C_X11_isDigit hB er17) (mj_rmok hR (by decide) (by decide)) rfl (Nat.le_of_ble_eq_true rfl) dX11_reads_175 (fun hb18 => ?_)
    refine mj_if_eq (tgt := 234) C dX11_reads_178 (by decide) (fun c19 => ?_) (fun c19 => ?_)
    · replace h := mj_if_t c19 h
      cases h
      refine mj_sub ?_ (hx234)
      exact ⟨rfl, trivial⟩
    · replace h := mj_if_f c19 h
      refine mj_aload_n C dX11_reads_181 rfl ?_
      refine mj_aload_n C dX11_reads_182 rfl ?_
      refine mj_bget C lF_X11_349 (sM0 hB) rfl dX11_reads_183 ?_
      refine mj_sipush (v := 10000) C dX11_reads_186 (by decide) ?_
      refine mj_icmp_ge (tgt := 214) C dX11_reads_189 (by decide) (fun c20 => ?_) (fun c20 => ?_)
      · replace h := mj_if_t c20 h
        refine mj_aload_n C dX11_reads_214 rfl ?_
        refine mj_bget C lF_X11_349 (sM0 hB) rfl dX11_reads_215 ?_
        obtain ⟨m21, hm21, h⟩ := mj_let_o h
        refine mj_bput C lF_X11_349 fP_12_13 (vp_nar_int _) rfl (sM0 hB) rfl dX11_reads_218 hm21 ?_
        refine mj_aload_n C dX11_reads_221 rfl ?_
        refine mj_aload_n C dX11_reads_222 rfl ?_
        refine mj_bget C lF_X11_331 (sM0 hB) rfl dX11_reads_223 ?_
        refine mj_iconst (v := 1) C dX11_reads_226 (by decide) ?_
        refine mj_iadd C dX11_reads_227 ?_
        obtain ⟨m22, hm22, h⟩ := mj_let_o h
        refine mj_bput C lF_X11_331 fP_12_10 (vp_nar_int _) rfl (sM0 hB) rfl dX11_reads_228 hm22 ?_
        refine mj_goto (tgt := 166) C dX11_reads_231 (by decide) ?_
        refine mj_sub (L' := [some (mj_r (β, 0)), none]) ⟨rfl, trivial⟩ ?_
        exact ih _ _ h hx234
      · replace h := mj_if_f c20 h
        refine mj_bipush (v := 10) C dX11_reads_192 (by decide) ?_
        refine mj_aload_n C dX11_reads_194 rfl ?_
        refine mj_bget C lF_X11_349 (sM0 hB) rfl dX11_reads_195 ?_
        refine mj_imul C dX11_reads_198 ?_
        refine mj_aload_n C dX11_reads_199 rfl ?_
        refine mj_aload_n C dX11_reads_200 rfl ?_
        refine mj_bget C lF_X11_331 (sM0 hB) rfl dX11_reads_201 ?_
        obtain ⟨r23, er23, h⟩ := mj_b1_o h
        refine mj_callV1 (av := [.inl (m 0 10)]) C lM_X11_334 lV_X11_raw (sM0 hB) ⟨_, rfl, rfl⟩ rfl (C_X11_raw hB er23) (mj_rmok hR (by decide) (by decide)) rfl (Nat.le_of_ble_eq_true rfl) dX11_reads_204 (fun hb24 => ?_)
        refine mj_iadd C dX11_reads_207 ?_
        refine mj_bipush (v := 48) C dX11_reads_208 (by decide) ?_
        refine mj_isub C dX11_reads_210 ?_
        refine mj_goto (tgt := 218) C dX11_reads_211 (by decide) ?_
        obtain ⟨m25, hm25, h⟩ := mj_let_o h
        refine mj_bput C lF_X11_349 fP_12_13 (vp_nar_int _) rfl (sM0 hB) rfl dX11_reads_218 hm25 ?_
        refine mj_aload_n C dX11_reads_221 rfl ?_
        refine mj_aload_n C dX11_reads_222 rfl ?_
        refine mj_bget C lF_X11_331 (sM0 hB) rfl dX11_reads_223 ?_
        refine mj_iconst (v := 1) C dX11_reads_226 (by decide) ?_
        refine mj_iadd C dX11_reads_227 ?_
        obtain ⟨m26, hm26, h⟩ := mj_let_o h
        refine mj_bput C lF_X11_331 fP_12_10 (vp_nar_int _) rfl (sM0 hB) rfl dX11_reads_228 hm26 ?_
        refine mj_goto (tgt := 166) C dX11_reads_231 (by decide) ?_
        refine mj_sub (L' := [some (mj_r (β, 0)), none]) ⟨rfl, trivial⟩ ?_
        exact ih _ _ h hx234
def f_X11_reads (m : mj_m) : Option (mj_m) := mj_b1 (f_X11_reads_L0 mj_fu m) (fun m27 => mj_let (mj_wrs m27 0 11 (m27 0 10)) (fun m29 => mj_let (mj_wrs m29 0 12 1) (fun m30 => mj_b1 (f_X11_raw (m30 0 10) m30) (fun r31 => if r31 = (-1) then (mj_let (mj_wrs m30 0 12 0) (fun m55 => some m55)) else (mj_let (mj_wrs m30 0 10 ((m30 0 10) + 1)) (fun m34 => mj_let (f_X11_isLetter r31) (fun r35 => if r35 = 0 then (mj_let (f_X11_isDigit r31) (fun r38 => if r38 = 0 then (if r31 = 59 then (mj_let (mj_wrs m34 0 12 4) (fun m42 => some m42)) else (some m34)) else (mj_let (mj_wrs m34 0 13 (r31 - 48)) (fun m43 => mj_b1 (f_X11_reads_L166 mj_fu m43) (fun m44 => if 5 ≤ (m44 0 10) - (m44 0 11) then (some m44) else (mj_let (mj_wrs m44 0 12 3) (fun m47 => some m47))))))) else (mj_b1 (f_X11_reads_L90 mj_fu m34) (fun m48 => mj_b1 (f_X11_wordAt (m48 0 11) (m48 0 10) m48) (fun r50 => mj_let (mj_wrs m48 0 13 r50) (fun m52 => if m52 0 13 = (-1) then (some m52) else (mj_let (mj_wrs m52 0 12 2) (fun m54 => some m54)))))))))))))
set_option maxHeartbeats 4000000 in
set_option maxRecDepth 20000 in
theorem C_X11_reads {G : mj_G} {β : Nat} {M : mj_M} {m : mj_m} {m0 : mj_m} (hB : mj_isM G β) (h : f_X11_reads m = some m0) : mj_S1 yX11_reads cX11_reads 2 none 2 G [mj_r (β, 0)] (va_up M β m) none (va_up M β m0) := by
  refine mj_intro (by decide) (Nat.le_of_ble_eq_true rfl) ?_
  intro κ C hG hR hT
  subst hG
  have C : mj_C κ cX11_reads 2 RX11 := C
  show mj_R κ (mj_F κ (fun r M' => r = none ∧ M' = (va_up M β m0) ∧ mj_bb none none)) 0 [some (mj_r (β, 0)), none] [] (va_up M β m)
  unfold f_X11_reads at h
  obtain ⟨m27, hl28, h⟩ := mj_b1_o h
  refine mj_sub (L' := [some (mj_r (β, 0)), none]) ⟨rfl, trivial⟩ ?_
  refine C_X11_reads_L0 C hB hR _ _ _ hl28 ?_
  refine mj_aload_n C dX11_reads_39 rfl ?_
  refine mj_aload_n C dX11_reads_40 rfl ?_
  refine mj_bget C lF_X11_331 (sM0 hB) rfl dX11_reads_41 ?_
  obtain ⟨m29, hm29, h⟩ := mj_let_o h
  refine mj_bput C lF_X11_337 fP_12_11 (vp_nar_int _) rfl (sM0 hB) rfl dX11_reads_44 hm29 ?_
  refine mj_aload_n C dX11_reads_47 rfl ?_
  refine mj_iconst (v := 1) C dX11_reads_48 (by decide) ?_
  obtain ⟨m30, hm30, h⟩ := mj_let_o h
  refine mj_bput C lF_X11_340 fP_12_12 (vp_nar_int _) rfl (sM0 hB) rfl dX11_reads_49 hm30 ?_
  refine mj_aload_n C dX11_reads_52 rfl ?_
  refine mj_aload_n C dX11_reads_53 rfl ?_
  refine mj_bget C lF_X11_331 (sM0 hB) rfl dX11_reads_54 ?_
  obtain ⟨r31, er31, h⟩ := mj_b1_o h
  refine mj_callV1 (av := [.inl (m30 0 10)]) C lM_X11_334 lV_X11_raw (sM0 hB) ⟨_, rfl, rfl⟩ rfl (C_X11_raw hB er31) (mj_rmok hR (by decide) (by decide)) rfl (Nat.le_of_ble_eq_true rfl) dX11_reads_57 (fun hb32 => ?_)
  refine mj_istore_n (L2 := [some (mj_r (β, 0)), some (.inl r31)]) C dX11_reads_60 (Nat.le_of_ble_eq_true rfl) rfl ?_
  refine mj_iload_n C dX11_reads_61 rfl ?_
  refine mj_iconst (v := (-1)) C dX11_reads_62 (by decide) ?_
  refine mj_icmp_ne (tgt := 72) C dX11_reads_63 (by decide) (fun c33 => ?_) (fun c33 => ?_)
  · replace h := mj_if_f c33 h
    refine mj_aload_n C dX11_reads_72 rfl ?_
    refine mj_aload_n C dX11_reads_73 rfl ?_
    refine mj_bget C lF_X11_331 (sM0 hB) rfl dX11_reads_74 ?_
    refine mj_iconst (v := 1) C dX11_reads_77 (by decide) ?_
    refine mj_iadd C dX11_reads_78 ?_
    obtain ⟨m34, hm34, h⟩ := mj_let_o h
    refine mj_bput C lF_X11_331 fP_12_10 (vp_nar_int _) rfl (sM0 hB) rfl dX11_reads_79 hm34 ?_
    refine mj_aload_n C dX11_reads_82 rfl ?_
    refine mj_iload_n C dX11_reads_83 rfl ?_
    obtain ⟨r35, er35, h⟩ := mj_let_o h
    refine mj_callV1 (av := [.inl r31]) C lM_X11_343 lV_X11_isLetter (sM0 hB) ⟨_, rfl, rfl⟩ rfl (C_X11_isLetter hB er35) (mj_rmok hR (by decide) (by decide)) rfl (Nat.le_of_ble_eq_true rfl) dX11_reads_84 (fun hb36 => ?_)
    refine mj_if_eq (tgt := 150) C dX11_reads_87 (by decide) (fun c37 => ?_) (fun c37 => ?_)
    · replace h := mj_if_t c37 h
      refine mj_aload_n C dX11_reads_150 rfl ?_
      refine mj_iload_n C dX11_reads_151 rfl ?_
      obtain ⟨r38, er38, h⟩ := mj_let_o h
      refine mj_callV1 (av := [.inl r31]) C lM_X11_352 lV_X11_isDigit (sM0 hB) ⟨_, rfl, rfl⟩ rfl (C_X11_isDigit hB er38) (mj_rmok hR (by decide) (by decide)) rfl (Nat.le_of_ble_eq_true rfl) dX11_reads_152 (fun hb39 => ?_)
      refine mj_if_eq (tgt := 255) C dX11_reads_155 (by decide) (fun c40 => ?_) (fun c40 => ?_)
      · replace h := mj_if_t c40 h
        refine mj_iload_n C dX11_reads_255 rfl ?_
        refine mj_bipush (v := 59) C dX11_reads_256 (by decide) ?_
        refine mj_icmp_ne (tgt := 266) C dX11_reads_258 (by decide) (fun c41 => ?_) (fun c41 => ?_)
        · replace h := mj_if_f c41 h
          cases h
          exact mj_vret C hT dX11_reads_266 ⟨rfl, rfl, mj_bv _⟩
        · replace h := mj_if_t c41 h
          refine mj_aload_n C dX11_reads_261 rfl ?_
          refine mj_iconst (v := 4) C dX11_reads_262 (by decide) ?_
          obtain ⟨m42, hm42, h⟩ := mj_let_o h
          refine mj_bput C lF_X11_340 fP_12_12 (vp_nar_int _) rfl (sM0 hB) rfl dX11_reads_263 hm42 ?_
          cases h
          exact mj_vret C hT dX11_reads_266 ⟨rfl, rfl, mj_bv _⟩
      · replace h := mj_if_f c40 h
        refine mj_aload_n C dX11_reads_158 rfl ?_
        refine mj_iload_n C dX11_reads_159 rfl ?_
        refine mj_bipush (v := 48) C dX11_reads_160 (by decide) ?_
        refine mj_isub C dX11_reads_162 ?_
        obtain ⟨m43, hm43, h⟩ := mj_let_o h
        refine mj_bput C lF_X11_349 fP_12_13 (vp_nar_int _) rfl (sM0 hB) rfl dX11_reads_163 hm43 ?_
        obtain ⟨m44, hl45, h⟩ := mj_b1_o h
        refine mj_sub (L' := [some (mj_r (β, 0)), none]) ⟨rfl, trivial⟩ ?_
        refine C_X11_reads_L166 C hB hR _ _ _ hl45 ?_
        refine mj_aload_n C dX11_reads_234 rfl ?_
        refine mj_bget C lF_X11_331 (sM0 hB) rfl dX11_reads_235 ?_
        refine mj_aload_n C dX11_reads_238 rfl ?_
        refine mj_bget C lF_X11_337 (sM0 hB) rfl dX11_reads_239 ?_
        refine mj_isub C dX11_reads_242 ?_
        refine mj_iconst (v := 5) C dX11_reads_243 (by decide) ?_
        refine mj_icmp_ge (tgt := 266) C dX11_reads_244 (by decide) (fun c46 => ?_) (fun c46 => ?_)
        · replace h := mj_if_t c46 h
          cases h
          exact mj_vret C hT dX11_reads_266 ⟨rfl, rfl, mj_bv _⟩
        · replace h := mj_if_f c46 h
          refine mj_aload_n C dX11_reads_247 rfl ?_
          refine mj_iconst (v := 3) C dX11_reads_248 (by decide) ?_
          obtain ⟨m47, hm47, h⟩ := mj_let_o h
          refine mj_bput C lF_X11_340 fP_12_12 (vp_nar_int _) rfl (sM0 hB) rfl dX11_reads_249 hm47 ?_
          refine mj_goto (tgt := 266) C dX11_reads_252 (by decide) ?_
          cases h
          exact mj_vret C hT dX11_reads_266 ⟨rfl, rfl, mj_bv _⟩
    · replace h := mj_if_f c37 h
      obtain ⟨m48, hl49, h⟩ := mj_b1_o h
      refine mj_sub (L' := [some (mj_r (β, 0)), none]) ⟨rfl, trivial⟩ ?_
      refine C_X11_reads_L90 C hB hR _ _ _ hl49 ?_
      refine mj_aload_n C dX11_reads_118 rfl ?_
      refine mj_aload_n C dX11_reads_119 rfl ?_
      refine mj_aload_n C dX11_reads_120 rfl ?_
      refine mj_bget C lF_X11_337 (sM0 hB) rfl dX11_reads_121 ?_
      refine mj_aload_n C dX11_reads_124 rfl ?_
      refine mj_bget C lF_X11_331 (sM0 hB) rfl dX11_reads_125 ?_
      obtain ⟨r50, er50, h⟩ := mj_b1_o h
      refine mj_callV1 (av := [.inl (m48 0 11), .inl (m48 0 10)]) C lM_X11_346 lV_X11_wordAt (sM0 hB) ⟨_, rfl, rfl⟩ rfl (C_X11_wordAt hB er50) (mj_rmok hR (by decide) (by decide)) rfl (Nat.le_of_ble_eq_true rfl) dX11_reads_128 (fun hb51 => ?_)
      obtain ⟨m52, hm52, h⟩ := mj_let_o h
      refine mj_bput C lF_X11_349 fP_12_13 (vp_nar_int _) rfl (sM0 hB) rfl dX11_reads_131 hm52 ?_
      refine mj_aload_n C dX11_reads_134 rfl ?_
      refine mj_bget C lF_X11_349 (sM0 hB) rfl dX11_reads_135 ?_
      refine mj_iconst (v := (-1)) C dX11_reads_138 (by decide) ?_
      refine mj_icmp_eq (tgt := 266) C dX11_reads_139 (by decide) (fun c53 => ?_) (fun c53 => ?_)
      · replace h := mj_if_t c53 h
        cases h
        exact mj_vret C hT dX11_reads_266 ⟨rfl, rfl, mj_bv _⟩
      · replace h := mj_if_f c53 h
        refine mj_aload_n C dX11_reads_142 rfl ?_
        refine mj_iconst (v := 2) C dX11_reads_143 (by decide) ?_
        obtain ⟨m54, hm54, h⟩ := mj_let_o h
        refine mj_bput C lF_X11_340 fP_12_12 (vp_nar_int _) rfl (sM0 hB) rfl dX11_reads_144 hm54 ?_
        refine mj_goto (tgt := 266) C dX11_reads_147 (by decide) ?_
        cases h
        exact mj_vret C hT dX11_reads_266 ⟨rfl, rfl, mj_bv _⟩
  · replace h := mj_if_t c33 h
    refine mj_aload_n C dX11_reads_66 rfl ?_
    refine mj_iconst (v := 0) C dX11_reads_67 (by decide) ?_
    obtain ⟨m55, hm55, h⟩ := mj_let_o h
    refine mj_bput C lF_X11_340 fP_12_12 (vp_nar_int _) rfl (sM0 hB) rfl dX11_reads_68 hm55 ?_
    cases h
    exact mj_vret C hT dX11_reads_71 ⟨rfl, rfl, mj_bv _⟩
def f_X11_errs (a1 : Int32) (m : mj_m) : Int32 × mj_m := mj_let (mj_wrs m 0 15 a1) (fun m1 => mj_let (mj_wrs m1 0 16 (m1 0 11)) (fun m2 => ((-1), m2)))
set_option maxHeartbeats 4000000 in
set_option maxRecDepth 20000 in
theorem C_X11_errs {G : mj_G} {β : Nat} {M : mj_M} {a1 : Int32} {m : mj_m} {x0 : Int32} {m0 : mj_m} (hB : mj_isM G β) (h : f_X11_errs a1 m = (x0, m0)) : mj_S1 yX11_errs cX11_errs 2 (some .int) 0 G [mj_r (β, 0), .inl a1] (va_up M β m) (some (.inl x0)) (va_up M β m0) := by
  refine mj_intro (by decide) (Nat.le_of_ble_eq_true rfl) ?_
  intro κ C hG hR hT
  subst hG
  have C : mj_C κ cX11_errs 2 RX11 := C
  show mj_R κ (mj_F κ (fun r M' => r = (some (.inl x0)) ∧ M' = (va_up M β m0) ∧ mj_bb (some .int) (some (.inl x0)))) 0 [some (mj_r (β, 0)), some (.inl a1)] [] (va_up M β m)
  unfold f_X11_errs at h
  refine mj_aload_n C dX11_errs_0 rfl ?_
  refine mj_iload_n C dX11_errs_1 rfl ?_
  obtain ⟨m1, hm1, h⟩ := mj_let_o h
  refine mj_bput C lF_X11_355 fP_12_15 (vp_nar_int _) rfl (sM0 hB) rfl dX11_errs_2 hm1 ?_
  refine mj_aload_n C dX11_errs_5 rfl ?_
  refine mj_aload_n C dX11_errs_6 rfl ?_
  refine mj_bget C lF_X11_337 (sM0 hB) rfl dX11_errs_7 ?_
  obtain ⟨m2, hm2, h⟩ := mj_let_o h
  refine mj_bput C lF_X11_358 fP_12_16 (vp_nar_int _) rfl (sM0 hB) rfl dX11_errs_10 hm2 ?_
  refine mj_iconst (v := (-1)) C dX11_errs_13 (by decide) ?_
  cases h
  exact mj_iret C hT (vp_nar_int _) dX11_errs_14 ⟨rfl, rfl, mj_bi _⟩
def f_X11_lowOf (a1 : Int32) : Int32 := if a1 = 4 then (1) else (if a1 = 5 then (1) else (0))
set_option maxHeartbeats 4000000 in
set_option maxRecDepth 20000 in
theorem C_X11_lowOf {G : mj_G} {β : Nat} {M : mj_M} {a1 : Int32} {m : mj_m} {x0 : Int32} (hB : mj_isM G β) (h : f_X11_lowOf a1 = x0) : mj_S1 yX11_lowOf cX11_lowOf 2 (some .int) 0 G [mj_r (β, 0), .inl a1] (va_up M β m) (some (.inl x0)) (va_up M β m) := by
  refine mj_intro (by decide) (Nat.le_of_ble_eq_true rfl) ?_
  intro κ C hG hR hT
  subst hG
  have C : mj_C κ cX11_lowOf 2 RX11 := C
  show mj_R κ (mj_F κ (fun r M' => r = (some (.inl x0)) ∧ M' = (va_up M β m) ∧ mj_bb (some .int) (some (.inl x0)))) 0 [some (mj_r (β, 0)), some (.inl a1)] [] (va_up M β m)
  unfold f_X11_lowOf at h
  refine mj_iload_n C dX11_lowOf_0 rfl ?_
  refine mj_iconst (v := 4) C dX11_lowOf_1 (by decide) ?_
  refine mj_icmp_eq (tgt := 10) C dX11_lowOf_2 (by decide) (fun c1 => ?_) (fun c1 => ?_)
  · replace h := mj_if_t c1 h
    refine mj_iconst (v := 1) C dX11_lowOf_10 (by decide) ?_
    refine mj_goto (tgt := 15) C dX11_lowOf_11 (by decide) ?_
    cases h
    exact mj_iret C hT (vp_nar_int _) dX11_lowOf_15 ⟨rfl, rfl, mj_bi _⟩
  · replace h := mj_if_f c1 h
    refine mj_iload_n C dX11_lowOf_5 rfl ?_
    refine mj_iconst (v := 5) C dX11_lowOf_6 (by decide) ?_
    refine mj_icmp_ne (tgt := 14) C dX11_lowOf_7 (by decide) (fun c2 => ?_) (fun c2 => ?_)
    · replace h := mj_if_f c2 h
      refine mj_iconst (v := 0) C dX11_lowOf_14 (by decide) ?_
      cases h
      exact mj_iret C hT (vp_nar_int _) dX11_lowOf_15 ⟨rfl, rfl, mj_bi _⟩
    · replace h := mj_if_t c2 h
      refine mj_iconst (v := 1) C dX11_lowOf_10 (by decide) ?_
      refine mj_goto (tgt := 15) C dX11_lowOf_11 (by decide) ?_
      cases h
      exact mj_iret C hT (vp_nar_int _) dX11_lowOf_15 ⟨rfl, rfl, mj_bi _⟩
def f_X11_highOf (a1 : Int32) : Int32 := if 1 < a1 then (if 3 < a1 then (60) else (255)) else (9999)
set_option maxHeartbeats 4000000 in
set_option maxRecDepth 20000 in
theorem C_X11_highOf {G : mj_G} {β : Nat} {M : mj_M} {a1 : Int32} {m : mj_m} {x0 : Int32} (hB : mj_isM G β) (h : f_X11_highOf a1 = x0) : mj_S1 yX11_highOf cX11_highOf 2 (some .int) 0 G [mj_r (β, 0), .inl a1] (va_up M β m) (some (.inl x0)) (va_up M β m) := by
  refine mj_intro (by decide) (Nat.le_of_ble_eq_true rfl) ?_
  intro κ C hG hR hT
  subst hG
  have C : mj_C κ cX11_highOf 2 RX11 := C
  show mj_R κ (mj_F κ (fun r M' => r = (some (.inl x0)) ∧ M' = (va_up M β m) ∧ mj_bb (some .int) (some (.inl x0)))) 0 [some (mj_r (β, 0)), some (.inl a1)] [] (va_up M β m)
  unfold f_X11_highOf at h
  refine mj_iload_n C dX11_highOf_0 rfl ?_
  refine mj_iconst (v := 1) C dX11_highOf_1 (by decide) ?_
  refine mj_icmp_gt (tgt := 11) C dX11_highOf_2 (by decide) (fun c1 => ?_) (fun c1 => ?_)
  · replace h := mj_if_t c1 h
    refine mj_iload_n C dX11_highOf_11 rfl ?_
    refine mj_iconst (v := 3) C dX11_highOf_12 (by decide) ?_
    refine mj_icmp_gt (tgt := 22) C dX11_highOf_13 (by decide) (fun c2 => ?_) (fun c2 => ?_)
    · replace h := mj_if_t c2 h
      refine mj_bipush (v := 60) C dX11_highOf_22 (by decide) ?_
      cases h
      exact mj_iret C hT (vp_nar_int _) dX11_highOf_24 ⟨rfl, rfl, mj_bi _⟩
    · replace h := mj_if_f c2 h
      refine mj_sipush (v := 255) C dX11_highOf_16 (by decide) ?_
      refine mj_goto (tgt := 24) C dX11_highOf_19 (by decide) ?_
      cases h
      exact mj_iret C hT (vp_nar_int _) dX11_highOf_24 ⟨rfl, rfl, mj_bi _⟩
  · replace h := mj_if_f c1 h
    refine mj_sipush (v := 9999) C dX11_highOf_5 (by decide) ?_
    refine mj_goto (tgt := 24) C dX11_highOf_8 (by decide) ?_
    cases h
    exact mj_iret C hT (vp_nar_int _) dX11_highOf_24 ⟨rfl, rfl, mj_bi _⟩
def f_X11_readLine_J114 (m : mj_m) : Option (Int32 × mj_m) := if m 0 12 = 4 then (mj_b1 (f_X11_reads m) (fun m2 => some (0, m2))) else (mj_p2 (f_X11_errs 1 m) (fun r4 m5 => some (r4, m5)))
set_option maxHeartbeats 4000000 in
set_option maxRecDepth 20000 in
theorem C_X11_readLine_J114 {κ : mj_K} {β : Nat} {M : mj_M} {m : mj_m} {x0 : Int32} {m0 : mj_m} (C : mj_C κ cX11_readLine 3 RX11) (hB : mj_isM (mj_g κ) β) (hR : mj_dp κ 3) (hT : mj_rt κ = (some .int)) (h : f_X11_readLine_J114 m = some (x0, m0)) : mj_R κ (mj_F κ (fun r M' => r = (some (.inl x0)) ∧ M' = (va_up M β m0) ∧ mj_bb (some .int) (some (.inl x0)))) 114 [some (mj_r (β, 0)), none, none] [] (va_up M β m) := by
  unfold f_X11_readLine_J114 at h
  refine mj_aload_n C dX11_readLine_114 rfl ?_
  refine mj_bget C lF_X11_340 (sM0 hB) rfl dX11_readLine_115 ?_
  refine mj_iconst (v := 4) C dX11_readLine_118 (by decide) ?_
  refine mj_icmp_eq (tgt := 128) C dX11_readLine_119 (by decide) (fun c1 => ?_) (fun c1 => ?_)
  · replace h := mj_if_t c1 h
    refine mj_aload_n C dX11_readLine_128 rfl ?_
    obtain ⟨m2, em2, h⟩ := mj_b1_o h
    refine mj_callV0 (av := []) C lM_X11_364 lV_X11_reads (sM0 hB) ⟨_, rfl, rfl⟩ rfl (C_X11_reads hB em2) (mj_rmok hR (by decide) (by decide)) rfl (Nat.le_of_ble_eq_true rfl) dX11_readLine_129 ?_
    refine mj_iconst (v := 0) C dX11_readLine_132 (by decide) ?_
    cases h
    exact mj_iret C hT (vp_nar_int _) dX11_readLine_133 ⟨rfl, rfl, mj_bi _⟩
  · replace h := mj_if_f c1 h
    refine mj_aload_n C dX11_readLine_122 rfl ?_
    refine mj_iconst (v := 1) C dX11_readLine_123 (by decide) ?_
    obtain ⟨r4, m5, em5, h⟩ := mj_p2_o h
    refine mj_callV1 (av := [.inl 1]) C lM_X11_361 lV_X11_errs (sM0 hB) ⟨_, rfl, rfl⟩ rfl (C_X11_errs hB em5) (mj_rmok hR (by decide) (by decide)) rfl (Nat.le_of_ble_eq_true rfl) dX11_readLine_124 (fun hb6 => ?_)
    cases h
    exact mj_iret C hT (vp_nar_int _) dX11_readLine_127 ⟨rfl, rfl, mj_bi _⟩
def f_X11_readLine (a1 : Int32) (m : mj_m) : Option (Int32 × mj_m) := if m 0 12 = 2 then (if a1 = 24 then (mj_p2 (f_X11_errs 3 m) (fun r33 m34 => some (r33, m34))) else (mj_let (m 0 13) (fun x9 => mj_chk (mj_ok (48 + (2 * a1)) 96) (mj_let (mj_wrs m 8 (mj_cl (48 + (2 * a1))) x9) (fun m11 => mj_b1 (f_X11_reads m11) (fun m12 => if 5 < x9 then (f_X11_readLine_J114 m12) else (if m12 0 12 = 3 then (mj_let (f_X11_lowOf x9) (fun r16 => mj_let (f_X11_highOf x9) (fun r18 => mj_let (f_X11_isIn (m12 0 13) r16 r18) (fun r20 => if r20 = 0 then (mj_p2 (f_X11_errs 2 m12) (fun r27 m28 => some (r27, m28))) else (mj_chk (mj_ok ((48 + (2 * a1)) + 1) 96) (mj_let (mj_wrs m12 8 (mj_cl ((48 + (2 * a1)) + 1)) (m12 0 13)) (fun m24 => mj_b1 (f_X11_reads m24) (fun m25 => f_X11_readLine_J114 m25)))))))) else (mj_p2 (f_X11_errs 1 m12) (fun r30 m31 => some (r30, m31)))))))))) else (mj_p2 (f_X11_errs 1 m) (fun r36 m37 => some (r36, m37)))
set_option maxHeartbeats 4000000 in
set_option maxRecDepth 20000 in
theorem C_X11_readLine {G : mj_G} {β : Nat} {M : mj_M} {a1 : Int32} {m : mj_m} {x0 : Int32} {m0 : mj_m} (hB : mj_isM G β) (h : f_X11_readLine a1 m = some (x0, m0)) : mj_S1 yX11_readLine cX11_readLine 3 (some .int) 3 G [mj_r (β, 0), .inl a1] (va_up M β m) (some (.inl x0)) (va_up M β m0) := by
  refine mj_intro (by decide) (Nat.le_of_ble_eq_true rfl) ?_
  intro κ C hG hR hT
  subst hG
  have C : mj_C κ cX11_readLine 3 RX11 := C
  show mj_R κ (mj_F κ (fun r M' => r = (some (.inl x0)) ∧ M' = (va_up M β m0) ∧ mj_bb (some .int) (some (.inl x0)))) 0 [some (mj_r (β, 0)), some (.inl a1), none] [] (va_up M β m)
  unfold f_X11_readLine at h
  refine mj_aload_n C dX11_readLine_0 rfl ?_
  refine mj_bget C lF_X11_340 (sM0 hB) rfl dX11_readLine_1 ?_
  refine mj_iconst (v := 2) C dX11_readLine_4 (by decide) ?_
  refine mj_icmp_eq (tgt := 14) C dX11_readLine_5 (by decide) (fun c7 => ?_) (fun c7 => ?_)
  · replace h := mj_if_t c7 h
    refine mj_iload_n C dX11_readLine_14 rfl ?_
    refine mj_bipush (v := 24) C dX11_readLine_15 (by decide) ?_
    refine mj_icmp_ne (tgt := 26) C dX11_readLine_17 (by decide) (fun c8 => ?_) (fun c8 => ?_)
    · replace h := mj_if_f c8 h
      refine mj_aload_n C dX11_readLine_26 rfl ?_
      refine mj_bget C lF_X11_349 (sM0 hB) rfl dX11_readLine_27 ?_
      obtain ⟨x9, hx9, h⟩ := mj_let_o h
      refine mj_nm hx9 ?_
      refine mj_istore_n (L2 := [some (mj_r (β, 0)), some (.inl a1), some (.inl x9)]) C dX11_readLine_30 (Nat.le_of_ble_eq_true rfl) rfl ?_
      refine mj_aload_n C dX11_readLine_31 rfl ?_
      refine mj_getr (r := (β, 8)) C lF_X11_35 (sM0 hB) rfl dX11_readLine_32 ?_
      refine mj_bipush (v := 48) C dX11_readLine_35 (by decide) ?_
      refine mj_iconst (v := 2) C dX11_readLine_37 (by decide) ?_
      refine mj_iload_n C dX11_readLine_38 rfl ?_
      refine mj_imul C dX11_readLine_39 ?_
      refine mj_iadd C dX11_readLine_40 ?_
      refine mj_iload_n C dX11_readLine_41 rfl ?_
      obtain ⟨k10, h⟩ := mj_chk_o h
      obtain ⟨m11, hm11, h⟩ := mj_let_o h
      refine mj_bast C (sM8 hB) k10 rfl dX11_readLine_42 hm11 ?_
      refine mj_aload_n C dX11_readLine_43 rfl ?_
      obtain ⟨m12, em12, h⟩ := mj_b1_o h
      refine mj_callV0 (av := []) C lM_X11_364 lV_X11_reads (sM0 hB) ⟨_, rfl, rfl⟩ rfl (C_X11_reads hB em12) (mj_rmok hR (by decide) (by decide)) rfl (Nat.le_of_ble_eq_true rfl) dX11_readLine_44 ?_
      refine mj_iload_n C dX11_readLine_47 rfl ?_
      refine mj_iconst (v := 5) C dX11_readLine_48 (by decide) ?_
      refine mj_icmp_gt (tgt := 114) C dX11_readLine_49 (by decide) (fun c14 => ?_) (fun c14 => ?_)
      · replace h := mj_if_t c14 h
        refine mj_sub (L' := [some (mj_r (β, 0)), none, none]) ⟨rfl, trivial⟩ ?_
        exact C_X11_readLine_J114 C hB hR hT h
      · replace h := mj_if_f c14 h
        refine mj_aload_n C dX11_readLine_52 rfl ?_
        refine mj_bget C lF_X11_340 (sM0 hB) rfl dX11_readLine_53 ?_
        refine mj_iconst (v := 3) C dX11_readLine_56 (by decide) ?_
        refine mj_icmp_eq (tgt := 66) C dX11_readLine_57 (by decide) (fun c15 => ?_) (fun c15 => ?_)
        · replace h := mj_if_t c15 h
          refine mj_aload_n C dX11_readLine_66 rfl ?_
          refine mj_aload_n C dX11_readLine_67 rfl ?_
          refine mj_bget C lF_X11_349 (sM0 hB) rfl dX11_readLine_68 ?_
          refine mj_aload_n C dX11_readLine_71 rfl ?_
          refine mj_iload_n C dX11_readLine_72 rfl ?_
          obtain ⟨r16, er16, h⟩ := mj_let_o h
          refine mj_callV1 (av := [.inl x9]) C lM_X11_367 lV_X11_lowOf (sM0 hB) ⟨_, rfl, rfl⟩ rfl (C_X11_lowOf hB er16) (mj_rmok hR (by decide) (by decide)) rfl (Nat.le_of_ble_eq_true rfl) dX11_readLine_73 (fun hb17 => ?_)
          refine mj_aload_n C dX11_readLine_76 rfl ?_
          refine mj_iload_n C dX11_readLine_77 rfl ?_
          obtain ⟨r18, er18, h⟩ := mj_let_o h
          refine mj_callV1 (av := [.inl x9]) C lM_X11_370 lV_X11_highOf (sM0 hB) ⟨_, rfl, rfl⟩ rfl (C_X11_highOf hB er18) (mj_rmok hR (by decide) (by decide)) rfl (Nat.le_of_ble_eq_true rfl) dX11_readLine_78 (fun hb19 => ?_)
          obtain ⟨r20, er20, h⟩ := mj_let_o h
          refine mj_callV1 (av := [.inl (m12 0 13), .inl r16, .inl r18]) C lM_X11_48 lV_X11_isIn (sM0 hB) ⟨_, rfl, rfl⟩ rfl (C_X11_isIn hB er20) (mj_rmok hR (by decide) (by decide)) rfl (Nat.le_of_ble_eq_true rfl) dX11_readLine_81 (fun hb21 => ?_)
          refine mj_if_ne (tgt := 93) C dX11_readLine_84 (by decide) (fun c22 => ?_) (fun c22 => ?_)
          · replace h := mj_if_f c22 h
            refine mj_aload_n C dX11_readLine_93 rfl ?_
            refine mj_getr (r := (β, 8)) C lF_X11_35 (sM0 hB) rfl dX11_readLine_94 ?_
            refine mj_bipush (v := 48) C dX11_readLine_97 (by decide) ?_
            refine mj_iconst (v := 2) C dX11_readLine_99 (by decide) ?_
            refine mj_iload_n C dX11_readLine_100 rfl ?_
            refine mj_imul C dX11_readLine_101 ?_
            refine mj_iadd C dX11_readLine_102 ?_
            refine mj_iconst (v := 1) C dX11_readLine_103 (by decide) ?_
            refine mj_iadd C dX11_readLine_104 ?_
            refine mj_aload_n C dX11_readLine_105 rfl ?_
            refine mj_bget C lF_X11_349 (sM0 hB) rfl dX11_readLine_106 ?_
            obtain ⟨k23, h⟩ := mj_chk_o h
            obtain ⟨m24, hm24, h⟩ := mj_let_o h
            refine mj_bast C (sM8 hB) k23 rfl dX11_readLine_109 hm24 ?_
            refine mj_aload_n C dX11_readLine_110 rfl ?_
            obtain ⟨m25, em25, h⟩ := mj_b1_o h
            refine mj_callV0 (av := []) C lM_X11_364 lV_X11_reads (sM0 hB) ⟨_, rfl, rfl⟩ rfl (C_X11_reads hB em25) (mj_rmok hR (by decide) (by decide)) rfl (Nat.le_of_ble_eq_true rfl) dX11_readLine_111 ?_
            refine mj_sub (L' := [some (mj_r (β, 0)), none, none]) ⟨rfl, trivial⟩ ?_
            exact C_X11_readLine_J114 C hB hR hT h
          · replace h := mj_if_t c22 h
            refine mj_aload_n C dX11_readLine_87 rfl ?_
            refine mj_iconst (v := 2) C dX11_readLine_88 (by decide) ?_
            obtain ⟨r27, m28, em28, h⟩ := mj_p2_o h
            refine mj_callV1 (av := [.inl 2]) C lM_X11_361 lV_X11_errs (sM0 hB) ⟨_, rfl, rfl⟩ rfl (C_X11_errs hB em28) (mj_rmok hR (by decide) (by decide)) rfl (Nat.le_of_ble_eq_true rfl) dX11_readLine_89 (fun hb29 => ?_)
            cases h
            exact mj_iret C hT (vp_nar_int _) dX11_readLine_92 ⟨rfl, rfl, mj_bi _⟩
        · replace h := mj_if_f c15 h
          refine mj_aload_n C dX11_readLine_60 rfl ?_
          refine mj_iconst (v := 1) C dX11_readLine_61 (by decide) ?_
          obtain ⟨r30, m31, em31, h⟩ := mj_p2_o h
          refine mj_callV1 (av := [.inl 1]) C lM_X11_361 lV_X11_errs (sM0 hB) ⟨_, rfl, rfl⟩ rfl (C_X11_errs hB em31) (mj_rmok hR (by decide) (by decide)) rfl (Nat.le_of_ble_eq_true rfl) dX11_readLine_62 (fun hb32 => ?_)
          cases h
          exact mj_iret C hT (vp_nar_int _) dX11_readLine_65 ⟨rfl, rfl, mj_bi _⟩
    · replace h := mj_if_t c8 h
      refine mj_aload_n C dX11_readLine_20 rfl ?_
      refine mj_iconst (v := 3) C dX11_readLine_21 (by decide) ?_
      obtain ⟨r33, m34, em34, h⟩ := mj_p2_o h
      refine mj_callV1 (av := [.inl 3]) C lM_X11_361 lV_X11_errs (sM0 hB) ⟨_, rfl, rfl⟩ rfl (C_X11_errs hB em34) (mj_rmok hR (by decide) (by decide)) rfl (Nat.le_of_ble_eq_true rfl) dX11_readLine_22 (fun hb35 => ?_)
      cases h
      exact mj_iret C hT (vp_nar_int _) dX11_readLine_25 ⟨rfl, rfl, mj_bi _⟩
  · replace h := mj_if_f c7 h
    refine mj_aload_n C dX11_readLine_8 rfl ?_
    refine mj_iconst (v := 1) C dX11_readLine_9 (by decide) ?_
    obtain ⟨r36, m37, em37, h⟩ := mj_p2_o h
    refine mj_callV1 (av := [.inl 1]) C lM_X11_361 lV_X11_errs (sM0 hB) ⟨_, rfl, rfl⟩ rfl (C_X11_errs hB em37) (mj_rmok hR (by decide) (by decide)) rfl (Nat.le_of_ble_eq_true rfl) dX11_readLine_10 (fun hb38 => ?_)
    cases h
    exact mj_iret C hT (vp_nar_int _) dX11_readLine_13 ⟨rfl, rfl, mj_bi _⟩
def f_X11_readPlan_L11 : Nat → Int32 → mj_m → Option (Nat × Int32 × mj_m)
  | 0, _, _ => none
  | n + 1, l1, m => if m 0 12 = 0 then (some (36, l1, m)) else (mj_b2 (f_X11_readLine l1 m) (fun r2 m3 => if r2 = (-1) then (some (27, 0, m3)) else (mj_let (l1 + 1) (fun x6 => f_X11_readPlan_L11 n x6 m3))))
set_option maxHeartbeats 4000000 in
set_option maxRecDepth 20000 in
theorem C_X11_readPlan_L11 {κ : mj_K} {Q : State → Prop} {β : Nat} {M : mj_M} (C : mj_C κ cX11_readPlan 2 RX11) (hB : mj_isM (mj_g κ) β) (hR : mj_dp κ 4) : ∀ (n : Nat) (l1 : Int32) (m : mj_m) (tg : Nat) (o1 : Int32) (mo : mj_m), f_X11_readPlan_L11 n l1 m = some (tg, o1, mo) → (tg = 27 → mj_R κ Q 27 [none, none] [] (va_up M β mo)) → (tg = 36 → mj_R κ Q 36 [none, some (.inl o1)] [] (va_up M β mo)) → mj_R κ Q 11 [some (mj_r (β, 0)), some (.inl l1)] [] (va_up M β m) := by
  intro n
  induction n with
  | zero =>
    intro l1 m tg o1 mo h
    cases h
  | succ n ih =>
    intro l1 m tg o1 mo h hx27 hx36
    rw [f_X11_readPlan_L11] at h
    refine mj_aload_n C dX11_readPlan_11 rfl ?_
    refine mj_bget C lF_X11_340 (sM0 hB) rfl dX11_readPlan_12 ?_
    refine mj_if_eq (tgt := 36) C dX11_readPlan_15 (by decide) (fun c1 => ?_) (fun c1 => ?_)
    · replace h := mj_if_t c1 h
      cases h
      refine mj_sub ?_ (hx36 rfl)
      exact ⟨rfl, trivial⟩
    · replace h := mj_if_f c1 h
      refine mj_aload_n C dX11_readPlan_18 rfl ?_
      refine mj_iload_n C dX11_readPlan_19 rfl ?_
      obtain ⟨r2, m3, em3, h⟩ := mj_b2_o h
      refine mj_callV1 (av := [.inl l1]) C lM_X11_373 lV_X11_readLine (sM0 hB) ⟨_, rfl, rfl⟩ rfl (C_X11_readLine hB em3) (mj_rmok hR (by decide) (by decide)) rfl (Nat.le_of_ble_eq_true rfl) dX11_readPlan_20 (fun hb4 => ?_)
      refine mj_iconst (v := (-1)) C dX11_readPlan_23 (by decide) ?_
      refine mj_icmp_ne (tgt := 29) C dX11_readPlan_24 (by decide) (fun c5 => ?_) (fun c5 => ?_)
      · replace h := mj_if_f c5 h
        refine mj_iload_n C dX11_readPlan_29 rfl ?_
        refine mj_iconst (v := 1) C dX11_readPlan_30 (by decide) ?_
        refine mj_iadd C dX11_readPlan_31 ?_
        obtain ⟨x6, hx6, h⟩ := mj_let_o h
        refine mj_nm hx6 ?_
        refine mj_istore_n (L2 := [some (mj_r (β, 0)), some (.inl x6)]) C dX11_readPlan_32 (Nat.le_of_ble_eq_true rfl) rfl ?_
        refine mj_goto (tgt := 11) C dX11_readPlan_33 (by decide) ?_
        refine mj_sub (L' := [some (mj_r (β, 0)), some (.inl x6)]) ⟨rfl, ⟨rfl, trivial⟩⟩ ?_
        exact ih _ _ _ _ _ h hx27 hx36
      · replace h := mj_if_t c5 h
        cases h
        refine mj_sub ?_ (hx27 rfl)
        exact trivial
def f_X11_readPlan (m : mj_m) : Option (Int32 × mj_m) := mj_let (mj_wrs m 0 10 0) (fun m7 => mj_b1 (f_X11_reads m7) (fun m8 => mj_b3 (f_X11_readPlan_L11 mj_fu 0 m8) (fun t10 x11 m12 => if t10 = 27 then (some ((-1), m12)) else (some (x11, m12)))))
set_option maxHeartbeats 4000000 in
set_option maxRecDepth 20000 in
theorem C_X11_readPlan {G : mj_G} {β : Nat} {M : mj_M} {m : mj_m} {x0 : Int32} {m0 : mj_m} (hB : mj_isM G β) (h : f_X11_readPlan m = some (x0, m0)) : mj_S1 yX11_readPlan cX11_readPlan 2 (some .int) 4 G [mj_r (β, 0)] (va_up M β m) (some (.inl x0)) (va_up M β m0) := by
  refine mj_intro (by decide) (Nat.le_of_ble_eq_true rfl) ?_
  intro κ C hG hR hT
  subst hG
  have C : mj_C κ cX11_readPlan 2 RX11 := C
  show mj_R κ (mj_F κ (fun r M' => r = (some (.inl x0)) ∧ M' = (va_up M β m0) ∧ mj_bb (some .int) (some (.inl x0)))) 0 [some (mj_r (β, 0)), none] [] (va_up M β m)
  unfold f_X11_readPlan at h
  refine mj_iconst (v := 0) C dX11_readPlan_0 (by decide) ?_
  refine mj_istore_n (L2 := [some (mj_r (β, 0)), some (.inl 0)]) C dX11_readPlan_1 (Nat.le_of_ble_eq_true rfl) rfl ?_
  refine mj_aload_n C dX11_readPlan_2 rfl ?_
  refine mj_iconst (v := 0) C dX11_readPlan_3 (by decide) ?_
  obtain ⟨m7, hm7, h⟩ := mj_let_o h
  refine mj_bput C lF_X11_331 fP_12_10 (vp_nar_int _) rfl (sM0 hB) rfl dX11_readPlan_4 hm7 ?_
  refine mj_aload_n C dX11_readPlan_7 rfl ?_
  obtain ⟨m8, em8, h⟩ := mj_b1_o h
  refine mj_callV0 (av := []) C lM_X11_364 lV_X11_reads (sM0 hB) ⟨_, rfl, rfl⟩ rfl (C_X11_reads hB em8) (mj_rmok hR (by decide) (by decide)) rfl (Nat.le_of_ble_eq_true rfl) dX11_readPlan_8 ?_
  obtain ⟨t10, x11, m12, hl13, h⟩ := mj_b3_o h
  refine mj_sub (L' := [some (mj_r (β, 0)), some (.inl 0)]) ⟨rfl, ⟨rfl, trivial⟩⟩ ?_
  refine C_X11_readPlan_L11 C hB hR _ _ _ _ _ _ hl13 (fun te => ?_) (fun te => ?_)
  · subst te
    replace h := mj_if_t rfl h
    refine mj_iconst (v := (-1)) C dX11_readPlan_27 (by decide) ?_
    cases h
    exact mj_iret C hT (vp_nar_int _) dX11_readPlan_28 ⟨rfl, rfl, mj_bi _⟩
  · subst te
    replace h := mj_if_f (by decide) h
    refine mj_iload_n C dX11_readPlan_36 rfl ?_
    cases h
    exact mj_iret C hT (vp_nar_int _) dX11_readPlan_37 ⟨rfl, rfl, mj_bi _⟩
def f_X11_plan_L50 (l1 : Int32) : Nat → Int32 → mj_m → Option (mj_m)
  | 0, _, _ => none
  | n + 1, l2, m => if 2 * l1 ≤ l2 then (some m) else (mj_chk (mj_ok (48 + l2) 96) (mj_chk (mj_ok l2 96) (mj_let (mj_wrs m 8 (mj_cl l2) (m 8 (mj_cl (48 + l2)))) (fun m4 => mj_let (l2 + 1) (fun x5 => f_X11_plan_L50 l1 n x5 m4)))))
set_option maxHeartbeats 4000000 in
set_option maxRecDepth 20000 in
theorem C_X11_plan_L50 {κ : mj_K} {Q : State → Prop} {β : Nat} {M : mj_M} {l1 : Int32} (C : mj_C κ cX11_plan 3 RX11) (hB : mj_isM (mj_g κ) β) (hR : mj_dp κ 5) : ∀ (n : Nat) (l2 : Int32) (m : mj_m) (mo : mj_m), f_X11_plan_L50 l1 n l2 m = some mo → (mj_R κ Q 78 [some (mj_r (β, 0)), some (.inl l1), none] [] (va_up M β mo)) → mj_R κ Q 50 [some (mj_r (β, 0)), some (.inl l1), some (.inl l2)] [] (va_up M β m) := by
  intro n
  induction n with
  | zero =>
    intro l2 m mo h
    cases h
  | succ n ih =>
    intro l2 m mo h hx78
    rw [f_X11_plan_L50] at h
    refine mj_iload_n C dX11_plan_50 rfl ?_
    refine mj_iconst (v := 2) C dX11_plan_51 (by decide) ?_
    refine mj_iload_n C dX11_plan_52 rfl ?_
    refine mj_imul C dX11_plan_53 ?_
    refine mj_icmp_ge (tgt := 78) C dX11_plan_54 (by decide) (fun c1 => ?_) (fun c1 => ?_)
    · replace h := mj_if_t c1 h
      cases h
      refine mj_sub ?_ (hx78)
      exact ⟨rfl, ⟨rfl, trivial⟩⟩
    · replace h := mj_if_f c1 h
      refine mj_aload_n C dX11_plan_57 rfl ?_
      refine mj_getr (r := (β, 8)) C lF_X11_35 (sM0 hB) rfl dX11_plan_58 ?_
      refine mj_iload_n C dX11_plan_61 rfl ?_
      refine mj_aload_n C dX11_plan_62 rfl ?_
      refine mj_getr (r := (β, 8)) C lF_X11_35 (sM0 hB) rfl dX11_plan_63 ?_
      refine mj_bipush (v := 48) C dX11_plan_66 (by decide) ?_
      refine mj_iload_n C dX11_plan_68 rfl ?_
      refine mj_iadd C dX11_plan_69 ?_
      obtain ⟨k2, h⟩ := mj_chk_o h
      refine mj_bald C (sM8 hB) k2 rfl dX11_plan_70 ?_
      obtain ⟨k3, h⟩ := mj_chk_o h
      obtain ⟨m4, hm4, h⟩ := mj_let_o h
      refine mj_bast C (sM8 hB) k3 rfl dX11_plan_71 hm4 ?_
      obtain ⟨x5, hx5, h⟩ := mj_let_o h
      refine mj_iinc (L2 := [some (mj_r (β, 0)), some (.inl l1), some (.inl x5)]) C dX11_plan_72 rfl hx5 rfl ?_
      refine mj_goto (tgt := 50) C dX11_plan_75 (by decide) ?_
      refine mj_sub (L' := [some (mj_r (β, 0)), some (.inl l1), some (.inl x5)]) ⟨rfl, ⟨rfl, ⟨rfl, trivial⟩⟩⟩ ?_
      exact ih _ _ _ h hx78
def f_X11_plan (m : mj_m) : Option (Int32 × mj_m) := mj_let (mj_wrs m 0 0 0) (fun m6 => mj_let (mj_wrs m6 0 17 0) (fun m7 => mj_let (mj_wrs m7 0 18 (-1)) (fun m8 => mj_b2 (f_X11_readPlan m8) (fun r9 m10 => mj_let (mj_wrs m10 0 9 0) (fun m12 => if r9 = (-1) then (mj_let (mj_wrs m12 0 17 (m12 0 15)) (fun m18 => mj_let (mj_wrs m18 0 18 (m18 0 16)) (fun m19 => some ((-1), m19)))) else (mj_b1 (f_X11_plan_L50 r9 mj_fu 0 m12) (fun m14 => mj_let (mj_wrs m14 0 19 r9) (fun m16 => mj_let (mj_wrs m16 1 49 0) (fun m17 => some (r9, m17))))))))))
set_option maxHeartbeats 4000000 in
set_option maxRecDepth 20000 in
theorem C_X11_plan {G : mj_G} {β : Nat} {M : mj_M} {m : mj_m} {x0 : Int32} {m0 : mj_m} (hB : mj_isM G β) (h : f_X11_plan m = some (x0, m0)) : mj_S1 yX11_plan cX11_plan 3 (some .int) 5 G [mj_r (β, 0)] (va_up M β m) (some (.inl x0)) (va_up M β m0) := by
  refine mj_intro (by decide) (Nat.le_of_ble_eq_true rfl) ?_
  intro κ C hG hR hT
  subst hG
  have C : mj_C κ cX11_plan 3 RX11 := C
  show mj_R κ (mj_F κ (fun r M' => r = (some (.inl x0)) ∧ M' = (va_up M β m0) ∧ mj_bb (some .int) (some (.inl x0)))) 0 [some (mj_r (β, 0)), none, none] [] (va_up M β m)
  unfold f_X11_plan at h
  refine mj_aload_n C dX11_plan_0 rfl ?_
  refine mj_iconst (v := 0) C dX11_plan_1 (by decide) ?_
  obtain ⟨m6, hm6, h⟩ := mj_let_o h
  refine mj_bput C lF_X11_41 fP_12_0 (vp_nar_int _) rfl (sM0 hB) rfl dX11_plan_2 hm6 ?_
  refine mj_aload_n C dX11_plan_5 rfl ?_
  refine mj_iconst (v := 0) C dX11_plan_6 (by decide) ?_
  obtain ⟨m7, hm7, h⟩ := mj_let_o h
  refine mj_bput C lF_X11_376 fP_12_17 (vp_nar_int _) rfl (sM0 hB) rfl dX11_plan_7 hm7 ?_
  refine mj_aload_n C dX11_plan_10 rfl ?_
  refine mj_iconst (v := (-1)) C dX11_plan_11 (by decide) ?_
  obtain ⟨m8, hm8, h⟩ := mj_let_o h
  refine mj_bput C lF_X11_31 fP_12_18 (vp_nar_int _) rfl (sM0 hB) rfl dX11_plan_12 hm8 ?_
  refine mj_aload_n C dX11_plan_15 rfl ?_
  obtain ⟨r9, m10, em10, h⟩ := mj_b2_o h
  refine mj_callV1 (av := []) C lM_X11_379 lV_X11_readPlan (sM0 hB) ⟨_, rfl, rfl⟩ rfl (C_X11_readPlan hB em10) (mj_rmok hR (by decide) (by decide)) rfl (Nat.le_of_ble_eq_true rfl) dX11_plan_16 (fun hb11 => ?_)
  refine mj_istore_n (L2 := [some (mj_r (β, 0)), some (.inl r9), none]) C dX11_plan_19 (Nat.le_of_ble_eq_true rfl) rfl ?_
  refine mj_aload_n C dX11_plan_20 rfl ?_
  refine mj_iconst (v := 0) C dX11_plan_21 (by decide) ?_
  obtain ⟨m12, hm12, h⟩ := mj_let_o h
  refine mj_bput C lF_X11_325 fP_12_9 (vp_nar_int _) rfl (sM0 hB) rfl dX11_plan_22 hm12 ?_
  refine mj_iload_n C dX11_plan_25 rfl ?_
  refine mj_iconst (v := (-1)) C dX11_plan_26 (by decide) ?_
  refine mj_icmp_ne (tgt := 48) C dX11_plan_27 (by decide) (fun c13 => ?_) (fun c13 => ?_)
  · replace h := mj_if_f c13 h
    refine mj_iconst (v := 0) C dX11_plan_48 (by decide) ?_
    refine mj_istore_n (L2 := [some (mj_r (β, 0)), some (.inl r9), some (.inl 0)]) C dX11_plan_49 (Nat.le_of_ble_eq_true rfl) rfl ?_
    obtain ⟨m14, hl15, h⟩ := mj_b1_o h
    refine mj_sub (L' := [some (mj_r (β, 0)), some (.inl r9), some (.inl 0)]) ⟨rfl, ⟨rfl, ⟨rfl, trivial⟩⟩⟩ ?_
    refine C_X11_plan_L50 C hB hR _ _ _ _ hl15 ?_
    refine mj_aload_n C dX11_plan_78 rfl ?_
    refine mj_iload_n C dX11_plan_79 rfl ?_
    obtain ⟨m16, hm16, h⟩ := mj_let_o h
    refine mj_bput C lF_X11_321 fP_12_19 (vp_nar_int _) rfl (sM0 hB) rfl dX11_plan_80 hm16 ?_
    refine mj_aload_n C dX11_plan_83 rfl ?_
    refine mj_getr (r := (β, 1)) C lF_X11_7 (sM0 hB) rfl dX11_plan_84 ?_
    refine mj_bipush (v := 49) C dX11_plan_87 (by decide) ?_
    refine mj_iconst (v := 0) C dX11_plan_89 (by decide) ?_
    obtain ⟨m17, hm17, h⟩ := mj_let_o h
    refine mj_bast C (sM1 hB) (mj_okn 49 1897 (Nat.le_of_ble_eq_true rfl) (Nat.le_of_ble_eq_true rfl)) (mj_cln 49 (Nat.le_of_ble_eq_true rfl)) dX11_plan_90 hm17 ?_
    refine mj_iload_n C dX11_plan_91 rfl ?_
    cases h
    exact mj_iret C hT (vp_nar_int _) dX11_plan_92 ⟨rfl, rfl, mj_bi _⟩
  · replace h := mj_if_t c13 h
    refine mj_aload_n C dX11_plan_30 rfl ?_
    refine mj_aload_n C dX11_plan_31 rfl ?_
    refine mj_bget C lF_X11_355 (sM0 hB) rfl dX11_plan_32 ?_
    obtain ⟨m18, hm18, h⟩ := mj_let_o h
    refine mj_bput C lF_X11_376 fP_12_17 (vp_nar_int _) rfl (sM0 hB) rfl dX11_plan_35 hm18 ?_
    refine mj_aload_n C dX11_plan_38 rfl ?_
    refine mj_aload_n C dX11_plan_39 rfl ?_
    refine mj_bget C lF_X11_358 (sM0 hB) rfl dX11_plan_40 ?_
    obtain ⟨m19, hm19, h⟩ := mj_let_o h
    refine mj_bput C lF_X11_31 fP_12_18 (vp_nar_int _) rfl (sM0 hB) rfl dX11_plan_43 hm19 ?_
    refine mj_iconst (v := (-1)) C dX11_plan_46 (by decide) ?_
    cases h
    exact mj_iret C hT (vp_nar_int _) dX11_plan_47 ⟨rfl, rfl, mj_bi _⟩
def f_X11_fault (a1 : Int32) (m : mj_m) : Int32 × mj_m := mj_let (mj_wrs m 0 0 0) (fun m1 => if a1 = 0 then ((m1 0 17, m1)) else (if a1 = 1 then ((m1 0 18, m1)) else (((-1), m1))))
set_option maxHeartbeats 4000000 in
set_option maxRecDepth 20000 in
theorem C_X11_fault {G : mj_G} {β : Nat} {M : mj_M} {a1 : Int32} {m : mj_m} {x0 : Int32} {m0 : mj_m} (hB : mj_isM G β) (h : f_X11_fault a1 m = (x0, m0)) : mj_S1 yX11_fault cX11_fault 2 (some .int) 0 G [mj_r (β, 0), .inl a1] (va_up M β m) (some (.inl x0)) (va_up M β m0) := by
  refine mj_intro (by decide) (Nat.le_of_ble_eq_true rfl) ?_
  intro κ C hG hR hT
  subst hG
  have C : mj_C κ cX11_fault 2 RX11 := C
  show mj_R κ (mj_F κ (fun r M' => r = (some (.inl x0)) ∧ M' = (va_up M β m0) ∧ mj_bb (some .int) (some (.inl x0)))) 0 [some (mj_r (β, 0)), some (.inl a1)] [] (va_up M β m)
  unfold f_X11_fault at h
  refine mj_aload_n C dX11_fault_0 rfl ?_
  refine mj_iconst (v := 0) C dX11_fault_1 (by decide) ?_
  obtain ⟨m1, hm1, h⟩ := mj_let_o h
  refine mj_bput C lF_X11_41 fP_12_0 (vp_nar_int _) rfl (sM0 hB) rfl dX11_fault_2 hm1 ?_
  refine mj_iload_n C dX11_fault_5 rfl ?_
  refine mj_if_ne (tgt := 16) C dX11_fault_6 (by decide) (fun c2 => ?_) (fun c2 => ?_)
  · replace h := mj_if_f c2 h
    refine mj_iload_n C dX11_fault_16 rfl ?_
    refine mj_iconst (v := 1) C dX11_fault_17 (by decide) ?_
    refine mj_icmp_ne (tgt := 28) C dX11_fault_18 (by decide) (fun c3 => ?_) (fun c3 => ?_)
    · replace h := mj_if_f c3 h
      refine mj_iconst (v := (-1)) C dX11_fault_28 (by decide) ?_
      cases h
      exact mj_iret C hT (vp_nar_int _) dX11_fault_29 ⟨rfl, rfl, mj_bi _⟩
    · replace h := mj_if_t c3 h
      refine mj_aload_n C dX11_fault_21 rfl ?_
      refine mj_bget C lF_X11_31 (sM0 hB) rfl dX11_fault_22 ?_
      refine mj_goto (tgt := 29) C dX11_fault_25 (by decide) ?_
      cases h
      exact mj_iret C hT (vp_nar_int _) dX11_fault_29 ⟨rfl, rfl, mj_bi _⟩
  · replace h := mj_if_t c2 h
    refine mj_aload_n C dX11_fault_9 rfl ?_
    refine mj_bget C lF_X11_376 (sM0 hB) rfl dX11_fault_10 ?_
    refine mj_goto (tgt := 29) C dX11_fault_13 (by decide) ?_
    cases h
    exact mj_iret C hT (vp_nar_int _) dX11_fault_29 ⟨rfl, rfl, mj_bi _⟩
def f_X11_runsLine (a1 : Int32) (a2 : Int32) (m : mj_m) : Option (Int32 × mj_m) := if a1 = 0 then (mj_b2 (f_X11_send a2 m) (fun r46 m47 => if r46 = (-1) then (some (0, m47)) else (some (1, m47)))) else (if a1 = 1 then (mj_b2 (f_X11_past a2 m) (fun r42 m43 => if r42 = (-1) then (some (0, m43)) else (some (1, m43)))) else (if a1 = 2 then (mj_b2 (f_X11_start 3 a2 m) (fun r39 m40 => some (r39, m40))) else (if a1 = 3 then (mj_p2 (f_X11_renumber a2 m) (fun r36 m37 => some (r36, m37))) else (if a1 = 4 then (mj_b2 (f_X11_ticksOn a2 m) (fun r32 m33 => if r32 = (-1) then (some (0, m33)) else (some (1, m33)))) else (if a1 = 5 then (mj_b2 (f_X11_drop 0 (a2 - 1) m) (fun r29 m30 => some (r29, m30))) else (if 8 < a1 then (if a1 = 9 then (mj_b2 (f_X11_direct (a1 - 9) m) (fun r9 m10 => some (r9, m10))) else (if a1 = 10 then (mj_b2 (f_X11_direct (a1 - 9) m) (fun r23 m24 => some (r23, m24))) else (if a1 = 11 then (mj_b2 (f_X11_takesOne m) (fun r19 m20 => if r19 = (-1) then (some (0, m20)) else (some (1, m20)))) else (mj_let (f_X11_wayMany 1 m) (fun r14 => mj_b2 (f_X11_drop 1 (r14 - 1) m) (fun r16 m17 => some (r16, m17))))))) else (mj_b2 (f_X11_start (a1 - 6) 0 m) (fun r26 m27 => some (r26, m27)))))))))
set_option maxHeartbeats 4000000 in
set_option maxRecDepth 20000 in
theorem C_X11_runsLine {G : mj_G} {β : Nat} {M : mj_M} {a1 : Int32} {a2 : Int32} {m : mj_m} {x0 : Int32} {m0 : mj_m} (hB : mj_isM G β) (h : f_X11_runsLine a1 a2 m = some (x0, m0)) : mj_S1 yX11_runsLine cX11_runsLine 3 (some .boolean) 10 G [mj_r (β, 0), .inl a1, .inl a2] (va_up M β m) (some (.inl x0)) (va_up M β m0) := by
  refine mj_intro (by decide) (Nat.le_of_ble_eq_true rfl) ?_
  intro κ C hG hR hT
  subst hG
  have C : mj_C κ cX11_runsLine 3 RX11 := C
  show mj_R κ (mj_F κ (fun r M' => r = (some (.inl x0)) ∧ M' = (va_up M β m0) ∧ mj_bb (some .boolean) (some (.inl x0)))) 0 [some (mj_r (β, 0)), some (.inl a1), some (.inl a2)] [] (va_up M β m)
  unfold f_X11_runsLine at h
  refine mj_iload_n C dX11_runsLine_0 rfl ?_
  refine mj_if_ne (tgt := 19) C dX11_runsLine_1 (by decide) (fun c1 => ?_) (fun c1 => ?_)
  · replace h := mj_if_f c1 h
    refine mj_iload_n C dX11_runsLine_19 rfl ?_
    refine mj_iconst (v := 1) C dX11_runsLine_20 (by decide) ?_
    refine mj_icmp_ne (tgt := 39) C dX11_runsLine_21 (by decide) (fun c2 => ?_) (fun c2 => ?_)
    · replace h := mj_if_f c2 h
      refine mj_iload_n C dX11_runsLine_39 rfl ?_
      refine mj_iconst (v := 2) C dX11_runsLine_40 (by decide) ?_
      refine mj_icmp_ne (tgt := 51) C dX11_runsLine_41 (by decide) (fun c3 => ?_) (fun c3 => ?_)
      · replace h := mj_if_f c3 h
        refine mj_iload_n C dX11_runsLine_51 rfl ?_
        refine mj_iconst (v := 3) C dX11_runsLine_52 (by decide) ?_
        refine mj_icmp_ne (tgt := 62) C dX11_runsLine_53 (by decide) (fun c4 => ?_) (fun c4 => ?_)
        · replace h := mj_if_f c4 h
          refine mj_iload_n C dX11_runsLine_62 rfl ?_
          refine mj_iconst (v := 4) C dX11_runsLine_63 (by decide) ?_
          refine mj_icmp_ne (tgt := 82) C dX11_runsLine_64 (by decide) (fun c5 => ?_) (fun c5 => ?_)
          · replace h := mj_if_f c5 h
            refine mj_iload_n C dX11_runsLine_82 rfl ?_
            refine mj_iconst (v := 5) C dX11_runsLine_83 (by decide) ?_
            refine mj_icmp_ne (tgt := 96) C dX11_runsLine_84 (by decide) (fun c6 => ?_) (fun c6 => ?_)
            · replace h := mj_if_f c6 h
              refine mj_iload_n C dX11_runsLine_96 rfl ?_
              refine mj_bipush (v := 8) C dX11_runsLine_97 (by decide) ?_
              refine mj_icmp_gt (tgt := 112) C dX11_runsLine_99 (by decide) (fun c7 => ?_) (fun c7 => ?_)
              · replace h := mj_if_t c7 h
                refine mj_iload_n C dX11_runsLine_112 rfl ?_
                refine mj_bipush (v := 9) C dX11_runsLine_113 (by decide) ?_
                refine mj_icmp_eq (tgt := 124) C dX11_runsLine_115 (by decide) (fun c8 => ?_) (fun c8 => ?_)
                · replace h := mj_if_t c8 h
                  refine mj_aload_n C dX11_runsLine_124 rfl ?_
                  refine mj_iload_n C dX11_runsLine_125 rfl ?_
                  refine mj_bipush (v := 9) C dX11_runsLine_126 (by decide) ?_
                  refine mj_isub C dX11_runsLine_128 ?_
                  obtain ⟨r9, m10, em10, h⟩ := mj_b2_o h
                  refine mj_callV1 (av := [.inl (a1 - 9)]) C lM_X11_394 lV_X11_direct (sM0 hB) ⟨_, rfl, rfl⟩ rfl (C_X11_direct hB em10) (mj_rmok hR (by decide) (by decide)) rfl (Nat.le_of_ble_eq_true rfl) dX11_runsLine_129 (fun hb11 => ?_)
                  cases h
                  exact mj_iret C hT (mj_nb hb11) dX11_runsLine_132 ⟨rfl, rfl, hb11⟩
                · replace h := mj_if_f c8 h
                  refine mj_iload_n C dX11_runsLine_118 rfl ?_
                  refine mj_bipush (v := 10) C dX11_runsLine_119 (by decide) ?_
                  refine mj_icmp_ne (tgt := 133) C dX11_runsLine_121 (by decide) (fun c12 => ?_) (fun c12 => ?_)
                  · replace h := mj_if_f c12 h
                    refine mj_iload_n C dX11_runsLine_133 rfl ?_
                    refine mj_bipush (v := 11) C dX11_runsLine_134 (by decide) ?_
                    refine mj_icmp_ne (tgt := 155) C dX11_runsLine_136 (by decide) (fun c13 => ?_) (fun c13 => ?_)
                    · replace h := mj_if_f c13 h
                      refine mj_aload_n C dX11_runsLine_155 rfl ?_
                      refine mj_iconst (v := 1) C dX11_runsLine_156 (by decide) ?_
                      refine mj_aload_n C dX11_runsLine_157 rfl ?_
                      refine mj_iconst (v := 1) C dX11_runsLine_158 (by decide) ?_
                      obtain ⟨r14, er14, h⟩ := mj_let_o h
                      refine mj_callV1 (av := [.inl 1]) C lM_X11_125 lV_X11_wayMany (sM0 hB) ⟨_, rfl, rfl⟩ rfl (C_X11_wayMany hB er14) (mj_rmok hR (by decide) (by decide)) rfl (Nat.le_of_ble_eq_true rfl) dX11_runsLine_159 (fun hb15 => ?_)
                      refine mj_iconst (v := 1) C dX11_runsLine_162 (by decide) ?_
                      refine mj_isub C dX11_runsLine_163 ?_
                      obtain ⟨r16, m17, em17, h⟩ := mj_b2_o h
                      refine mj_callV1 (av := [.inl 1, .inl (r14 - 1)]) C lM_X11_391 lV_X11_drop (sM0 hB) ⟨_, rfl, rfl⟩ rfl (C_X11_drop hB em17) (mj_rmok hR (by decide) (by decide)) rfl (Nat.le_of_ble_eq_true rfl) dX11_runsLine_164 (fun hb18 => ?_)
                      cases h
                      exact mj_iret C hT (mj_nb hb18) dX11_runsLine_167 ⟨rfl, rfl, hb18⟩
                    · replace h := mj_if_t c13 h
                      refine mj_aload_n C dX11_runsLine_139 rfl ?_
                      obtain ⟨r19, m20, em20, h⟩ := mj_b2_o h
                      refine mj_callV1 (av := []) C lM_X11_200 lV_X11_takesOne (sM0 hB) ⟨_, rfl, rfl⟩ rfl (C_X11_takesOne hB em20) (mj_rmok hR (by decide) (by decide)) rfl (Nat.le_of_ble_eq_true rfl) dX11_runsLine_140 (fun hb21 => ?_)
                      refine mj_iconst (v := (-1)) C dX11_runsLine_143 (by decide) ?_
                      refine mj_icmp_eq (tgt := 151) C dX11_runsLine_144 (by decide) (fun c22 => ?_) (fun c22 => ?_)
                      · replace h := mj_if_t c22 h
                        refine mj_iconst (v := 0) C dX11_runsLine_151 (by decide) ?_
                        refine mj_goto (tgt := 167) C dX11_runsLine_152 (by decide) ?_
                        cases h
                        exact mj_iret C hT (mj_nb mj_b0) dX11_runsLine_167 ⟨rfl, rfl, mj_b0⟩
                      · replace h := mj_if_f c22 h
                        refine mj_iconst (v := 1) C dX11_runsLine_147 (by decide) ?_
                        refine mj_goto (tgt := 167) C dX11_runsLine_148 (by decide) ?_
                        cases h
                        exact mj_iret C hT (mj_nb mj_b1') dX11_runsLine_167 ⟨rfl, rfl, mj_b1'⟩
                  · replace h := mj_if_t c12 h
                    refine mj_aload_n C dX11_runsLine_124 rfl ?_
                    refine mj_iload_n C dX11_runsLine_125 rfl ?_
                    refine mj_bipush (v := 9) C dX11_runsLine_126 (by decide) ?_
                    refine mj_isub C dX11_runsLine_128 ?_
                    obtain ⟨r23, m24, em24, h⟩ := mj_b2_o h
                    refine mj_callV1 (av := [.inl (a1 - 9)]) C lM_X11_394 lV_X11_direct (sM0 hB) ⟨_, rfl, rfl⟩ rfl (C_X11_direct hB em24) (mj_rmok hR (by decide) (by decide)) rfl (Nat.le_of_ble_eq_true rfl) dX11_runsLine_129 (fun hb25 => ?_)
                    cases h
                    exact mj_iret C hT (mj_nb hb25) dX11_runsLine_132 ⟨rfl, rfl, hb25⟩
              · replace h := mj_if_f c7 h
                refine mj_aload_n C dX11_runsLine_102 rfl ?_
                refine mj_iload_n C dX11_runsLine_103 rfl ?_
                refine mj_bipush (v := 6) C dX11_runsLine_104 (by decide) ?_
                refine mj_isub C dX11_runsLine_106 ?_
                refine mj_iconst (v := 0) C dX11_runsLine_107 (by decide) ?_
                obtain ⟨r26, m27, em27, h⟩ := mj_b2_o h
                refine mj_callV1 (av := [.inl (a1 - 6), .inl 0]) C lM_X11_285 lV_X11_start (sM0 hB) ⟨_, rfl, rfl⟩ rfl (C_X11_start hB em27) (mj_rmok hR (by decide) (by decide)) rfl (Nat.le_of_ble_eq_true rfl) dX11_runsLine_108 (fun hb28 => ?_)
                cases h
                exact mj_iret C hT (mj_nb hb28) dX11_runsLine_111 ⟨rfl, rfl, hb28⟩
            · replace h := mj_if_t c6 h
              refine mj_aload_n C dX11_runsLine_87 rfl ?_
              refine mj_iconst (v := 0) C dX11_runsLine_88 (by decide) ?_
              refine mj_iload_n C dX11_runsLine_89 rfl ?_
              refine mj_iconst (v := 1) C dX11_runsLine_90 (by decide) ?_
              refine mj_isub C dX11_runsLine_91 ?_
              obtain ⟨r29, m30, em30, h⟩ := mj_b2_o h
              refine mj_callV1 (av := [.inl 0, .inl (a2 - 1)]) C lM_X11_391 lV_X11_drop (sM0 hB) ⟨_, rfl, rfl⟩ rfl (C_X11_drop hB em30) (mj_rmok hR (by decide) (by decide)) rfl (Nat.le_of_ble_eq_true rfl) dX11_runsLine_92 (fun hb31 => ?_)
              cases h
              exact mj_iret C hT (mj_nb hb31) dX11_runsLine_95 ⟨rfl, rfl, hb31⟩
          · replace h := mj_if_t c5 h
            refine mj_aload_n C dX11_runsLine_67 rfl ?_
            refine mj_iload_n C dX11_runsLine_68 rfl ?_
            obtain ⟨r32, m33, em33, h⟩ := mj_b2_o h
            refine mj_callV1 (av := [.inl a2]) C lM_X11_270 lV_X11_ticksOn (sM0 hB) ⟨_, rfl, rfl⟩ rfl (C_X11_ticksOn hB em33) (mj_rmok hR (by decide) (by decide)) rfl (Nat.le_of_ble_eq_true rfl) dX11_runsLine_69 (fun hb34 => ?_)
            refine mj_iconst (v := (-1)) C dX11_runsLine_72 (by decide) ?_
            refine mj_icmp_eq (tgt := 80) C dX11_runsLine_73 (by decide) (fun c35 => ?_) (fun c35 => ?_)
            · replace h := mj_if_t c35 h
              refine mj_iconst (v := 0) C dX11_runsLine_80 (by decide) ?_
              cases h
              exact mj_iret C hT (mj_nb mj_b0) dX11_runsLine_81 ⟨rfl, rfl, mj_b0⟩
            · replace h := mj_if_f c35 h
              refine mj_iconst (v := 1) C dX11_runsLine_76 (by decide) ?_
              refine mj_goto (tgt := 81) C dX11_runsLine_77 (by decide) ?_
              cases h
              exact mj_iret C hT (mj_nb mj_b1') dX11_runsLine_81 ⟨rfl, rfl, mj_b1'⟩
        · replace h := mj_if_t c4 h
          refine mj_aload_n C dX11_runsLine_56 rfl ?_
          refine mj_iload_n C dX11_runsLine_57 rfl ?_
          obtain ⟨r36, m37, em37, h⟩ := mj_p2_o h
          refine mj_callV1 (av := [.inl a2]) C lM_X11_388 lV_X11_renumber (sM0 hB) ⟨_, rfl, rfl⟩ rfl (C_X11_renumber hB em37) (mj_rmok hR (by decide) (by decide)) rfl (Nat.le_of_ble_eq_true rfl) dX11_runsLine_58 (fun hb38 => ?_)
          cases h
          exact mj_iret C hT (mj_nb hb38) dX11_runsLine_61 ⟨rfl, rfl, hb38⟩
      · replace h := mj_if_t c3 h
        refine mj_aload_n C dX11_runsLine_44 rfl ?_
        refine mj_iconst (v := 3) C dX11_runsLine_45 (by decide) ?_
        refine mj_iload_n C dX11_runsLine_46 rfl ?_
        obtain ⟨r39, m40, em40, h⟩ := mj_b2_o h
        refine mj_callV1 (av := [.inl 3, .inl a2]) C lM_X11_285 lV_X11_start (sM0 hB) ⟨_, rfl, rfl⟩ rfl (C_X11_start hB em40) (mj_rmok hR (by decide) (by decide)) rfl (Nat.le_of_ble_eq_true rfl) dX11_runsLine_47 (fun hb41 => ?_)
        cases h
        exact mj_iret C hT (mj_nb hb41) dX11_runsLine_50 ⟨rfl, rfl, hb41⟩
    · replace h := mj_if_t c2 h
      refine mj_aload_n C dX11_runsLine_24 rfl ?_
      refine mj_iload_n C dX11_runsLine_25 rfl ?_
      obtain ⟨r42, m43, em43, h⟩ := mj_b2_o h
      refine mj_callV1 (av := [.inl a2]) C lM_X11_385 lV_X11_past (sM0 hB) ⟨_, rfl, rfl⟩ rfl (C_X11_past hB em43) (mj_rmok hR (by decide) (by decide)) rfl (Nat.le_of_ble_eq_true rfl) dX11_runsLine_26 (fun hb44 => ?_)
      refine mj_iconst (v := (-1)) C dX11_runsLine_29 (by decide) ?_
      refine mj_icmp_eq (tgt := 37) C dX11_runsLine_30 (by decide) (fun c45 => ?_) (fun c45 => ?_)
      · replace h := mj_if_t c45 h
        refine mj_iconst (v := 0) C dX11_runsLine_37 (by decide) ?_
        cases h
        exact mj_iret C hT (mj_nb mj_b0) dX11_runsLine_38 ⟨rfl, rfl, mj_b0⟩
      · replace h := mj_if_f c45 h
        refine mj_iconst (v := 1) C dX11_runsLine_33 (by decide) ?_
        refine mj_goto (tgt := 38) C dX11_runsLine_34 (by decide) ?_
        cases h
        exact mj_iret C hT (mj_nb mj_b1') dX11_runsLine_38 ⟨rfl, rfl, mj_b1'⟩
  · replace h := mj_if_t c1 h
    refine mj_aload_n C dX11_runsLine_4 rfl ?_
    refine mj_iload_n C dX11_runsLine_5 rfl ?_
    obtain ⟨r46, m47, em47, h⟩ := mj_b2_o h
    refine mj_callV1 (av := [.inl a2]) C lM_X11_382 lV_X11_send (sM0 hB) ⟨_, rfl, rfl⟩ rfl (C_X11_send hB em47) (mj_rmok hR (by decide) (by decide)) rfl (Nat.le_of_ble_eq_true rfl) dX11_runsLine_6 (fun hb48 => ?_)
    refine mj_iconst (v := (-1)) C dX11_runsLine_9 (by decide) ?_
    refine mj_icmp_eq (tgt := 17) C dX11_runsLine_10 (by decide) (fun c49 => ?_) (fun c49 => ?_)
    · replace h := mj_if_t c49 h
      refine mj_iconst (v := 0) C dX11_runsLine_17 (by decide) ?_
      cases h
      exact mj_iret C hT (mj_nb mj_b0) dX11_runsLine_18 ⟨rfl, rfl, mj_b0⟩
    · replace h := mj_if_f c49 h
      refine mj_iconst (v := 1) C dX11_runsLine_13 (by decide) ?_
      refine mj_goto (tgt := 18) C dX11_runsLine_14 (by decide) ?_
      cases h
      exact mj_iret C hT (mj_nb mj_b1') dX11_runsLine_18 ⟨rfl, rfl, mj_b1'⟩
def f_X11_run_L22 (l1 : Int32) : Nat → Int32 → Int32 → mj_m → Option (Int32 × mj_m)
  | 0, _, _, _ => none
  | n + 1, l2, l3, m => if l1 ≤ l3 then (some (l2, m)) else (if m 0 19 ≤ m 1 49 then (some (l2, m)) else (mj_let (2 * (m 1 49)) (fun x3 => mj_chk (mj_ok x3 96) (mj_chk (mj_ok (x3 + 1) 96) (mj_b2 (f_X11_runsLine (m 8 (mj_cl x3)) (m 8 (mj_cl (x3 + 1))) m) (fun r6 m7 => if r6 = 0 then (mj_b1 (f_X11_more 49 m7) (fun m10 => mj_let (l3 + 1) (fun x12 => f_X11_run_L22 l1 n l2 x12 m10))) else (mj_let (l2 + 1) (fun x13 => mj_b1 (f_X11_more 49 m7) (fun m14 => mj_let (l3 + 1) (fun x16 => f_X11_run_L22 l1 n x13 x16 m14))))))))))
set_option maxHeartbeats 4000000 in
set_option maxRecDepth 20000 in
theorem C_X11_run_L22 {κ : mj_K} {Q : State → Prop} {β : Nat} {M : mj_M} {l1 : Int32} (C : mj_C κ cX11_run 5 RX11) (hB : mj_isM (mj_g κ) β) (hR : mj_dp κ 11) : ∀ (n : Nat) (l2 : Int32) (l3 : Int32) (m : mj_m) (o2 : Int32) (mo : mj_m), f_X11_run_L22 l1 n l2 l3 m = some (o2, mo) → (mj_R κ Q 91 [none, none, some (.inl o2), none, none] [] (va_up M β mo)) → mj_R κ Q 22 [some (mj_r (β, 0)), some (.inl l1), some (.inl l2), some (.inl l3), none] [] (va_up M β m) := by
  intro n
  induction n with
  | zero =>
    intro l2 l3 m o2 mo h
    cases h
  | succ n ih =>
    intro l2 l3 m o2 mo h hx91
    rw [f_X11_run_L22] at h
    refine mj_iload_n C dX11_run_22 rfl ?_
    refine mj_iload_n C dX11_run_23 rfl ?_
    refine mj_icmp_ge (tgt := 91) C dX11_run_24 (by decide) (fun c1 => ?_) (fun c1 => ?_)
    · replace h := mj_if_t c1 h
      cases h
      refine mj_sub ?_ (hx91)
      exact ⟨rfl, trivial⟩
    · replace h := mj_if_f c1 h
      refine mj_aload_n C dX11_run_27 rfl ?_
      refine mj_getr (r := (β, 1)) C lF_X11_7 (sM0 hB) rfl dX11_run_28 ?_
      refine mj_bipush (v := 49) C dX11_run_31 (by decide) ?_
      refine mj_bald C (sM1 hB) (mj_okn 49 1897 (Nat.le_of_ble_eq_true rfl) (Nat.le_of_ble_eq_true rfl)) (mj_cln 49 (Nat.le_of_ble_eq_true rfl)) dX11_run_33 ?_
      refine mj_aload_n C dX11_run_34 rfl ?_
      refine mj_bget C lF_X11_321 (sM0 hB) rfl dX11_run_35 ?_
      refine mj_icmp_ge (tgt := 91) C dX11_run_38 (by decide) (fun c2 => ?_) (fun c2 => ?_)
      · replace h := mj_if_t c2 h
        cases h
        refine mj_sub ?_ (hx91)
        exact ⟨rfl, trivial⟩
      · replace h := mj_if_f c2 h
        refine mj_iconst (v := 2) C dX11_run_41 (by decide) ?_
        refine mj_aload_n C dX11_run_42 rfl ?_
        refine mj_getr (r := (β, 1)) C lF_X11_7 (sM0 hB) rfl dX11_run_43 ?_
        refine mj_bipush (v := 49) C dX11_run_46 (by decide) ?_
        refine mj_bald C (sM1 hB) (mj_okn 49 1897 (Nat.le_of_ble_eq_true rfl) (Nat.le_of_ble_eq_true rfl)) (mj_cln 49 (Nat.le_of_ble_eq_true rfl)) dX11_run_48 ?_
        refine mj_imul C dX11_run_49 ?_
        obtain ⟨x3, hx3, h⟩ := mj_let_o h
        refine mj_nm hx3 ?_
        refine mj_istore (L2 := [some (mj_r (β, 0)), some (.inl l1), some (.inl l2), some (.inl l3), some (.inl x3)]) C dX11_run_50 (Nat.le_of_ble_eq_true rfl) rfl ?_
        refine mj_aload_n C dX11_run_52 rfl ?_
        refine mj_aload_n C dX11_run_53 rfl ?_
        refine mj_getr (r := (β, 8)) C lF_X11_35 (sM0 hB) rfl dX11_run_54 ?_
        refine mj_iload C dX11_run_57 rfl ?_
        obtain ⟨k4, h⟩ := mj_chk_o h
        refine mj_bald C (sM8 hB) k4 rfl dX11_run_59 ?_
        refine mj_aload_n C dX11_run_60 rfl ?_
        refine mj_getr (r := (β, 8)) C lF_X11_35 (sM0 hB) rfl dX11_run_61 ?_
        refine mj_iload C dX11_run_64 rfl ?_
        refine mj_iconst (v := 1) C dX11_run_66 (by decide) ?_
        refine mj_iadd C dX11_run_67 ?_
        obtain ⟨k5, h⟩ := mj_chk_o h
        refine mj_bald C (sM8 hB) k5 rfl dX11_run_68 ?_
        obtain ⟨r6, m7, em7, h⟩ := mj_b2_o h
        refine mj_callV1 (av := [.inl (m 8 (mj_cl x3)), .inl (m 8 (mj_cl (x3 + 1)))]) C lM_X11_397 lV_X11_runsLine (sM0 hB) ⟨_, rfl, rfl⟩ rfl (C_X11_runsLine hB em7) (mj_rmok hR (by decide) (by decide)) rfl (Nat.le_of_ble_eq_true rfl) dX11_run_69 (fun hb8 => ?_)
        refine mj_if_eq (tgt := 79) C dX11_run_72 (by decide) (fun c9 => ?_) (fun c9 => ?_)
        · replace h := mj_if_t c9 h
          refine mj_aload_n C dX11_run_79 rfl ?_
          refine mj_bipush (v := 49) C dX11_run_80 (by decide) ?_
          obtain ⟨m10, em10, h⟩ := mj_b1_o h
          refine mj_callV0 (av := [.inl 49]) C lM_X11_58 lV_X11_more (sM0 hB) ⟨_, rfl, rfl⟩ rfl (C_X11_more hB em10) (mj_rmok hR (by decide) (by decide)) rfl (Nat.le_of_ble_eq_true rfl) dX11_run_82 ?_
          obtain ⟨x12, hx12, h⟩ := mj_let_o h
          refine mj_iinc (L2 := [some (mj_r (β, 0)), some (.inl l1), some (.inl l2), some (.inl x12), some (.inl x3)]) C dX11_run_85 rfl hx12 rfl ?_
          refine mj_goto (tgt := 22) C dX11_run_88 (by decide) ?_
          refine mj_sub (L' := [some (mj_r (β, 0)), some (.inl l1), some (.inl l2), some (.inl x12), none]) ⟨rfl, ⟨rfl, ⟨rfl, ⟨rfl, trivial⟩⟩⟩⟩ ?_
          exact ih _ _ _ _ _ h hx91
        · replace h := mj_if_f c9 h
          refine mj_iload_n C dX11_run_75 rfl ?_
          refine mj_iconst (v := 1) C dX11_run_76 (by decide) ?_
          refine mj_iadd C dX11_run_77 ?_
          obtain ⟨x13, hx13, h⟩ := mj_let_o h
          refine mj_nm hx13 ?_
          refine mj_istore_n (L2 := [some (mj_r (β, 0)), some (.inl l1), some (.inl x13), some (.inl l3), some (.inl x3)]) C dX11_run_78 (Nat.le_of_ble_eq_true rfl) rfl ?_
          refine mj_aload_n C dX11_run_79 rfl ?_
          refine mj_bipush (v := 49) C dX11_run_80 (by decide) ?_
          obtain ⟨m14, em14, h⟩ := mj_b1_o h
          refine mj_callV0 (av := [.inl 49]) C lM_X11_58 lV_X11_more (sM0 hB) ⟨_, rfl, rfl⟩ rfl (C_X11_more hB em14) (mj_rmok hR (by decide) (by decide)) rfl (Nat.le_of_ble_eq_true rfl) dX11_run_82 ?_
          obtain ⟨x16, hx16, h⟩ := mj_let_o h
          refine mj_iinc (L2 := [some (mj_r (β, 0)), some (.inl l1), some (.inl x13), some (.inl x16), some (.inl x3)]) C dX11_run_85 rfl hx16 rfl ?_
          refine mj_goto (tgt := 22) C dX11_run_88 (by decide) ?_
          refine mj_sub (L' := [some (mj_r (β, 0)), some (.inl l1), some (.inl x13), some (.inl x16), none]) ⟨rfl, ⟨rfl, ⟨rfl, ⟨rfl, trivial⟩⟩⟩⟩ ?_
          exact ih _ _ _ _ _ h hx91
def f_X11_run (a1 : Int32) (m : mj_m) : Option (Int32 × mj_m) := mj_let (mj_wrs m 0 0 0) (fun m17 => mj_let (f_X11_isIn a1 1 24) (fun r18 => if r18 = 0 then (some ((-1), m17)) else (mj_b2 (f_X11_run_L22 a1 mj_fu 0 0 m17) (fun x21 m22 => some (x21, m22)))))
set_option maxHeartbeats 4000000 in
set_option maxRecDepth 20000 in
theorem C_X11_run {G : mj_G} {β : Nat} {M : mj_M} {a1 : Int32} {m : mj_m} {x0 : Int32} {m0 : mj_m} (hB : mj_isM G β) (h : f_X11_run a1 m = some (x0, m0)) : mj_S1 yX11_run cX11_run 5 (some .int) 11 G [mj_r (β, 0), .inl a1] (va_up M β m) (some (.inl x0)) (va_up M β m0) := by
  refine mj_intro (by decide) (Nat.le_of_ble_eq_true rfl) ?_
  intro κ C hG hR hT
  subst hG
  have C : mj_C κ cX11_run 5 RX11 := C
  show mj_R κ (mj_F κ (fun r M' => r = (some (.inl x0)) ∧ M' = (va_up M β m0) ∧ mj_bb (some .int) (some (.inl x0)))) 0 [some (mj_r (β, 0)), some (.inl a1), none, none, none] [] (va_up M β m)
  unfold f_X11_run at h
  refine mj_aload_n C dX11_run_0 rfl ?_
  refine mj_iconst (v := 0) C dX11_run_1 (by decide) ?_
  obtain ⟨m17, hm17, h⟩ := mj_let_o h
  refine mj_bput C lF_X11_41 fP_12_0 (vp_nar_int _) rfl (sM0 hB) rfl dX11_run_2 hm17 ?_
  refine mj_aload_n C dX11_run_5 rfl ?_
  refine mj_iload_n C dX11_run_6 rfl ?_
  refine mj_iconst (v := 1) C dX11_run_7 (by decide) ?_
  refine mj_bipush (v := 24) C dX11_run_8 (by decide) ?_
  obtain ⟨r18, er18, h⟩ := mj_let_o h
  refine mj_callV1 (av := [.inl a1, .inl 1, .inl 24]) C lM_X11_48 lV_X11_isIn (sM0 hB) ⟨_, rfl, rfl⟩ rfl (C_X11_isIn hB er18) (mj_rmok hR (by decide) (by decide)) rfl (Nat.le_of_ble_eq_true rfl) dX11_run_10 (fun hb19 => ?_)
  refine mj_if_ne (tgt := 18) C dX11_run_13 (by decide) (fun c20 => ?_) (fun c20 => ?_)
  · replace h := mj_if_f c20 h
    refine mj_iconst (v := 0) C dX11_run_18 (by decide) ?_
    refine mj_istore_n (L2 := [some (mj_r (β, 0)), some (.inl a1), some (.inl 0), none, none]) C dX11_run_19 (Nat.le_of_ble_eq_true rfl) rfl ?_
    refine mj_iconst (v := 0) C dX11_run_20 (by decide) ?_
    refine mj_istore_n (L2 := [some (mj_r (β, 0)), some (.inl a1), some (.inl 0), some (.inl 0), none]) C dX11_run_21 (Nat.le_of_ble_eq_true rfl) rfl ?_
    obtain ⟨x21, m22, hl23, h⟩ := mj_b2_o h
    refine mj_sub (L' := [some (mj_r (β, 0)), some (.inl a1), some (.inl 0), some (.inl 0), none]) ⟨rfl, ⟨rfl, ⟨rfl, ⟨rfl, trivial⟩⟩⟩⟩ ?_
    refine C_X11_run_L22 C hB hR _ _ _ _ _ _ hl23 ?_
    refine mj_iload_n C dX11_run_91 rfl ?_
    cases h
    exact mj_iret C hT (vp_nar_int _) dX11_run_92 ⟨rfl, rfl, mj_bi _⟩
  · replace h := mj_if_t c20 h
    refine mj_iconst (v := (-1)) C dX11_run_16 (by decide) ?_
    cases h
    exact mj_iret C hT (vp_nar_int _) dX11_run_17 ⟨rfl, rfl, mj_bi _⟩
def f_X11_image_L25 (l1 : Int32) : Nat → Int32 → mj_m → Option (mj_m)
  | 0, _, _ => none
  | n + 1, l2, m => if 1897 ≤ l2 then (some m) else (if l1 = 0 then (mj_chk (mj_ok l2 1946) (mj_chk (mj_ok l2 1897) (mj_let (mj_wrs m 1 (mj_cl l2) (m 9 (mj_cl l2))) (fun m5 => mj_let (l2 + 1) (fun x6 => f_X11_image_L25 l1 n x6 m5))))) else (mj_chk (mj_ok l2 1897) (mj_chk (mj_ok l2 1946) (mj_let (mj_wrs m 9 (mj_cl l2) (m 1 (mj_cl l2))) (fun m9 => mj_let (l2 + 1) (fun x10 => f_X11_image_L25 l1 n x10 m9))))))
set_option maxHeartbeats 4000000 in
set_option maxRecDepth 20000 in
theorem C_X11_image_L25 {κ : mj_K} {Q : State → Prop} {β : Nat} {M : mj_M} {l1 : Int32} (C : mj_C κ cX11_image 3 RX11) (hB : mj_isM (mj_g κ) β) (hR : mj_dp κ 0) : ∀ (n : Nat) (l2 : Int32) (m : mj_m) (mo : mj_m), f_X11_image_L25 l1 n l2 m = some mo → (mj_R κ Q 69 [some (mj_r (β, 0)), some (.inl l1), none] [] (va_up M β mo)) → mj_R κ Q 25 [some (mj_r (β, 0)), some (.inl l1), some (.inl l2)] [] (va_up M β m) := by
  intro n
  induction n with
  | zero =>
    intro l2 m mo h
    cases h
  | succ n ih =>
    intro l2 m mo h hx69
    rw [f_X11_image_L25] at h
    refine mj_iload_n C dX11_image_25 rfl ?_
    refine mj_sipush (v := 1897) C dX11_image_26 (by decide) ?_
    refine mj_icmp_ge (tgt := 69) C dX11_image_29 (by decide) (fun c1 => ?_) (fun c1 => ?_)
    · replace h := mj_if_t c1 h
      cases h
      refine mj_sub ?_ (hx69)
      exact ⟨rfl, ⟨rfl, trivial⟩⟩
    · replace h := mj_if_f c1 h
      refine mj_iload_n C dX11_image_32 rfl ?_
      refine mj_if_eq (tgt := 51) C dX11_image_33 (by decide) (fun c2 => ?_) (fun c2 => ?_)
      · replace h := mj_if_t c2 h
        refine mj_aload_n C dX11_image_51 rfl ?_
        refine mj_getr (r := (β, 1)) C lF_X11_7 (sM0 hB) rfl dX11_image_52 ?_
        refine mj_iload_n C dX11_image_55 rfl ?_
        refine mj_aload_n C dX11_image_56 rfl ?_
        refine mj_getr (r := (β, 9)) C lF_X11_38 (sM0 hB) rfl dX11_image_57 ?_
        refine mj_iload_n C dX11_image_60 rfl ?_
        obtain ⟨k3, h⟩ := mj_chk_o h
        refine mj_bald C (sM9 hB) k3 rfl dX11_image_61 ?_
        obtain ⟨k4, h⟩ := mj_chk_o h
        obtain ⟨m5, hm5, h⟩ := mj_let_o h
        refine mj_bast C (sM1 hB) k4 rfl dX11_image_62 hm5 ?_
        obtain ⟨x6, hx6, h⟩ := mj_let_o h
        refine mj_iinc (L2 := [some (mj_r (β, 0)), some (.inl l1), some (.inl x6)]) C dX11_image_63 rfl hx6 rfl ?_
        refine mj_goto (tgt := 25) C dX11_image_66 (by decide) ?_
        refine mj_sub (L' := [some (mj_r (β, 0)), some (.inl l1), some (.inl x6)]) ⟨rfl, ⟨rfl, ⟨rfl, trivial⟩⟩⟩ ?_
        exact ih _ _ _ h hx69
      · replace h := mj_if_f c2 h
        refine mj_aload_n C dX11_image_36 rfl ?_
        refine mj_getr (r := (β, 9)) C lF_X11_38 (sM0 hB) rfl dX11_image_37 ?_
        refine mj_iload_n C dX11_image_40 rfl ?_
        refine mj_aload_n C dX11_image_41 rfl ?_
        refine mj_getr (r := (β, 1)) C lF_X11_7 (sM0 hB) rfl dX11_image_42 ?_
        refine mj_iload_n C dX11_image_45 rfl ?_
        obtain ⟨k7, h⟩ := mj_chk_o h
        refine mj_bald C (sM1 hB) k7 rfl dX11_image_46 ?_
        obtain ⟨k8, h⟩ := mj_chk_o h
        obtain ⟨m9, hm9, h⟩ := mj_let_o h
        refine mj_bast C (sM9 hB) k8 rfl dX11_image_47 hm9 ?_
        refine mj_goto (tgt := 63) C dX11_image_48 (by decide) ?_
        obtain ⟨x10, hx10, h⟩ := mj_let_o h
        refine mj_iinc (L2 := [some (mj_r (β, 0)), some (.inl l1), some (.inl x10)]) C dX11_image_63 rfl hx10 rfl ?_
        refine mj_goto (tgt := 25) C dX11_image_66 (by decide) ?_
        refine mj_sub (L' := [some (mj_r (β, 0)), some (.inl l1), some (.inl x10)]) ⟨rfl, ⟨rfl, ⟨rfl, trivial⟩⟩⟩ ?_
        exact ih _ _ _ h hx69
def f_X11_image_L71 (l1 : Int32) : Nat → Int32 → mj_m → Option (mj_m)
  | 0, _, _ => none
  | n + 1, l2, m => if 48 ≤ l2 then (some m) else (if l1 = 0 then (mj_chk (mj_ok (1897 + l2) 1946) (mj_chk (mj_ok l2 96) (mj_let (mj_wrs m 8 (mj_cl l2) (m 9 (mj_cl (1897 + l2)))) (fun m15 => mj_let (l2 + 1) (fun x16 => f_X11_image_L71 l1 n x16 m15))))) else (mj_chk (mj_ok l2 96) (mj_chk (mj_ok (1897 + l2) 1946) (mj_let (mj_wrs m 9 (mj_cl (1897 + l2)) (m 8 (mj_cl l2))) (fun m19 => mj_let (l2 + 1) (fun x20 => f_X11_image_L71 l1 n x20 m19))))))
set_option maxHeartbeats 4000000 in
set_option maxRecDepth 20000 in
theorem C_X11_image_L71 {κ : mj_K} {Q : State → Prop} {β : Nat} {M : mj_M} {l1 : Int32} (C : mj_C κ cX11_image 3 RX11) (hB : mj_isM (mj_g κ) β) (hR : mj_dp κ 0) : ∀ (n : Nat) (l2 : Int32) (m : mj_m) (mo : mj_m), f_X11_image_L71 l1 n l2 m = some mo → (mj_R κ Q 122 [some (mj_r (β, 0)), some (.inl l1), none] [] (va_up M β mo)) → mj_R κ Q 71 [some (mj_r (β, 0)), some (.inl l1), some (.inl l2)] [] (va_up M β m) := by
  intro n
  induction n with
  | zero =>
    intro l2 m mo h
    cases h
  | succ n ih =>
    intro l2 m mo h hx122
    rw [f_X11_image_L71] at h
    refine mj_iload_n C dX11_image_71 rfl ?_
    refine mj_bipush (v := 48) C dX11_image_72 (by decide) ?_
    refine mj_icmp_ge (tgt := 122) C dX11_image_74 (by decide) (fun c11 => ?_) (fun c11 => ?_)
    · replace h := mj_if_t c11 h
      cases h
      refine mj_sub ?_ (hx122)
      exact ⟨rfl, ⟨rfl, trivial⟩⟩
    · replace h := mj_if_f c11 h
      refine mj_iload_n C dX11_image_77 rfl ?_
      refine mj_if_eq (tgt := 100) C dX11_image_78 (by decide) (fun c12 => ?_) (fun c12 => ?_)
      · replace h := mj_if_t c12 h
        refine mj_aload_n C dX11_image_100 rfl ?_
        refine mj_getr (r := (β, 8)) C lF_X11_35 (sM0 hB) rfl dX11_image_101 ?_
        refine mj_iload_n C dX11_image_104 rfl ?_
        refine mj_aload_n C dX11_image_105 rfl ?_
        refine mj_getr (r := (β, 9)) C lF_X11_38 (sM0 hB) rfl dX11_image_106 ?_
        refine mj_sipush (v := 1897) C dX11_image_109 (by decide) ?_
        refine mj_iload_n C dX11_image_112 rfl ?_
        refine mj_iadd C dX11_image_113 ?_
        obtain ⟨k13, h⟩ := mj_chk_o h
        refine mj_bald C (sM9 hB) k13 rfl dX11_image_114 ?_
        obtain ⟨k14, h⟩ := mj_chk_o h
        obtain ⟨m15, hm15, h⟩ := mj_let_o h
        refine mj_bast C (sM8 hB) k14 rfl dX11_image_115 hm15 ?_
        obtain ⟨x16, hx16, h⟩ := mj_let_o h
        refine mj_iinc (L2 := [some (mj_r (β, 0)), some (.inl l1), some (.inl x16)]) C dX11_image_116 rfl hx16 rfl ?_
        refine mj_goto (tgt := 71) C dX11_image_119 (by decide) ?_
        refine mj_sub (L' := [some (mj_r (β, 0)), some (.inl l1), some (.inl x16)]) ⟨rfl, ⟨rfl, ⟨rfl, trivial⟩⟩⟩ ?_
        exact ih _ _ _ h hx122
      · replace h := mj_if_f c12 h
        refine mj_aload_n C dX11_image_81 rfl ?_
        refine mj_getr (r := (β, 9)) C lF_X11_38 (sM0 hB) rfl dX11_image_82 ?_
        refine mj_sipush (v := 1897) C dX11_image_85 (by decide) ?_
        refine mj_iload_n C dX11_image_88 rfl ?_
        refine mj_iadd C dX11_image_89 ?_
        refine mj_aload_n C dX11_image_90 rfl ?_
        refine mj_getr (r := (β, 8)) C lF_X11_35 (sM0 hB) rfl dX11_image_91 ?_
        refine mj_iload_n C dX11_image_94 rfl ?_
        obtain ⟨k17, h⟩ := mj_chk_o h
        refine mj_bald C (sM8 hB) k17 rfl dX11_image_95 ?_
        obtain ⟨k18, h⟩ := mj_chk_o h
        obtain ⟨m19, hm19, h⟩ := mj_let_o h
        refine mj_bast C (sM9 hB) k18 rfl dX11_image_96 hm19 ?_
        refine mj_goto (tgt := 116) C dX11_image_97 (by decide) ?_
        obtain ⟨x20, hx20, h⟩ := mj_let_o h
        refine mj_iinc (L2 := [some (mj_r (β, 0)), some (.inl l1), some (.inl x20)]) C dX11_image_116 rfl hx20 rfl ?_
        refine mj_goto (tgt := 71) C dX11_image_119 (by decide) ?_
        refine mj_sub (L' := [some (mj_r (β, 0)), some (.inl l1), some (.inl x20)]) ⟨rfl, ⟨rfl, ⟨rfl, trivial⟩⟩⟩ ?_
        exact ih _ _ _ h hx122
def f_X11_image_J18 (l1 : Int32) (m : mj_m) : Option (Int32 × mj_m) := mj_let (mj_wrs m 0 21 1) (fun m21 => mj_b1 (f_X11_image_L25 l1 mj_fu 0 m21) (fun m22 => mj_b1 (f_X11_image_L71 l1 mj_fu 0 m22) (fun m24 => if l1 = 0 then (mj_let (mj_wrs m24 0 19 (m24 9 1945)) (fun m27 => some (1, m27))) else (mj_let (mj_wrs m24 9 1945 (m24 0 19)) (fun m28 => some (1, m28))))))
set_option maxHeartbeats 4000000 in
set_option maxRecDepth 20000 in
theorem C_X11_image_J18 {κ : mj_K} {β : Nat} {M : mj_M} {l1 : Int32} {m : mj_m} {x0 : Int32} {m0 : mj_m} (C : mj_C κ cX11_image 3 RX11) (hB : mj_isM (mj_g κ) β) (hR : mj_dp κ 0) (hT : mj_rt κ = (some .boolean)) (h : f_X11_image_J18 l1 m = some (x0, m0)) : mj_R κ (mj_F κ (fun r M' => r = (some (.inl x0)) ∧ M' = (va_up M β m0) ∧ mj_bb (some .boolean) (some (.inl x0)))) 18 [some (mj_r (β, 0)), some (.inl l1), none] [] (va_up M β m) := by
  unfold f_X11_image_J18 at h
  refine mj_aload_n C dX11_image_18 rfl ?_
  refine mj_iconst (v := 1) C dX11_image_19 (by decide) ?_
  obtain ⟨m21, hm21, h⟩ := mj_let_o h
  refine mj_bput C lF_X11_400 fP_12_21 rfl rfl (sM0 hB) rfl dX11_image_20 hm21 ?_
  refine mj_iconst (v := 0) C dX11_image_23 (by decide) ?_
  refine mj_istore_n (L2 := [some (mj_r (β, 0)), some (.inl l1), some (.inl 0)]) C dX11_image_24 (Nat.le_of_ble_eq_true rfl) rfl ?_
  obtain ⟨m22, hl23, h⟩ := mj_b1_o h
  refine mj_sub (L' := [some (mj_r (β, 0)), some (.inl l1), some (.inl 0)]) ⟨rfl, ⟨rfl, ⟨rfl, trivial⟩⟩⟩ ?_
  refine C_X11_image_L25 C hB hR _ _ _ _ hl23 ?_
  refine mj_iconst (v := 0) C dX11_image_69 (by decide) ?_
  refine mj_istore_n (L2 := [some (mj_r (β, 0)), some (.inl l1), some (.inl 0)]) C dX11_image_70 (Nat.le_of_ble_eq_true rfl) rfl ?_
  obtain ⟨m24, hl25, h⟩ := mj_b1_o h
  refine mj_sub (L' := [some (mj_r (β, 0)), some (.inl l1), some (.inl 0)]) ⟨rfl, ⟨rfl, ⟨rfl, trivial⟩⟩⟩ ?_
  refine C_X11_image_L71 C hB hR _ _ _ _ hl25 ?_
  refine mj_iload_n C dX11_image_122 rfl ?_
  refine mj_if_eq (tgt := 141) C dX11_image_123 (by decide) (fun c26 => ?_) (fun c26 => ?_)
  · replace h := mj_if_t c26 h
    refine mj_aload_n C dX11_image_141 rfl ?_
    refine mj_aload_n C dX11_image_142 rfl ?_
    refine mj_getr (r := (β, 9)) C lF_X11_38 (sM0 hB) rfl dX11_image_143 ?_
    refine mj_sipush (v := 1945) C dX11_image_146 (by decide) ?_
    refine mj_bald C (sM9 hB) (mj_okn 1945 1946 (Nat.le_of_ble_eq_true rfl) (Nat.le_of_ble_eq_true rfl)) (mj_cln 1945 (Nat.le_of_ble_eq_true rfl)) dX11_image_149 ?_
    obtain ⟨m27, hm27, h⟩ := mj_let_o h
    refine mj_bput C lF_X11_321 fP_12_19 (vp_nar_int _) rfl (sM0 hB) rfl dX11_image_150 hm27 ?_
    refine mj_iconst (v := 1) C dX11_image_153 (by decide) ?_
    cases h
    exact mj_iret C hT (mj_nb mj_b1') dX11_image_154 ⟨rfl, rfl, mj_b1'⟩
  · replace h := mj_if_f c26 h
    refine mj_aload_n C dX11_image_126 rfl ?_
    refine mj_getr (r := (β, 9)) C lF_X11_38 (sM0 hB) rfl dX11_image_127 ?_
    refine mj_sipush (v := 1945) C dX11_image_130 (by decide) ?_
    refine mj_aload_n C dX11_image_133 rfl ?_
    refine mj_bget C lF_X11_321 (sM0 hB) rfl dX11_image_134 ?_
    obtain ⟨m28, hm28, h⟩ := mj_let_o h
    refine mj_bast C (sM9 hB) (mj_okn 1945 1946 (Nat.le_of_ble_eq_true rfl) (Nat.le_of_ble_eq_true rfl)) (mj_cln 1945 (Nat.le_of_ble_eq_true rfl)) dX11_image_137 hm28 ?_
    refine mj_goto (tgt := 153) C dX11_image_138 (by decide) ?_
    refine mj_iconst (v := 1) C dX11_image_153 (by decide) ?_
    cases h
    exact mj_iret C hT (mj_nb mj_b1') dX11_image_154 ⟨rfl, rfl, mj_b1'⟩
def f_X11_image (a1 : Int32) (m : mj_m) : Option (Int32 × mj_m) := mj_let (mj_wrs m 0 0 0) (fun m29 => if a1 = 0 then (if m29 0 21 = 0 then (some (0, m29)) else (f_X11_image_J18 a1 m29)) else (f_X11_image_J18 a1 m29))
set_option maxHeartbeats 4000000 in
set_option maxRecDepth 20000 in
theorem C_X11_image {G : mj_G} {β : Nat} {M : mj_M} {a1 : Int32} {m : mj_m} {x0 : Int32} {m0 : mj_m} (hB : mj_isM G β) (h : f_X11_image a1 m = some (x0, m0)) : mj_S1 yX11_image cX11_image 3 (some .boolean) 0 G [mj_r (β, 0), .inl a1] (va_up M β m) (some (.inl x0)) (va_up M β m0) := by
  refine mj_intro (by decide) (Nat.le_of_ble_eq_true rfl) ?_
  intro κ C hG hR hT
  subst hG
  have C : mj_C κ cX11_image 3 RX11 := C
  show mj_R κ (mj_F κ (fun r M' => r = (some (.inl x0)) ∧ M' = (va_up M β m0) ∧ mj_bb (some .boolean) (some (.inl x0)))) 0 [some (mj_r (β, 0)), some (.inl a1), none] [] (va_up M β m)
  unfold f_X11_image at h
  refine mj_aload_n C dX11_image_0 rfl ?_
  refine mj_iconst (v := 0) C dX11_image_1 (by decide) ?_
  obtain ⟨m29, hm29, h⟩ := mj_let_o h
  refine mj_bput C lF_X11_41 fP_12_0 (vp_nar_int _) rfl (sM0 hB) rfl dX11_image_2 hm29 ?_
  refine mj_iload_n C dX11_image_5 rfl ?_
  refine mj_if_ne (tgt := 18) C dX11_image_6 (by decide) (fun c30 => ?_) (fun c30 => ?_)
  · replace h := mj_if_f c30 h
    refine mj_sub (L' := [some (mj_r (β, 0)), some (.inl a1), none]) ⟨rfl, ⟨rfl, trivial⟩⟩ ?_
    exact C_X11_image_J18 C hB hR hT h
  · replace h := mj_if_t c30 h
    refine mj_aload_n C dX11_image_9 rfl ?_
    refine mj_bget C lF_X11_400 (sM0 hB) rfl dX11_image_10 ?_
    refine mj_if_ne (tgt := 18) C dX11_image_13 (by decide) (fun c31 => ?_) (fun c31 => ?_)
    · replace h := mj_if_f c31 h
      refine mj_sub (L' := [some (mj_r (β, 0)), some (.inl a1), none]) ⟨rfl, ⟨rfl, trivial⟩⟩ ?_
      exact C_X11_image_J18 C hB hR hT h
    · replace h := mj_if_t c31 h
      refine mj_iconst (v := 0) C dX11_image_16 (by decide) ?_
      cases h
      exact mj_iret C hT (mj_nb mj_b0) dX11_image_17 ⟨rfl, rfl, mj_b0⟩
