def f_X11_isIn (a1 : Int32) (a2 : Int32) (a3 : Int32) : Int32 := if a1 < a2 then (0) else (if a3 < a1 then (0) else (1))
set_option maxHeartbeats 4000000 in
set_option maxRecDepth 20000 in
theorem C_X11_isIn {G : mj_G} {β : Nat} {M : mj_M} {a1 : Int32} {a2 : Int32} {a3 : Int32} {m : mj_m} {x0 : Int32} (hB : mj_isM G β) (h : f_X11_isIn a1 a2 a3 = x0) : mj_S1 yX11_isIn cX11_isIn 4 (some .boolean) 0 G [mj_r (β, 0), .inl a1, .inl a2, .inl a3] (va_up M β m) (some (.inl x0)) (va_up M β m) := by
  refine mj_intro (by decide) (Nat.le_of_ble_eq_true rfl) ?_
  intro κ C hG hR hT
  subst hG
  have C : mj_C κ cX11_isIn 4 RX11 := C
  show mj_R κ (mj_F κ (fun r M' => r = (some (.inl x0)) ∧ M' = (va_up M β m) ∧ mj_bb (some .boolean) (some (.inl x0)))) 0 [some (mj_r (β, 0)), some (.inl a1), some (.inl a2), some (.inl a3)] [] (va_up M β m)
  unfold f_X11_isIn at h
  refine mj_iload_n C dX11_isIn_0 rfl ?_
  refine mj_iload_n C dX11_isIn_1 rfl ?_
  refine mj_icmp_lt (tgt := 14) C dX11_isIn_2 (by decide) (fun c1 => ?_) (fun c1 => ?_)
  · replace h := mj_if_t c1 h
    refine mj_iconst (v := 0) C dX11_isIn_14 (by decide) ?_
    cases h
    exact mj_iret C hT (mj_nb mj_b0) dX11_isIn_15 ⟨rfl, rfl, mj_b0⟩
  · replace h := mj_if_f c1 h
    refine mj_iload_n C dX11_isIn_5 rfl ?_
    refine mj_iload_n C dX11_isIn_6 rfl ?_
    refine mj_icmp_gt (tgt := 14) C dX11_isIn_7 (by decide) (fun c2 => ?_) (fun c2 => ?_)
    · replace h := mj_if_t c2 h
      refine mj_iconst (v := 0) C dX11_isIn_14 (by decide) ?_
      cases h
      exact mj_iret C hT (mj_nb mj_b0) dX11_isIn_15 ⟨rfl, rfl, mj_b0⟩
    · replace h := mj_if_f c2 h
      refine mj_iconst (v := 1) C dX11_isIn_10 (by decide) ?_
      refine mj_goto (tgt := 15) C dX11_isIn_11 (by decide) ?_
      cases h
      exact mj_iret C hT (mj_nb mj_b1') dX11_isIn_15 ⟨rfl, rfl, mj_b1'⟩
def f_X11_round (a1 : Int32) : Int32 := (a1 &&& 255)
set_option maxHeartbeats 4000000 in
set_option maxRecDepth 20000 in
theorem C_X11_round {G : mj_G} {β : Nat} {M : mj_M} {a1 : Int32} {m : mj_m} {x0 : Int32} (hB : mj_isM G β) (h : f_X11_round a1 = x0) : mj_S1 yX11_round cX11_round 2 (some .int) 0 G [mj_r (β, 0), .inl a1] (va_up M β m) (some (.inl x0)) (va_up M β m) := by
  refine mj_intro (by decide) (Nat.le_of_ble_eq_true rfl) ?_
  intro κ C hG hR hT
  subst hG
  have C : mj_C κ cX11_round 2 RX11 := C
  show mj_R κ (mj_F κ (fun r M' => r = (some (.inl x0)) ∧ M' = (va_up M β m) ∧ mj_bb (some .int) (some (.inl x0)))) 0 [some (mj_r (β, 0)), some (.inl a1)] [] (va_up M β m)
  unfold f_X11_round at h
  refine mj_iload_n C dX11_round_0 rfl ?_
  refine mj_sipush (v := 255) C dX11_round_1 (by decide) ?_
  refine mj_iand C dX11_round_4 ?_
  cases h
  exact mj_iret C hT (vp_nar_int _) dX11_round_5 ⟨rfl, rfl, mj_bi _⟩
def f_X11_more (a1 : Int32) (m : mj_m) : Option (mj_m) := mj_chk (mj_ok a1 1897) (mj_chk (mj_ok a1 1897) (mj_let (mj_wrs m 1 (mj_cl a1) ((m 1 (mj_cl a1)) + 1)) (fun m3 => some m3)))
set_option maxHeartbeats 4000000 in
set_option maxRecDepth 20000 in
theorem C_X11_more {G : mj_G} {β : Nat} {M : mj_M} {a1 : Int32} {m : mj_m} {m0 : mj_m} (hB : mj_isM G β) (h : f_X11_more a1 m = some m0) : mj_S1 yX11_more cX11_more 2 none 0 G [mj_r (β, 0), .inl a1] (va_up M β m) none (va_up M β m0) := by
  refine mj_intro (by decide) (Nat.le_of_ble_eq_true rfl) ?_
  intro κ C hG hR hT
  subst hG
  have C : mj_C κ cX11_more 2 RX11 := C
  show mj_R κ (mj_F κ (fun r M' => r = none ∧ M' = (va_up M β m0) ∧ mj_bb none none)) 0 [some (mj_r (β, 0)), some (.inl a1)] [] (va_up M β m)
  unfold f_X11_more at h
  refine mj_aload_n C dX11_more_0 rfl ?_
  refine mj_getr (r := (β, 1)) C lF_X11_7 (sM0 hB) rfl dX11_more_1 ?_
  refine mj_iload_n C dX11_more_4 rfl ?_
  refine mj_aload_n C dX11_more_5 rfl ?_
  refine mj_getr (r := (β, 1)) C lF_X11_7 (sM0 hB) rfl dX11_more_6 ?_
  refine mj_iload_n C dX11_more_9 rfl ?_
  obtain ⟨k1, h⟩ := mj_chk_o h
  refine mj_bald C (sM1 hB) k1 rfl dX11_more_10 ?_
  refine mj_iconst (v := 1) C dX11_more_11 (by decide) ?_
  refine mj_iadd C dX11_more_12 ?_
  obtain ⟨k2, h⟩ := mj_chk_o h
  obtain ⟨m3, hm3, h⟩ := mj_let_o h
  refine mj_bast C (sM1 hB) k2 rfl dX11_more_13 hm3 ?_
  cases h
  exact mj_vret C hT dX11_more_14 ⟨rfl, rfl, mj_bv _⟩
def f_X11_firstOf (a1 : Int32) : Int32 := if a1 = 0 then (10) else (if a1 = 4 then (12) else (if a1 = 10 then (4) else (if a1 = 1 then (3) else (if a1 = 2 then (3) else (if a1 = 3 then (3) else (if a1 = 6 then (3) else (if a1 = 7 then (3) else (0))))))))
set_option maxHeartbeats 4000000 in
set_option maxRecDepth 20000 in
theorem C_X11_firstOf {G : mj_G} {β : Nat} {M : mj_M} {a1 : Int32} {m : mj_m} {x0 : Int32} (hB : mj_isM G β) (h : f_X11_firstOf a1 = x0) : mj_S1 yX11_firstOf cX11_firstOf 2 (some .int) 0 G [mj_r (β, 0), .inl a1] (va_up M β m) (some (.inl x0)) (va_up M β m) := by
  refine mj_intro (by decide) (Nat.le_of_ble_eq_true rfl) ?_
  intro κ C hG hR hT
  subst hG
  have C : mj_C κ cX11_firstOf 2 RX11 := C
  show mj_R κ (mj_F κ (fun r M' => r = (some (.inl x0)) ∧ M' = (va_up M β m) ∧ mj_bb (some .int) (some (.inl x0)))) 0 [some (mj_r (β, 0)), some (.inl a1)] [] (va_up M β m)
  unfold f_X11_firstOf at h
  refine mj_iload_n C dX11_firstOf_0 rfl ?_
  refine mj_if_ne (tgt := 7) C dX11_firstOf_1 (by decide) (fun c1 => ?_) (fun c1 => ?_)
  · replace h := mj_if_f c1 h
    refine mj_iload_n C dX11_firstOf_7 rfl ?_
    refine mj_iconst (v := 4) C dX11_firstOf_8 (by decide) ?_
    refine mj_icmp_ne (tgt := 15) C dX11_firstOf_9 (by decide) (fun c2 => ?_) (fun c2 => ?_)
    · replace h := mj_if_f c2 h
      refine mj_iload_n C dX11_firstOf_15 rfl ?_
      refine mj_bipush (v := 10) C dX11_firstOf_16 (by decide) ?_
      refine mj_icmp_ne (tgt := 23) C dX11_firstOf_18 (by decide) (fun c3 => ?_) (fun c3 => ?_)
      · replace h := mj_if_f c3 h
        refine mj_iload_n C dX11_firstOf_23 rfl ?_
        refine mj_iconst (v := 1) C dX11_firstOf_24 (by decide) ?_
        refine mj_icmp_eq (tgt := 50) C dX11_firstOf_25 (by decide) (fun c4 => ?_) (fun c4 => ?_)
        · replace h := mj_if_t c4 h
          refine mj_iconst (v := 3) C dX11_firstOf_50 (by decide) ?_
          refine mj_goto (tgt := 55) C dX11_firstOf_51 (by decide) ?_
          cases h
          exact mj_iret C hT (vp_nar_int _) dX11_firstOf_55 ⟨rfl, rfl, mj_bi _⟩
        · replace h := mj_if_f c4 h
          refine mj_iload_n C dX11_firstOf_28 rfl ?_
          refine mj_iconst (v := 2) C dX11_firstOf_29 (by decide) ?_
          refine mj_icmp_eq (tgt := 50) C dX11_firstOf_30 (by decide) (fun c5 => ?_) (fun c5 => ?_)
          · replace h := mj_if_t c5 h
            refine mj_iconst (v := 3) C dX11_firstOf_50 (by decide) ?_
            refine mj_goto (tgt := 55) C dX11_firstOf_51 (by decide) ?_
            cases h
            exact mj_iret C hT (vp_nar_int _) dX11_firstOf_55 ⟨rfl, rfl, mj_bi _⟩
          · replace h := mj_if_f c5 h
            refine mj_iload_n C dX11_firstOf_33 rfl ?_
            refine mj_iconst (v := 3) C dX11_firstOf_34 (by decide) ?_
            refine mj_icmp_eq (tgt := 50) C dX11_firstOf_35 (by decide) (fun c6 => ?_) (fun c6 => ?_)
            · replace h := mj_if_t c6 h
              refine mj_iconst (v := 3) C dX11_firstOf_50 (by decide) ?_
              refine mj_goto (tgt := 55) C dX11_firstOf_51 (by decide) ?_
              cases h
              exact mj_iret C hT (vp_nar_int _) dX11_firstOf_55 ⟨rfl, rfl, mj_bi _⟩
            · replace h := mj_if_f c6 h
              refine mj_iload_n C dX11_firstOf_38 rfl ?_
              refine mj_bipush (v := 6) C dX11_firstOf_39 (by decide) ?_
              refine mj_icmp_eq (tgt := 50) C dX11_firstOf_41 (by decide) (fun c7 => ?_) (fun c7 => ?_)
              · replace h := mj_if_t c7 h
                refine mj_iconst (v := 3) C dX11_firstOf_50 (by decide) ?_
                refine mj_goto (tgt := 55) C dX11_firstOf_51 (by decide) ?_
                cases h
                exact mj_iret C hT (vp_nar_int _) dX11_firstOf_55 ⟨rfl, rfl, mj_bi _⟩
              · replace h := mj_if_f c7 h
                refine mj_iload_n C dX11_firstOf_44 rfl ?_
                refine mj_bipush (v := 7) C dX11_firstOf_45 (by decide) ?_
                refine mj_icmp_ne (tgt := 54) C dX11_firstOf_47 (by decide) (fun c8 => ?_) (fun c8 => ?_)
                · replace h := mj_if_f c8 h
                  refine mj_iconst (v := 0) C dX11_firstOf_54 (by decide) ?_
                  cases h
                  exact mj_iret C hT (vp_nar_int _) dX11_firstOf_55 ⟨rfl, rfl, mj_bi _⟩
                · replace h := mj_if_t c8 h
                  refine mj_iconst (v := 3) C dX11_firstOf_50 (by decide) ?_
                  refine mj_goto (tgt := 55) C dX11_firstOf_51 (by decide) ?_
                  cases h
                  exact mj_iret C hT (vp_nar_int _) dX11_firstOf_55 ⟨rfl, rfl, mj_bi _⟩
      · replace h := mj_if_t c3 h
        refine mj_iconst (v := 4) C dX11_firstOf_21 (by decide) ?_
        cases h
        exact mj_iret C hT (vp_nar_int _) dX11_firstOf_22 ⟨rfl, rfl, mj_bi _⟩
    · replace h := mj_if_t c2 h
      refine mj_bipush (v := 12) C dX11_firstOf_12 (by decide) ?_
      cases h
      exact mj_iret C hT (vp_nar_int _) dX11_firstOf_14 ⟨rfl, rfl, mj_bi _⟩
  · replace h := mj_if_t c1 h
    refine mj_bipush (v := 10) C dX11_firstOf_4 (by decide) ?_
    cases h
    exact mj_iret C hT (vp_nar_int _) dX11_firstOf_6 ⟨rfl, rfl, mj_bi _⟩
def f_X11_settingOf (a1 : Int32) (m : mj_m) : Option (Int32) := mj_chk (mj_ok a1 1897) (mj_let (f_X11_firstOf a1) (fun r2 => some ((m 1 (mj_cl a1)) + r2)))
set_option maxHeartbeats 4000000 in
set_option maxRecDepth 20000 in
theorem C_X11_settingOf {G : mj_G} {β : Nat} {M : mj_M} {a1 : Int32} {m : mj_m} {x0 : Int32} (hB : mj_isM G β) (h : f_X11_settingOf a1 m = some x0) : mj_S1 yX11_settingOf cX11_settingOf 2 (some .int) 1 G [mj_r (β, 0), .inl a1] (va_up M β m) (some (.inl x0)) (va_up M β m) := by
  refine mj_intro (by decide) (Nat.le_of_ble_eq_true rfl) ?_
  intro κ C hG hR hT
  subst hG
  have C : mj_C κ cX11_settingOf 2 RX11 := C
  show mj_R κ (mj_F κ (fun r M' => r = (some (.inl x0)) ∧ M' = (va_up M β m) ∧ mj_bb (some .int) (some (.inl x0)))) 0 [some (mj_r (β, 0)), some (.inl a1)] [] (va_up M β m)
  unfold f_X11_settingOf at h
  refine mj_aload_n C dX11_settingOf_0 rfl ?_
  refine mj_getr (r := (β, 1)) C lF_X11_7 (sM0 hB) rfl dX11_settingOf_1 ?_
  refine mj_iload_n C dX11_settingOf_4 rfl ?_
  obtain ⟨k1, h⟩ := mj_chk_o h
  refine mj_bald C (sM1 hB) k1 rfl dX11_settingOf_5 ?_
  refine mj_aload_n C dX11_settingOf_6 rfl ?_
  refine mj_iload_n C dX11_settingOf_7 rfl ?_
  obtain ⟨r2, er2, h⟩ := mj_let_o h
  refine mj_callV1 (av := [.inl a1]) C lM_X11_44 lV_X11_firstOf (sM0 hB) ⟨_, rfl, rfl⟩ rfl (C_X11_firstOf hB er2) (mj_rmok hR (by decide) (by decide)) rfl (Nat.le_of_ble_eq_true rfl) dX11_settingOf_8 (fun hb3 => ?_)
  refine mj_iadd C dX11_settingOf_11 ?_
  cases h
  exact mj_iret C hT (vp_nar_int _) dX11_settingOf_12 ⟨rfl, rfl, mj_bi _⟩
def f_X11_canSet (a1 : Int32) (a2 : Int32) (m : mj_m) : Int32 := if a1 = 0 then (mj_let (f_X11_isIn a2 2 200) (fun r33 => if r33 = 0 then (0) else (if mj_rem a2 2 = 0 then (1) else (0)))) else (if a1 = 1 then (mj_let (f_X11_isIn a2 0 8) (fun r31 => r31)) else (if a1 = 2 then (mj_let (f_X11_isIn a2 1 20) (fun r4 => r4)) else (if a1 = 10 then (mj_let (f_X11_isIn a2 1 20) (fun r29 => r29)) else (if a1 = 3 then (mj_let (f_X11_isIn a2 1 9) (fun r27 => r27)) else (if a1 = 4 then (mj_let (f_X11_isIn a2 1 99) (fun r25 => r25)) else (if a1 = 5 then (mj_let (f_X11_isIn a2 0 1) (fun r23 => r23)) else (if a1 = 6 then (mj_let (f_X11_isIn a2 1 40) (fun r11 => r11)) else (if a1 = 7 then (mj_let (f_X11_isIn a2 1 40) (fun r21 => r21)) else (if a1 = 8 then (mj_let (f_X11_isIn a2 0 (90 - (m 1 9))) (fun r19 => r19)) else (if a1 = 9 then (mj_let (f_X11_isIn a2 0 (90 - (m 1 8))) (fun r16 => if r16 = 0 then (0) else (1))) else (0)))))))))))
set_option maxHeartbeats 4000000 in
set_option maxRecDepth 20000 in
theorem C_X11_canSet {G : mj_G} {β : Nat} {M : mj_M} {a1 : Int32} {a2 : Int32} {m : mj_m} {x0 : Int32} (hB : mj_isM G β) (h : f_X11_canSet a1 a2 m = x0) : mj_S1 yX11_canSet cX11_canSet 3 (some .boolean) 1 G [mj_r (β, 0), .inl a1, .inl a2] (va_up M β m) (some (.inl x0)) (va_up M β m) := by
  refine mj_intro (by decide) (Nat.le_of_ble_eq_true rfl) ?_
  intro κ C hG hR hT
  subst hG
  have C : mj_C κ cX11_canSet 3 RX11 := C
  show mj_R κ (mj_F κ (fun r M' => r = (some (.inl x0)) ∧ M' = (va_up M β m) ∧ mj_bb (some .boolean) (some (.inl x0)))) 0 [some (mj_r (β, 0)), some (.inl a1), some (.inl a2)] [] (va_up M β m)
  unfold f_X11_canSet at h
  refine mj_iload_n C dX11_canSet_0 rfl ?_
  refine mj_if_ne (tgt := 28) C dX11_canSet_1 (by decide) (fun c1 => ?_) (fun c1 => ?_)
  · replace h := mj_if_f c1 h
    refine mj_iload_n C dX11_canSet_28 rfl ?_
    refine mj_iconst (v := 1) C dX11_canSet_29 (by decide) ?_
    refine mj_icmp_ne (tgt := 42) C dX11_canSet_30 (by decide) (fun c2 => ?_) (fun c2 => ?_)
    · replace h := mj_if_f c2 h
      refine mj_iload_n C dX11_canSet_42 rfl ?_
      refine mj_iconst (v := 2) C dX11_canSet_43 (by decide) ?_
      refine mj_icmp_eq (tgt := 53) C dX11_canSet_44 (by decide) (fun c3 => ?_) (fun c3 => ?_)
      · replace h := mj_if_t c3 h
        refine mj_aload_n C dX11_canSet_53 rfl ?_
        refine mj_iload_n C dX11_canSet_54 rfl ?_
        refine mj_iconst (v := 1) C dX11_canSet_55 (by decide) ?_
        refine mj_bipush (v := 20) C dX11_canSet_56 (by decide) ?_
        obtain ⟨r4, er4, h⟩ := mj_let_o h
        refine mj_callV1 (av := [.inl a2, .inl 1, .inl 20]) C lM_X11_48 lV_X11_isIn (sM0 hB) ⟨_, rfl, rfl⟩ rfl (C_X11_isIn hB er4) (mj_rmok hR (by decide) (by decide)) rfl (Nat.le_of_ble_eq_true rfl) dX11_canSet_58 (fun hb5 => ?_)
        cases h
        exact mj_iret C hT (mj_nb hb5) dX11_canSet_61 ⟨rfl, rfl, hb5⟩
      · replace h := mj_if_f c3 h
        refine mj_iload_n C dX11_canSet_47 rfl ?_
        refine mj_bipush (v := 10) C dX11_canSet_48 (by decide) ?_
        refine mj_icmp_ne (tgt := 62) C dX11_canSet_50 (by decide) (fun c6 => ?_) (fun c6 => ?_)
        · replace h := mj_if_f c6 h
          refine mj_iload_n C dX11_canSet_62 rfl ?_
          refine mj_iconst (v := 3) C dX11_canSet_63 (by decide) ?_
          refine mj_icmp_ne (tgt := 76) C dX11_canSet_64 (by decide) (fun c7 => ?_) (fun c7 => ?_)
          · replace h := mj_if_f c7 h
            refine mj_iload_n C dX11_canSet_76 rfl ?_
            refine mj_iconst (v := 4) C dX11_canSet_77 (by decide) ?_
            refine mj_icmp_ne (tgt := 90) C dX11_canSet_78 (by decide) (fun c8 => ?_) (fun c8 => ?_)
            · replace h := mj_if_f c8 h
              refine mj_iload_n C dX11_canSet_90 rfl ?_
              refine mj_iconst (v := 5) C dX11_canSet_91 (by decide) ?_
              refine mj_icmp_ne (tgt := 103) C dX11_canSet_92 (by decide) (fun c9 => ?_) (fun c9 => ?_)
              · replace h := mj_if_f c9 h
                refine mj_iload_n C dX11_canSet_103 rfl ?_
                refine mj_bipush (v := 6) C dX11_canSet_104 (by decide) ?_
                refine mj_icmp_eq (tgt := 115) C dX11_canSet_106 (by decide) (fun c10 => ?_) (fun c10 => ?_)
                · replace h := mj_if_t c10 h
                  refine mj_aload_n C dX11_canSet_115 rfl ?_
                  refine mj_iload_n C dX11_canSet_116 rfl ?_
                  refine mj_iconst (v := 1) C dX11_canSet_117 (by decide) ?_
                  refine mj_bipush (v := 40) C dX11_canSet_118 (by decide) ?_
                  obtain ⟨r11, er11, h⟩ := mj_let_o h
                  refine mj_callV1 (av := [.inl a2, .inl 1, .inl 40]) C lM_X11_48 lV_X11_isIn (sM0 hB) ⟨_, rfl, rfl⟩ rfl (C_X11_isIn hB er11) (mj_rmok hR (by decide) (by decide)) rfl (Nat.le_of_ble_eq_true rfl) dX11_canSet_120 (fun hb12 => ?_)
                  cases h
                  exact mj_iret C hT (mj_nb hb12) dX11_canSet_123 ⟨rfl, rfl, hb12⟩
                · replace h := mj_if_f c10 h
                  refine mj_iload_n C dX11_canSet_109 rfl ?_
                  refine mj_bipush (v := 7) C dX11_canSet_110 (by decide) ?_
                  refine mj_icmp_ne (tgt := 124) C dX11_canSet_112 (by decide) (fun c13 => ?_) (fun c13 => ?_)
                  · replace h := mj_if_f c13 h
                    refine mj_iload_n C dX11_canSet_124 rfl ?_
                    refine mj_bipush (v := 8) C dX11_canSet_125 (by decide) ?_
                    refine mj_icmp_ne (tgt := 147) C dX11_canSet_127 (by decide) (fun c14 => ?_) (fun c14 => ?_)
                    · replace h := mj_if_f c14 h
                      refine mj_iload_n C dX11_canSet_147 rfl ?_
                      refine mj_bipush (v := 9) C dX11_canSet_148 (by decide) ?_
                      refine mj_icmp_ne (tgt := 176) C dX11_canSet_150 (by decide) (fun c15 => ?_) (fun c15 => ?_)
                      · replace h := mj_if_f c15 h
                        refine mj_iconst (v := 0) C dX11_canSet_176 (by decide) ?_
                        cases h
                        exact mj_iret C hT (mj_nb mj_b0) dX11_canSet_177 ⟨rfl, rfl, mj_b0⟩
                      · replace h := mj_if_t c15 h
                        refine mj_aload_n C dX11_canSet_153 rfl ?_
                        refine mj_iload_n C dX11_canSet_154 rfl ?_
                        refine mj_iconst (v := 0) C dX11_canSet_155 (by decide) ?_
                        refine mj_bipush (v := 90) C dX11_canSet_156 (by decide) ?_
                        refine mj_aload_n C dX11_canSet_158 rfl ?_
                        refine mj_getr (r := (β, 1)) C lF_X11_7 (sM0 hB) rfl dX11_canSet_159 ?_
                        refine mj_bipush (v := 8) C dX11_canSet_162 (by decide) ?_
                        refine mj_bald C (sM1 hB) (mj_okn 8 1897 (Nat.le_of_ble_eq_true rfl) (Nat.le_of_ble_eq_true rfl)) (mj_cln 8 (Nat.le_of_ble_eq_true rfl)) dX11_canSet_164 ?_
                        refine mj_isub C dX11_canSet_165 ?_
                        obtain ⟨r16, er16, h⟩ := mj_let_o h
                        refine mj_callV1 (av := [.inl a2, .inl 0, .inl (90 - (m 1 8))]) C lM_X11_48 lV_X11_isIn (sM0 hB) ⟨_, rfl, rfl⟩ rfl (C_X11_isIn hB er16) (mj_rmok hR (by decide) (by decide)) rfl (Nat.le_of_ble_eq_true rfl) dX11_canSet_166 (fun hb17 => ?_)
                        refine mj_if_eq (tgt := 176) C dX11_canSet_169 (by decide) (fun c18 => ?_) (fun c18 => ?_)
                        · replace h := mj_if_t c18 h
                          refine mj_iconst (v := 0) C dX11_canSet_176 (by decide) ?_
                          cases h
                          exact mj_iret C hT (mj_nb mj_b0) dX11_canSet_177 ⟨rfl, rfl, mj_b0⟩
                        · replace h := mj_if_f c18 h
                          refine mj_iconst (v := 1) C dX11_canSet_172 (by decide) ?_
                          refine mj_goto (tgt := 177) C dX11_canSet_173 (by decide) ?_
                          cases h
                          exact mj_iret C hT (mj_nb mj_b1') dX11_canSet_177 ⟨rfl, rfl, mj_b1'⟩
                    · replace h := mj_if_t c14 h
                      refine mj_aload_n C dX11_canSet_130 rfl ?_
                      refine mj_iload_n C dX11_canSet_131 rfl ?_
                      refine mj_iconst (v := 0) C dX11_canSet_132 (by decide) ?_
                      refine mj_bipush (v := 90) C dX11_canSet_133 (by decide) ?_
                      refine mj_aload_n C dX11_canSet_135 rfl ?_
                      refine mj_getr (r := (β, 1)) C lF_X11_7 (sM0 hB) rfl dX11_canSet_136 ?_
                      refine mj_bipush (v := 9) C dX11_canSet_139 (by decide) ?_
                      refine mj_bald C (sM1 hB) (mj_okn 9 1897 (Nat.le_of_ble_eq_true rfl) (Nat.le_of_ble_eq_true rfl)) (mj_cln 9 (Nat.le_of_ble_eq_true rfl)) dX11_canSet_141 ?_
                      refine mj_isub C dX11_canSet_142 ?_
                      obtain ⟨r19, er19, h⟩ := mj_let_o h
                      refine mj_callV1 (av := [.inl a2, .inl 0, .inl (90 - (m 1 9))]) C lM_X11_48 lV_X11_isIn (sM0 hB) ⟨_, rfl, rfl⟩ rfl (C_X11_isIn hB er19) (mj_rmok hR (by decide) (by decide)) rfl (Nat.le_of_ble_eq_true rfl) dX11_canSet_143 (fun hb20 => ?_)
                      cases h
                      exact mj_iret C hT (mj_nb hb20) dX11_canSet_146 ⟨rfl, rfl, hb20⟩
                  · replace h := mj_if_t c13 h
                    refine mj_aload_n C dX11_canSet_115 rfl ?_
                    refine mj_iload_n C dX11_canSet_116 rfl ?_
                    refine mj_iconst (v := 1) C dX11_canSet_117 (by decide) ?_
                    refine mj_bipush (v := 40) C dX11_canSet_118 (by decide) ?_
                    obtain ⟨r21, er21, h⟩ := mj_let_o h
                    refine mj_callV1 (av := [.inl a2, .inl 1, .inl 40]) C lM_X11_48 lV_X11_isIn (sM0 hB) ⟨_, rfl, rfl⟩ rfl (C_X11_isIn hB er21) (mj_rmok hR (by decide) (by decide)) rfl (Nat.le_of_ble_eq_true rfl) dX11_canSet_120 (fun hb22 => ?_)
                    cases h
                    exact mj_iret C hT (mj_nb hb22) dX11_canSet_123 ⟨rfl, rfl, hb22⟩
              · replace h := mj_if_t c9 h
                refine mj_aload_n C dX11_canSet_95 rfl ?_
                refine mj_iload_n C dX11_canSet_96 rfl ?_
                refine mj_iconst (v := 0) C dX11_canSet_97 (by decide) ?_
                refine mj_iconst (v := 1) C dX11_canSet_98 (by decide) ?_
                obtain ⟨r23, er23, h⟩ := mj_let_o h
                refine mj_callV1 (av := [.inl a2, .inl 0, .inl 1]) C lM_X11_48 lV_X11_isIn (sM0 hB) ⟨_, rfl, rfl⟩ rfl (C_X11_isIn hB er23) (mj_rmok hR (by decide) (by decide)) rfl (Nat.le_of_ble_eq_true rfl) dX11_canSet_99 (fun hb24 => ?_)
                cases h
                exact mj_iret C hT (mj_nb hb24) dX11_canSet_102 ⟨rfl, rfl, hb24⟩
            · replace h := mj_if_t c8 h
              refine mj_aload_n C dX11_canSet_81 rfl ?_
              refine mj_iload_n C dX11_canSet_82 rfl ?_
              refine mj_iconst (v := 1) C dX11_canSet_83 (by decide) ?_
              refine mj_bipush (v := 99) C dX11_canSet_84 (by decide) ?_
              obtain ⟨r25, er25, h⟩ := mj_let_o h
              refine mj_callV1 (av := [.inl a2, .inl 1, .inl 99]) C lM_X11_48 lV_X11_isIn (sM0 hB) ⟨_, rfl, rfl⟩ rfl (C_X11_isIn hB er25) (mj_rmok hR (by decide) (by decide)) rfl (Nat.le_of_ble_eq_true rfl) dX11_canSet_86 (fun hb26 => ?_)
              cases h
              exact mj_iret C hT (mj_nb hb26) dX11_canSet_89 ⟨rfl, rfl, hb26⟩
          · replace h := mj_if_t c7 h
            refine mj_aload_n C dX11_canSet_67 rfl ?_
            refine mj_iload_n C dX11_canSet_68 rfl ?_
            refine mj_iconst (v := 1) C dX11_canSet_69 (by decide) ?_
            refine mj_bipush (v := 9) C dX11_canSet_70 (by decide) ?_
            obtain ⟨r27, er27, h⟩ := mj_let_o h
            refine mj_callV1 (av := [.inl a2, .inl 1, .inl 9]) C lM_X11_48 lV_X11_isIn (sM0 hB) ⟨_, rfl, rfl⟩ rfl (C_X11_isIn hB er27) (mj_rmok hR (by decide) (by decide)) rfl (Nat.le_of_ble_eq_true rfl) dX11_canSet_72 (fun hb28 => ?_)
            cases h
            exact mj_iret C hT (mj_nb hb28) dX11_canSet_75 ⟨rfl, rfl, hb28⟩
        · replace h := mj_if_t c6 h
          refine mj_aload_n C dX11_canSet_53 rfl ?_
          refine mj_iload_n C dX11_canSet_54 rfl ?_
          refine mj_iconst (v := 1) C dX11_canSet_55 (by decide) ?_
          refine mj_bipush (v := 20) C dX11_canSet_56 (by decide) ?_
          obtain ⟨r29, er29, h⟩ := mj_let_o h
          refine mj_callV1 (av := [.inl a2, .inl 1, .inl 20]) C lM_X11_48 lV_X11_isIn (sM0 hB) ⟨_, rfl, rfl⟩ rfl (C_X11_isIn hB er29) (mj_rmok hR (by decide) (by decide)) rfl (Nat.le_of_ble_eq_true rfl) dX11_canSet_58 (fun hb30 => ?_)
          cases h
          exact mj_iret C hT (mj_nb hb30) dX11_canSet_61 ⟨rfl, rfl, hb30⟩
    · replace h := mj_if_t c2 h
      refine mj_aload_n C dX11_canSet_33 rfl ?_
      refine mj_iload_n C dX11_canSet_34 rfl ?_
      refine mj_iconst (v := 0) C dX11_canSet_35 (by decide) ?_
      refine mj_bipush (v := 8) C dX11_canSet_36 (by decide) ?_
      obtain ⟨r31, er31, h⟩ := mj_let_o h
      refine mj_callV1 (av := [.inl a2, .inl 0, .inl 8]) C lM_X11_48 lV_X11_isIn (sM0 hB) ⟨_, rfl, rfl⟩ rfl (C_X11_isIn hB er31) (mj_rmok hR (by decide) (by decide)) rfl (Nat.le_of_ble_eq_true rfl) dX11_canSet_38 (fun hb32 => ?_)
      cases h
      exact mj_iret C hT (mj_nb hb32) dX11_canSet_41 ⟨rfl, rfl, hb32⟩
  · replace h := mj_if_t c1 h
    refine mj_aload_n C dX11_canSet_4 rfl ?_
    refine mj_iload_n C dX11_canSet_5 rfl ?_
    refine mj_iconst (v := 2) C dX11_canSet_6 (by decide) ?_
    refine mj_sipush (v := 200) C dX11_canSet_7 (by decide) ?_
    obtain ⟨r33, er33, h⟩ := mj_let_o h
    refine mj_callV1 (av := [.inl a2, .inl 2, .inl 200]) C lM_X11_48 lV_X11_isIn (sM0 hB) ⟨_, rfl, rfl⟩ rfl (C_X11_isIn hB er33) (mj_rmok hR (by decide) (by decide)) rfl (Nat.le_of_ble_eq_true rfl) dX11_canSet_10 (fun hb34 => ?_)
    refine mj_if_eq (tgt := 26) C dX11_canSet_13 (by decide) (fun c35 => ?_) (fun c35 => ?_)
    · replace h := mj_if_t c35 h
      refine mj_iconst (v := 0) C dX11_canSet_26 (by decide) ?_
      cases h
      exact mj_iret C hT (mj_nb mj_b0) dX11_canSet_27 ⟨rfl, rfl, mj_b0⟩
    · replace h := mj_if_f c35 h
      refine mj_iload_n C dX11_canSet_16 rfl ?_
      refine mj_iconst (v := 2) C dX11_canSet_17 (by decide) ?_
      refine mj_irem C dX11_canSet_18 (by decide) ?_
      refine mj_if_ne (tgt := 26) C dX11_canSet_19 (by decide) (fun c36 => ?_) (fun c36 => ?_)
      · replace h := mj_if_f c36 h
        refine mj_iconst (v := 0) C dX11_canSet_26 (by decide) ?_
        cases h
        exact mj_iret C hT (mj_nb mj_b0) dX11_canSet_27 ⟨rfl, rfl, mj_b0⟩
      · replace h := mj_if_t c36 h
        refine mj_iconst (v := 1) C dX11_canSet_22 (by decide) ?_
        refine mj_goto (tgt := 27) C dX11_canSet_23 (by decide) ?_
        cases h
        exact mj_iret C hT (mj_nb mj_b1') dX11_canSet_27 ⟨rfl, rfl, mj_b1'⟩
def f_X11_set (a1 : Int32) (a2 : Int32) (m : mj_m) : Option (Int32 × mj_m) := mj_let (mj_wrs m 0 0 0) (fun m1 => mj_let (f_X11_canSet a1 a2 m1) (fun r2 => if r2 = 0 then (some (0, m1)) else (mj_let (f_X11_firstOf a1) (fun r5 => mj_chk (mj_ok a1 1897) (mj_let (mj_wrs m1 1 (mj_cl a1) (a2 - r5)) (fun m8 => some (1, m8)))))))
set_option maxHeartbeats 4000000 in
set_option maxRecDepth 20000 in
theorem C_X11_set {G : mj_G} {β : Nat} {M : mj_M} {a1 : Int32} {a2 : Int32} {m : mj_m} {x0 : Int32} {m0 : mj_m} (hB : mj_isM G β) (h : f_X11_set a1 a2 m = some (x0, m0)) : mj_S1 yX11_set cX11_set 3 (some .boolean) 2 G [mj_r (β, 0), .inl a1, .inl a2] (va_up M β m) (some (.inl x0)) (va_up M β m0) := by
  refine mj_intro (by decide) (Nat.le_of_ble_eq_true rfl) ?_
  intro κ C hG hR hT
  subst hG
  have C : mj_C κ cX11_set 3 RX11 := C
  show mj_R κ (mj_F κ (fun r M' => r = (some (.inl x0)) ∧ M' = (va_up M β m0) ∧ mj_bb (some .boolean) (some (.inl x0)))) 0 [some (mj_r (β, 0)), some (.inl a1), some (.inl a2)] [] (va_up M β m)
  unfold f_X11_set at h
  refine mj_aload_n C dX11_set_0 rfl ?_
  refine mj_iconst (v := 0) C dX11_set_1 (by decide) ?_
  obtain ⟨m1, hm1, h⟩ := mj_let_o h
  refine mj_bput C lF_X11_41 fP_12_0 (vp_nar_int _) rfl (sM0 hB) rfl dX11_set_2 hm1 ?_
  refine mj_aload_n C dX11_set_5 rfl ?_
  refine mj_iload_n C dX11_set_6 rfl ?_
  refine mj_iload_n C dX11_set_7 rfl ?_
  obtain ⟨r2, er2, h⟩ := mj_let_o h
  refine mj_callV1 (av := [.inl a1, .inl a2]) C lM_X11_52 lV_X11_canSet (sM0 hB) ⟨_, rfl, rfl⟩ rfl (C_X11_canSet hB er2) (mj_rmok hR (by decide) (by decide)) rfl (Nat.le_of_ble_eq_true rfl) dX11_set_8 (fun hb3 => ?_)
  refine mj_if_ne (tgt := 16) C dX11_set_11 (by decide) (fun c4 => ?_) (fun c4 => ?_)
  · replace h := mj_if_f c4 h
    refine mj_aload_n C dX11_set_16 rfl ?_
    refine mj_getr (r := (β, 1)) C lF_X11_7 (sM0 hB) rfl dX11_set_17 ?_
    refine mj_iload_n C dX11_set_20 rfl ?_
    refine mj_iload_n C dX11_set_21 rfl ?_
    refine mj_aload_n C dX11_set_22 rfl ?_
    refine mj_iload_n C dX11_set_23 rfl ?_
    obtain ⟨r5, er5, h⟩ := mj_let_o h
    refine mj_callV1 (av := [.inl a1]) C lM_X11_44 lV_X11_firstOf (sM0 hB) ⟨_, rfl, rfl⟩ rfl (C_X11_firstOf hB er5) (mj_rmok hR (by decide) (by decide)) rfl (Nat.le_of_ble_eq_true rfl) dX11_set_24 (fun hb6 => ?_)
    refine mj_isub C dX11_set_27 ?_
    obtain ⟨k7, h⟩ := mj_chk_o h
    obtain ⟨m8, hm8, h⟩ := mj_let_o h
    refine mj_bast C (sM1 hB) k7 rfl dX11_set_28 hm8 ?_
    refine mj_iconst (v := 1) C dX11_set_29 (by decide) ?_
    cases h
    exact mj_iret C hT (mj_nb mj_b1') dX11_set_30 ⟨rfl, rfl, mj_b1'⟩
  · replace h := mj_if_t c4 h
    refine mj_iconst (v := 0) C dX11_set_14 (by decide) ?_
    cases h
    exact mj_iret C hT (mj_nb mj_b0) dX11_set_15 ⟨rfl, rfl, mj_b0⟩
def f_X11_state (a1 : Int32) (m : mj_m) : Int32 × mj_m := mj_let (mj_wrs m 0 0 0) (fun m1 => mj_let (m1 1 12) (fun x2 => mj_let (mj_wrs m1 1 12 a1) (fun m3 => (x2, m3))))
set_option maxHeartbeats 4000000 in
set_option maxRecDepth 20000 in
theorem C_X11_state {G : mj_G} {β : Nat} {M : mj_M} {a1 : Int32} {m : mj_m} {x0 : Int32} {m0 : mj_m} (hB : mj_isM G β) (h : f_X11_state a1 m = (x0, m0)) : mj_S1 yX11_state cX11_state 3 (some .int) 0 G [mj_r (β, 0), .inl a1] (va_up M β m) (some (.inl x0)) (va_up M β m0) := by
  refine mj_intro (by decide) (Nat.le_of_ble_eq_true rfl) ?_
  intro κ C hG hR hT
  subst hG
  have C : mj_C κ cX11_state 3 RX11 := C
  show mj_R κ (mj_F κ (fun r M' => r = (some (.inl x0)) ∧ M' = (va_up M β m0) ∧ mj_bb (some .int) (some (.inl x0)))) 0 [some (mj_r (β, 0)), some (.inl a1), none] [] (va_up M β m)
  unfold f_X11_state at h
  refine mj_aload_n C dX11_state_0 rfl ?_
  refine mj_iconst (v := 0) C dX11_state_1 (by decide) ?_
  obtain ⟨m1, hm1, h⟩ := mj_let_o h
  refine mj_bput C lF_X11_41 fP_12_0 (vp_nar_int _) rfl (sM0 hB) rfl dX11_state_2 hm1 ?_
  refine mj_aload_n C dX11_state_5 rfl ?_
  refine mj_getr (r := (β, 1)) C lF_X11_7 (sM0 hB) rfl dX11_state_6 ?_
  refine mj_bipush (v := 12) C dX11_state_9 (by decide) ?_
  refine mj_bald C (sM1 hB) (mj_okn 12 1897 (Nat.le_of_ble_eq_true rfl) (Nat.le_of_ble_eq_true rfl)) (mj_cln 12 (Nat.le_of_ble_eq_true rfl)) dX11_state_11 ?_
  obtain ⟨x2, hx2, h⟩ := mj_let_o h
  refine mj_nm hx2 ?_
  refine mj_istore_n (L2 := [some (mj_r (β, 0)), some (.inl a1), some (.inl x2)]) C dX11_state_12 (Nat.le_of_ble_eq_true rfl) rfl ?_
  refine mj_aload_n C dX11_state_13 rfl ?_
  refine mj_getr (r := (β, 1)) C lF_X11_7 (sM0 hB) rfl dX11_state_14 ?_
  refine mj_bipush (v := 12) C dX11_state_17 (by decide) ?_
  refine mj_iload_n C dX11_state_19 rfl ?_
  obtain ⟨m3, hm3, h⟩ := mj_let_o h
  refine mj_bast C (sM1 hB) (mj_okn 12 1897 (Nat.le_of_ble_eq_true rfl) (Nat.le_of_ble_eq_true rfl)) (mj_cln 12 (Nat.le_of_ble_eq_true rfl)) dX11_state_20 hm3 ?_
  refine mj_iload_n C dX11_state_21 rfl ?_
  cases h
  exact mj_iret C hT (vp_nar_int _) dX11_state_22 ⟨rfl, rfl, mj_bi _⟩
def f_X11_draw (a1 : Int32) (m : mj_m) : Option (Int32 × mj_m) := mj_let (mj_wrs m 1 12 ((1664525 * (m 1 12)) + 1013904223)) (fun m1 => mj_chk (!(a1 == 0)) (some (mj_rem (mj_ush (m1 1 12) 8) a1, m1)))
set_option maxHeartbeats 4000000 in
set_option maxRecDepth 20000 in
theorem C_X11_draw {G : mj_G} {β : Nat} {M : mj_M} {a1 : Int32} {m : mj_m} {x0 : Int32} {m0 : mj_m} (hB : mj_isM G β) (h : f_X11_draw a1 m = some (x0, m0)) : mj_S1 yX11_draw cX11_draw 2 (some .int) 0 G [mj_r (β, 0), .inl a1] (va_up M β m) (some (.inl x0)) (va_up M β m0) := by
  refine mj_intro (by decide) (Nat.le_of_ble_eq_true rfl) ?_
  intro κ C hG hR hT
  subst hG
  have C : mj_C κ cX11_draw 2 RX11 := C
  show mj_R κ (mj_F κ (fun r M' => r = (some (.inl x0)) ∧ M' = (va_up M β m0) ∧ mj_bb (some .int) (some (.inl x0)))) 0 [some (mj_r (β, 0)), some (.inl a1)] [] (va_up M β m)
  unfold f_X11_draw at h
  refine mj_aload_n C dX11_draw_0 rfl ?_
  refine mj_getr (r := (β, 1)) C lF_X11_7 (sM0 hB) rfl dX11_draw_1 ?_
  refine mj_bipush (v := 12) C dX11_draw_4 (by decide) ?_
  refine mj_ldc (v := 1664525) C lC_X11_56 dX11_draw_6 ?_
  refine mj_aload_n C dX11_draw_8 rfl ?_
  refine mj_getr (r := (β, 1)) C lF_X11_7 (sM0 hB) rfl dX11_draw_9 ?_
  refine mj_bipush (v := 12) C dX11_draw_12 (by decide) ?_
  refine mj_bald C (sM1 hB) (mj_okn 12 1897 (Nat.le_of_ble_eq_true rfl) (Nat.le_of_ble_eq_true rfl)) (mj_cln 12 (Nat.le_of_ble_eq_true rfl)) dX11_draw_14 ?_
  refine mj_imul C dX11_draw_15 ?_
  refine mj_ldc (v := 1013904223) C lC_X11_57 dX11_draw_16 ?_
  refine mj_iadd C dX11_draw_18 ?_
  obtain ⟨m1, hm1, h⟩ := mj_let_o h
  refine mj_bast C (sM1 hB) (mj_okn 12 1897 (Nat.le_of_ble_eq_true rfl) (Nat.le_of_ble_eq_true rfl)) (mj_cln 12 (Nat.le_of_ble_eq_true rfl)) dX11_draw_19 hm1 ?_
  refine mj_aload_n C dX11_draw_20 rfl ?_
  refine mj_getr (r := (β, 1)) C lF_X11_7 (sM0 hB) rfl dX11_draw_21 ?_
  refine mj_bipush (v := 12) C dX11_draw_24 (by decide) ?_
  refine mj_bald C (sM1 hB) (mj_okn 12 1897 (Nat.le_of_ble_eq_true rfl) (Nat.le_of_ble_eq_true rfl)) (mj_cln 12 (Nat.le_of_ble_eq_true rfl)) dX11_draw_26 ?_
  refine mj_bipush (v := 8) C dX11_draw_27 (by decide) ?_
  refine mj_iushr C dX11_draw_29 ?_
  refine mj_iload_n C dX11_draw_30 rfl ?_
  obtain ⟨k2, h⟩ := mj_chk_o h
  refine mj_irem C dX11_draw_31 (mj_nz k2) ?_
  cases h
  exact mj_iret C hT (vp_nar_int _) dX11_draw_32 ⟨rfl, rfl, mj_bi _⟩
def f_X11_takesFirst_L24 (l1 : Int32) (l2 : Int32) (l3 : Int32) : Nat → Int32 → mj_m → Option (mj_m)
  | 0, _, _ => none
  | n + 1, l4, m => mj_chk (mj_ok l2 1897) (if m 1 (mj_cl l2) ≤ l4 then (some m) else (mj_chk (mj_ok ((l1 + l4) + 1) 1897) (mj_chk (mj_ok (l1 + l4) 1897) (mj_let (mj_wrs m 1 (mj_cl (l1 + l4)) (m 1 (mj_cl ((l1 + l4) + 1)))) (fun m5 => mj_let (l4 + 1) (fun x6 => f_X11_takesFirst_L24 l1 l2 l3 n x6 m5))))))
set_option maxHeartbeats 4000000 in
set_option maxRecDepth 20000 in
theorem C_X11_takesFirst_L24 {κ : mj_K} {Q : State → Prop} {β : Nat} {M : mj_M} {l1 : Int32} {l2 : Int32} {l3 : Int32} (C : mj_C κ cX11_takesFirst 5 RX11) (hB : mj_isM (mj_g κ) β) (hR : mj_dp κ 0) : ∀ (n : Nat) (l4 : Int32) (m : mj_m) (mo : mj_m), f_X11_takesFirst_L24 l1 l2 l3 n l4 m = some mo → (mj_R κ Q 61 [none, none, none, some (.inl l3), none] [] (va_up M β mo)) → mj_R κ Q 24 [some (mj_r (β, 0)), some (.inl l1), some (.inl l2), some (.inl l3), some (.inl l4)] [] (va_up M β m) := by
  intro n
  induction n with
  | zero =>
    intro l4 m mo h
    cases h
  | succ n ih =>
    intro l4 m mo h hx61
    rw [f_X11_takesFirst_L24] at h
    refine mj_iload C dX11_takesFirst_24 rfl ?_
    refine mj_aload_n C dX11_takesFirst_26 rfl ?_
    refine mj_getr (r := (β, 1)) C lF_X11_7 (sM0 hB) rfl dX11_takesFirst_27 ?_
    refine mj_iload_n C dX11_takesFirst_30 rfl ?_
    obtain ⟨k1, h⟩ := mj_chk_o h
    refine mj_bald C (sM1 hB) k1 rfl dX11_takesFirst_31 ?_
    refine mj_icmp_ge (tgt := 61) C dX11_takesFirst_32 (by decide) (fun c2 => ?_) (fun c2 => ?_)
    · replace h := mj_if_t c2 h
      cases h
      refine mj_sub ?_ (hx61)
      exact ⟨rfl, trivial⟩
    · replace h := mj_if_f c2 h
      refine mj_aload_n C dX11_takesFirst_35 rfl ?_
      refine mj_getr (r := (β, 1)) C lF_X11_7 (sM0 hB) rfl dX11_takesFirst_36 ?_
      refine mj_iload_n C dX11_takesFirst_39 rfl ?_
      refine mj_iload C dX11_takesFirst_40 rfl ?_
      refine mj_iadd C dX11_takesFirst_42 ?_
      refine mj_aload_n C dX11_takesFirst_43 rfl ?_
      refine mj_getr (r := (β, 1)) C lF_X11_7 (sM0 hB) rfl dX11_takesFirst_44 ?_
      refine mj_iload_n C dX11_takesFirst_47 rfl ?_
      refine mj_iload C dX11_takesFirst_48 rfl ?_
      refine mj_iadd C dX11_takesFirst_50 ?_
      refine mj_iconst (v := 1) C dX11_takesFirst_51 (by decide) ?_
      refine mj_iadd C dX11_takesFirst_52 ?_
      obtain ⟨k3, h⟩ := mj_chk_o h
      refine mj_bald C (sM1 hB) k3 rfl dX11_takesFirst_53 ?_
      obtain ⟨k4, h⟩ := mj_chk_o h
      obtain ⟨m5, hm5, h⟩ := mj_let_o h
      refine mj_bast C (sM1 hB) k4 rfl dX11_takesFirst_54 hm5 ?_
      obtain ⟨x6, hx6, h⟩ := mj_let_o h
      refine mj_iinc (L2 := [some (mj_r (β, 0)), some (.inl l1), some (.inl l2), some (.inl l3), some (.inl x6)]) C dX11_takesFirst_55 rfl hx6 rfl ?_
      refine mj_goto (tgt := 24) C dX11_takesFirst_58 (by decide) ?_
      refine mj_sub (L' := [some (mj_r (β, 0)), some (.inl l1), some (.inl l2), some (.inl l3), some (.inl x6)]) ⟨rfl, ⟨rfl, ⟨rfl, ⟨rfl, ⟨rfl, trivial⟩⟩⟩⟩⟩ ?_
      exact ih _ _ _ h hx61
def f_X11_takesFirst (a1 : Int32) (a2 : Int32) (m : mj_m) : Option (Int32 × mj_m) := mj_chk (mj_ok a1 1897) (mj_let (m 1 (mj_cl a1)) (fun x8 => mj_chk (mj_ok a2 1897) (mj_chk (mj_ok a2 1897) (mj_let (mj_wrs m 1 (mj_cl a2) ((m 1 (mj_cl a2)) - 1)) (fun m11 => mj_b1 (f_X11_takesFirst_L24 a1 a2 x8 mj_fu 0 m11) (fun m12 => some (x8, m12)))))))
set_option maxHeartbeats 4000000 in
set_option maxRecDepth 20000 in
theorem C_X11_takesFirst {G : mj_G} {β : Nat} {M : mj_M} {a1 : Int32} {a2 : Int32} {m : mj_m} {x0 : Int32} {m0 : mj_m} (hB : mj_isM G β) (h : f_X11_takesFirst a1 a2 m = some (x0, m0)) : mj_S1 yX11_takesFirst cX11_takesFirst 5 (some .int) 0 G [mj_r (β, 0), .inl a1, .inl a2] (va_up M β m) (some (.inl x0)) (va_up M β m0) := by
  refine mj_intro (by decide) (Nat.le_of_ble_eq_true rfl) ?_
  intro κ C hG hR hT
  subst hG
  have C : mj_C κ cX11_takesFirst 5 RX11 := C
  show mj_R κ (mj_F κ (fun r M' => r = (some (.inl x0)) ∧ M' = (va_up M β m0) ∧ mj_bb (some .int) (some (.inl x0)))) 0 [some (mj_r (β, 0)), some (.inl a1), some (.inl a2), none, none] [] (va_up M β m)
  unfold f_X11_takesFirst at h
  refine mj_aload_n C dX11_takesFirst_0 rfl ?_
  refine mj_getr (r := (β, 1)) C lF_X11_7 (sM0 hB) rfl dX11_takesFirst_1 ?_
  refine mj_iload_n C dX11_takesFirst_4 rfl ?_
  obtain ⟨k7, h⟩ := mj_chk_o h
  refine mj_bald C (sM1 hB) k7 rfl dX11_takesFirst_5 ?_
  obtain ⟨x8, hx8, h⟩ := mj_let_o h
  refine mj_nm hx8 ?_
  refine mj_istore_n (L2 := [some (mj_r (β, 0)), some (.inl a1), some (.inl a2), some (.inl x8), none]) C dX11_takesFirst_6 (Nat.le_of_ble_eq_true rfl) rfl ?_
  refine mj_aload_n C dX11_takesFirst_7 rfl ?_
  refine mj_getr (r := (β, 1)) C lF_X11_7 (sM0 hB) rfl dX11_takesFirst_8 ?_
  refine mj_iload_n C dX11_takesFirst_11 rfl ?_
  refine mj_aload_n C dX11_takesFirst_12 rfl ?_
  refine mj_getr (r := (β, 1)) C lF_X11_7 (sM0 hB) rfl dX11_takesFirst_13 ?_
  refine mj_iload_n C dX11_takesFirst_16 rfl ?_
  obtain ⟨k9, h⟩ := mj_chk_o h
  refine mj_bald C (sM1 hB) k9 rfl dX11_takesFirst_17 ?_
  refine mj_iconst (v := 1) C dX11_takesFirst_18 (by decide) ?_
  refine mj_isub C dX11_takesFirst_19 ?_
  obtain ⟨k10, h⟩ := mj_chk_o h
  obtain ⟨m11, hm11, h⟩ := mj_let_o h
  refine mj_bast C (sM1 hB) k10 rfl dX11_takesFirst_20 hm11 ?_
  refine mj_iconst (v := 0) C dX11_takesFirst_21 (by decide) ?_
  refine mj_istore (L2 := [some (mj_r (β, 0)), some (.inl a1), some (.inl a2), some (.inl x8), some (.inl 0)]) C dX11_takesFirst_22 (Nat.le_of_ble_eq_true rfl) rfl ?_
  obtain ⟨m12, hl13, h⟩ := mj_b1_o h
  refine mj_sub (L' := [some (mj_r (β, 0)), some (.inl a1), some (.inl a2), some (.inl x8), some (.inl 0)]) ⟨rfl, ⟨rfl, ⟨rfl, ⟨rfl, ⟨rfl, trivial⟩⟩⟩⟩⟩ ?_
  refine C_X11_takesFirst_L24 C hB hR _ _ _ _ hl13 ?_
  refine mj_iload_n C dX11_takesFirst_61 rfl ?_
  cases h
  exact mj_iret C hT (vp_nar_int _) dX11_takesFirst_62 ⟨rfl, rfl, mj_bi _⟩
def f_X11_puts (a1 : Int32) (a2 : Int32) (a3 : Int32) (m : mj_m) : Option (mj_m) := mj_chk (mj_ok a2 1897) (mj_chk (mj_ok (a1 + (m 1 (mj_cl a2))) 1897) (mj_let (mj_wrs m 1 (mj_cl (a1 + (m 1 (mj_cl a2)))) a3) (fun m3 => mj_b1 (f_X11_more a2 m3) (fun m4 => some m4))))
set_option maxHeartbeats 4000000 in
set_option maxRecDepth 20000 in
theorem C_X11_puts {G : mj_G} {β : Nat} {M : mj_M} {a1 : Int32} {a2 : Int32} {a3 : Int32} {m : mj_m} {m0 : mj_m} (hB : mj_isM G β) (h : f_X11_puts a1 a2 a3 m = some m0) : mj_S1 yX11_puts cX11_puts 4 none 1 G [mj_r (β, 0), .inl a1, .inl a2, .inl a3] (va_up M β m) none (va_up M β m0) := by
  refine mj_intro (by decide) (Nat.le_of_ble_eq_true rfl) ?_
  intro κ C hG hR hT
  subst hG
  have C : mj_C κ cX11_puts 4 RX11 := C
  show mj_R κ (mj_F κ (fun r M' => r = none ∧ M' = (va_up M β m0) ∧ mj_bb none none)) 0 [some (mj_r (β, 0)), some (.inl a1), some (.inl a2), some (.inl a3)] [] (va_up M β m)
  unfold f_X11_puts at h
  refine mj_aload_n C dX11_puts_0 rfl ?_
  refine mj_getr (r := (β, 1)) C lF_X11_7 (sM0 hB) rfl dX11_puts_1 ?_
  refine mj_iload_n C dX11_puts_4 rfl ?_
  refine mj_aload_n C dX11_puts_5 rfl ?_
  refine mj_getr (r := (β, 1)) C lF_X11_7 (sM0 hB) rfl dX11_puts_6 ?_
  refine mj_iload_n C dX11_puts_9 rfl ?_
  obtain ⟨k1, h⟩ := mj_chk_o h
  refine mj_bald C (sM1 hB) k1 rfl dX11_puts_10 ?_
  refine mj_iadd C dX11_puts_11 ?_
  refine mj_iload_n C dX11_puts_12 rfl ?_
  obtain ⟨k2, h⟩ := mj_chk_o h
  obtain ⟨m3, hm3, h⟩ := mj_let_o h
  refine mj_bast C (sM1 hB) k2 rfl dX11_puts_13 hm3 ?_
  refine mj_aload_n C dX11_puts_14 rfl ?_
  refine mj_iload_n C dX11_puts_15 rfl ?_
  obtain ⟨m4, em4, h⟩ := mj_b1_o h
  refine mj_callV0 (av := [.inl a2]) C lM_X11_58 lV_X11_more (sM0 hB) ⟨_, rfl, rfl⟩ rfl (C_X11_more hB em4) (mj_rmok hR (by decide) (by decide)) rfl (Nat.le_of_ble_eq_true rfl) dX11_puts_16 ?_
  cases h
  exact mj_vret C hT dX11_puts_19 ⟨rfl, rfl, mj_bv _⟩
def f_X11_ledgerAt (a1 : Int32) : Int32 := (1097 + (8 * a1))
set_option maxHeartbeats 4000000 in
set_option maxRecDepth 20000 in
theorem C_X11_ledgerAt {G : mj_G} {β : Nat} {M : mj_M} {a1 : Int32} {m : mj_m} {x0 : Int32} (hB : mj_isM G β) (h : f_X11_ledgerAt a1 = x0) : mj_S1 yX11_ledgerAt cX11_ledgerAt 2 (some .int) 0 G [mj_r (β, 0), .inl a1] (va_up M β m) (some (.inl x0)) (va_up M β m) := by
  refine mj_intro (by decide) (Nat.le_of_ble_eq_true rfl) ?_
  intro κ C hG hR hT
  subst hG
  have C : mj_C κ cX11_ledgerAt 2 RX11 := C
  show mj_R κ (mj_F κ (fun r M' => r = (some (.inl x0)) ∧ M' = (va_up M β m) ∧ mj_bb (some .int) (some (.inl x0)))) 0 [some (mj_r (β, 0)), some (.inl a1)] [] (va_up M β m)
  unfold f_X11_ledgerAt at h
  refine mj_sipush (v := 1097) C dX11_ledgerAt_0 (by decide) ?_
  refine mj_bipush (v := 8) C dX11_ledgerAt_3 (by decide) ?_
  refine mj_iload_n C dX11_ledgerAt_5 rfl ?_
  refine mj_imul C dX11_ledgerAt_6 ?_
  refine mj_iadd C dX11_ledgerAt_7 ?_
  cases h
  exact mj_iret C hT (vp_nar_int _) dX11_ledgerAt_8 ⟨rfl, rfl, mj_bi _⟩
def f_X11_ledgerMany (m : mj_m) : Int32 := if 100 ≤ m 1 40 then (100) else ((m 1 40))
set_option maxHeartbeats 4000000 in
set_option maxRecDepth 20000 in
theorem C_X11_ledgerMany {G : mj_G} {β : Nat} {M : mj_M} {m : mj_m} {x0 : Int32} (hB : mj_isM G β) (h : f_X11_ledgerMany m = x0) : mj_S1 yX11_ledgerMany cX11_ledgerMany 1 (some .int) 0 G [mj_r (β, 0)] (va_up M β m) (some (.inl x0)) (va_up M β m) := by
  refine mj_intro (by decide) (Nat.le_of_ble_eq_true rfl) ?_
  intro κ C hG hR hT
  subst hG
  have C : mj_C κ cX11_ledgerMany 1 RX11 := C
  show mj_R κ (mj_F κ (fun r M' => r = (some (.inl x0)) ∧ M' = (va_up M β m) ∧ mj_bb (some .int) (some (.inl x0)))) 0 [some (mj_r (β, 0))] [] (va_up M β m)
  unfold f_X11_ledgerMany at h
  refine mj_aload_n C dX11_ledgerMany_0 rfl ?_
  refine mj_getr (r := (β, 1)) C lF_X11_7 (sM0 hB) rfl dX11_ledgerMany_1 ?_
  refine mj_bipush (v := 40) C dX11_ledgerMany_4 (by decide) ?_
  refine mj_bald C (sM1 hB) (mj_okn 40 1897 (Nat.le_of_ble_eq_true rfl) (Nat.le_of_ble_eq_true rfl)) (mj_cln 40 (Nat.le_of_ble_eq_true rfl)) dX11_ledgerMany_6 ?_
  refine mj_bipush (v := 100) C dX11_ledgerMany_7 (by decide) ?_
  refine mj_icmp_ge (tgt := 22) C dX11_ledgerMany_9 (by decide) (fun c1 => ?_) (fun c1 => ?_)
  · replace h := mj_if_t c1 h
    refine mj_bipush (v := 100) C dX11_ledgerMany_22 (by decide) ?_
    cases h
    exact mj_iret C hT (vp_nar_int _) dX11_ledgerMany_24 ⟨rfl, rfl, mj_bi _⟩
  · replace h := mj_if_f c1 h
    refine mj_aload_n C dX11_ledgerMany_12 rfl ?_
    refine mj_getr (r := (β, 1)) C lF_X11_7 (sM0 hB) rfl dX11_ledgerMany_13 ?_
    refine mj_bipush (v := 40) C dX11_ledgerMany_16 (by decide) ?_
    refine mj_bald C (sM1 hB) (mj_okn 40 1897 (Nat.le_of_ble_eq_true rfl) (Nat.le_of_ble_eq_true rfl)) (mj_cln 40 (Nat.le_of_ble_eq_true rfl)) dX11_ledgerMany_18 ?_
    refine mj_goto (tgt := 24) C dX11_ledgerMany_19 (by decide) ?_
    cases h
    exact mj_iret C hT (vp_nar_int _) dX11_ledgerMany_24 ⟨rfl, rfl, mj_bi _⟩
def f_X11_firstSent (m : mj_m) : Int32 := (((m 1 40) - (m 1 24)) - (m 1 25))
set_option maxHeartbeats 4000000 in
set_option maxRecDepth 20000 in
theorem C_X11_firstSent {G : mj_G} {β : Nat} {M : mj_M} {m : mj_m} {x0 : Int32} (hB : mj_isM G β) (h : f_X11_firstSent m = x0) : mj_S1 yX11_firstSent cX11_firstSent 1 (some .int) 0 G [mj_r (β, 0)] (va_up M β m) (some (.inl x0)) (va_up M β m) := by
  refine mj_intro (by decide) (Nat.le_of_ble_eq_true rfl) ?_
  intro κ C hG hR hT
  subst hG
  have C : mj_C κ cX11_firstSent 1 RX11 := C
  show mj_R κ (mj_F κ (fun r M' => r = (some (.inl x0)) ∧ M' = (va_up M β m) ∧ mj_bb (some .int) (some (.inl x0)))) 0 [some (mj_r (β, 0))] [] (va_up M β m)
  unfold f_X11_firstSent at h
  refine mj_aload_n C dX11_firstSent_0 rfl ?_
  refine mj_getr (r := (β, 1)) C lF_X11_7 (sM0 hB) rfl dX11_firstSent_1 ?_
  refine mj_bipush (v := 40) C dX11_firstSent_4 (by decide) ?_
  refine mj_bald C (sM1 hB) (mj_okn 40 1897 (Nat.le_of_ble_eq_true rfl) (Nat.le_of_ble_eq_true rfl)) (mj_cln 40 (Nat.le_of_ble_eq_true rfl)) dX11_firstSent_6 ?_
  refine mj_aload_n C dX11_firstSent_7 rfl ?_
  refine mj_getr (r := (β, 1)) C lF_X11_7 (sM0 hB) rfl dX11_firstSent_8 ?_
  refine mj_bipush (v := 24) C dX11_firstSent_11 (by decide) ?_
  refine mj_bald C (sM1 hB) (mj_okn 24 1897 (Nat.le_of_ble_eq_true rfl) (Nat.le_of_ble_eq_true rfl)) (mj_cln 24 (Nat.le_of_ble_eq_true rfl)) dX11_firstSent_13 ?_
  refine mj_isub C dX11_firstSent_14 ?_
  refine mj_aload_n C dX11_firstSent_15 rfl ?_
  refine mj_getr (r := (β, 1)) C lF_X11_7 (sM0 hB) rfl dX11_firstSent_16 ?_
  refine mj_bipush (v := 25) C dX11_firstSent_19 (by decide) ?_
  refine mj_bald C (sM1 hB) (mj_okn 25 1897 (Nat.le_of_ble_eq_true rfl) (Nat.le_of_ble_eq_true rfl)) (mj_cln 25 (Nat.le_of_ble_eq_true rfl)) dX11_firstSent_21 ?_
  refine mj_isub C dX11_firstSent_22 ?_
  cases h
  exact mj_iret C hT (vp_nar_int _) dX11_firstSent_23 ⟨rfl, rfl, mj_bi _⟩
def f_X11_stands (a1 : Int32) (a2 : Int32) (m : mj_m) : Option (mj_m) := if 100 ≤ a1 then (some m) else (mj_let (f_X11_ledgerAt a1) (fun r2 => mj_chk (mj_ok (r2 + 6) 1897) (mj_let (mj_wrs m 1 (mj_cl (r2 + 6)) a2) (fun m5 => some m5))))
set_option maxHeartbeats 4000000 in
set_option maxRecDepth 20000 in
theorem C_X11_stands {G : mj_G} {β : Nat} {M : mj_M} {a1 : Int32} {a2 : Int32} {m : mj_m} {m0 : mj_m} (hB : mj_isM G β) (h : f_X11_stands a1 a2 m = some m0) : mj_S1 yX11_stands cX11_stands 3 none 1 G [mj_r (β, 0), .inl a1, .inl a2] (va_up M β m) none (va_up M β m0) := by
  refine mj_intro (by decide) (Nat.le_of_ble_eq_true rfl) ?_
  intro κ C hG hR hT
  subst hG
  have C : mj_C κ cX11_stands 3 RX11 := C
  show mj_R κ (mj_F κ (fun r M' => r = none ∧ M' = (va_up M β m0) ∧ mj_bb none none)) 0 [some (mj_r (β, 0)), some (.inl a1), some (.inl a2)] [] (va_up M β m)
  unfold f_X11_stands at h
  refine mj_iload_n C dX11_stands_0 rfl ?_
  refine mj_bipush (v := 100) C dX11_stands_1 (by decide) ?_
  refine mj_icmp_ge (tgt := 20) C dX11_stands_3 (by decide) (fun c1 => ?_) (fun c1 => ?_)
  · replace h := mj_if_t c1 h
    cases h
    exact mj_vret C hT dX11_stands_20 ⟨rfl, rfl, mj_bv _⟩
  · replace h := mj_if_f c1 h
    refine mj_aload_n C dX11_stands_6 rfl ?_
    refine mj_getr (r := (β, 1)) C lF_X11_7 (sM0 hB) rfl dX11_stands_7 ?_
    refine mj_aload_n C dX11_stands_10 rfl ?_
    refine mj_iload_n C dX11_stands_11 rfl ?_
    obtain ⟨r2, er2, h⟩ := mj_let_o h
    refine mj_callV1 (av := [.inl a1]) C lM_X11_62 lV_X11_ledgerAt (sM0 hB) ⟨_, rfl, rfl⟩ rfl (C_X11_ledgerAt hB er2) (mj_rmok hR (by decide) (by decide)) rfl (Nat.le_of_ble_eq_true rfl) dX11_stands_12 (fun hb3 => ?_)
    refine mj_bipush (v := 6) C dX11_stands_15 (by decide) ?_
    refine mj_iadd C dX11_stands_17 ?_
    refine mj_iload_n C dX11_stands_18 rfl ?_
    obtain ⟨k4, h⟩ := mj_chk_o h
    obtain ⟨m5, hm5, h⟩ := mj_let_o h
    refine mj_bast C (sM1 hB) k4 rfl dX11_stands_19 hm5 ?_
    cases h
    exact mj_vret C hT dX11_stands_20 ⟨rfl, rfl, mj_bv _⟩
def f_X11_isLedgered_L26 (l1 : Int32) (l2 : Int32) : Nat → Int32 → mj_m → Option (mj_m)
  | 0, _, _ => none
  | n + 1, l3, m => if 8 ≤ l3 then (some m) else (mj_chk (mj_ok (l2 + l3) 1897) (mj_let (mj_wrs m 1 (mj_cl (l2 + l3)) 0) (fun m3 => mj_let (l3 + 1) (fun x4 => f_X11_isLedgered_L26 l1 l2 n x4 m3))))
set_option maxHeartbeats 4000000 in
set_option maxRecDepth 20000 in
theorem C_X11_isLedgered_L26 {κ : mj_K} {Q : State → Prop} {β : Nat} {M : mj_M} {l1 : Int32} {l2 : Int32} (C : mj_C κ cX11_isLedgered 4 RX11) (hB : mj_isM (mj_g κ) β) (hR : mj_dp κ 1) : ∀ (n : Nat) (l3 : Int32) (m : mj_m) (mo : mj_m), f_X11_isLedgered_L26 l1 l2 n l3 m = some mo → (mj_R κ Q 47 [some (mj_r (β, 0)), some (.inl l1), some (.inl l2), none] [] (va_up M β mo)) → mj_R κ Q 26 [some (mj_r (β, 0)), some (.inl l1), some (.inl l2), some (.inl l3)] [] (va_up M β m) := by
  intro n
  induction n with
  | zero =>
    intro l3 m mo h
    cases h
  | succ n ih =>
    intro l3 m mo h hx47
    rw [f_X11_isLedgered_L26] at h
    refine mj_iload_n C dX11_isLedgered_26 rfl ?_
    refine mj_bipush (v := 8) C dX11_isLedgered_27 (by decide) ?_
    refine mj_icmp_ge (tgt := 47) C dX11_isLedgered_29 (by decide) (fun c1 => ?_) (fun c1 => ?_)
    · replace h := mj_if_t c1 h
      cases h
      refine mj_sub ?_ (hx47)
      exact ⟨rfl, ⟨rfl, ⟨rfl, trivial⟩⟩⟩
    · replace h := mj_if_f c1 h
      refine mj_aload_n C dX11_isLedgered_32 rfl ?_
      refine mj_getr (r := (β, 1)) C lF_X11_7 (sM0 hB) rfl dX11_isLedgered_33 ?_
      refine mj_iload_n C dX11_isLedgered_36 rfl ?_
      refine mj_iload_n C dX11_isLedgered_37 rfl ?_
      refine mj_iadd C dX11_isLedgered_38 ?_
      refine mj_iconst (v := 0) C dX11_isLedgered_39 (by decide) ?_
      obtain ⟨k2, h⟩ := mj_chk_o h
      obtain ⟨m3, hm3, h⟩ := mj_let_o h
      refine mj_bast C (sM1 hB) k2 rfl dX11_isLedgered_40 hm3 ?_
      obtain ⟨x4, hx4, h⟩ := mj_let_o h
      refine mj_iinc (L2 := [some (mj_r (β, 0)), some (.inl l1), some (.inl l2), some (.inl x4)]) C dX11_isLedgered_41 rfl hx4 rfl ?_
      refine mj_goto (tgt := 26) C dX11_isLedgered_44 (by decide) ?_
      refine mj_sub (L' := [some (mj_r (β, 0)), some (.inl l1), some (.inl l2), some (.inl x4)]) ⟨rfl, ⟨rfl, ⟨rfl, ⟨rfl, trivial⟩⟩⟩⟩ ?_
      exact ih _ _ _ h hx47
def f_X11_isLedgered (a1 : Int32) (m : mj_m) : Option (mj_m) := if 100 ≤ m 1 40 then (mj_b1 (f_X11_more 40 m) (fun m6 => some m6)) else (mj_let (f_X11_ledgerAt (m 1 40)) (fun r8 => mj_b1 (f_X11_isLedgered_L26 a1 r8 mj_fu 0 m) (fun m10 => mj_chk (mj_ok (r8 + 0) 1897) (mj_let (mj_wrs m10 1 (mj_cl (r8 + 0)) a1) (fun m13 => mj_chk (mj_ok (r8 + 1) 1897) (mj_let (mj_wrs m13 1 (mj_cl (r8 + 1)) (m13 1 11)) (fun m15 => mj_b1 (f_X11_more 40 m15) (fun m16 => some m16))))))))
set_option maxHeartbeats 4000000 in
set_option maxRecDepth 20000 in
theorem C_X11_isLedgered {G : mj_G} {β : Nat} {M : mj_M} {a1 : Int32} {m : mj_m} {m0 : mj_m} (hB : mj_isM G β) (h : f_X11_isLedgered a1 m = some m0) : mj_S1 yX11_isLedgered cX11_isLedgered 4 none 1 G [mj_r (β, 0), .inl a1] (va_up M β m) none (va_up M β m0) := by
  refine mj_intro (by decide) (Nat.le_of_ble_eq_true rfl) ?_
  intro κ C hG hR hT
  subst hG
  have C : mj_C κ cX11_isLedgered 4 RX11 := C
  show mj_R κ (mj_F κ (fun r M' => r = none ∧ M' = (va_up M β m0) ∧ mj_bb none none)) 0 [some (mj_r (β, 0)), some (.inl a1), none, none] [] (va_up M β m)
  unfold f_X11_isLedgered at h
  refine mj_aload_n C dX11_isLedgered_0 rfl ?_
  refine mj_getr (r := (β, 1)) C lF_X11_7 (sM0 hB) rfl dX11_isLedgered_1 ?_
  refine mj_bipush (v := 40) C dX11_isLedgered_4 (by decide) ?_
  refine mj_bald C (sM1 hB) (mj_okn 40 1897 (Nat.le_of_ble_eq_true rfl) (Nat.le_of_ble_eq_true rfl)) (mj_cln 40 (Nat.le_of_ble_eq_true rfl)) dX11_isLedgered_6 ?_
  refine mj_bipush (v := 100) C dX11_isLedgered_7 (by decide) ?_
  refine mj_icmp_ge (tgt := 71) C dX11_isLedgered_9 (by decide) (fun c5 => ?_) (fun c5 => ?_)
  · replace h := mj_if_t c5 h
    refine mj_aload_n C dX11_isLedgered_71 rfl ?_
    refine mj_bipush (v := 40) C dX11_isLedgered_72 (by decide) ?_
    obtain ⟨m6, em6, h⟩ := mj_b1_o h
    refine mj_callV0 (av := [.inl 40]) C lM_X11_58 lV_X11_more (sM0 hB) ⟨_, rfl, rfl⟩ rfl (C_X11_more hB em6) (mj_rmok hR (by decide) (by decide)) rfl (Nat.le_of_ble_eq_true rfl) dX11_isLedgered_74 ?_
    cases h
    exact mj_vret C hT dX11_isLedgered_77 ⟨rfl, rfl, mj_bv _⟩
  · replace h := mj_if_f c5 h
    refine mj_aload_n C dX11_isLedgered_12 rfl ?_
    refine mj_aload_n C dX11_isLedgered_13 rfl ?_
    refine mj_getr (r := (β, 1)) C lF_X11_7 (sM0 hB) rfl dX11_isLedgered_14 ?_
    refine mj_bipush (v := 40) C dX11_isLedgered_17 (by decide) ?_
    refine mj_bald C (sM1 hB) (mj_okn 40 1897 (Nat.le_of_ble_eq_true rfl) (Nat.le_of_ble_eq_true rfl)) (mj_cln 40 (Nat.le_of_ble_eq_true rfl)) dX11_isLedgered_19 ?_
    obtain ⟨r8, er8, h⟩ := mj_let_o h
    refine mj_callV1 (av := [.inl (m 1 40)]) C lM_X11_62 lV_X11_ledgerAt (sM0 hB) ⟨_, rfl, rfl⟩ rfl (C_X11_ledgerAt hB er8) (mj_rmok hR (by decide) (by decide)) rfl (Nat.le_of_ble_eq_true rfl) dX11_isLedgered_20 (fun hb9 => ?_)
    refine mj_istore_n (L2 := [some (mj_r (β, 0)), some (.inl a1), some (.inl r8), none]) C dX11_isLedgered_23 (Nat.le_of_ble_eq_true rfl) rfl ?_
    refine mj_iconst (v := 0) C dX11_isLedgered_24 (by decide) ?_
    refine mj_istore_n (L2 := [some (mj_r (β, 0)), some (.inl a1), some (.inl r8), some (.inl 0)]) C dX11_isLedgered_25 (Nat.le_of_ble_eq_true rfl) rfl ?_
    obtain ⟨m10, hl11, h⟩ := mj_b1_o h
    refine mj_sub (L' := [some (mj_r (β, 0)), some (.inl a1), some (.inl r8), some (.inl 0)]) ⟨rfl, ⟨rfl, ⟨rfl, ⟨rfl, trivial⟩⟩⟩⟩ ?_
    refine C_X11_isLedgered_L26 C hB hR _ _ _ _ hl11 ?_
    refine mj_aload_n C dX11_isLedgered_47 rfl ?_
    refine mj_getr (r := (β, 1)) C lF_X11_7 (sM0 hB) rfl dX11_isLedgered_48 ?_
    refine mj_iload_n C dX11_isLedgered_51 rfl ?_
    refine mj_iconst (v := 0) C dX11_isLedgered_52 (by decide) ?_
    refine mj_iadd C dX11_isLedgered_53 ?_
    refine mj_iload_n C dX11_isLedgered_54 rfl ?_
    obtain ⟨k12, h⟩ := mj_chk_o h
    obtain ⟨m13, hm13, h⟩ := mj_let_o h
    refine mj_bast C (sM1 hB) k12 rfl dX11_isLedgered_55 hm13 ?_
    refine mj_aload_n C dX11_isLedgered_56 rfl ?_
    refine mj_getr (r := (β, 1)) C lF_X11_7 (sM0 hB) rfl dX11_isLedgered_57 ?_
    refine mj_iload_n C dX11_isLedgered_60 rfl ?_
    refine mj_iconst (v := 1) C dX11_isLedgered_61 (by decide) ?_
    refine mj_iadd C dX11_isLedgered_62 ?_
    refine mj_aload_n C dX11_isLedgered_63 rfl ?_
    refine mj_getr (r := (β, 1)) C lF_X11_7 (sM0 hB) rfl dX11_isLedgered_64 ?_
    refine mj_bipush (v := 11) C dX11_isLedgered_67 (by decide) ?_
    refine mj_bald C (sM1 hB) (mj_okn 11 1897 (Nat.le_of_ble_eq_true rfl) (Nat.le_of_ble_eq_true rfl)) (mj_cln 11 (Nat.le_of_ble_eq_true rfl)) dX11_isLedgered_69 ?_
    obtain ⟨k14, h⟩ := mj_chk_o h
    obtain ⟨m15, hm15, h⟩ := mj_let_o h
    refine mj_bast C (sM1 hB) k14 rfl dX11_isLedgered_70 hm15 ?_
    refine mj_aload_n C dX11_isLedgered_71 rfl ?_
    refine mj_bipush (v := 40) C dX11_isLedgered_72 (by decide) ?_
    obtain ⟨m16, em16, h⟩ := mj_b1_o h
    refine mj_callV0 (av := [.inl 40]) C lM_X11_58 lV_X11_more (sM0 hB) ⟨_, rfl, rfl⟩ rfl (C_X11_more hB em16) (mj_rmok hR (by decide) (by decide)) rfl (Nat.le_of_ble_eq_true rfl) dX11_isLedgered_74 ?_
    cases h
    exact mj_vret C hT dX11_isLedgered_77 ⟨rfl, rfl, mj_bv _⟩
def f_X11_goesOf_J41 (l2 : Int32) (m : mj_m) : Option (mj_m) := mj_b1 (f_X11_more (l2 + 2) m) (fun m1 => mj_chk (mj_ok (l2 + 6) 1897) (mj_let (mj_wrs m1 1 (mj_cl (l2 + 6)) 1) (fun m4 => some m4)))
set_option maxHeartbeats 4000000 in
set_option maxRecDepth 20000 in
theorem C_X11_goesOf_J41 {κ : mj_K} {β : Nat} {M : mj_M} {l2 : Int32} {m : mj_m} {m0 : mj_m} (C : mj_C κ cX11_goesOf 3 RX11) (hB : mj_isM (mj_g κ) β) (hR : mj_dp κ 1) (hT : mj_rt κ = none) (h : f_X11_goesOf_J41 l2 m = some m0) : mj_R κ (mj_F κ (fun r M' => r = none ∧ M' = (va_up M β m0) ∧ mj_bb none none)) 41 [some (mj_r (β, 0)), none, some (.inl l2)] [] (va_up M β m) := by
  unfold f_X11_goesOf_J41 at h
  refine mj_aload_n C dX11_goesOf_41 rfl ?_
  refine mj_iload_n C dX11_goesOf_42 rfl ?_
  refine mj_iconst (v := 2) C dX11_goesOf_43 (by decide) ?_
  refine mj_iadd C dX11_goesOf_44 ?_
  obtain ⟨m1, em1, h⟩ := mj_b1_o h
  refine mj_callV0 (av := [.inl (l2 + 2)]) C lM_X11_58 lV_X11_more (sM0 hB) ⟨_, rfl, rfl⟩ rfl (C_X11_more hB em1) (mj_rmok hR (by decide) (by decide)) rfl (Nat.le_of_ble_eq_true rfl) dX11_goesOf_45 ?_
  refine mj_aload_n C dX11_goesOf_48 rfl ?_
  refine mj_getr (r := (β, 1)) C lF_X11_7 (sM0 hB) rfl dX11_goesOf_49 ?_
  refine mj_iload_n C dX11_goesOf_52 rfl ?_
  refine mj_bipush (v := 6) C dX11_goesOf_53 (by decide) ?_
  refine mj_iadd C dX11_goesOf_55 ?_
  refine mj_iconst (v := 1) C dX11_goesOf_56 (by decide) ?_
  obtain ⟨k3, h⟩ := mj_chk_o h
  obtain ⟨m4, hm4, h⟩ := mj_let_o h
  refine mj_bast C (sM1 hB) k3 rfl dX11_goesOf_57 hm4 ?_
  cases h
  exact mj_vret C hT dX11_goesOf_58 ⟨rfl, rfl, mj_bv _⟩
def f_X11_goesOf (a1 : Int32) (m : mj_m) : Option (mj_m) := if a1 < 100 then (mj_let (f_X11_ledgerAt a1) (fun r6 => mj_chk (mj_ok (r6 + 2) 1897) (if m 1 (mj_cl (r6 + 2)) = 0 then (mj_chk (mj_ok (r6 + 3) 1897) (mj_let (mj_wrs m 1 (mj_cl (r6 + 3)) ((m 1 11) + 1)) (fun m11 => f_X11_goesOf_J41 r6 m11))) else (f_X11_goesOf_J41 r6 m)))) else (some m)
set_option maxHeartbeats 4000000 in
set_option maxRecDepth 20000 in
theorem C_X11_goesOf {G : mj_G} {β : Nat} {M : mj_M} {a1 : Int32} {m : mj_m} {m0 : mj_m} (hB : mj_isM G β) (h : f_X11_goesOf a1 m = some m0) : mj_S1 yX11_goesOf cX11_goesOf 3 none 1 G [mj_r (β, 0), .inl a1] (va_up M β m) none (va_up M β m0) := by
  refine mj_intro (by decide) (Nat.le_of_ble_eq_true rfl) ?_
  intro κ C hG hR hT
  subst hG
  have C : mj_C κ cX11_goesOf 3 RX11 := C
  show mj_R κ (mj_F κ (fun r M' => r = none ∧ M' = (va_up M β m0) ∧ mj_bb none none)) 0 [some (mj_r (β, 0)), some (.inl a1), none] [] (va_up M β m)
  unfold f_X11_goesOf at h
  refine mj_iload_n C dX11_goesOf_0 rfl ?_
  refine mj_bipush (v := 100) C dX11_goesOf_1 (by decide) ?_
  refine mj_icmp_lt (tgt := 7) C dX11_goesOf_3 (by decide) (fun c5 => ?_) (fun c5 => ?_)
  · replace h := mj_if_t c5 h
    refine mj_aload_n C dX11_goesOf_7 rfl ?_
    refine mj_iload_n C dX11_goesOf_8 rfl ?_
    obtain ⟨r6, er6, h⟩ := mj_let_o h
    refine mj_callV1 (av := [.inl a1]) C lM_X11_62 lV_X11_ledgerAt (sM0 hB) ⟨_, rfl, rfl⟩ rfl (C_X11_ledgerAt hB er6) (mj_rmok hR (by decide) (by decide)) rfl (Nat.le_of_ble_eq_true rfl) dX11_goesOf_9 (fun hb7 => ?_)
    refine mj_istore_n (L2 := [some (mj_r (β, 0)), some (.inl a1), some (.inl r6)]) C dX11_goesOf_12 (Nat.le_of_ble_eq_true rfl) rfl ?_
    refine mj_aload_n C dX11_goesOf_13 rfl ?_
    refine mj_getr (r := (β, 1)) C lF_X11_7 (sM0 hB) rfl dX11_goesOf_14 ?_
    refine mj_iload_n C dX11_goesOf_17 rfl ?_
    refine mj_iconst (v := 2) C dX11_goesOf_18 (by decide) ?_
    refine mj_iadd C dX11_goesOf_19 ?_
    obtain ⟨k8, h⟩ := mj_chk_o h
    refine mj_bald C (sM1 hB) k8 rfl dX11_goesOf_20 ?_
    refine mj_if_ne (tgt := 41) C dX11_goesOf_21 (by decide) (fun c9 => ?_) (fun c9 => ?_)
    · replace h := mj_if_f c9 h
      refine mj_sub (L' := [some (mj_r (β, 0)), none, some (.inl r6)]) ⟨rfl, ⟨rfl, trivial⟩⟩ ?_
      exact C_X11_goesOf_J41 C hB hR hT h
    · replace h := mj_if_t c9 h
      refine mj_aload_n C dX11_goesOf_24 rfl ?_
      refine mj_getr (r := (β, 1)) C lF_X11_7 (sM0 hB) rfl dX11_goesOf_25 ?_
      refine mj_iload_n C dX11_goesOf_28 rfl ?_
      refine mj_iconst (v := 3) C dX11_goesOf_29 (by decide) ?_
      refine mj_iadd C dX11_goesOf_30 ?_
      refine mj_aload_n C dX11_goesOf_31 rfl ?_
      refine mj_getr (r := (β, 1)) C lF_X11_7 (sM0 hB) rfl dX11_goesOf_32 ?_
      refine mj_bipush (v := 11) C dX11_goesOf_35 (by decide) ?_
      refine mj_bald C (sM1 hB) (mj_okn 11 1897 (Nat.le_of_ble_eq_true rfl) (Nat.le_of_ble_eq_true rfl)) (mj_cln 11 (Nat.le_of_ble_eq_true rfl)) dX11_goesOf_37 ?_
      refine mj_iconst (v := 1) C dX11_goesOf_38 (by decide) ?_
      refine mj_iadd C dX11_goesOf_39 ?_
      obtain ⟨k10, h⟩ := mj_chk_o h
      obtain ⟨m11, hm11, h⟩ := mj_let_o h
      refine mj_bast C (sM1 hB) k10 rfl dX11_goesOf_40 hm11 ?_
      refine mj_sub (L' := [some (mj_r (β, 0)), none, some (.inl r6)]) ⟨rfl, ⟨rfl, trivial⟩⟩ ?_
      exact C_X11_goesOf_J41 C hB hR hT h
  · replace h := mj_if_f c5 h
    cases h
    exact mj_vret C hT dX11_goesOf_6 ⟨rfl, rfl, mj_bv _⟩
def f_X11_takenOf (a1 : Int32) (m : mj_m) : Option (mj_m) := if a1 < 0 then (some m) else (if a1 < 100 then (mj_let (f_X11_ledgerAt a1) (fun r3 => mj_chk (mj_ok (r3 + 4) 1897) (if m 1 (mj_cl (r3 + 4)) = 0 then (mj_chk (mj_ok (r3 + 5) 1897) (mj_let (mj_wrs m 1 (mj_cl (r3 + 5)) ((m 1 11) + 1)) (fun m10 => mj_chk (mj_ok (r3 + 7) 1897) (mj_let (mj_wrs m10 1 (mj_cl (r3 + 7)) (m10 1 19)) (fun m12 => mj_b1 (f_X11_more (r3 + 4) m12) (fun m13 => some m13)))))) else (mj_b1 (f_X11_more (r3 + 4) m) (fun m7 => some m7))))) else (some m))
set_option maxHeartbeats 4000000 in
set_option maxRecDepth 20000 in
theorem C_X11_takenOf {G : mj_G} {β : Nat} {M : mj_M} {a1 : Int32} {m : mj_m} {m0 : mj_m} (hB : mj_isM G β) (h : f_X11_takenOf a1 m = some m0) : mj_S1 yX11_takenOf cX11_takenOf 3 none 1 G [mj_r (β, 0), .inl a1] (va_up M β m) none (va_up M β m0) := by
  refine mj_intro (by decide) (Nat.le_of_ble_eq_true rfl) ?_
  intro κ C hG hR hT
  subst hG
  have C : mj_C κ cX11_takenOf 3 RX11 := C
  show mj_R κ (mj_F κ (fun r M' => r = none ∧ M' = (va_up M β m0) ∧ mj_bb none none)) 0 [some (mj_r (β, 0)), some (.inl a1), none] [] (va_up M β m)
  unfold f_X11_takenOf at h
  refine mj_iload_n C dX11_takenOf_0 rfl ?_
  refine mj_if_lt (tgt := 10) C dX11_takenOf_1 (by decide) (fun c1 => ?_) (fun c1 => ?_)
  · replace h := mj_if_t c1 h
    cases h
    exact mj_vret C hT dX11_takenOf_10 ⟨rfl, rfl, mj_bv _⟩
  · replace h := mj_if_f c1 h
    refine mj_iload_n C dX11_takenOf_4 rfl ?_
    refine mj_bipush (v := 100) C dX11_takenOf_5 (by decide) ?_
    refine mj_icmp_lt (tgt := 11) C dX11_takenOf_7 (by decide) (fun c2 => ?_) (fun c2 => ?_)
    · replace h := mj_if_t c2 h
      refine mj_aload_n C dX11_takenOf_11 rfl ?_
      refine mj_iload_n C dX11_takenOf_12 rfl ?_
      obtain ⟨r3, er3, h⟩ := mj_let_o h
      refine mj_callV1 (av := [.inl a1]) C lM_X11_62 lV_X11_ledgerAt (sM0 hB) ⟨_, rfl, rfl⟩ rfl (C_X11_ledgerAt hB er3) (mj_rmok hR (by decide) (by decide)) rfl (Nat.le_of_ble_eq_true rfl) dX11_takenOf_13 (fun hb4 => ?_)
      refine mj_istore_n (L2 := [some (mj_r (β, 0)), some (.inl a1), some (.inl r3)]) C dX11_takenOf_16 (Nat.le_of_ble_eq_true rfl) rfl ?_
      refine mj_aload_n C dX11_takenOf_17 rfl ?_
      refine mj_getr (r := (β, 1)) C lF_X11_7 (sM0 hB) rfl dX11_takenOf_18 ?_
      refine mj_iload_n C dX11_takenOf_21 rfl ?_
      refine mj_iconst (v := 4) C dX11_takenOf_22 (by decide) ?_
      refine mj_iadd C dX11_takenOf_23 ?_
      obtain ⟨k5, h⟩ := mj_chk_o h
      refine mj_bald C (sM1 hB) k5 rfl dX11_takenOf_24 ?_
      refine mj_if_ne (tgt := 61) C dX11_takenOf_25 (by decide) (fun c6 => ?_) (fun c6 => ?_)
      · replace h := mj_if_f c6 h
        refine mj_aload_n C dX11_takenOf_61 rfl ?_
        refine mj_iload_n C dX11_takenOf_62 rfl ?_
        refine mj_iconst (v := 4) C dX11_takenOf_63 (by decide) ?_
        refine mj_iadd C dX11_takenOf_64 ?_
        obtain ⟨m7, em7, h⟩ := mj_b1_o h
        refine mj_callV0 (av := [.inl (r3 + 4)]) C lM_X11_58 lV_X11_more (sM0 hB) ⟨_, rfl, rfl⟩ rfl (C_X11_more hB em7) (mj_rmok hR (by decide) (by decide)) rfl (Nat.le_of_ble_eq_true rfl) dX11_takenOf_65 ?_
        cases h
        exact mj_vret C hT dX11_takenOf_68 ⟨rfl, rfl, mj_bv _⟩
      · replace h := mj_if_t c6 h
        refine mj_aload_n C dX11_takenOf_28 rfl ?_
        refine mj_getr (r := (β, 1)) C lF_X11_7 (sM0 hB) rfl dX11_takenOf_29 ?_
        refine mj_iload_n C dX11_takenOf_32 rfl ?_
        refine mj_iconst (v := 5) C dX11_takenOf_33 (by decide) ?_
        refine mj_iadd C dX11_takenOf_34 ?_
        refine mj_aload_n C dX11_takenOf_35 rfl ?_
        refine mj_getr (r := (β, 1)) C lF_X11_7 (sM0 hB) rfl dX11_takenOf_36 ?_
        refine mj_bipush (v := 11) C dX11_takenOf_39 (by decide) ?_
        refine mj_bald C (sM1 hB) (mj_okn 11 1897 (Nat.le_of_ble_eq_true rfl) (Nat.le_of_ble_eq_true rfl)) (mj_cln 11 (Nat.le_of_ble_eq_true rfl)) dX11_takenOf_41 ?_
        refine mj_iconst (v := 1) C dX11_takenOf_42 (by decide) ?_
        refine mj_iadd C dX11_takenOf_43 ?_
        obtain ⟨k9, h⟩ := mj_chk_o h
        obtain ⟨m10, hm10, h⟩ := mj_let_o h
        refine mj_bast C (sM1 hB) k9 rfl dX11_takenOf_44 hm10 ?_
        refine mj_aload_n C dX11_takenOf_45 rfl ?_
        refine mj_getr (r := (β, 1)) C lF_X11_7 (sM0 hB) rfl dX11_takenOf_46 ?_
        refine mj_iload_n C dX11_takenOf_49 rfl ?_
        refine mj_bipush (v := 7) C dX11_takenOf_50 (by decide) ?_
        refine mj_iadd C dX11_takenOf_52 ?_
        refine mj_aload_n C dX11_takenOf_53 rfl ?_
        refine mj_getr (r := (β, 1)) C lF_X11_7 (sM0 hB) rfl dX11_takenOf_54 ?_
        refine mj_bipush (v := 19) C dX11_takenOf_57 (by decide) ?_
        refine mj_bald C (sM1 hB) (mj_okn 19 1897 (Nat.le_of_ble_eq_true rfl) (Nat.le_of_ble_eq_true rfl)) (mj_cln 19 (Nat.le_of_ble_eq_true rfl)) dX11_takenOf_59 ?_
        obtain ⟨k11, h⟩ := mj_chk_o h
        obtain ⟨m12, hm12, h⟩ := mj_let_o h
        refine mj_bast C (sM1 hB) k11 rfl dX11_takenOf_60 hm12 ?_
        refine mj_aload_n C dX11_takenOf_61 rfl ?_
        refine mj_iload_n C dX11_takenOf_62 rfl ?_
        refine mj_iconst (v := 4) C dX11_takenOf_63 (by decide) ?_
        refine mj_iadd C dX11_takenOf_64 ?_
        obtain ⟨m13, em13, h⟩ := mj_b1_o h
        refine mj_callV0 (av := [.inl (r3 + 4)]) C lM_X11_58 lV_X11_more (sM0 hB) ⟨_, rfl, rfl⟩ rfl (C_X11_more hB em13) (mj_rmok hR (by decide) (by decide)) rfl (Nat.le_of_ble_eq_true rfl) dX11_takenOf_65 ?_
        cases h
        exact mj_vret C hT dX11_takenOf_68 ⟨rfl, rfl, mj_bv _⟩
    · replace h := mj_if_f c2 h
      cases h
      exact mj_vret C hT dX11_takenOf_10 ⟨rfl, rfl, mj_bv _⟩
def f_X11_empties_L5 : Nat → Int32 → mj_m → Option (mj_m)
  | 0, _, _ => none
  | n + 1, l1, m => if m 1 40 ≤ l1 then (some m) else (mj_b1 (f_X11_stands l1 3 m) (fun m2 => mj_let (l1 + 1) (fun x4 => f_X11_empties_L5 n x4 m2)))
set_option maxHeartbeats 4000000 in
set_option maxRecDepth 20000 in
theorem C_X11_empties_L5 {κ : mj_K} {Q : State → Prop} {β : Nat} {M : mj_M} (C : mj_C κ cX11_empties 2 RX11) (hB : mj_isM (mj_g κ) β) (hR : mj_dp κ 2) : ∀ (n : Nat) (l1 : Int32) (m : mj_m) (mo : mj_m), f_X11_empties_L5 n l1 m = some mo → (mj_R κ Q 28 [some (mj_r (β, 0)), none] [] (va_up M β mo)) → mj_R κ Q 5 [some (mj_r (β, 0)), some (.inl l1)] [] (va_up M β m) := by
  intro n
  induction n with
  | zero =>
    intro l1 m mo h
    cases h
  | succ n ih =>
    intro l1 m mo h hx28
    rw [f_X11_empties_L5] at h
    refine mj_iload_n C dX11_empties_5 rfl ?_
    refine mj_aload_n C dX11_empties_6 rfl ?_
    refine mj_getr (r := (β, 1)) C lF_X11_7 (sM0 hB) rfl dX11_empties_7 ?_
    refine mj_bipush (v := 40) C dX11_empties_10 (by decide) ?_
    refine mj_bald C (sM1 hB) (mj_okn 40 1897 (Nat.le_of_ble_eq_true rfl) (Nat.le_of_ble_eq_true rfl)) (mj_cln 40 (Nat.le_of_ble_eq_true rfl)) dX11_empties_12 ?_
    refine mj_icmp_ge (tgt := 28) C dX11_empties_13 (by decide) (fun c1 => ?_) (fun c1 => ?_)
    · replace h := mj_if_t c1 h
      cases h
      refine mj_sub ?_ (hx28)
      exact ⟨rfl, trivial⟩
    · replace h := mj_if_f c1 h
      refine mj_aload_n C dX11_empties_16 rfl ?_
      refine mj_iload_n C dX11_empties_17 rfl ?_
      refine mj_iconst (v := 3) C dX11_empties_18 (by decide) ?_
      obtain ⟨m2, em2, h⟩ := mj_b1_o h
      refine mj_callV0 (av := [.inl l1, .inl 3]) C lM_X11_69 lV_X11_stands (sM0 hB) ⟨_, rfl, rfl⟩ rfl (C_X11_stands hB em2) (mj_rmok hR (by decide) (by decide)) rfl (Nat.le_of_ble_eq_true rfl) dX11_empties_19 ?_
      obtain ⟨x4, hx4, h⟩ := mj_let_o h
      refine mj_iinc (L2 := [some (mj_r (β, 0)), some (.inl x4)]) C dX11_empties_22 rfl hx4 rfl ?_
      refine mj_goto (tgt := 5) C dX11_empties_25 (by decide) ?_
      refine mj_sub (L' := [some (mj_r (β, 0)), some (.inl x4)]) ⟨rfl, ⟨rfl, trivial⟩⟩ ?_
      exact ih _ _ _ h hx28
def f_X11_empties (m : mj_m) : Option (mj_m) := mj_let (f_X11_firstSent m) (fun r5 => mj_b1 (f_X11_empties_L5 mj_fu r5 m) (fun m7 => mj_let (mj_wrs m7 1 24 0) (fun m9 => mj_let (mj_wrs m9 1 25 0) (fun m10 => some m10))))
set_option maxHeartbeats 4000000 in
set_option maxRecDepth 20000 in
theorem C_X11_empties {G : mj_G} {β : Nat} {M : mj_M} {m : mj_m} {m0 : mj_m} (hB : mj_isM G β) (h : f_X11_empties m = some m0) : mj_S1 yX11_empties cX11_empties 2 none 2 G [mj_r (β, 0)] (va_up M β m) none (va_up M β m0) := by
  refine mj_intro (by decide) (Nat.le_of_ble_eq_true rfl) ?_
  intro κ C hG hR hT
  subst hG
  have C : mj_C κ cX11_empties 2 RX11 := C
  show mj_R κ (mj_F κ (fun r M' => r = none ∧ M' = (va_up M β m0) ∧ mj_bb none none)) 0 [some (mj_r (β, 0)), none] [] (va_up M β m)
  unfold f_X11_empties at h
  refine mj_aload_n C dX11_empties_0 rfl ?_
  obtain ⟨r5, er5, h⟩ := mj_let_o h
  refine mj_callV1 (av := []) C lM_X11_65 lV_X11_firstSent (sM0 hB) ⟨_, rfl, rfl⟩ rfl (C_X11_firstSent hB er5) (mj_rmok hR (by decide) (by decide)) rfl (Nat.le_of_ble_eq_true rfl) dX11_empties_1 (fun hb6 => ?_)
  refine mj_istore_n (L2 := [some (mj_r (β, 0)), some (.inl r5)]) C dX11_empties_4 (Nat.le_of_ble_eq_true rfl) rfl ?_
  obtain ⟨m7, hl8, h⟩ := mj_b1_o h
  refine mj_sub (L' := [some (mj_r (β, 0)), some (.inl r5)]) ⟨rfl, ⟨rfl, trivial⟩⟩ ?_
  refine C_X11_empties_L5 C hB hR _ _ _ _ hl8 ?_
  refine mj_aload_n C dX11_empties_28 rfl ?_
  refine mj_getr (r := (β, 1)) C lF_X11_7 (sM0 hB) rfl dX11_empties_29 ?_
  refine mj_bipush (v := 24) C dX11_empties_32 (by decide) ?_
  refine mj_iconst (v := 0) C dX11_empties_34 (by decide) ?_
  obtain ⟨m9, hm9, h⟩ := mj_let_o h
  refine mj_bast C (sM1 hB) (mj_okn 24 1897 (Nat.le_of_ble_eq_true rfl) (Nat.le_of_ble_eq_true rfl)) (mj_cln 24 (Nat.le_of_ble_eq_true rfl)) dX11_empties_35 hm9 ?_
  refine mj_aload_n C dX11_empties_36 rfl ?_
  refine mj_getr (r := (β, 1)) C lF_X11_7 (sM0 hB) rfl dX11_empties_37 ?_
  refine mj_bipush (v := 25) C dX11_empties_40 (by decide) ?_
  refine mj_iconst (v := 0) C dX11_empties_42 (by decide) ?_
  obtain ⟨m10, hm10, h⟩ := mj_let_o h
  refine mj_bast C (sM1 hB) (mj_okn 25 1897 (Nat.le_of_ble_eq_true rfl) (Nat.le_of_ble_eq_true rfl)) (mj_cln 25 (Nat.le_of_ble_eq_true rfl)) dX11_empties_43 hm10 ?_
  cases h
  exact mj_vret C hT dX11_empties_44 ⟨rfl, rfl, mj_bv _⟩
def f_X11_ledger (a1 : Int32) (a2 : Int32) (m : mj_m) : Option (Int32 × mj_m) := mj_let (mj_wrs m 0 0 0) (fun m1 => if a1 = (-1) then (mj_let (f_X11_ledgerMany m1) (fun r16 => some (r16, m1))) else (if a1 < 0 then (some ((-1), m1)) else (mj_let (f_X11_ledgerMany m1) (fun r4 => if r4 ≤ a1 then (some ((-1), m1)) else (mj_let (f_X11_isIn a2 0 6) (fun r7 => if r7 = 0 then (some ((-1), m1)) else (mj_let (f_X11_ledgerAt a1) (fun r10 => mj_chk (mj_ok (r10 + a2) 1897) (mj_let (m1 1 (mj_cl (r10 + a2))) (fun x13 => if a2 = 3 then (some (x13 - 1, m1)) else (if a2 = 5 then (some (x13 - 1, m1)) else (some (x13, m1)))))))))))))
set_option maxHeartbeats 4000000 in
set_option maxRecDepth 20000 in
theorem C_X11_ledger {G : mj_G} {β : Nat} {M : mj_M} {a1 : Int32} {a2 : Int32} {m : mj_m} {x0 : Int32} {m0 : mj_m} (hB : mj_isM G β) (h : f_X11_ledger a1 a2 m = some (x0, m0)) : mj_S1 yX11_ledger cX11_ledger 4 (some .int) 1 G [mj_r (β, 0), .inl a1, .inl a2] (va_up M β m) (some (.inl x0)) (va_up M β m0) := by
  refine mj_intro (by decide) (Nat.le_of_ble_eq_true rfl) ?_
  intro κ C hG hR hT
  subst hG
  have C : mj_C κ cX11_ledger 4 RX11 := C
  show mj_R κ (mj_F κ (fun r M' => r = (some (.inl x0)) ∧ M' = (va_up M β m0) ∧ mj_bb (some .int) (some (.inl x0)))) 0 [some (mj_r (β, 0)), some (.inl a1), some (.inl a2), none] [] (va_up M β m)
  unfold f_X11_ledger at h
  refine mj_aload_n C dX11_ledger_0 rfl ?_
  refine mj_iconst (v := 0) C dX11_ledger_1 (by decide) ?_
  obtain ⟨m1, hm1, h⟩ := mj_let_o h
  refine mj_bput C lF_X11_41 fP_12_0 (vp_nar_int _) rfl (sM0 hB) rfl dX11_ledger_2 hm1 ?_
  refine mj_iload_n C dX11_ledger_5 rfl ?_
  refine mj_iconst (v := (-1)) C dX11_ledger_6 (by decide) ?_
  refine mj_icmp_ne (tgt := 15) C dX11_ledger_7 (by decide) (fun c2 => ?_) (fun c2 => ?_)
  · replace h := mj_if_f c2 h
    refine mj_iload_n C dX11_ledger_15 rfl ?_
    refine mj_if_lt (tgt := 38) C dX11_ledger_16 (by decide) (fun c3 => ?_) (fun c3 => ?_)
    · replace h := mj_if_t c3 h
      refine mj_iconst (v := (-1)) C dX11_ledger_38 (by decide) ?_
      cases h
      exact mj_iret C hT (vp_nar_int _) dX11_ledger_39 ⟨rfl, rfl, mj_bi _⟩
    · replace h := mj_if_f c3 h
      refine mj_iload_n C dX11_ledger_19 rfl ?_
      refine mj_aload_n C dX11_ledger_20 rfl ?_
      obtain ⟨r4, er4, h⟩ := mj_let_o h
      refine mj_callV1 (av := []) C lM_X11_73 lV_X11_ledgerMany (sM0 hB) ⟨_, rfl, rfl⟩ rfl (C_X11_ledgerMany hB er4) (mj_rmok hR (by decide) (by decide)) rfl (Nat.le_of_ble_eq_true rfl) dX11_ledger_21 (fun hb5 => ?_)
      refine mj_icmp_ge (tgt := 38) C dX11_ledger_24 (by decide) (fun c6 => ?_) (fun c6 => ?_)
      · replace h := mj_if_t c6 h
        refine mj_iconst (v := (-1)) C dX11_ledger_38 (by decide) ?_
        cases h
        exact mj_iret C hT (vp_nar_int _) dX11_ledger_39 ⟨rfl, rfl, mj_bi _⟩
      · replace h := mj_if_f c6 h
        refine mj_aload_n C dX11_ledger_27 rfl ?_
        refine mj_iload_n C dX11_ledger_28 rfl ?_
        refine mj_iconst (v := 0) C dX11_ledger_29 (by decide) ?_
        refine mj_bipush (v := 6) C dX11_ledger_30 (by decide) ?_
        obtain ⟨r7, er7, h⟩ := mj_let_o h
        refine mj_callV1 (av := [.inl a2, .inl 0, .inl 6]) C lM_X11_48 lV_X11_isIn (sM0 hB) ⟨_, rfl, rfl⟩ rfl (C_X11_isIn hB er7) (mj_rmok hR (by decide) (by decide)) rfl (Nat.le_of_ble_eq_true rfl) dX11_ledger_32 (fun hb8 => ?_)
        refine mj_if_ne (tgt := 40) C dX11_ledger_35 (by decide) (fun c9 => ?_) (fun c9 => ?_)
        · replace h := mj_if_f c9 h
          refine mj_aload_n C dX11_ledger_40 rfl ?_
          refine mj_getr (r := (β, 1)) C lF_X11_7 (sM0 hB) rfl dX11_ledger_41 ?_
          refine mj_aload_n C dX11_ledger_44 rfl ?_
          refine mj_iload_n C dX11_ledger_45 rfl ?_
          obtain ⟨r10, er10, h⟩ := mj_let_o h
          refine mj_callV1 (av := [.inl a1]) C lM_X11_62 lV_X11_ledgerAt (sM0 hB) ⟨_, rfl, rfl⟩ rfl (C_X11_ledgerAt hB er10) (mj_rmok hR (by decide) (by decide)) rfl (Nat.le_of_ble_eq_true rfl) dX11_ledger_46 (fun hb11 => ?_)
          refine mj_iload_n C dX11_ledger_49 rfl ?_
          refine mj_iadd C dX11_ledger_50 ?_
          obtain ⟨k12, h⟩ := mj_chk_o h
          refine mj_bald C (sM1 hB) k12 rfl dX11_ledger_51 ?_
          obtain ⟨x13, hx13, h⟩ := mj_let_o h
          refine mj_nm hx13 ?_
          refine mj_istore_n (L2 := [some (mj_r (β, 0)), some (.inl a1), some (.inl a2), some (.inl x13)]) C dX11_ledger_52 (Nat.le_of_ble_eq_true rfl) rfl ?_
          refine mj_iload_n C dX11_ledger_53 rfl ?_
          refine mj_iconst (v := 3) C dX11_ledger_54 (by decide) ?_
          refine mj_icmp_eq (tgt := 63) C dX11_ledger_55 (by decide) (fun c14 => ?_) (fun c14 => ?_)
          · replace h := mj_if_t c14 h
            refine mj_iload_n C dX11_ledger_63 rfl ?_
            refine mj_iconst (v := 1) C dX11_ledger_64 (by decide) ?_
            refine mj_isub C dX11_ledger_65 ?_
            refine mj_goto (tgt := 70) C dX11_ledger_66 (by decide) ?_
            cases h
            exact mj_iret C hT (vp_nar_int _) dX11_ledger_70 ⟨rfl, rfl, mj_bi _⟩
          · replace h := mj_if_f c14 h
            refine mj_iload_n C dX11_ledger_58 rfl ?_
            refine mj_iconst (v := 5) C dX11_ledger_59 (by decide) ?_
            refine mj_icmp_ne (tgt := 69) C dX11_ledger_60 (by decide) (fun c15 => ?_) (fun c15 => ?_)
            · replace h := mj_if_f c15 h
              refine mj_iload_n C dX11_ledger_69 rfl ?_
              cases h
              exact mj_iret C hT (vp_nar_int _) dX11_ledger_70 ⟨rfl, rfl, mj_bi _⟩
            · replace h := mj_if_t c15 h
              refine mj_iload_n C dX11_ledger_63 rfl ?_
              refine mj_iconst (v := 1) C dX11_ledger_64 (by decide) ?_
              refine mj_isub C dX11_ledger_65 ?_
              refine mj_goto (tgt := 70) C dX11_ledger_66 (by decide) ?_
              cases h
              exact mj_iret C hT (vp_nar_int _) dX11_ledger_70 ⟨rfl, rfl, mj_bi _⟩
        · replace h := mj_if_t c9 h
          refine mj_iconst (v := (-1)) C dX11_ledger_38 (by decide) ?_
          cases h
          exact mj_iret C hT (vp_nar_int _) dX11_ledger_39 ⟨rfl, rfl, mj_bi _⟩
  · replace h := mj_if_t c2 h
    refine mj_aload_n C dX11_ledger_10 rfl ?_
    obtain ⟨r16, er16, h⟩ := mj_let_o h
    refine mj_callV1 (av := []) C lM_X11_73 lV_X11_ledgerMany (sM0 hB) ⟨_, rfl, rfl⟩ rfl (C_X11_ledgerMany hB er16) (mj_rmok hR (by decide) (by decide)) rfl (Nat.le_of_ble_eq_true rfl) dX11_ledger_11 (fun hb17 => ?_)
    cases h
    exact mj_iret C hT (vp_nar_int _) dX11_ledger_14 ⟨rfl, rfl, mj_bi _⟩
def f_X11_ledgerOf (a1 : Int32) (a2 : Int32) (m : mj_m) : Option (Int32) := mj_let (f_X11_ledgerAt a1) (fun r1 => mj_chk (mj_ok (r1 + a2) 1897) (some (m 1 (mj_cl (r1 + a2)))))
set_option maxHeartbeats 4000000 in
set_option maxRecDepth 20000 in
theorem C_X11_ledgerOf {G : mj_G} {β : Nat} {M : mj_M} {a1 : Int32} {a2 : Int32} {m : mj_m} {x0 : Int32} (hB : mj_isM G β) (h : f_X11_ledgerOf a1 a2 m = some x0) : mj_S1 yX11_ledgerOf cX11_ledgerOf 3 (some .int) 1 G [mj_r (β, 0), .inl a1, .inl a2] (va_up M β m) (some (.inl x0)) (va_up M β m) := by
  refine mj_intro (by decide) (Nat.le_of_ble_eq_true rfl) ?_
  intro κ C hG hR hT
  subst hG
  have C : mj_C κ cX11_ledgerOf 3 RX11 := C
  show mj_R κ (mj_F κ (fun r M' => r = (some (.inl x0)) ∧ M' = (va_up M β m) ∧ mj_bb (some .int) (some (.inl x0)))) 0 [some (mj_r (β, 0)), some (.inl a1), some (.inl a2)] [] (va_up M β m)
  unfold f_X11_ledgerOf at h
  refine mj_aload_n C dX11_ledgerOf_0 rfl ?_
  refine mj_getr (r := (β, 1)) C lF_X11_7 (sM0 hB) rfl dX11_ledgerOf_1 ?_
  refine mj_aload_n C dX11_ledgerOf_4 rfl ?_
  refine mj_iload_n C dX11_ledgerOf_5 rfl ?_
  obtain ⟨r1, er1, h⟩ := mj_let_o h
  refine mj_callV1 (av := [.inl a1]) C lM_X11_62 lV_X11_ledgerAt (sM0 hB) ⟨_, rfl, rfl⟩ rfl (C_X11_ledgerAt hB er1) (mj_rmok hR (by decide) (by decide)) rfl (Nat.le_of_ble_eq_true rfl) dX11_ledgerOf_6 (fun hb2 => ?_)
  refine mj_iload_n C dX11_ledgerOf_9 rfl ?_
  refine mj_iadd C dX11_ledgerOf_10 ?_
  obtain ⟨k3, h⟩ := mj_chk_o h
  refine mj_bald C (sM1 hB) k3 rfl dX11_ledgerOf_11 ?_
  cases h
  exact mj_iret C hT (vp_nar_int _) dX11_ledgerOf_12 ⟨rfl, rfl, mj_bi _⟩
def f_X11_isBehindLater_L4 (l1 : Int32) : Nat → Int32 → mj_m → Option (Nat)
  | 0, _, _ => none
  | n + 1, l2, m => mj_let (f_X11_ledgerMany m) (fun r1 => if r1 ≤ l2 then (some 46) else (mj_b1 (f_X11_ledgerOf l2 4 m) (fun r4 => if r4 ≤ 0 then (mj_let (l2 + 1) (fun x7 => f_X11_isBehindLater_L4 l1 n x7 m)) else (mj_b1 (f_X11_ledgerOf l2 7 m) (fun r8 => mj_b1 (f_X11_ledgerOf l1 7 m) (fun r10 => if r10 ≤ r8 then (mj_let (l2 + 1) (fun x13 => f_X11_isBehindLater_L4 l1 n x13 m)) else (some 38)))))))
set_option maxHeartbeats 4000000 in
set_option maxRecDepth 20000 in
theorem C_X11_isBehindLater_L4 {κ : mj_K} {Q : State → Prop} {β : Nat} {M : mj_M} {l1 : Int32} (C : mj_C κ cX11_isBehindLater 3 RX11) (hB : mj_isM (mj_g κ) β) (hR : mj_dp κ 2) : ∀ (n : Nat) (l2 : Int32) (m : mj_m) (tg : Nat), f_X11_isBehindLater_L4 l1 n l2 m = some tg → (tg = 38 → mj_R κ Q 38 [none, none, none] [] (va_up M β m)) → (tg = 46 → mj_R κ Q 46 [none, none, none] [] (va_up M β m)) → mj_R κ Q 4 [some (mj_r (β, 0)), some (.inl l1), some (.inl l2)] [] (va_up M β m) := by
  intro n
  induction n with
  | zero =>
    intro l2 m tg h
    cases h
  | succ n ih =>
    intro l2 m tg h hx38 hx46
    rw [f_X11_isBehindLater_L4] at h
    refine mj_iload_n C dX11_isBehindLater_4 rfl ?_
    refine mj_aload_n C dX11_isBehindLater_5 rfl ?_
    obtain ⟨r1, er1, h⟩ := mj_let_o h
    refine mj_callV1 (av := []) C lM_X11_73 lV_X11_ledgerMany (sM0 hB) ⟨_, rfl, rfl⟩ rfl (C_X11_ledgerMany hB er1) (mj_rmok hR (by decide) (by decide)) rfl (Nat.le_of_ble_eq_true rfl) dX11_isBehindLater_6 (fun hb2 => ?_)
    refine mj_icmp_ge (tgt := 46) C dX11_isBehindLater_9 (by decide) (fun c3 => ?_) (fun c3 => ?_)
    · replace h := mj_if_t c3 h
      cases h
      refine mj_sub ?_ (hx46 rfl)
      exact trivial
    · replace h := mj_if_f c3 h
      refine mj_aload_n C dX11_isBehindLater_12 rfl ?_
      refine mj_iload_n C dX11_isBehindLater_13 rfl ?_
      refine mj_iconst (v := 4) C dX11_isBehindLater_14 (by decide) ?_
      obtain ⟨r4, er4, h⟩ := mj_b1_o h
      refine mj_callV1 (av := [.inl l2, .inl 4]) C lM_X11_76 lV_X11_ledgerOf (sM0 hB) ⟨_, rfl, rfl⟩ rfl (C_X11_ledgerOf hB er4) (mj_rmok hR (by decide) (by decide)) rfl (Nat.le_of_ble_eq_true rfl) dX11_isBehindLater_15 (fun hb5 => ?_)
      refine mj_if_le (tgt := 40) C dX11_isBehindLater_18 (by decide) (fun c6 => ?_) (fun c6 => ?_)
      · replace h := mj_if_t c6 h
        obtain ⟨x7, hx7, h⟩ := mj_let_o h
        refine mj_iinc (L2 := [some (mj_r (β, 0)), some (.inl l1), some (.inl x7)]) C dX11_isBehindLater_40 rfl hx7 rfl ?_
        refine mj_goto (tgt := 4) C dX11_isBehindLater_43 (by decide) ?_
        refine mj_sub (L' := [some (mj_r (β, 0)), some (.inl l1), some (.inl x7)]) ⟨rfl, ⟨rfl, ⟨rfl, trivial⟩⟩⟩ ?_
        exact ih _ _ _ h hx38 hx46
      · replace h := mj_if_f c6 h
        refine mj_aload_n C dX11_isBehindLater_21 rfl ?_
        refine mj_iload_n C dX11_isBehindLater_22 rfl ?_
        refine mj_bipush (v := 7) C dX11_isBehindLater_23 (by decide) ?_
        obtain ⟨r8, er8, h⟩ := mj_b1_o h
        refine mj_callV1 (av := [.inl l2, .inl 7]) C lM_X11_76 lV_X11_ledgerOf (sM0 hB) ⟨_, rfl, rfl⟩ rfl (C_X11_ledgerOf hB er8) (mj_rmok hR (by decide) (by decide)) rfl (Nat.le_of_ble_eq_true rfl) dX11_isBehindLater_25 (fun hb9 => ?_)
        refine mj_aload_n C dX11_isBehindLater_28 rfl ?_
        refine mj_iload_n C dX11_isBehindLater_29 rfl ?_
        refine mj_bipush (v := 7) C dX11_isBehindLater_30 (by decide) ?_
        obtain ⟨r10, er10, h⟩ := mj_b1_o h
        refine mj_callV1 (av := [.inl l1, .inl 7]) C lM_X11_76 lV_X11_ledgerOf (sM0 hB) ⟨_, rfl, rfl⟩ rfl (C_X11_ledgerOf hB er10) (mj_rmok hR (by decide) (by decide)) rfl (Nat.le_of_ble_eq_true rfl) dX11_isBehindLater_32 (fun hb11 => ?_)
        refine mj_icmp_ge (tgt := 40) C dX11_isBehindLater_35 (by decide) (fun c12 => ?_) (fun c12 => ?_)
        · replace h := mj_if_t c12 h
          obtain ⟨x13, hx13, h⟩ := mj_let_o h
          refine mj_iinc (L2 := [some (mj_r (β, 0)), some (.inl l1), some (.inl x13)]) C dX11_isBehindLater_40 rfl hx13 rfl ?_
          refine mj_goto (tgt := 4) C dX11_isBehindLater_43 (by decide) ?_
          refine mj_sub (L' := [some (mj_r (β, 0)), some (.inl l1), some (.inl x13)]) ⟨rfl, ⟨rfl, ⟨rfl, trivial⟩⟩⟩ ?_
          exact ih _ _ _ h hx38 hx46
        · replace h := mj_if_f c12 h
          cases h
          refine mj_sub ?_ (hx38 rfl)
          exact trivial
def f_X11_isBehindLater (a1 : Int32) (m : mj_m) : Option (Int32) := mj_let (a1 + 1) (fun x14 => mj_b1 (f_X11_isBehindLater_L4 a1 mj_fu x14 m) (fun t15 => if t15 = 38 then (some 1) else (some 0)))
set_option maxHeartbeats 4000000 in
set_option maxRecDepth 20000 in
theorem C_X11_isBehindLater {G : mj_G} {β : Nat} {M : mj_M} {a1 : Int32} {m : mj_m} {x0 : Int32} (hB : mj_isM G β) (h : f_X11_isBehindLater a1 m = some x0) : mj_S1 yX11_isBehindLater cX11_isBehindLater 3 (some .boolean) 2 G [mj_r (β, 0), .inl a1] (va_up M β m) (some (.inl x0)) (va_up M β m) := by
  refine mj_intro (by decide) (Nat.le_of_ble_eq_true rfl) ?_
  intro κ C hG hR hT
  subst hG
  have C : mj_C κ cX11_isBehindLater 3 RX11 := C
  show mj_R κ (mj_F κ (fun r M' => r = (some (.inl x0)) ∧ M' = (va_up M β m) ∧ mj_bb (some .boolean) (some (.inl x0)))) 0 [some (mj_r (β, 0)), some (.inl a1), none] [] (va_up M β m)
  unfold f_X11_isBehindLater at h
  refine mj_iload_n C dX11_isBehindLater_0 rfl ?_
  refine mj_iconst (v := 1) C dX11_isBehindLater_1 (by decide) ?_
  refine mj_iadd C dX11_isBehindLater_2 ?_
  obtain ⟨x14, hx14, h⟩ := mj_let_o h
  refine mj_nm hx14 ?_
  refine mj_istore_n (L2 := [some (mj_r (β, 0)), some (.inl a1), some (.inl x14)]) C dX11_isBehindLater_3 (Nat.le_of_ble_eq_true rfl) rfl ?_
  obtain ⟨t15, hl16, h⟩ := mj_b1_o h
  refine mj_sub (L' := [some (mj_r (β, 0)), some (.inl a1), some (.inl x14)]) ⟨rfl, ⟨rfl, ⟨rfl, trivial⟩⟩⟩ ?_
  refine C_X11_isBehindLater_L4 C hB hR _ _ _ _ hl16 (fun te => ?_) (fun te => ?_)
  · subst te
    replace h := mj_if_t rfl h
    refine mj_iconst (v := 1) C dX11_isBehindLater_38 (by decide) ?_
    cases h
    exact mj_iret C hT (mj_nb mj_b1') dX11_isBehindLater_39 ⟨rfl, rfl, mj_b1'⟩
  · subst te
    replace h := mj_if_f (by decide) h
    refine mj_iconst (v := 0) C dX11_isBehindLater_46 (by decide) ?_
    cases h
    exact mj_iret C hT (mj_nb mj_b0) dX11_isBehindLater_47 ⟨rfl, rfl, mj_b0⟩
def f_X11_isDelayed (a1 : Int32) (a2 : Int32) (m : mj_m) : Option (Int32) := mj_b1 (f_X11_ledgerOf a1 4 m) (fun r1 => if a2 = 3 then (if r1 ≤ 1 then (some 0) else (some 1)) else (if a2 = 4 then (if r1 = 0 then (mj_b1 (f_X11_ledgerOf a1 6 m) (fun r16 => if r16 = 2 then (some 1) else (some 0))) else (some 0)) else (if a2 = 5 then (if r1 ≤ 0 then (some 0) else (mj_b1 (f_X11_isBehindLater a1 m) (fun r12 => if r12 = 0 then (some 0) else (some 1)))) else (if a2 = 6 then (mj_b1 (f_X11_ledgerOf a1 2 m) (fun r8 => if r8 ≤ 1 then (some 0) else (some 1))) else (if r1 ≤ 0 then (some 0) else (some 1))))))
set_option maxHeartbeats 4000000 in
set_option maxRecDepth 20000 in
theorem C_X11_isDelayed {G : mj_G} {β : Nat} {M : mj_M} {a1 : Int32} {a2 : Int32} {m : mj_m} {x0 : Int32} (hB : mj_isM G β) (h : f_X11_isDelayed a1 a2 m = some x0) : mj_S1 yX11_isDelayed cX11_isDelayed 4 (some .boolean) 3 G [mj_r (β, 0), .inl a1, .inl a2] (va_up M β m) (some (.inl x0)) (va_up M β m) := by
  refine mj_intro (by decide) (Nat.le_of_ble_eq_true rfl) ?_
  intro κ C hG hR hT
  subst hG
  have C : mj_C κ cX11_isDelayed 4 RX11 := C
  show mj_R κ (mj_F κ (fun r M' => r = (some (.inl x0)) ∧ M' = (va_up M β m) ∧ mj_bb (some .boolean) (some (.inl x0)))) 0 [some (mj_r (β, 0)), some (.inl a1), some (.inl a2), none] [] (va_up M β m)
  unfold f_X11_isDelayed at h
  refine mj_aload_n C dX11_isDelayed_0 rfl ?_
  refine mj_iload_n C dX11_isDelayed_1 rfl ?_
  refine mj_iconst (v := 4) C dX11_isDelayed_2 (by decide) ?_
  obtain ⟨r1, er1, h⟩ := mj_b1_o h
  refine mj_callV1 (av := [.inl a1, .inl 4]) C lM_X11_76 lV_X11_ledgerOf (sM0 hB) ⟨_, rfl, rfl⟩ rfl (C_X11_ledgerOf hB er1) (mj_rmok hR (by decide) (by decide)) rfl (Nat.le_of_ble_eq_true rfl) dX11_isDelayed_3 (fun hb2 => ?_)
  refine mj_istore_n (L2 := [some (mj_r (β, 0)), some (.inl a1), some (.inl a2), some (.inl r1)]) C dX11_isDelayed_6 (Nat.le_of_ble_eq_true rfl) rfl ?_
  refine mj_iload_n C dX11_isDelayed_7 rfl ?_
  refine mj_iconst (v := 3) C dX11_isDelayed_8 (by decide) ?_
  refine mj_icmp_ne (tgt := 23) C dX11_isDelayed_9 (by decide) (fun c3 => ?_) (fun c3 => ?_)
  · replace h := mj_if_f c3 h
    refine mj_iload_n C dX11_isDelayed_23 rfl ?_
    refine mj_iconst (v := 4) C dX11_isDelayed_24 (by decide) ?_
    refine mj_icmp_ne (tgt := 49) C dX11_isDelayed_25 (by decide) (fun c4 => ?_) (fun c4 => ?_)
    · replace h := mj_if_f c4 h
      refine mj_iload_n C dX11_isDelayed_49 rfl ?_
      refine mj_iconst (v := 5) C dX11_isDelayed_50 (by decide) ?_
      refine mj_icmp_ne (tgt := 72) C dX11_isDelayed_51 (by decide) (fun c5 => ?_) (fun c5 => ?_)
      · replace h := mj_if_f c5 h
        refine mj_iload_n C dX11_isDelayed_72 rfl ?_
        refine mj_bipush (v := 6) C dX11_isDelayed_73 (by decide) ?_
        refine mj_icmp_ne (tgt := 96) C dX11_isDelayed_75 (by decide) (fun c6 => ?_) (fun c6 => ?_)
        · replace h := mj_if_f c6 h
          refine mj_iload_n C dX11_isDelayed_96 rfl ?_
          refine mj_if_le (tgt := 104) C dX11_isDelayed_97 (by decide) (fun c7 => ?_) (fun c7 => ?_)
          · replace h := mj_if_t c7 h
            refine mj_iconst (v := 0) C dX11_isDelayed_104 (by decide) ?_
            cases h
            exact mj_iret C hT (mj_nb mj_b0) dX11_isDelayed_105 ⟨rfl, rfl, mj_b0⟩
          · replace h := mj_if_f c7 h
            refine mj_iconst (v := 1) C dX11_isDelayed_100 (by decide) ?_
            refine mj_goto (tgt := 105) C dX11_isDelayed_101 (by decide) ?_
            cases h
            exact mj_iret C hT (mj_nb mj_b1') dX11_isDelayed_105 ⟨rfl, rfl, mj_b1'⟩
        · replace h := mj_if_t c6 h
          refine mj_aload_n C dX11_isDelayed_78 rfl ?_
          refine mj_iload_n C dX11_isDelayed_79 rfl ?_
          refine mj_iconst (v := 2) C dX11_isDelayed_80 (by decide) ?_
          obtain ⟨r8, er8, h⟩ := mj_b1_o h
          refine mj_callV1 (av := [.inl a1, .inl 2]) C lM_X11_76 lV_X11_ledgerOf (sM0 hB) ⟨_, rfl, rfl⟩ rfl (C_X11_ledgerOf hB er8) (mj_rmok hR (by decide) (by decide)) rfl (Nat.le_of_ble_eq_true rfl) dX11_isDelayed_81 (fun hb9 => ?_)
          refine mj_iconst (v := 1) C dX11_isDelayed_84 (by decide) ?_
          refine mj_icmp_le (tgt := 92) C dX11_isDelayed_85 (by decide) (fun c10 => ?_) (fun c10 => ?_)
          · replace h := mj_if_t c10 h
            refine mj_iconst (v := 0) C dX11_isDelayed_92 (by decide) ?_
            refine mj_goto (tgt := 105) C dX11_isDelayed_93 (by decide) ?_
            cases h
            exact mj_iret C hT (mj_nb mj_b0) dX11_isDelayed_105 ⟨rfl, rfl, mj_b0⟩
          · replace h := mj_if_f c10 h
            refine mj_iconst (v := 1) C dX11_isDelayed_88 (by decide) ?_
            refine mj_goto (tgt := 105) C dX11_isDelayed_89 (by decide) ?_
            cases h
            exact mj_iret C hT (mj_nb mj_b1') dX11_isDelayed_105 ⟨rfl, rfl, mj_b1'⟩
      · replace h := mj_if_t c5 h
        refine mj_iload_n C dX11_isDelayed_54 rfl ?_
        refine mj_if_le (tgt := 70) C dX11_isDelayed_55 (by decide) (fun c11 => ?_) (fun c11 => ?_)
        · replace h := mj_if_t c11 h
          refine mj_iconst (v := 0) C dX11_isDelayed_70 (by decide) ?_
          cases h
          exact mj_iret C hT (mj_nb mj_b0) dX11_isDelayed_71 ⟨rfl, rfl, mj_b0⟩
        · replace h := mj_if_f c11 h
          refine mj_aload_n C dX11_isDelayed_58 rfl ?_
          refine mj_iload_n C dX11_isDelayed_59 rfl ?_
          obtain ⟨r12, er12, h⟩ := mj_b1_o h
          refine mj_callV1 (av := [.inl a1]) C lM_X11_80 lV_X11_isBehindLater (sM0 hB) ⟨_, rfl, rfl⟩ rfl (C_X11_isBehindLater hB er12) (mj_rmok hR (by decide) (by decide)) rfl (Nat.le_of_ble_eq_true rfl) dX11_isDelayed_60 (fun hb13 => ?_)
          refine mj_if_eq (tgt := 70) C dX11_isDelayed_63 (by decide) (fun c14 => ?_) (fun c14 => ?_)
          · replace h := mj_if_t c14 h
            refine mj_iconst (v := 0) C dX11_isDelayed_70 (by decide) ?_
            cases h
            exact mj_iret C hT (mj_nb mj_b0) dX11_isDelayed_71 ⟨rfl, rfl, mj_b0⟩
          · replace h := mj_if_f c14 h
            refine mj_iconst (v := 1) C dX11_isDelayed_66 (by decide) ?_
            refine mj_goto (tgt := 71) C dX11_isDelayed_67 (by decide) ?_
            cases h
            exact mj_iret C hT (mj_nb mj_b1') dX11_isDelayed_71 ⟨rfl, rfl, mj_b1'⟩
    · replace h := mj_if_t c4 h
      refine mj_iload_n C dX11_isDelayed_28 rfl ?_
      refine mj_if_ne (tgt := 47) C dX11_isDelayed_29 (by decide) (fun c15 => ?_) (fun c15 => ?_)
      · replace h := mj_if_f c15 h
        refine mj_iconst (v := 0) C dX11_isDelayed_47 (by decide) ?_
        cases h
        exact mj_iret C hT (mj_nb mj_b0) dX11_isDelayed_48 ⟨rfl, rfl, mj_b0⟩
      · replace h := mj_if_t c15 h
        refine mj_aload_n C dX11_isDelayed_32 rfl ?_
        refine mj_iload_n C dX11_isDelayed_33 rfl ?_
        refine mj_bipush (v := 6) C dX11_isDelayed_34 (by decide) ?_
        obtain ⟨r16, er16, h⟩ := mj_b1_o h
        refine mj_callV1 (av := [.inl a1, .inl 6]) C lM_X11_76 lV_X11_ledgerOf (sM0 hB) ⟨_, rfl, rfl⟩ rfl (C_X11_ledgerOf hB er16) (mj_rmok hR (by decide) (by decide)) rfl (Nat.le_of_ble_eq_true rfl) dX11_isDelayed_36 (fun hb17 => ?_)
        refine mj_iconst (v := 2) C dX11_isDelayed_39 (by decide) ?_
        refine mj_icmp_ne (tgt := 47) C dX11_isDelayed_40 (by decide) (fun c18 => ?_) (fun c18 => ?_)
        · replace h := mj_if_f c18 h
          refine mj_iconst (v := 0) C dX11_isDelayed_47 (by decide) ?_
          cases h
          exact mj_iret C hT (mj_nb mj_b0) dX11_isDelayed_48 ⟨rfl, rfl, mj_b0⟩
        · replace h := mj_if_t c18 h
          refine mj_iconst (v := 1) C dX11_isDelayed_43 (by decide) ?_
          refine mj_goto (tgt := 48) C dX11_isDelayed_44 (by decide) ?_
          cases h
          exact mj_iret C hT (mj_nb mj_b1') dX11_isDelayed_48 ⟨rfl, rfl, mj_b1'⟩
  · replace h := mj_if_t c3 h
    refine mj_iload_n C dX11_isDelayed_12 rfl ?_
    refine mj_iconst (v := 1) C dX11_isDelayed_13 (by decide) ?_
    refine mj_icmp_le (tgt := 21) C dX11_isDelayed_14 (by decide) (fun c19 => ?_) (fun c19 => ?_)
    · replace h := mj_if_t c19 h
      refine mj_iconst (v := 0) C dX11_isDelayed_21 (by decide) ?_
      cases h
      exact mj_iret C hT (mj_nb mj_b0) dX11_isDelayed_22 ⟨rfl, rfl, mj_b0⟩
    · replace h := mj_if_f c19 h
      refine mj_iconst (v := 1) C dX11_isDelayed_17 (by decide) ?_
      refine mj_goto (tgt := 22) C dX11_isDelayed_18 (by decide) ?_
      cases h
      exact mj_iret C hT (mj_nb mj_b1') dX11_isDelayed_22 ⟨rfl, rfl, mj_b1'⟩
def f_X11_delays_L28 (l1 : Int32) : Nat → Int32 → Int32 → Int32 → Int32 → mj_m → Option (Int32 × Int32 × Int32)
  | 0, _, _, _, _, _ => none
  | n + 1, l2, l3, l4, l5, m => mj_let (f_X11_ledgerMany m) (fun r1 => if r1 ≤ l5 then (some (l2, l3, l4)) else (mj_b1 (f_X11_isDelayed l5 l1 m) (fun r4 => if r4 = 0 then (mj_let (l5 + 1) (fun x17 => f_X11_delays_L28 l1 n l2 l3 l4 x17 m)) else (mj_b1 (f_X11_ledgerOf l5 5 m) (fun r7 => mj_b1 (f_X11_ledgerOf l5 1 m) (fun r9 => mj_let ((r7 - 1) - r9) (fun x11 => mj_let (l2 + 1) (fun x12 => mj_let (l3 + x11) (fun x13 => if x11 ≤ l4 then (mj_let (l5 + 1) (fun x15 => f_X11_delays_L28 l1 n x12 x13 l4 x15 m)) else (mj_let (l5 + 1) (fun x16 => f_X11_delays_L28 l1 n x12 x13 x11 x16 m)))))))))))
set_option maxHeartbeats 4000000 in
set_option maxRecDepth 20000 in
theorem C_X11_delays_L28 {κ : mj_K} {Q : State → Prop} {β : Nat} {M : mj_M} {l1 : Int32} (C : mj_C κ cX11_delays 7 RX11) (hB : mj_isM (mj_g κ) β) (hR : mj_dp κ 4) : ∀ (n : Nat) (l2 : Int32) (l3 : Int32) (l4 : Int32) (l5 : Int32) (m : mj_m) (o2 : Int32) (o3 : Int32) (o4 : Int32), f_X11_delays_L28 l1 n l2 l3 l4 l5 m = some (o2, o3, o4) → (mj_R κ Q 100 [none, some (.inl l1), some (.inl o2), some (.inl o3), some (.inl o4), none, none] [] (va_up M β m)) → mj_R κ Q 28 [some (mj_r (β, 0)), some (.inl l1), some (.inl l2), some (.inl l3), some (.inl l4), some (.inl l5), none] [] (va_up M β m) := by
  intro n
  induction n with
  | zero =>
    intro l2 l3 l4 l5 m o2 o3 o4 h
    cases h
  | succ n ih =>
    intro l2 l3 l4 l5 m o2 o3 o4 h hx100
    rw [f_X11_delays_L28] at h
    refine mj_iload C dX11_delays_28 rfl ?_
    refine mj_aload_n C dX11_delays_30 rfl ?_
    obtain ⟨r1, er1, h⟩ := mj_let_o h
    refine mj_callV1 (av := []) C lM_X11_73 lV_X11_ledgerMany (sM0 hB) ⟨_, rfl, rfl⟩ rfl (C_X11_ledgerMany hB er1) (mj_rmok hR (by decide) (by decide)) rfl (Nat.le_of_ble_eq_true rfl) dX11_delays_31 (fun hb2 => ?_)
    refine mj_icmp_ge (tgt := 100) C dX11_delays_34 (by decide) (fun c3 => ?_) (fun c3 => ?_)
    · replace h := mj_if_t c3 h
      cases h
      refine mj_sub ?_ (hx100)
      exact ⟨rfl, ⟨rfl, ⟨rfl, ⟨rfl, trivial⟩⟩⟩⟩
    · replace h := mj_if_f c3 h
      refine mj_aload_n C dX11_delays_37 rfl ?_
      refine mj_iload C dX11_delays_38 rfl ?_
      refine mj_iload_n C dX11_delays_40 rfl ?_
      obtain ⟨r4, er4, h⟩ := mj_b1_o h
      refine mj_callV1 (av := [.inl l5, .inl l1]) C lM_X11_84 lV_X11_isDelayed (sM0 hB) ⟨_, rfl, rfl⟩ rfl (C_X11_isDelayed hB er4) (mj_rmok hR (by decide) (by decide)) rfl (Nat.le_of_ble_eq_true rfl) dX11_delays_41 (fun hb5 => ?_)
      refine mj_if_ne (tgt := 50) C dX11_delays_44 (by decide) (fun c6 => ?_) (fun c6 => ?_)
      · replace h := mj_if_f c6 h
        refine mj_aload_n C dX11_delays_50 rfl ?_
        refine mj_iload C dX11_delays_51 rfl ?_
        refine mj_iconst (v := 5) C dX11_delays_53 (by decide) ?_
        obtain ⟨r7, er7, h⟩ := mj_b1_o h
        refine mj_callV1 (av := [.inl l5, .inl 5]) C lM_X11_76 lV_X11_ledgerOf (sM0 hB) ⟨_, rfl, rfl⟩ rfl (C_X11_ledgerOf hB er7) (mj_rmok hR (by decide) (by decide)) rfl (Nat.le_of_ble_eq_true rfl) dX11_delays_54 (fun hb8 => ?_)
        refine mj_iconst (v := 1) C dX11_delays_57 (by decide) ?_
        refine mj_isub C dX11_delays_58 ?_
        refine mj_aload_n C dX11_delays_59 rfl ?_
        refine mj_iload C dX11_delays_60 rfl ?_
        refine mj_iconst (v := 1) C dX11_delays_62 (by decide) ?_
        obtain ⟨r9, er9, h⟩ := mj_b1_o h
        refine mj_callV1 (av := [.inl l5, .inl 1]) C lM_X11_76 lV_X11_ledgerOf (sM0 hB) ⟨_, rfl, rfl⟩ rfl (C_X11_ledgerOf hB er9) (mj_rmok hR (by decide) (by decide)) rfl (Nat.le_of_ble_eq_true rfl) dX11_delays_63 (fun hb10 => ?_)
        refine mj_isub C dX11_delays_66 ?_
        obtain ⟨x11, hx11, h⟩ := mj_let_o h
        refine mj_nm hx11 ?_
        refine mj_istore (L2 := [some (mj_r (β, 0)), some (.inl l1), some (.inl l2), some (.inl l3), some (.inl l4), some (.inl l5), some (.inl x11)]) C dX11_delays_67 (Nat.le_of_ble_eq_true rfl) rfl ?_
        refine mj_iload_n C dX11_delays_69 rfl ?_
        refine mj_iconst (v := 1) C dX11_delays_70 (by decide) ?_
        refine mj_iadd C dX11_delays_71 ?_
        obtain ⟨x12, hx12, h⟩ := mj_let_o h
        refine mj_nm hx12 ?_
        refine mj_istore_n (L2 := [some (mj_r (β, 0)), some (.inl l1), some (.inl x12), some (.inl l3), some (.inl l4), some (.inl l5), some (.inl x11)]) C dX11_delays_72 (Nat.le_of_ble_eq_true rfl) rfl ?_
        refine mj_iload_n C dX11_delays_73 rfl ?_
        refine mj_iload C dX11_delays_74 rfl ?_
        refine mj_iadd C dX11_delays_76 ?_
        obtain ⟨x13, hx13, h⟩ := mj_let_o h
        refine mj_nm hx13 ?_
        refine mj_istore_n (L2 := [some (mj_r (β, 0)), some (.inl l1), some (.inl x12), some (.inl x13), some (.inl l4), some (.inl l5), some (.inl x11)]) C dX11_delays_77 (Nat.le_of_ble_eq_true rfl) rfl ?_
        refine mj_iload C dX11_delays_78 rfl ?_
        refine mj_iload C dX11_delays_80 rfl ?_
        refine mj_icmp_le (tgt := 90) C dX11_delays_82 (by decide) (fun c14 => ?_) (fun c14 => ?_)
        · replace h := mj_if_t c14 h
          refine mj_iload C dX11_delays_90 rfl ?_
          refine mj_istore (L2 := [some (mj_r (β, 0)), some (.inl l1), some (.inl x12), some (.inl x13), some (.inl l4), some (.inl l5), some (.inl x11)]) C dX11_delays_92 (Nat.le_of_ble_eq_true rfl) rfl ?_
          obtain ⟨x15, hx15, h⟩ := mj_let_o h
          refine mj_iinc (L2 := [some (mj_r (β, 0)), some (.inl l1), some (.inl x12), some (.inl x13), some (.inl l4), some (.inl x15), some (.inl x11)]) C dX11_delays_94 rfl hx15 rfl ?_
          refine mj_goto (tgt := 28) C dX11_delays_97 (by decide) ?_
          refine mj_sub (L' := [some (mj_r (β, 0)), some (.inl l1), some (.inl x12), some (.inl x13), some (.inl l4), some (.inl x15), none]) ⟨rfl, ⟨rfl, ⟨rfl, ⟨rfl, ⟨rfl, ⟨rfl, trivial⟩⟩⟩⟩⟩⟩ ?_
          exact ih _ _ _ _ _ _ _ _ h hx100
        · replace h := mj_if_f c14 h
          refine mj_iload C dX11_delays_85 rfl ?_
          refine mj_goto (tgt := 92) C dX11_delays_87 (by decide) ?_
          refine mj_istore (L2 := [some (mj_r (β, 0)), some (.inl l1), some (.inl x12), some (.inl x13), some (.inl x11), some (.inl l5), some (.inl x11)]) C dX11_delays_92 (Nat.le_of_ble_eq_true rfl) rfl ?_
          obtain ⟨x16, hx16, h⟩ := mj_let_o h
          refine mj_iinc (L2 := [some (mj_r (β, 0)), some (.inl l1), some (.inl x12), some (.inl x13), some (.inl x11), some (.inl x16), some (.inl x11)]) C dX11_delays_94 rfl hx16 rfl ?_
          refine mj_goto (tgt := 28) C dX11_delays_97 (by decide) ?_
          refine mj_sub (L' := [some (mj_r (β, 0)), some (.inl l1), some (.inl x12), some (.inl x13), some (.inl x11), some (.inl x16), none]) ⟨rfl, ⟨rfl, ⟨rfl, ⟨rfl, ⟨rfl, ⟨rfl, trivial⟩⟩⟩⟩⟩⟩ ?_
          exact ih _ _ _ _ _ _ _ _ h hx100
      · replace h := mj_if_t c6 h
        refine mj_goto (tgt := 94) C dX11_delays_47 (by decide) ?_
        obtain ⟨x17, hx17, h⟩ := mj_let_o h
        refine mj_iinc (L2 := [some (mj_r (β, 0)), some (.inl l1), some (.inl l2), some (.inl l3), some (.inl l4), some (.inl x17), none]) C dX11_delays_94 rfl hx17 rfl ?_
        refine mj_goto (tgt := 28) C dX11_delays_97 (by decide) ?_
        refine mj_sub (L' := [some (mj_r (β, 0)), some (.inl l1), some (.inl l2), some (.inl l3), some (.inl l4), some (.inl x17), none]) ⟨rfl, ⟨rfl, ⟨rfl, ⟨rfl, ⟨rfl, ⟨rfl, trivial⟩⟩⟩⟩⟩⟩ ?_
        exact ih _ _ _ _ _ _ _ _ h hx100
def f_X11_delays (a1 : Int32) (m : mj_m) : Option (Int32 × mj_m) := mj_let (mj_wrs m 0 0 0) (fun m18 => mj_let (f_X11_isIn a1 0 6) (fun r19 => if r19 = 0 then (some ((-1), m18)) else (mj_b3 (f_X11_delays_L28 a1 mj_fu 0 0 (-1) 0 m18) (fun x22 x23 x24 => if a1 = 1 then (some (x24, m18)) else (if a1 = 2 then (some (x23, m18)) else (some (x22, m18)))))))
set_option maxHeartbeats 4000000 in
set_option maxRecDepth 20000 in
theorem C_X11_delays {G : mj_G} {β : Nat} {M : mj_M} {a1 : Int32} {m : mj_m} {x0 : Int32} {m0 : mj_m} (hB : mj_isM G β) (h : f_X11_delays a1 m = some (x0, m0)) : mj_S1 yX11_delays cX11_delays 7 (some .int) 4 G [mj_r (β, 0), .inl a1] (va_up M β m) (some (.inl x0)) (va_up M β m0) := by
  refine mj_intro (by decide) (Nat.le_of_ble_eq_true rfl) ?_
  intro κ C hG hR hT
  subst hG
  have C : mj_C κ cX11_delays 7 RX11 := C
  show mj_R κ (mj_F κ (fun r M' => r = (some (.inl x0)) ∧ M' = (va_up M β m0) ∧ mj_bb (some .int) (some (.inl x0)))) 0 [some (mj_r (β, 0)), some (.inl a1), none, none, none, none, none] [] (va_up M β m)
  unfold f_X11_delays at h
  refine mj_aload_n C dX11_delays_0 rfl ?_
  refine mj_iconst (v := 0) C dX11_delays_1 (by decide) ?_
  obtain ⟨m18, hm18, h⟩ := mj_let_o h
  refine mj_bput C lF_X11_41 fP_12_0 (vp_nar_int _) rfl (sM0 hB) rfl dX11_delays_2 hm18 ?_
  refine mj_aload_n C dX11_delays_5 rfl ?_
  refine mj_iload_n C dX11_delays_6 rfl ?_
  refine mj_iconst (v := 0) C dX11_delays_7 (by decide) ?_
  refine mj_bipush (v := 6) C dX11_delays_8 (by decide) ?_
  obtain ⟨r19, er19, h⟩ := mj_let_o h
  refine mj_callV1 (av := [.inl a1, .inl 0, .inl 6]) C lM_X11_48 lV_X11_isIn (sM0 hB) ⟨_, rfl, rfl⟩ rfl (C_X11_isIn hB er19) (mj_rmok hR (by decide) (by decide)) rfl (Nat.le_of_ble_eq_true rfl) dX11_delays_10 (fun hb20 => ?_)
  refine mj_if_ne (tgt := 18) C dX11_delays_13 (by decide) (fun c21 => ?_) (fun c21 => ?_)
  · replace h := mj_if_f c21 h
    refine mj_iconst (v := 0) C dX11_delays_18 (by decide) ?_
    refine mj_istore_n (L2 := [some (mj_r (β, 0)), some (.inl a1), some (.inl 0), none, none, none, none]) C dX11_delays_19 (Nat.le_of_ble_eq_true rfl) rfl ?_
    refine mj_iconst (v := 0) C dX11_delays_20 (by decide) ?_
    refine mj_istore_n (L2 := [some (mj_r (β, 0)), some (.inl a1), some (.inl 0), some (.inl 0), none, none, none]) C dX11_delays_21 (Nat.le_of_ble_eq_true rfl) rfl ?_
    refine mj_iconst (v := (-1)) C dX11_delays_22 (by decide) ?_
    refine mj_istore (L2 := [some (mj_r (β, 0)), some (.inl a1), some (.inl 0), some (.inl 0), some (.inl (-1)), none, none]) C dX11_delays_23 (Nat.le_of_ble_eq_true rfl) rfl ?_
    refine mj_iconst (v := 0) C dX11_delays_25 (by decide) ?_
    refine mj_istore (L2 := [some (mj_r (β, 0)), some (.inl a1), some (.inl 0), some (.inl 0), some (.inl (-1)), some (.inl 0), none]) C dX11_delays_26 (Nat.le_of_ble_eq_true rfl) rfl ?_
    obtain ⟨x22, x23, x24, hl25, h⟩ := mj_b3_o h
    refine mj_sub (L' := [some (mj_r (β, 0)), some (.inl a1), some (.inl 0), some (.inl 0), some (.inl (-1)), some (.inl 0), none]) ⟨rfl, ⟨rfl, ⟨rfl, ⟨rfl, ⟨rfl, ⟨rfl, trivial⟩⟩⟩⟩⟩⟩ ?_
    refine C_X11_delays_L28 C hB hR _ _ _ _ _ _ _ _ _ hl25 ?_
    refine mj_iload_n C dX11_delays_100 rfl ?_
    refine mj_iconst (v := 1) C dX11_delays_101 (by decide) ?_
    refine mj_icmp_ne (tgt := 110) C dX11_delays_102 (by decide) (fun c26 => ?_) (fun c26 => ?_)
    · replace h := mj_if_f c26 h
      refine mj_iload_n C dX11_delays_110 rfl ?_
      refine mj_iconst (v := 2) C dX11_delays_111 (by decide) ?_
      refine mj_icmp_ne (tgt := 119) C dX11_delays_112 (by decide) (fun c27 => ?_) (fun c27 => ?_)
      · replace h := mj_if_f c27 h
        refine mj_iload_n C dX11_delays_119 rfl ?_
        cases h
        exact mj_iret C hT (vp_nar_int _) dX11_delays_120 ⟨rfl, rfl, mj_bi _⟩
      · replace h := mj_if_t c27 h
        refine mj_iload_n C dX11_delays_115 rfl ?_
        refine mj_goto (tgt := 120) C dX11_delays_116 (by decide) ?_
        cases h
        exact mj_iret C hT (vp_nar_int _) dX11_delays_120 ⟨rfl, rfl, mj_bi _⟩
    · replace h := mj_if_t c26 h
      refine mj_iload C dX11_delays_105 rfl ?_
      refine mj_goto (tgt := 120) C dX11_delays_107 (by decide) ?_
      cases h
      exact mj_iret C hT (vp_nar_int _) dX11_delays_120 ⟨rfl, rfl, mj_bi _⟩
  · replace h := mj_if_t c21 h
    refine mj_iconst (v := (-1)) C dX11_delays_16 (by decide) ?_
    cases h
    exact mj_iret C hT (vp_nar_int _) dX11_delays_17 ⟨rfl, rfl, mj_bi _⟩
def f_X11_machine (m : mj_m) : Int32 := ((m 1 21) + 6)
set_option maxHeartbeats 4000000 in
set_option maxRecDepth 20000 in
theorem C_X11_machine {G : mj_G} {β : Nat} {M : mj_M} {m : mj_m} {x0 : Int32} (hB : mj_isM G β) (h : f_X11_machine m = x0) : mj_S1 yX11_machine cX11_machine 1 (some .int) 0 G [mj_r (β, 0)] (va_up M β m) (some (.inl x0)) (va_up M β m) := by
  refine mj_intro (by decide) (Nat.le_of_ble_eq_true rfl) ?_
  intro κ C hG hR hT
  subst hG
  have C : mj_C κ cX11_machine 1 RX11 := C
  show mj_R κ (mj_F κ (fun r M' => r = (some (.inl x0)) ∧ M' = (va_up M β m) ∧ mj_bb (some .int) (some (.inl x0)))) 0 [some (mj_r (β, 0))] [] (va_up M β m)
  unfold f_X11_machine at h
  refine mj_aload_n C dX11_machine_0 rfl ?_
  refine mj_getr (r := (β, 1)) C lF_X11_7 (sM0 hB) rfl dX11_machine_1 ?_
  refine mj_bipush (v := 21) C dX11_machine_4 (by decide) ?_
  refine mj_bald C (sM1 hB) (mj_okn 21 1897 (Nat.le_of_ble_eq_true rfl) (Nat.le_of_ble_eq_true rfl)) (mj_cln 21 (Nat.le_of_ble_eq_true rfl)) dX11_machine_6 ?_
  refine mj_bipush (v := 6) C dX11_machine_7 (by decide) ?_
  refine mj_iadd C dX11_machine_9 ?_
  cases h
  exact mj_iret C hT (vp_nar_int _) dX11_machine_10 ⟨rfl, rfl, mj_bi _⟩
def f_X11_isMoving (m : mj_m) : Int32 := mj_let (f_X11_machine m) (fun r1 => mj_let (f_X11_isIn r1 1 3) (fun r3 => r3))
set_option maxHeartbeats 4000000 in
set_option maxRecDepth 20000 in
theorem C_X11_isMoving {G : mj_G} {β : Nat} {M : mj_M} {m : mj_m} {x0 : Int32} (hB : mj_isM G β) (h : f_X11_isMoving m = x0) : mj_S1 yX11_isMoving cX11_isMoving 1 (some .boolean) 1 G [mj_r (β, 0)] (va_up M β m) (some (.inl x0)) (va_up M β m) := by
  refine mj_intro (by decide) (Nat.le_of_ble_eq_true rfl) ?_
  intro κ C hG hR hT
  subst hG
  have C : mj_C κ cX11_isMoving 1 RX11 := C
  show mj_R κ (mj_F κ (fun r M' => r = (some (.inl x0)) ∧ M' = (va_up M β m) ∧ mj_bb (some .boolean) (some (.inl x0)))) 0 [some (mj_r (β, 0))] [] (va_up M β m)
  unfold f_X11_isMoving at h
  refine mj_aload_n C dX11_isMoving_0 rfl ?_
  refine mj_aload_n C dX11_isMoving_1 rfl ?_
  obtain ⟨r1, er1, h⟩ := mj_let_o h
  refine mj_callV1 (av := []) C lM_X11_87 lV_X11_machine (sM0 hB) ⟨_, rfl, rfl⟩ rfl (C_X11_machine hB er1) (mj_rmok hR (by decide) (by decide)) rfl (Nat.le_of_ble_eq_true rfl) dX11_isMoving_2 (fun hb2 => ?_)
  refine mj_iconst (v := 1) C dX11_isMoving_5 (by decide) ?_
  refine mj_iconst (v := 3) C dX11_isMoving_6 (by decide) ?_
  obtain ⟨r3, er3, h⟩ := mj_let_o h
  refine mj_callV1 (av := [.inl r1, .inl 1, .inl 3]) C lM_X11_48 lV_X11_isIn (sM0 hB) ⟨_, rfl, rfl⟩ rfl (C_X11_isIn hB er3) (mj_rmok hR (by decide) (by decide)) rfl (Nat.le_of_ble_eq_true rfl) dX11_isMoving_7 (fun hb4 => ?_)
  cases h
  exact mj_iret C hT (mj_nb hb4) dX11_isMoving_10 ⟨rfl, rfl, hb4⟩
def f_X11_becomes_J75 (l1 : Int32) (m : mj_m) : Option (mj_m) := mj_let (mj_wrs m 1 21 (l1 - 6)) (fun m1 => some m1)
set_option maxHeartbeats 4000000 in
set_option maxRecDepth 20000 in
theorem C_X11_becomes_J75 {κ : mj_K} {β : Nat} {M : mj_M} {l1 : Int32} {m : mj_m} {m0 : mj_m} (C : mj_C κ cX11_becomes 3 RX11) (hB : mj_isM (mj_g κ) β) (hR : mj_dp κ 1) (hT : mj_rt κ = none) (h : f_X11_becomes_J75 l1 m = some m0) : mj_R κ (mj_F κ (fun r M' => r = none ∧ M' = (va_up M β m0) ∧ mj_bb none none)) 75 [some (mj_r (β, 0)), some (.inl l1), none] [] (va_up M β m) := by
  unfold f_X11_becomes_J75 at h
  refine mj_aload_n C dX11_becomes_75 rfl ?_
  refine mj_getr (r := (β, 1)) C lF_X11_7 (sM0 hB) rfl dX11_becomes_76 ?_
  refine mj_bipush (v := 21) C dX11_becomes_79 (by decide) ?_
  refine mj_iload_n C dX11_becomes_81 rfl ?_
  refine mj_bipush (v := 6) C dX11_becomes_82 (by decide) ?_
  refine mj_isub C dX11_becomes_84 ?_
  obtain ⟨m1, hm1, h⟩ := mj_let_o h
  refine mj_bast C (sM1 hB) (mj_okn 21 1897 (Nat.le_of_ble_eq_true rfl) (Nat.le_of_ble_eq_true rfl)) (mj_cln 21 (Nat.le_of_ble_eq_true rfl)) dX11_becomes_85 hm1 ?_
  cases h
  exact mj_vret C hT dX11_becomes_86 ⟨rfl, rfl, mj_bv _⟩
def f_X11_becomes (a1 : Int32) (m : mj_m) : Option (mj_m) := mj_let (f_X11_machine m) (fun r2 => if a1 = r2 then (some m) else (if 80 ≤ m 1 34 then (f_X11_becomes_J75 a1 m) else (mj_let (179 + (3 * (m 1 34))) (fun x6 => mj_chk (mj_ok x6 1897) (mj_let (mj_wrs m 1 (mj_cl x6) (m 1 11)) (fun m8 => mj_let (f_X11_machine m8) (fun r9 => mj_chk (mj_ok (x6 + 1) 1897) (mj_let (mj_wrs m8 1 (mj_cl (x6 + 1)) r9) (fun m12 => mj_chk (mj_ok (x6 + 2) 1897) (mj_let (mj_wrs m12 1 (mj_cl (x6 + 2)) a1) (fun m14 => mj_b1 (f_X11_more 34 m14) (fun m15 => f_X11_becomes_J75 a1 m15))))))))))))
set_option maxHeartbeats 4000000 in
set_option maxRecDepth 20000 in
theorem C_X11_becomes {G : mj_G} {β : Nat} {M : mj_M} {a1 : Int32} {m : mj_m} {m0 : mj_m} (hB : mj_isM G β) (h : f_X11_becomes a1 m = some m0) : mj_S1 yX11_becomes cX11_becomes 3 none 1 G [mj_r (β, 0), .inl a1] (va_up M β m) none (va_up M β m0) := by
  refine mj_intro (by decide) (Nat.le_of_ble_eq_true rfl) ?_
  intro κ C hG hR hT
  subst hG
  have C : mj_C κ cX11_becomes 3 RX11 := C
  show mj_R κ (mj_F κ (fun r M' => r = none ∧ M' = (va_up M β m0) ∧ mj_bb none none)) 0 [some (mj_r (β, 0)), some (.inl a1), none] [] (va_up M β m)
  unfold f_X11_becomes at h
  refine mj_iload_n C dX11_becomes_0 rfl ?_
  refine mj_aload_n C dX11_becomes_1 rfl ?_
  obtain ⟨r2, er2, h⟩ := mj_let_o h
  refine mj_callV1 (av := []) C lM_X11_87 lV_X11_machine (sM0 hB) ⟨_, rfl, rfl⟩ rfl (C_X11_machine hB er2) (mj_rmok hR (by decide) (by decide)) rfl (Nat.le_of_ble_eq_true rfl) dX11_becomes_2 (fun hb3 => ?_)
  refine mj_icmp_ne (tgt := 9) C dX11_becomes_5 (by decide) (fun c4 => ?_) (fun c4 => ?_)
  · replace h := mj_if_f c4 h
    refine mj_aload_n C dX11_becomes_9 rfl ?_
    refine mj_getr (r := (β, 1)) C lF_X11_7 (sM0 hB) rfl dX11_becomes_10 ?_
    refine mj_bipush (v := 34) C dX11_becomes_13 (by decide) ?_
    refine mj_bald C (sM1 hB) (mj_okn 34 1897 (Nat.le_of_ble_eq_true rfl) (Nat.le_of_ble_eq_true rfl)) (mj_cln 34 (Nat.le_of_ble_eq_true rfl)) dX11_becomes_15 ?_
    refine mj_bipush (v := 80) C dX11_becomes_16 (by decide) ?_
    refine mj_icmp_ge (tgt := 75) C dX11_becomes_18 (by decide) (fun c5 => ?_) (fun c5 => ?_)
    · replace h := mj_if_t c5 h
      refine mj_sub (L' := [some (mj_r (β, 0)), some (.inl a1), none]) ⟨rfl, ⟨rfl, trivial⟩⟩ ?_
      exact C_X11_becomes_J75 C hB hR hT h
    · replace h := mj_if_f c5 h
      refine mj_sipush (v := 179) C dX11_becomes_21 (by decide) ?_
      refine mj_iconst (v := 3) C dX11_becomes_24 (by decide) ?_
      refine mj_aload_n C dX11_becomes_25 rfl ?_
      refine mj_getr (r := (β, 1)) C lF_X11_7 (sM0 hB) rfl dX11_becomes_26 ?_
      refine mj_bipush (v := 34) C dX11_becomes_29 (by decide) ?_
      refine mj_bald C (sM1 hB) (mj_okn 34 1897 (Nat.le_of_ble_eq_true rfl) (Nat.le_of_ble_eq_true rfl)) (mj_cln 34 (Nat.le_of_ble_eq_true rfl)) dX11_becomes_31 ?_
      refine mj_imul C dX11_becomes_32 ?_
      refine mj_iadd C dX11_becomes_33 ?_
      obtain ⟨x6, hx6, h⟩ := mj_let_o h
      refine mj_nm hx6 ?_
      refine mj_istore_n (L2 := [some (mj_r (β, 0)), some (.inl a1), some (.inl x6)]) C dX11_becomes_34 (Nat.le_of_ble_eq_true rfl) rfl ?_
      refine mj_aload_n C dX11_becomes_35 rfl ?_
      refine mj_getr (r := (β, 1)) C lF_X11_7 (sM0 hB) rfl dX11_becomes_36 ?_
      refine mj_iload_n C dX11_becomes_39 rfl ?_
      refine mj_aload_n C dX11_becomes_40 rfl ?_
      refine mj_getr (r := (β, 1)) C lF_X11_7 (sM0 hB) rfl dX11_becomes_41 ?_
      refine mj_bipush (v := 11) C dX11_becomes_44 (by decide) ?_
      refine mj_bald C (sM1 hB) (mj_okn 11 1897 (Nat.le_of_ble_eq_true rfl) (Nat.le_of_ble_eq_true rfl)) (mj_cln 11 (Nat.le_of_ble_eq_true rfl)) dX11_becomes_46 ?_
      obtain ⟨k7, h⟩ := mj_chk_o h
      obtain ⟨m8, hm8, h⟩ := mj_let_o h
      refine mj_bast C (sM1 hB) k7 rfl dX11_becomes_47 hm8 ?_
      refine mj_aload_n C dX11_becomes_48 rfl ?_
      refine mj_getr (r := (β, 1)) C lF_X11_7 (sM0 hB) rfl dX11_becomes_49 ?_
      refine mj_iload_n C dX11_becomes_52 rfl ?_
      refine mj_iconst (v := 1) C dX11_becomes_53 (by decide) ?_
      refine mj_iadd C dX11_becomes_54 ?_
      refine mj_aload_n C dX11_becomes_55 rfl ?_
      obtain ⟨r9, er9, h⟩ := mj_let_o h
      refine mj_callV1 (av := []) C lM_X11_87 lV_X11_machine (sM0 hB) ⟨_, rfl, rfl⟩ rfl (C_X11_machine hB er9) (mj_rmok hR (by decide) (by decide)) rfl (Nat.le_of_ble_eq_true rfl) dX11_becomes_56 (fun hb10 => ?_)
      obtain ⟨k11, h⟩ := mj_chk_o h
      obtain ⟨m12, hm12, h⟩ := mj_let_o h
      refine mj_bast C (sM1 hB) k11 rfl dX11_becomes_59 hm12 ?_
      refine mj_aload_n C dX11_becomes_60 rfl ?_
      refine mj_getr (r := (β, 1)) C lF_X11_7 (sM0 hB) rfl dX11_becomes_61 ?_
      refine mj_iload_n C dX11_becomes_64 rfl ?_
      refine mj_iconst (v := 2) C dX11_becomes_65 (by decide) ?_
      refine mj_iadd C dX11_becomes_66 ?_
      refine mj_iload_n C dX11_becomes_67 rfl ?_
      obtain ⟨k13, h⟩ := mj_chk_o h
      obtain ⟨m14, hm14, h⟩ := mj_let_o h
      refine mj_bast C (sM1 hB) k13 rfl dX11_becomes_68 hm14 ?_
      refine mj_aload_n C dX11_becomes_69 rfl ?_
      refine mj_bipush (v := 34) C dX11_becomes_70 (by decide) ?_
      obtain ⟨m15, em15, h⟩ := mj_b1_o h
      refine mj_callV0 (av := [.inl 34]) C lM_X11_58 lV_X11_more (sM0 hB) ⟨_, rfl, rfl⟩ rfl (C_X11_more hB em15) (mj_rmok hR (by decide) (by decide)) rfl (Nat.le_of_ble_eq_true rfl) dX11_becomes_72 ?_
      refine mj_sub (L' := [some (mj_r (β, 0)), some (.inl a1), none]) ⟨rfl, ⟨rfl, trivial⟩⟩ ?_
      exact C_X11_becomes_J75 C hB hR hT h
  · replace h := mj_if_t c4 h
    cases h
    exact mj_vret C hT dX11_becomes_8 ⟨rfl, rfl, mj_bv _⟩
def f_X11_alarms_J62 (l1 : Int32) (m : mj_m) : Option (mj_m) := mj_b1 (f_X11_more 33 m) (fun m1 => mj_let (mj_wrs m1 1 48 l1) (fun m3 => some m3))
set_option maxHeartbeats 4000000 in
set_option maxRecDepth 20000 in
theorem C_X11_alarms_J62 {κ : mj_K} {β : Nat} {M : mj_M} {l1 : Int32} {m : mj_m} {m0 : mj_m} (C : mj_C κ cX11_alarms 2 RX11) (hB : mj_isM (mj_g κ) β) (hR : mj_dp κ 3) (hT : mj_rt κ = none) (h : f_X11_alarms_J62 l1 m = some m0) : mj_R κ (mj_F κ (fun r M' => r = none ∧ M' = (va_up M β m0) ∧ mj_bb none none)) 62 [some (mj_r (β, 0)), some (.inl l1)] [] (va_up M β m) := by
  unfold f_X11_alarms_J62 at h
  refine mj_aload_n C dX11_alarms_62 rfl ?_
  refine mj_bipush (v := 33) C dX11_alarms_63 (by decide) ?_
  obtain ⟨m1, em1, h⟩ := mj_b1_o h
  refine mj_callV0 (av := [.inl 33]) C lM_X11_58 lV_X11_more (sM0 hB) ⟨_, rfl, rfl⟩ rfl (C_X11_more hB em1) (mj_rmok hR (by decide) (by decide)) rfl (Nat.le_of_ble_eq_true rfl) dX11_alarms_65 ?_
  refine mj_aload_n C dX11_alarms_68 rfl ?_
  refine mj_getr (r := (β, 1)) C lF_X11_7 (sM0 hB) rfl dX11_alarms_69 ?_
  refine mj_bipush (v := 48) C dX11_alarms_72 (by decide) ?_
  refine mj_iload_n C dX11_alarms_74 rfl ?_
  obtain ⟨m3, hm3, h⟩ := mj_let_o h
  refine mj_bast C (sM1 hB) (mj_okn 48 1897 (Nat.le_of_ble_eq_true rfl) (Nat.le_of_ble_eq_true rfl)) (mj_cln 48 (Nat.le_of_ble_eq_true rfl)) dX11_alarms_75 hm3 ?_
  cases h
  exact mj_vret C hT dX11_alarms_76 ⟨rfl, rfl, mj_bv _⟩
def f_X11_alarms (a1 : Int32) (m : mj_m) : Option (mj_m) := mj_b1 (f_X11_becomes 6 m) (fun m4 => mj_b1 (f_X11_empties m4) (fun m6 => mj_let (mj_wrs m6 1 26 0) (fun m8 => mj_let (mj_wrs m8 1 31 0) (fun m9 => mj_let (mj_wrs m9 1 32 0) (fun m10 => if 60 ≤ m10 1 33 then (f_X11_alarms_J62 a1 m10) else (mj_chk (mj_ok (119 + (m10 1 33)) 1897) (mj_let (mj_wrs m10 1 (mj_cl (119 + (m10 1 33))) a1) (fun m13 => f_X11_alarms_J62 a1 m13))))))))
set_option maxHeartbeats 4000000 in
set_option maxRecDepth 20000 in
theorem C_X11_alarms {G : mj_G} {β : Nat} {M : mj_M} {a1 : Int32} {m : mj_m} {m0 : mj_m} (hB : mj_isM G β) (h : f_X11_alarms a1 m = some m0) : mj_S1 yX11_alarms cX11_alarms 2 none 3 G [mj_r (β, 0), .inl a1] (va_up M β m) none (va_up M β m0) := by
  refine mj_intro (by decide) (Nat.le_of_ble_eq_true rfl) ?_
  intro κ C hG hR hT
  subst hG
  have C : mj_C κ cX11_alarms 2 RX11 := C
  show mj_R κ (mj_F κ (fun r M' => r = none ∧ M' = (va_up M β m0) ∧ mj_bb none none)) 0 [some (mj_r (β, 0)), some (.inl a1)] [] (va_up M β m)
  unfold f_X11_alarms at h
  refine mj_aload_n C dX11_alarms_0 rfl ?_
  refine mj_bipush (v := 6) C dX11_alarms_1 (by decide) ?_
  obtain ⟨m4, em4, h⟩ := mj_b1_o h
  refine mj_callV0 (av := [.inl 6]) C lM_X11_90 lV_X11_becomes (sM0 hB) ⟨_, rfl, rfl⟩ rfl (C_X11_becomes hB em4) (mj_rmok hR (by decide) (by decide)) rfl (Nat.le_of_ble_eq_true rfl) dX11_alarms_3 ?_
  refine mj_aload_n C dX11_alarms_6 rfl ?_
  obtain ⟨m6, em6, h⟩ := mj_b1_o h
  refine mj_callV0 (av := []) C lM_X11_93 lV_X11_empties (sM0 hB) ⟨_, rfl, rfl⟩ rfl (C_X11_empties hB em6) (mj_rmok hR (by decide) (by decide)) rfl (Nat.le_of_ble_eq_true rfl) dX11_alarms_7 ?_
  refine mj_aload_n C dX11_alarms_10 rfl ?_
  refine mj_getr (r := (β, 1)) C lF_X11_7 (sM0 hB) rfl dX11_alarms_11 ?_
  refine mj_bipush (v := 26) C dX11_alarms_14 (by decide) ?_
  refine mj_iconst (v := 0) C dX11_alarms_16 (by decide) ?_
  obtain ⟨m8, hm8, h⟩ := mj_let_o h
  refine mj_bast C (sM1 hB) (mj_okn 26 1897 (Nat.le_of_ble_eq_true rfl) (Nat.le_of_ble_eq_true rfl)) (mj_cln 26 (Nat.le_of_ble_eq_true rfl)) dX11_alarms_17 hm8 ?_
  refine mj_aload_n C dX11_alarms_18 rfl ?_
  refine mj_getr (r := (β, 1)) C lF_X11_7 (sM0 hB) rfl dX11_alarms_19 ?_
  refine mj_bipush (v := 31) C dX11_alarms_22 (by decide) ?_
  refine mj_iconst (v := 0) C dX11_alarms_24 (by decide) ?_
  obtain ⟨m9, hm9, h⟩ := mj_let_o h
  refine mj_bast C (sM1 hB) (mj_okn 31 1897 (Nat.le_of_ble_eq_true rfl) (Nat.le_of_ble_eq_true rfl)) (mj_cln 31 (Nat.le_of_ble_eq_true rfl)) dX11_alarms_25 hm9 ?_
  refine mj_aload_n C dX11_alarms_26 rfl ?_
  refine mj_getr (r := (β, 1)) C lF_X11_7 (sM0 hB) rfl dX11_alarms_27 ?_
  refine mj_bipush (v := 32) C dX11_alarms_30 (by decide) ?_
  refine mj_iconst (v := 0) C dX11_alarms_32 (by decide) ?_
  obtain ⟨m10, hm10, h⟩ := mj_let_o h
  refine mj_bast C (sM1 hB) (mj_okn 32 1897 (Nat.le_of_ble_eq_true rfl) (Nat.le_of_ble_eq_true rfl)) (mj_cln 32 (Nat.le_of_ble_eq_true rfl)) dX11_alarms_33 hm10 ?_
  refine mj_aload_n C dX11_alarms_34 rfl ?_
  refine mj_getr (r := (β, 1)) C lF_X11_7 (sM0 hB) rfl dX11_alarms_35 ?_
  refine mj_bipush (v := 33) C dX11_alarms_38 (by decide) ?_
  refine mj_bald C (sM1 hB) (mj_okn 33 1897 (Nat.le_of_ble_eq_true rfl) (Nat.le_of_ble_eq_true rfl)) (mj_cln 33 (Nat.le_of_ble_eq_true rfl)) dX11_alarms_40 ?_
  refine mj_bipush (v := 60) C dX11_alarms_41 (by decide) ?_
  refine mj_icmp_ge (tgt := 62) C dX11_alarms_43 (by decide) (fun c11 => ?_) (fun c11 => ?_)
  · replace h := mj_if_t c11 h
    refine mj_sub (L' := [some (mj_r (β, 0)), some (.inl a1)]) ⟨rfl, ⟨rfl, trivial⟩⟩ ?_
    exact C_X11_alarms_J62 C hB hR hT h
  · replace h := mj_if_f c11 h
    refine mj_aload_n C dX11_alarms_46 rfl ?_
    refine mj_getr (r := (β, 1)) C lF_X11_7 (sM0 hB) rfl dX11_alarms_47 ?_
    refine mj_bipush (v := 119) C dX11_alarms_50 (by decide) ?_
    refine mj_aload_n C dX11_alarms_52 rfl ?_
    refine mj_getr (r := (β, 1)) C lF_X11_7 (sM0 hB) rfl dX11_alarms_53 ?_
    refine mj_bipush (v := 33) C dX11_alarms_56 (by decide) ?_
    refine mj_bald C (sM1 hB) (mj_okn 33 1897 (Nat.le_of_ble_eq_true rfl) (Nat.le_of_ble_eq_true rfl)) (mj_cln 33 (Nat.le_of_ble_eq_true rfl)) dX11_alarms_58 ?_
    refine mj_iadd C dX11_alarms_59 ?_
    refine mj_iload_n C dX11_alarms_60 rfl ?_
    obtain ⟨k12, h⟩ := mj_chk_o h
    obtain ⟨m13, hm13, h⟩ := mj_let_o h
    refine mj_bast C (sM1 hB) k12 rfl dX11_alarms_61 hm13 ?_
    refine mj_sub (L' := [some (mj_r (β, 0)), some (.inl a1)]) ⟨rfl, ⟨rfl, trivial⟩⟩ ?_
    exact C_X11_alarms_J62 C hB hR hT h
def f_X11_suspends (m : mj_m) : Option (mj_m) := mj_let (f_X11_machine m) (fun r1 => mj_let (mj_wrs m 1 32 r1) (fun m3 => mj_b1 (f_X11_becomes 6 m3) (fun m4 => mj_let (mj_wrs m4 1 31 0) (fun m6 => some m6))))
set_option maxHeartbeats 4000000 in
set_option maxRecDepth 20000 in
theorem C_X11_suspends {G : mj_G} {β : Nat} {M : mj_M} {m : mj_m} {m0 : mj_m} (hB : mj_isM G β) (h : f_X11_suspends m = some m0) : mj_S1 yX11_suspends cX11_suspends 1 none 2 G [mj_r (β, 0)] (va_up M β m) none (va_up M β m0) := by
  refine mj_intro (by decide) (Nat.le_of_ble_eq_true rfl) ?_
  intro κ C hG hR hT
  subst hG
  have C : mj_C κ cX11_suspends 1 RX11 := C
  show mj_R κ (mj_F κ (fun r M' => r = none ∧ M' = (va_up M β m0) ∧ mj_bb none none)) 0 [some (mj_r (β, 0))] [] (va_up M β m)
  unfold f_X11_suspends at h
  refine mj_aload_n C dX11_suspends_0 rfl ?_
  refine mj_getr (r := (β, 1)) C lF_X11_7 (sM0 hB) rfl dX11_suspends_1 ?_
  refine mj_bipush (v := 32) C dX11_suspends_4 (by decide) ?_
  refine mj_aload_n C dX11_suspends_6 rfl ?_
  obtain ⟨r1, er1, h⟩ := mj_let_o h
  refine mj_callV1 (av := []) C lM_X11_87 lV_X11_machine (sM0 hB) ⟨_, rfl, rfl⟩ rfl (C_X11_machine hB er1) (mj_rmok hR (by decide) (by decide)) rfl (Nat.le_of_ble_eq_true rfl) dX11_suspends_7 (fun hb2 => ?_)
  obtain ⟨m3, hm3, h⟩ := mj_let_o h
  refine mj_bast C (sM1 hB) (mj_okn 32 1897 (Nat.le_of_ble_eq_true rfl) (Nat.le_of_ble_eq_true rfl)) (mj_cln 32 (Nat.le_of_ble_eq_true rfl)) dX11_suspends_10 hm3 ?_
  refine mj_aload_n C dX11_suspends_11 rfl ?_
  refine mj_bipush (v := 6) C dX11_suspends_12 (by decide) ?_
  obtain ⟨m4, em4, h⟩ := mj_b1_o h
  refine mj_callV0 (av := [.inl 6]) C lM_X11_90 lV_X11_becomes (sM0 hB) ⟨_, rfl, rfl⟩ rfl (C_X11_becomes hB em4) (mj_rmok hR (by decide) (by decide)) rfl (Nat.le_of_ble_eq_true rfl) dX11_suspends_14 ?_
  refine mj_aload_n C dX11_suspends_17 rfl ?_
  refine mj_getr (r := (β, 1)) C lF_X11_7 (sM0 hB) rfl dX11_suspends_18 ?_
  refine mj_bipush (v := 31) C dX11_suspends_21 (by decide) ?_
  refine mj_iconst (v := 0) C dX11_suspends_23 (by decide) ?_
  obtain ⟨m6, hm6, h⟩ := mj_let_o h
  refine mj_bast C (sM1 hB) (mj_okn 31 1897 (Nat.le_of_ble_eq_true rfl) (Nat.le_of_ble_eq_true rfl)) (mj_cln 31 (Nat.le_of_ble_eq_true rfl)) dX11_suspends_24 hm6 ?_
  cases h
  exact mj_vret C hT dX11_suspends_25 ⟨rfl, rfl, mj_bv _⟩
def f_X11_givesUp (m : mj_m) : Option (mj_m) := if m 1 5 = 0 then (mj_b1 (f_X11_alarms 5 m) (fun m4 => some m4)) else (mj_b1 (f_X11_suspends m) (fun m2 => some m2))
set_option maxHeartbeats 4000000 in
set_option maxRecDepth 20000 in
theorem C_X11_givesUp {G : mj_G} {β : Nat} {M : mj_M} {m : mj_m} {m0 : mj_m} (hB : mj_isM G β) (h : f_X11_givesUp m = some m0) : mj_S1 yX11_givesUp cX11_givesUp 1 none 4 G [mj_r (β, 0)] (va_up M β m) none (va_up M β m0) := by
  refine mj_intro (by decide) (Nat.le_of_ble_eq_true rfl) ?_
  intro κ C hG hR hT
  subst hG
  have C : mj_C κ cX11_givesUp 1 RX11 := C
  show mj_R κ (mj_F κ (fun r M' => r = none ∧ M' = (va_up M β m0) ∧ mj_bb none none)) 0 [some (mj_r (β, 0))] [] (va_up M β m)
  unfold f_X11_givesUp at h
  refine mj_aload_n C dX11_givesUp_0 rfl ?_
  refine mj_getr (r := (β, 1)) C lF_X11_7 (sM0 hB) rfl dX11_givesUp_1 ?_
  refine mj_iconst (v := 5) C dX11_givesUp_4 (by decide) ?_
  refine mj_bald C (sM1 hB) (mj_okn 5 1897 (Nat.le_of_ble_eq_true rfl) (Nat.le_of_ble_eq_true rfl)) (mj_cln 5 (Nat.le_of_ble_eq_true rfl)) dX11_givesUp_5 ?_
  refine mj_if_ne (tgt := 17) C dX11_givesUp_6 (by decide) (fun c1 => ?_) (fun c1 => ?_)
  · replace h := mj_if_f c1 h
    refine mj_aload_n C dX11_givesUp_17 rfl ?_
    obtain ⟨m2, em2, h⟩ := mj_b1_o h
    refine mj_callV0 (av := []) C lM_X11_99 lV_X11_suspends (sM0 hB) ⟨_, rfl, rfl⟩ rfl (C_X11_suspends hB em2) (mj_rmok hR (by decide) (by decide)) rfl (Nat.le_of_ble_eq_true rfl) dX11_givesUp_18 ?_
    cases h
    exact mj_vret C hT dX11_givesUp_21 ⟨rfl, rfl, mj_bv _⟩
  · replace h := mj_if_t c1 h
    refine mj_aload_n C dX11_givesUp_9 rfl ?_
    refine mj_iconst (v := 5) C dX11_givesUp_10 (by decide) ?_
    obtain ⟨m4, em4, h⟩ := mj_b1_o h
    refine mj_callV0 (av := [.inl 5]) C lM_X11_96 lV_X11_alarms (sM0 hB) ⟨_, rfl, rfl⟩ rfl (C_X11_alarms hB em4) (mj_rmok hR (by decide) (by decide)) rfl (Nat.le_of_ble_eq_true rfl) dX11_givesUp_11 ?_
    refine mj_goto (tgt := 21) C dX11_givesUp_14 (by decide) ?_
    cases h
    exact mj_vret C hT dX11_givesUp_21 ⟨rfl, rfl, mj_bv _⟩
def f_X11_marks_L21 : Nat → Int32 → mj_m → Option (mj_m)
  | 0, _, _ => none
  | n + 1, l1, m => if m 1 25 ≤ l1 then (some m) else (mj_chk (mj_ok (86 + l1) 1897) (mj_let (mj_wrs m 1 (mj_cl (86 + l1)) 1) (fun m3 => mj_let (l1 + 1) (fun x4 => f_X11_marks_L21 n x4 m3))))
set_option maxHeartbeats 4000000 in
set_option maxRecDepth 20000 in
theorem C_X11_marks_L21 {κ : mj_K} {Q : State → Prop} {β : Nat} {M : mj_M} (C : mj_C κ cX11_marks 2 RX11) (hB : mj_isM (mj_g κ) β) (hR : mj_dp κ 2) : ∀ (n : Nat) (l1 : Int32) (m : mj_m) (mo : mj_m), f_X11_marks_L21 n l1 m = some mo → (mj_R κ Q 48 [some (mj_r (β, 0)), none] [] (va_up M β mo)) → mj_R κ Q 21 [some (mj_r (β, 0)), some (.inl l1)] [] (va_up M β m) := by
  intro n
  induction n with
  | zero =>
    intro l1 m mo h
    cases h
  | succ n ih =>
    intro l1 m mo h hx48
    rw [f_X11_marks_L21] at h
    refine mj_iload_n C dX11_marks_21 rfl ?_
    refine mj_aload_n C dX11_marks_22 rfl ?_
    refine mj_getr (r := (β, 1)) C lF_X11_7 (sM0 hB) rfl dX11_marks_23 ?_
    refine mj_bipush (v := 25) C dX11_marks_26 (by decide) ?_
    refine mj_bald C (sM1 hB) (mj_okn 25 1897 (Nat.le_of_ble_eq_true rfl) (Nat.le_of_ble_eq_true rfl)) (mj_cln 25 (Nat.le_of_ble_eq_true rfl)) dX11_marks_28 ?_
    refine mj_icmp_ge (tgt := 48) C dX11_marks_29 (by decide) (fun c1 => ?_) (fun c1 => ?_)
    · replace h := mj_if_t c1 h
      cases h
      refine mj_sub ?_ (hx48)
      exact ⟨rfl, trivial⟩
    · replace h := mj_if_f c1 h
      refine mj_aload_n C dX11_marks_32 rfl ?_
      refine mj_getr (r := (β, 1)) C lF_X11_7 (sM0 hB) rfl dX11_marks_33 ?_
      refine mj_bipush (v := 86) C dX11_marks_36 (by decide) ?_
      refine mj_iload_n C dX11_marks_38 rfl ?_
      refine mj_iadd C dX11_marks_39 ?_
      refine mj_iconst (v := 1) C dX11_marks_40 (by decide) ?_
      obtain ⟨k2, h⟩ := mj_chk_o h
      obtain ⟨m3, hm3, h⟩ := mj_let_o h
      refine mj_bast C (sM1 hB) k2 rfl dX11_marks_41 hm3 ?_
      obtain ⟨x4, hx4, h⟩ := mj_let_o h
      refine mj_iinc (L2 := [some (mj_r (β, 0)), some (.inl x4)]) C dX11_marks_42 rfl hx4 rfl ?_
      refine mj_goto (tgt := 21) C dX11_marks_45 (by decide) ?_
      refine mj_sub (L' := [some (mj_r (β, 0)), some (.inl x4)]) ⟨rfl, ⟨rfl, trivial⟩⟩ ?_
      exact ih _ _ _ h hx48
def f_X11_marks_J48 (m : mj_m) : Option (mj_m) := mj_b1 (f_X11_more 30 m) (fun m5 => mj_b1 (f_X11_settingOf 4 m5) (fun r7 => mj_let (mj_wrs m5 1 31 r7) (fun m9 => some m9)))
set_option maxHeartbeats 4000000 in
set_option maxRecDepth 20000 in
theorem C_X11_marks_J48 {κ : mj_K} {β : Nat} {M : mj_M} {m : mj_m} {m0 : mj_m} (C : mj_C κ cX11_marks 2 RX11) (hB : mj_isM (mj_g κ) β) (hR : mj_dp κ 2) (hT : mj_rt κ = none) (h : f_X11_marks_J48 m = some m0) : mj_R κ (mj_F κ (fun r M' => r = none ∧ M' = (va_up M β m0) ∧ mj_bb none none)) 48 [some (mj_r (β, 0)), none] [] (va_up M β m) := by
  unfold f_X11_marks_J48 at h
  refine mj_aload_n C dX11_marks_48 rfl ?_
  refine mj_bipush (v := 30) C dX11_marks_49 (by decide) ?_
  obtain ⟨m5, em5, h⟩ := mj_b1_o h
  refine mj_callV0 (av := [.inl 30]) C lM_X11_58 lV_X11_more (sM0 hB) ⟨_, rfl, rfl⟩ rfl (C_X11_more hB em5) (mj_rmok hR (by decide) (by decide)) rfl (Nat.le_of_ble_eq_true rfl) dX11_marks_51 ?_
  refine mj_aload_n C dX11_marks_54 rfl ?_
  refine mj_getr (r := (β, 1)) C lF_X11_7 (sM0 hB) rfl dX11_marks_55 ?_
  refine mj_bipush (v := 31) C dX11_marks_58 (by decide) ?_
  refine mj_aload_n C dX11_marks_60 rfl ?_
  refine mj_iconst (v := 4) C dX11_marks_61 (by decide) ?_
  obtain ⟨r7, er7, h⟩ := mj_b1_o h
  refine mj_callV1 (av := [.inl 4]) C lM_X11_102 lV_X11_settingOf (sM0 hB) ⟨_, rfl, rfl⟩ rfl (C_X11_settingOf hB er7) (mj_rmok hR (by decide) (by decide)) rfl (Nat.le_of_ble_eq_true rfl) dX11_marks_62 (fun hb8 => ?_)
  obtain ⟨m9, hm9, h⟩ := mj_let_o h
  refine mj_bast C (sM1 hB) (mj_okn 31 1897 (Nat.le_of_ble_eq_true rfl) (Nat.le_of_ble_eq_true rfl)) (mj_cln 31 (Nat.le_of_ble_eq_true rfl)) dX11_marks_65 hm9 ?_
  cases h
  exact mj_vret C hT dX11_marks_66 ⟨rfl, rfl, mj_bv _⟩
def f_X11_marks (m : mj_m) : Option (mj_m) := mj_let (f_X11_machine m) (fun r10 => if r10 = 5 then (mj_let (mj_wrs m 1 28 1) (fun m15 => f_X11_marks_J48 m15)) else (mj_b1 (f_X11_marks_L21 mj_fu 0 m) (fun m13 => f_X11_marks_J48 m13)))
set_option maxHeartbeats 4000000 in
set_option maxRecDepth 20000 in
theorem C_X11_marks {G : mj_G} {β : Nat} {M : mj_M} {m : mj_m} {m0 : mj_m} (hB : mj_isM G β) (h : f_X11_marks m = some m0) : mj_S1 yX11_marks cX11_marks 2 none 2 G [mj_r (β, 0)] (va_up M β m) none (va_up M β m0) := by
  refine mj_intro (by decide) (Nat.le_of_ble_eq_true rfl) ?_
  intro κ C hG hR hT
  subst hG
  have C : mj_C κ cX11_marks 2 RX11 := C
  show mj_R κ (mj_F κ (fun r M' => r = none ∧ M' = (va_up M β m0) ∧ mj_bb none none)) 0 [some (mj_r (β, 0)), none] [] (va_up M β m)
  unfold f_X11_marks at h
  refine mj_aload_n C dX11_marks_0 rfl ?_
  obtain ⟨r10, er10, h⟩ := mj_let_o h
  refine mj_callV1 (av := []) C lM_X11_87 lV_X11_machine (sM0 hB) ⟨_, rfl, rfl⟩ rfl (C_X11_machine hB er10) (mj_rmok hR (by decide) (by decide)) rfl (Nat.le_of_ble_eq_true rfl) dX11_marks_1 (fun hb11 => ?_)
  refine mj_iconst (v := 5) C dX11_marks_4 (by decide) ?_
  refine mj_icmp_ne (tgt := 19) C dX11_marks_5 (by decide) (fun c12 => ?_) (fun c12 => ?_)
  · replace h := mj_if_f c12 h
    refine mj_iconst (v := 0) C dX11_marks_19 (by decide) ?_
    refine mj_istore_n (L2 := [some (mj_r (β, 0)), some (.inl 0)]) C dX11_marks_20 (Nat.le_of_ble_eq_true rfl) rfl ?_
    obtain ⟨m13, hl14, h⟩ := mj_b1_o h
    refine mj_sub (L' := [some (mj_r (β, 0)), some (.inl 0)]) ⟨rfl, ⟨rfl, trivial⟩⟩ ?_
    refine C_X11_marks_L21 C hB hR _ _ _ _ hl14 ?_
    refine mj_sub (L' := [some (mj_r (β, 0)), none]) ⟨rfl, trivial⟩ ?_
    exact C_X11_marks_J48 C hB hR hT h
  · replace h := mj_if_t c12 h
    refine mj_aload_n C dX11_marks_8 rfl ?_
    refine mj_getr (r := (β, 1)) C lF_X11_7 (sM0 hB) rfl dX11_marks_9 ?_
    refine mj_bipush (v := 28) C dX11_marks_12 (by decide) ?_
    refine mj_iconst (v := 1) C dX11_marks_14 (by decide) ?_
    obtain ⟨m15, hm15, h⟩ := mj_let_o h
    refine mj_bast C (sM1 hB) (mj_okn 28 1897 (Nat.le_of_ble_eq_true rfl) (Nat.le_of_ble_eq_true rfl)) (mj_cln 28 (Nat.le_of_ble_eq_true rfl)) dX11_marks_15 hm15 ?_
    refine mj_goto (tgt := 48) C dX11_marks_16 (by decide) ?_
    refine mj_sub (L' := [some (mj_r (β, 0)), none]) ⟨rfl, trivial⟩ ?_
    exact C_X11_marks_J48 C hB hR hT h
def f_X11_send (a1 : Int32) (m : mj_m) : Option (Int32 × mj_m) := mj_let (mj_wrs m 0 0 0) (fun m1 => mj_let (f_X11_isIn a1 0 9999) (fun r2 => if r2 = 0 then (some ((-1), m1)) else (mj_let (f_X11_isMoving m1) (fun r5 => if r5 = 0 then (some ((-1), m1)) else (if m1 1 24 = 8 then (some ((-1), m1)) else (mj_b1 (f_X11_puts 58 24 a1 m1) (fun m9 => mj_b1 (f_X11_isLedgered a1 m9) (fun m11 => some (m11 1 24, m11)))))))))
set_option maxHeartbeats 4000000 in
set_option maxRecDepth 20000 in
theorem C_X11_send {G : mj_G} {β : Nat} {M : mj_M} {a1 : Int32} {m : mj_m} {x0 : Int32} {m0 : mj_m} (hB : mj_isM G β) (h : f_X11_send a1 m = some (x0, m0)) : mj_S1 yX11_send cX11_send 2 (some .int) 2 G [mj_r (β, 0), .inl a1] (va_up M β m) (some (.inl x0)) (va_up M β m0) := by
  refine mj_intro (by decide) (Nat.le_of_ble_eq_true rfl) ?_
  intro κ C hG hR hT
  subst hG
  have C : mj_C κ cX11_send 2 RX11 := C
  show mj_R κ (mj_F κ (fun r M' => r = (some (.inl x0)) ∧ M' = (va_up M β m0) ∧ mj_bb (some .int) (some (.inl x0)))) 0 [some (mj_r (β, 0)), some (.inl a1)] [] (va_up M β m)
  unfold f_X11_send at h
  refine mj_aload_n C dX11_send_0 rfl ?_
  refine mj_iconst (v := 0) C dX11_send_1 (by decide) ?_
  obtain ⟨m1, hm1, h⟩ := mj_let_o h
  refine mj_bput C lF_X11_41 fP_12_0 (vp_nar_int _) rfl (sM0 hB) rfl dX11_send_2 hm1 ?_
  refine mj_aload_n C dX11_send_5 rfl ?_
  refine mj_iload_n C dX11_send_6 rfl ?_
  refine mj_iconst (v := 0) C dX11_send_7 (by decide) ?_
  refine mj_sipush (v := 9999) C dX11_send_8 (by decide) ?_
  obtain ⟨r2, er2, h⟩ := mj_let_o h
  refine mj_callV1 (av := [.inl a1, .inl 0, .inl 9999]) C lM_X11_48 lV_X11_isIn (sM0 hB) ⟨_, rfl, rfl⟩ rfl (C_X11_isIn hB er2) (mj_rmok hR (by decide) (by decide)) rfl (Nat.le_of_ble_eq_true rfl) dX11_send_11 (fun hb3 => ?_)
  refine mj_if_eq (tgt := 36) C dX11_send_14 (by decide) (fun c4 => ?_) (fun c4 => ?_)
  · replace h := mj_if_t c4 h
    refine mj_iconst (v := (-1)) C dX11_send_36 (by decide) ?_
    cases h
    exact mj_iret C hT (vp_nar_int _) dX11_send_37 ⟨rfl, rfl, mj_bi _⟩
  · replace h := mj_if_f c4 h
    refine mj_aload_n C dX11_send_17 rfl ?_
    obtain ⟨r5, er5, h⟩ := mj_let_o h
    refine mj_callV1 (av := []) C lM_X11_105 lV_X11_isMoving (sM0 hB) ⟨_, rfl, rfl⟩ rfl (C_X11_isMoving hB er5) (mj_rmok hR (by decide) (by decide)) rfl (Nat.le_of_ble_eq_true rfl) dX11_send_18 (fun hb6 => ?_)
    refine mj_if_eq (tgt := 36) C dX11_send_21 (by decide) (fun c7 => ?_) (fun c7 => ?_)
    · replace h := mj_if_t c7 h
      refine mj_iconst (v := (-1)) C dX11_send_36 (by decide) ?_
      cases h
      exact mj_iret C hT (vp_nar_int _) dX11_send_37 ⟨rfl, rfl, mj_bi _⟩
    · replace h := mj_if_f c7 h
      refine mj_aload_n C dX11_send_24 rfl ?_
      refine mj_getr (r := (β, 1)) C lF_X11_7 (sM0 hB) rfl dX11_send_25 ?_
      refine mj_bipush (v := 24) C dX11_send_28 (by decide) ?_
      refine mj_bald C (sM1 hB) (mj_okn 24 1897 (Nat.le_of_ble_eq_true rfl) (Nat.le_of_ble_eq_true rfl)) (mj_cln 24 (Nat.le_of_ble_eq_true rfl)) dX11_send_30 ?_
      refine mj_bipush (v := 8) C dX11_send_31 (by decide) ?_
      refine mj_icmp_ne (tgt := 38) C dX11_send_33 (by decide) (fun c8 => ?_) (fun c8 => ?_)
      · replace h := mj_if_f c8 h
        refine mj_aload_n C dX11_send_38 rfl ?_
        refine mj_bipush (v := 58) C dX11_send_39 (by decide) ?_
        refine mj_bipush (v := 24) C dX11_send_41 (by decide) ?_
        refine mj_iload_n C dX11_send_43 rfl ?_
        obtain ⟨m9, em9, h⟩ := mj_b1_o h
        refine mj_callV0 (av := [.inl 58, .inl 24, .inl a1]) C lM_X11_109 lV_X11_puts (sM0 hB) ⟨_, rfl, rfl⟩ rfl (C_X11_puts hB em9) (mj_rmok hR (by decide) (by decide)) rfl (Nat.le_of_ble_eq_true rfl) dX11_send_44 ?_
        refine mj_aload_n C dX11_send_47 rfl ?_
        refine mj_iload_n C dX11_send_48 rfl ?_
        obtain ⟨m11, em11, h⟩ := mj_b1_o h
        refine mj_callV0 (av := [.inl a1]) C lM_X11_113 lV_X11_isLedgered (sM0 hB) ⟨_, rfl, rfl⟩ rfl (C_X11_isLedgered hB em11) (mj_rmok hR (by decide) (by decide)) rfl (Nat.le_of_ble_eq_true rfl) dX11_send_49 ?_
        refine mj_aload_n C dX11_send_52 rfl ?_
        refine mj_getr (r := (β, 1)) C lF_X11_7 (sM0 hB) rfl dX11_send_53 ?_
        refine mj_bipush (v := 24) C dX11_send_56 (by decide) ?_
        refine mj_bald C (sM1 hB) (mj_okn 24 1897 (Nat.le_of_ble_eq_true rfl) (Nat.le_of_ble_eq_true rfl)) (mj_cln 24 (Nat.le_of_ble_eq_true rfl)) dX11_send_58 ?_
        cases h
        exact mj_iret C hT (vp_nar_int _) dX11_send_59 ⟨rfl, rfl, mj_bi _⟩
      · replace h := mj_if_t c8 h
        refine mj_iconst (v := (-1)) C dX11_send_36 (by decide) ?_
        cases h
        exact mj_iret C hT (vp_nar_int _) dX11_send_37 ⟨rfl, rfl, mj_bi _⟩
def f_X11_past (a1 : Int32) (m : mj_m) : Option (Int32 × mj_m) := mj_let (mj_wrs m 0 0 0) (fun m1 => mj_let (f_X11_isIn a1 0 9999) (fun r2 => if r2 = 0 then (some ((-1), m1)) else (if m1 1 29 = 4 then (some ((-1), m1)) else (mj_b1 (f_X11_puts 106 29 a1 m1) (fun m6 => some (m6 1 29, m6))))))
set_option maxHeartbeats 4000000 in
set_option maxRecDepth 20000 in
theorem C_X11_past {G : mj_G} {β : Nat} {M : mj_M} {a1 : Int32} {m : mj_m} {x0 : Int32} {m0 : mj_m} (hB : mj_isM G β) (h : f_X11_past a1 m = some (x0, m0)) : mj_S1 yX11_past cX11_past 2 (some .int) 2 G [mj_r (β, 0), .inl a1] (va_up M β m) (some (.inl x0)) (va_up M β m0) := by
  refine mj_intro (by decide) (Nat.le_of_ble_eq_true rfl) ?_
  intro κ C hG hR hT
  subst hG
  have C : mj_C κ cX11_past 2 RX11 := C
  show mj_R κ (mj_F κ (fun r M' => r = (some (.inl x0)) ∧ M' = (va_up M β m0) ∧ mj_bb (some .int) (some (.inl x0)))) 0 [some (mj_r (β, 0)), some (.inl a1)] [] (va_up M β m)
  unfold f_X11_past at h
  refine mj_aload_n C dX11_past_0 rfl ?_
  refine mj_iconst (v := 0) C dX11_past_1 (by decide) ?_
  obtain ⟨m1, hm1, h⟩ := mj_let_o h
  refine mj_bput C lF_X11_41 fP_12_0 (vp_nar_int _) rfl (sM0 hB) rfl dX11_past_2 hm1 ?_
  refine mj_aload_n C dX11_past_5 rfl ?_
  refine mj_iload_n C dX11_past_6 rfl ?_
  refine mj_iconst (v := 0) C dX11_past_7 (by decide) ?_
  refine mj_sipush (v := 9999) C dX11_past_8 (by decide) ?_
  obtain ⟨r2, er2, h⟩ := mj_let_o h
  refine mj_callV1 (av := [.inl a1, .inl 0, .inl 9999]) C lM_X11_48 lV_X11_isIn (sM0 hB) ⟨_, rfl, rfl⟩ rfl (C_X11_isIn hB er2) (mj_rmok hR (by decide) (by decide)) rfl (Nat.le_of_ble_eq_true rfl) dX11_past_11 (fun hb3 => ?_)
  refine mj_if_eq (tgt := 28) C dX11_past_14 (by decide) (fun c4 => ?_) (fun c4 => ?_)
  · replace h := mj_if_t c4 h
    refine mj_iconst (v := (-1)) C dX11_past_28 (by decide) ?_
    cases h
    exact mj_iret C hT (vp_nar_int _) dX11_past_29 ⟨rfl, rfl, mj_bi _⟩
  · replace h := mj_if_f c4 h
    refine mj_aload_n C dX11_past_17 rfl ?_
    refine mj_getr (r := (β, 1)) C lF_X11_7 (sM0 hB) rfl dX11_past_18 ?_
    refine mj_bipush (v := 29) C dX11_past_21 (by decide) ?_
    refine mj_bald C (sM1 hB) (mj_okn 29 1897 (Nat.le_of_ble_eq_true rfl) (Nat.le_of_ble_eq_true rfl)) (mj_cln 29 (Nat.le_of_ble_eq_true rfl)) dX11_past_23 ?_
    refine mj_iconst (v := 4) C dX11_past_24 (by decide) ?_
    refine mj_icmp_ne (tgt := 30) C dX11_past_25 (by decide) (fun c5 => ?_) (fun c5 => ?_)
    · replace h := mj_if_f c5 h
      refine mj_aload_n C dX11_past_30 rfl ?_
      refine mj_bipush (v := 106) C dX11_past_31 (by decide) ?_
      refine mj_bipush (v := 29) C dX11_past_33 (by decide) ?_
      refine mj_iload_n C dX11_past_35 rfl ?_
      obtain ⟨m6, em6, h⟩ := mj_b1_o h
      refine mj_callV0 (av := [.inl 106, .inl 29, .inl a1]) C lM_X11_109 lV_X11_puts (sM0 hB) ⟨_, rfl, rfl⟩ rfl (C_X11_puts hB em6) (mj_rmok hR (by decide) (by decide)) rfl (Nat.le_of_ble_eq_true rfl) dX11_past_36 ?_
      refine mj_aload_n C dX11_past_39 rfl ?_
      refine mj_getr (r := (β, 1)) C lF_X11_7 (sM0 hB) rfl dX11_past_40 ?_
      refine mj_bipush (v := 29) C dX11_past_43 (by decide) ?_
      refine mj_bald C (sM1 hB) (mj_okn 29 1897 (Nat.le_of_ble_eq_true rfl) (Nat.le_of_ble_eq_true rfl)) (mj_cln 29 (Nat.le_of_ble_eq_true rfl)) dX11_past_45 ?_
      cases h
      exact mj_iret C hT (vp_nar_int _) dX11_past_46 ⟨rfl, rfl, mj_bi _⟩
    · replace h := mj_if_t c5 h
      refine mj_iconst (v := (-1)) C dX11_past_28 (by decide) ?_
      cases h
      exact mj_iret C hT (vp_nar_int _) dX11_past_29 ⟨rfl, rfl, mj_bi _⟩
def f_X11_directs (a1 : Int32) (a2 : Int32) (m : mj_m) : Option (mj_m) := mj_let (mj_wrs m 1 26 a1) (fun m1 => mj_let (mj_wrs m1 1 27 a2) (fun m2 => mj_let (mj_wrs m2 1 28 1) (fun m3 => mj_b1 (f_X11_settingOf 4 m3) (fun r4 => mj_let (mj_wrs m3 1 31 r4) (fun m6 => mj_b1 (f_X11_becomes 5 m6) (fun m7 => some m7))))))
set_option maxHeartbeats 4000000 in
set_option maxRecDepth 20000 in
theorem C_X11_directs {G : mj_G} {β : Nat} {M : mj_M} {a1 : Int32} {a2 : Int32} {m : mj_m} {m0 : mj_m} (hB : mj_isM G β) (h : f_X11_directs a1 a2 m = some m0) : mj_S1 yX11_directs cX11_directs 3 none 2 G [mj_r (β, 0), .inl a1, .inl a2] (va_up M β m) none (va_up M β m0) := by
  refine mj_intro (by decide) (Nat.le_of_ble_eq_true rfl) ?_
  intro κ C hG hR hT
  subst hG
  have C : mj_C κ cX11_directs 3 RX11 := C
  show mj_R κ (mj_F κ (fun r M' => r = none ∧ M' = (va_up M β m0) ∧ mj_bb none none)) 0 [some (mj_r (β, 0)), some (.inl a1), some (.inl a2)] [] (va_up M β m)
  unfold f_X11_directs at h
  refine mj_aload_n C dX11_directs_0 rfl ?_
  refine mj_getr (r := (β, 1)) C lF_X11_7 (sM0 hB) rfl dX11_directs_1 ?_
  refine mj_bipush (v := 26) C dX11_directs_4 (by decide) ?_
  refine mj_iload_n C dX11_directs_6 rfl ?_
  obtain ⟨m1, hm1, h⟩ := mj_let_o h
  refine mj_bast C (sM1 hB) (mj_okn 26 1897 (Nat.le_of_ble_eq_true rfl) (Nat.le_of_ble_eq_true rfl)) (mj_cln 26 (Nat.le_of_ble_eq_true rfl)) dX11_directs_7 hm1 ?_
  refine mj_aload_n C dX11_directs_8 rfl ?_
  refine mj_getr (r := (β, 1)) C lF_X11_7 (sM0 hB) rfl dX11_directs_9 ?_
  refine mj_bipush (v := 27) C dX11_directs_12 (by decide) ?_
  refine mj_iload_n C dX11_directs_14 rfl ?_
  obtain ⟨m2, hm2, h⟩ := mj_let_o h
  refine mj_bast C (sM1 hB) (mj_okn 27 1897 (Nat.le_of_ble_eq_true rfl) (Nat.le_of_ble_eq_true rfl)) (mj_cln 27 (Nat.le_of_ble_eq_true rfl)) dX11_directs_15 hm2 ?_
  refine mj_aload_n C dX11_directs_16 rfl ?_
  refine mj_getr (r := (β, 1)) C lF_X11_7 (sM0 hB) rfl dX11_directs_17 ?_
  refine mj_bipush (v := 28) C dX11_directs_20 (by decide) ?_
  refine mj_iconst (v := 1) C dX11_directs_22 (by decide) ?_
  obtain ⟨m3, hm3, h⟩ := mj_let_o h
  refine mj_bast C (sM1 hB) (mj_okn 28 1897 (Nat.le_of_ble_eq_true rfl) (Nat.le_of_ble_eq_true rfl)) (mj_cln 28 (Nat.le_of_ble_eq_true rfl)) dX11_directs_23 hm3 ?_
  refine mj_aload_n C dX11_directs_24 rfl ?_
  refine mj_getr (r := (β, 1)) C lF_X11_7 (sM0 hB) rfl dX11_directs_25 ?_
  refine mj_bipush (v := 31) C dX11_directs_28 (by decide) ?_
  refine mj_aload_n C dX11_directs_30 rfl ?_
  refine mj_iconst (v := 4) C dX11_directs_31 (by decide) ?_
  obtain ⟨r4, er4, h⟩ := mj_b1_o h
  refine mj_callV1 (av := [.inl 4]) C lM_X11_102 lV_X11_settingOf (sM0 hB) ⟨_, rfl, rfl⟩ rfl (C_X11_settingOf hB er4) (mj_rmok hR (by decide) (by decide)) rfl (Nat.le_of_ble_eq_true rfl) dX11_directs_32 (fun hb5 => ?_)
  obtain ⟨m6, hm6, h⟩ := mj_let_o h
  refine mj_bast C (sM1 hB) (mj_okn 31 1897 (Nat.le_of_ble_eq_true rfl) (Nat.le_of_ble_eq_true rfl)) (mj_cln 31 (Nat.le_of_ble_eq_true rfl)) dX11_directs_35 hm6 ?_
  refine mj_aload_n C dX11_directs_36 rfl ?_
  refine mj_iconst (v := 5) C dX11_directs_37 (by decide) ?_
  obtain ⟨m7, em7, h⟩ := mj_b1_o h
  refine mj_callV0 (av := [.inl 5]) C lM_X11_90 lV_X11_becomes (sM0 hB) ⟨_, rfl, rfl⟩ rfl (C_X11_becomes hB em7) (mj_rmok hR (by decide) (by decide)) rfl (Nat.le_of_ble_eq_true rfl) dX11_directs_38 ?_
  cases h
  exact mj_vret C hT dX11_directs_41 ⟨rfl, rfl, mj_bv _⟩
def f_X11_start_J140 (l1 : Int32) (l2 : Int32) (m : mj_m) : Option (Int32 × mj_m) := if l1 = 3 then (mj_b1 (f_X11_directs 2 l2 m) (fun m2 => some (1, m2))) else (some (1, m))
set_option maxHeartbeats 4000000 in
set_option maxRecDepth 20000 in
theorem C_X11_start_J140 {κ : mj_K} {β : Nat} {M : mj_M} {l1 : Int32} {l2 : Int32} {m : mj_m} {x0 : Int32} {m0 : mj_m} (C : mj_C κ cX11_start 3 RX11) (hB : mj_isM (mj_g κ) β) (hR : mj_dp κ 3) (hT : mj_rt κ = (some .boolean)) (h : f_X11_start_J140 l1 l2 m = some (x0, m0)) : mj_R κ (mj_F κ (fun r M' => r = (some (.inl x0)) ∧ M' = (va_up M β m0) ∧ mj_bb (some .boolean) (some (.inl x0)))) 140 [some (mj_r (β, 0)), some (.inl l1), some (.inl l2)] [] (va_up M β m) := by
  unfold f_X11_start_J140 at h
  refine mj_iload_n C dX11_start_140 rfl ?_
  refine mj_iconst (v := 3) C dX11_start_141 (by decide) ?_
  refine mj_icmp_ne (tgt := 151) C dX11_start_142 (by decide) (fun c1 => ?_) (fun c1 => ?_)
  · replace h := mj_if_f c1 h
    refine mj_iconst (v := 1) C dX11_start_151 (by decide) ?_
    cases h
    exact mj_iret C hT (mj_nb mj_b1') dX11_start_152 ⟨rfl, rfl, mj_b1'⟩
  · replace h := mj_if_t c1 h
    refine mj_aload_n C dX11_start_145 rfl ?_
    refine mj_iconst (v := 2) C dX11_start_146 (by decide) ?_
    refine mj_iload_n C dX11_start_147 rfl ?_
    obtain ⟨m2, em2, h⟩ := mj_b1_o h
    refine mj_callV0 (av := [.inl 2, .inl l2]) C lM_X11_116 lV_X11_directs (sM0 hB) ⟨_, rfl, rfl⟩ rfl (C_X11_directs hB em2) (mj_rmok hR (by decide) (by decide)) rfl (Nat.le_of_ble_eq_true rfl) dX11_start_148 ?_
    refine mj_iconst (v := 1) C dX11_start_151 (by decide) ?_
    cases h
    exact mj_iret C hT (mj_nb mj_b1') dX11_start_152 ⟨rfl, rfl, mj_b1'⟩
def f_X11_start_J129 (l1 : Int32) (l2 : Int32) (m : mj_m) : Option (Int32 × mj_m) := if l1 = 2 then (mj_b1 (f_X11_directs 1 0 m) (fun m5 => f_X11_start_J140 l1 l2 m5)) else (f_X11_start_J140 l1 l2 m)
set_option maxHeartbeats 4000000 in
set_option maxRecDepth 20000 in
theorem C_X11_start_J129 {κ : mj_K} {β : Nat} {M : mj_M} {l1 : Int32} {l2 : Int32} {m : mj_m} {x0 : Int32} {m0 : mj_m} (C : mj_C κ cX11_start 3 RX11) (hB : mj_isM (mj_g κ) β) (hR : mj_dp κ 3) (hT : mj_rt κ = (some .boolean)) (h : f_X11_start_J129 l1 l2 m = some (x0, m0)) : mj_R κ (mj_F κ (fun r M' => r = (some (.inl x0)) ∧ M' = (va_up M β m0) ∧ mj_bb (some .boolean) (some (.inl x0)))) 129 [some (mj_r (β, 0)), some (.inl l1), some (.inl l2)] [] (va_up M β m) := by
  unfold f_X11_start_J129 at h
  refine mj_iload_n C dX11_start_129 rfl ?_
  refine mj_iconst (v := 2) C dX11_start_130 (by decide) ?_
  refine mj_icmp_ne (tgt := 140) C dX11_start_131 (by decide) (fun c4 => ?_) (fun c4 => ?_)
  · replace h := mj_if_f c4 h
    refine mj_sub (L' := [some (mj_r (β, 0)), some (.inl l1), some (.inl l2)]) ⟨rfl, ⟨rfl, ⟨rfl, trivial⟩⟩⟩ ?_
    exact C_X11_start_J140 C hB hR hT h
  · replace h := mj_if_t c4 h
    refine mj_aload_n C dX11_start_134 rfl ?_
    refine mj_iconst (v := 1) C dX11_start_135 (by decide) ?_
    refine mj_iconst (v := 0) C dX11_start_136 (by decide) ?_
    obtain ⟨m5, em5, h⟩ := mj_b1_o h
    refine mj_callV0 (av := [.inl 1, .inl 0]) C lM_X11_116 lV_X11_directs (sM0 hB) ⟨_, rfl, rfl⟩ rfl (C_X11_directs hB em5) (mj_rmok hR (by decide) (by decide)) rfl (Nat.le_of_ble_eq_true rfl) dX11_start_137 ?_
    refine mj_sub (L' := [some (mj_r (β, 0)), some (.inl l1), some (.inl l2)]) ⟨rfl, ⟨rfl, ⟨rfl, trivial⟩⟩⟩ ?_
    exact C_X11_start_J140 C hB hR hT h
def f_X11_start_J107 (l1 : Int32) (l2 : Int32) (m : mj_m) : Option (Int32 × mj_m) := if l1 = 1 then (mj_b1 (f_X11_becomes 4 m) (fun m8 => mj_b1 (f_X11_settingOf 4 m8) (fun r10 => mj_let (mj_wrs m8 1 31 r10) (fun m12 => f_X11_start_J129 l1 l2 m12)))) else (f_X11_start_J129 l1 l2 m)
set_option maxHeartbeats 4000000 in
set_option maxRecDepth 20000 in
theorem C_X11_start_J107 {κ : mj_K} {β : Nat} {M : mj_M} {l1 : Int32} {l2 : Int32} {m : mj_m} {x0 : Int32} {m0 : mj_m} (C : mj_C κ cX11_start 3 RX11) (hB : mj_isM (mj_g κ) β) (hR : mj_dp κ 3) (hT : mj_rt κ = (some .boolean)) (h : f_X11_start_J107 l1 l2 m = some (x0, m0)) : mj_R κ (mj_F κ (fun r M' => r = (some (.inl x0)) ∧ M' = (va_up M β m0) ∧ mj_bb (some .boolean) (some (.inl x0)))) 107 [some (mj_r (β, 0)), some (.inl l1), some (.inl l2)] [] (va_up M β m) := by
  unfold f_X11_start_J107 at h
  refine mj_iload_n C dX11_start_107 rfl ?_
  refine mj_iconst (v := 1) C dX11_start_108 (by decide) ?_
  refine mj_icmp_ne (tgt := 129) C dX11_start_109 (by decide) (fun c7 => ?_) (fun c7 => ?_)
  · replace h := mj_if_f c7 h
    refine mj_sub (L' := [some (mj_r (β, 0)), some (.inl l1), some (.inl l2)]) ⟨rfl, ⟨rfl, ⟨rfl, trivial⟩⟩⟩ ?_
    exact C_X11_start_J129 C hB hR hT h
  · replace h := mj_if_t c7 h
    refine mj_aload_n C dX11_start_112 rfl ?_
    refine mj_iconst (v := 4) C dX11_start_113 (by decide) ?_
    obtain ⟨m8, em8, h⟩ := mj_b1_o h
    refine mj_callV0 (av := [.inl 4]) C lM_X11_90 lV_X11_becomes (sM0 hB) ⟨_, rfl, rfl⟩ rfl (C_X11_becomes hB em8) (mj_rmok hR (by decide) (by decide)) rfl (Nat.le_of_ble_eq_true rfl) dX11_start_114 ?_
    refine mj_aload_n C dX11_start_117 rfl ?_
    refine mj_getr (r := (β, 1)) C lF_X11_7 (sM0 hB) rfl dX11_start_118 ?_
    refine mj_bipush (v := 31) C dX11_start_121 (by decide) ?_
    refine mj_aload_n C dX11_start_123 rfl ?_
    refine mj_iconst (v := 4) C dX11_start_124 (by decide) ?_
    obtain ⟨r10, er10, h⟩ := mj_b1_o h
    refine mj_callV1 (av := [.inl 4]) C lM_X11_102 lV_X11_settingOf (sM0 hB) ⟨_, rfl, rfl⟩ rfl (C_X11_settingOf hB er10) (mj_rmok hR (by decide) (by decide)) rfl (Nat.le_of_ble_eq_true rfl) dX11_start_125 (fun hb11 => ?_)
    obtain ⟨m12, hm12, h⟩ := mj_let_o h
    refine mj_bast C (sM1 hB) (mj_okn 31 1897 (Nat.le_of_ble_eq_true rfl) (Nat.le_of_ble_eq_true rfl)) (mj_cln 31 (Nat.le_of_ble_eq_true rfl)) dX11_start_128 hm12 ?_
    refine mj_sub (L' := [some (mj_r (β, 0)), some (.inl l1), some (.inl l2)]) ⟨rfl, ⟨rfl, ⟨rfl, trivial⟩⟩⟩ ?_
    exact C_X11_start_J129 C hB hR hT h
def f_X11_start_J84 (l1 : Int32) (l2 : Int32) (m : mj_m) : Option (Int32 × mj_m) := mj_let (mj_wrs m 1 23 (m 1 22)) (fun m13 => if l1 = 0 then (mj_b1 (f_X11_becomes 1 m13) (fun m15 => f_X11_start_J107 l1 l2 m15)) else (f_X11_start_J107 l1 l2 m13))
set_option maxHeartbeats 4000000 in
set_option maxRecDepth 20000 in
theorem C_X11_start_J84 {κ : mj_K} {β : Nat} {M : mj_M} {l1 : Int32} {l2 : Int32} {m : mj_m} {x0 : Int32} {m0 : mj_m} (C : mj_C κ cX11_start 3 RX11) (hB : mj_isM (mj_g κ) β) (hR : mj_dp κ 3) (hT : mj_rt κ = (some .boolean)) (h : f_X11_start_J84 l1 l2 m = some (x0, m0)) : mj_R κ (mj_F κ (fun r M' => r = (some (.inl x0)) ∧ M' = (va_up M β m0) ∧ mj_bb (some .boolean) (some (.inl x0)))) 84 [some (mj_r (β, 0)), some (.inl l1), some (.inl l2)] [] (va_up M β m) := by
  unfold f_X11_start_J84 at h
  refine mj_aload_n C dX11_start_84 rfl ?_
  refine mj_getr (r := (β, 1)) C lF_X11_7 (sM0 hB) rfl dX11_start_85 ?_
  refine mj_bipush (v := 23) C dX11_start_88 (by decide) ?_
  refine mj_aload_n C dX11_start_90 rfl ?_
  refine mj_getr (r := (β, 1)) C lF_X11_7 (sM0 hB) rfl dX11_start_91 ?_
  refine mj_bipush (v := 22) C dX11_start_94 (by decide) ?_
  refine mj_bald C (sM1 hB) (mj_okn 22 1897 (Nat.le_of_ble_eq_true rfl) (Nat.le_of_ble_eq_true rfl)) (mj_cln 22 (Nat.le_of_ble_eq_true rfl)) dX11_start_96 ?_
  obtain ⟨m13, hm13, h⟩ := mj_let_o h
  refine mj_bast C (sM1 hB) (mj_okn 23 1897 (Nat.le_of_ble_eq_true rfl) (Nat.le_of_ble_eq_true rfl)) (mj_cln 23 (Nat.le_of_ble_eq_true rfl)) dX11_start_97 hm13 ?_
  refine mj_iload_n C dX11_start_98 rfl ?_
  refine mj_if_ne (tgt := 107) C dX11_start_99 (by decide) (fun c14 => ?_) (fun c14 => ?_)
  · replace h := mj_if_f c14 h
    refine mj_sub (L' := [some (mj_r (β, 0)), some (.inl l1), some (.inl l2)]) ⟨rfl, ⟨rfl, ⟨rfl, trivial⟩⟩⟩ ?_
    exact C_X11_start_J107 C hB hR hT h
  · replace h := mj_if_t c14 h
    refine mj_aload_n C dX11_start_102 rfl ?_
    refine mj_iconst (v := 1) C dX11_start_103 (by decide) ?_
    obtain ⟨m15, em15, h⟩ := mj_b1_o h
    refine mj_callV0 (av := [.inl 1]) C lM_X11_90 lV_X11_becomes (sM0 hB) ⟨_, rfl, rfl⟩ rfl (C_X11_becomes hB em15) (mj_rmok hR (by decide) (by decide)) rfl (Nat.le_of_ble_eq_true rfl) dX11_start_104 ?_
    refine mj_sub (L' := [some (mj_r (β, 0)), some (.inl l1), some (.inl l2)]) ⟨rfl, ⟨rfl, ⟨rfl, trivial⟩⟩⟩ ?_
    exact C_X11_start_J107 C hB hR hT h
def f_X11_start_J43 (l1 : Int32) (l2 : Int32) (m : mj_m) : Option (Int32 × mj_m) := mj_b1 (f_X11_empties m) (fun m17 => mj_let (mj_wrs m17 1 32 0) (fun m19 => mj_let (mj_wrs m19 1 26 0) (fun m20 => mj_let (mj_wrs m20 1 30 1) (fun m21 => if l1 = 3 then (mj_let (mj_wrs m21 1 22 l2) (fun m23 => f_X11_start_J84 l1 l2 m23)) else (f_X11_start_J84 l1 l2 m21)))))
set_option maxHeartbeats 4000000 in
set_option maxRecDepth 20000 in
theorem C_X11_start_J43 {κ : mj_K} {β : Nat} {M : mj_M} {l1 : Int32} {l2 : Int32} {m : mj_m} {x0 : Int32} {m0 : mj_m} (C : mj_C κ cX11_start 3 RX11) (hB : mj_isM (mj_g κ) β) (hR : mj_dp κ 3) (hT : mj_rt κ = (some .boolean)) (h : f_X11_start_J43 l1 l2 m = some (x0, m0)) : mj_R κ (mj_F κ (fun r M' => r = (some (.inl x0)) ∧ M' = (va_up M β m0) ∧ mj_bb (some .boolean) (some (.inl x0)))) 43 [some (mj_r (β, 0)), some (.inl l1), some (.inl l2)] [] (va_up M β m) := by
  unfold f_X11_start_J43 at h
  refine mj_aload_n C dX11_start_43 rfl ?_
  obtain ⟨m17, em17, h⟩ := mj_b1_o h
  refine mj_callV0 (av := []) C lM_X11_93 lV_X11_empties (sM0 hB) ⟨_, rfl, rfl⟩ rfl (C_X11_empties hB em17) (mj_rmok hR (by decide) (by decide)) rfl (Nat.le_of_ble_eq_true rfl) dX11_start_44 ?_
  refine mj_aload_n C dX11_start_47 rfl ?_
  refine mj_getr (r := (β, 1)) C lF_X11_7 (sM0 hB) rfl dX11_start_48 ?_
  refine mj_bipush (v := 32) C dX11_start_51 (by decide) ?_
  refine mj_iconst (v := 0) C dX11_start_53 (by decide) ?_
  obtain ⟨m19, hm19, h⟩ := mj_let_o h
  refine mj_bast C (sM1 hB) (mj_okn 32 1897 (Nat.le_of_ble_eq_true rfl) (Nat.le_of_ble_eq_true rfl)) (mj_cln 32 (Nat.le_of_ble_eq_true rfl)) dX11_start_54 hm19 ?_
  refine mj_aload_n C dX11_start_55 rfl ?_
  refine mj_getr (r := (β, 1)) C lF_X11_7 (sM0 hB) rfl dX11_start_56 ?_
  refine mj_bipush (v := 26) C dX11_start_59 (by decide) ?_
  refine mj_iconst (v := 0) C dX11_start_61 (by decide) ?_
  obtain ⟨m20, hm20, h⟩ := mj_let_o h
  refine mj_bast C (sM1 hB) (mj_okn 26 1897 (Nat.le_of_ble_eq_true rfl) (Nat.le_of_ble_eq_true rfl)) (mj_cln 26 (Nat.le_of_ble_eq_true rfl)) dX11_start_62 hm20 ?_
  refine mj_aload_n C dX11_start_63 rfl ?_
  refine mj_getr (r := (β, 1)) C lF_X11_7 (sM0 hB) rfl dX11_start_64 ?_
  refine mj_bipush (v := 30) C dX11_start_67 (by decide) ?_
  refine mj_iconst (v := 1) C dX11_start_69 (by decide) ?_
  obtain ⟨m21, hm21, h⟩ := mj_let_o h
  refine mj_bast C (sM1 hB) (mj_okn 30 1897 (Nat.le_of_ble_eq_true rfl) (Nat.le_of_ble_eq_true rfl)) (mj_cln 30 (Nat.le_of_ble_eq_true rfl)) dX11_start_70 hm21 ?_
  refine mj_iload_n C dX11_start_71 rfl ?_
  refine mj_iconst (v := 3) C dX11_start_72 (by decide) ?_
  refine mj_icmp_ne (tgt := 84) C dX11_start_73 (by decide) (fun c22 => ?_) (fun c22 => ?_)
  · replace h := mj_if_f c22 h
    refine mj_sub (L' := [some (mj_r (β, 0)), some (.inl l1), some (.inl l2)]) ⟨rfl, ⟨rfl, ⟨rfl, trivial⟩⟩⟩ ?_
    exact C_X11_start_J84 C hB hR hT h
  · replace h := mj_if_t c22 h
    refine mj_aload_n C dX11_start_76 rfl ?_
    refine mj_getr (r := (β, 1)) C lF_X11_7 (sM0 hB) rfl dX11_start_77 ?_
    refine mj_bipush (v := 22) C dX11_start_80 (by decide) ?_
    refine mj_iload_n C dX11_start_82 rfl ?_
    obtain ⟨m23, hm23, h⟩ := mj_let_o h
    refine mj_bast C (sM1 hB) (mj_okn 22 1897 (Nat.le_of_ble_eq_true rfl) (Nat.le_of_ble_eq_true rfl)) (mj_cln 22 (Nat.le_of_ble_eq_true rfl)) dX11_start_83 hm23 ?_
    refine mj_sub (L' := [some (mj_r (β, 0)), some (.inl l1), some (.inl l2)]) ⟨rfl, ⟨rfl, ⟨rfl, trivial⟩⟩⟩ ?_
    exact C_X11_start_J84 C hB hR hT h
def f_X11_start (a1 : Int32) (a2 : Int32) (m : mj_m) : Option (Int32 × mj_m) := mj_let (mj_wrs m 0 0 0) (fun m24 => mj_let (f_X11_machine m24) (fun r25 => if r25 = 6 then (mj_let (f_X11_isIn a1 0 3) (fun r28 => if r28 = 0 then (some (0, m24)) else (if a1 = 3 then (mj_let (f_X11_isIn a2 0 255) (fun r32 => if r32 = 0 then (some (0, m24)) else (f_X11_start_J43 a1 a2 m24))) else (f_X11_start_J43 a1 a2 m24)))) else (some (0, m24))))
set_option maxHeartbeats 4000000 in
set_option maxRecDepth 20000 in
theorem C_X11_start {G : mj_G} {β : Nat} {M : mj_M} {a1 : Int32} {a2 : Int32} {m : mj_m} {x0 : Int32} {m0 : mj_m} (hB : mj_isM G β) (h : f_X11_start a1 a2 m = some (x0, m0)) : mj_S1 yX11_start cX11_start 3 (some .boolean) 3 G [mj_r (β, 0), .inl a1, .inl a2] (va_up M β m) (some (.inl x0)) (va_up M β m0) := by
  refine mj_intro (by decide) (Nat.le_of_ble_eq_true rfl) ?_
  intro κ C hG hR hT
  subst hG
  have C : mj_C κ cX11_start 3 RX11 := C
  show mj_R κ (mj_F κ (fun r M' => r = (some (.inl x0)) ∧ M' = (va_up M β m0) ∧ mj_bb (some .boolean) (some (.inl x0)))) 0 [some (mj_r (β, 0)), some (.inl a1), some (.inl a2)] [] (va_up M β m)
  unfold f_X11_start at h
  refine mj_aload_n C dX11_start_0 rfl ?_
  refine mj_iconst (v := 0) C dX11_start_1 (by decide) ?_
  obtain ⟨m24, hm24, h⟩ := mj_let_o h
  refine mj_bput C lF_X11_41 fP_12_0 (vp_nar_int _) rfl (sM0 hB) rfl dX11_start_2 hm24 ?_
  refine mj_aload_n C dX11_start_5 rfl ?_
  obtain ⟨r25, er25, h⟩ := mj_let_o h
  refine mj_callV1 (av := []) C lM_X11_87 lV_X11_machine (sM0 hB) ⟨_, rfl, rfl⟩ rfl (C_X11_machine hB er25) (mj_rmok hR (by decide) (by decide)) rfl (Nat.le_of_ble_eq_true rfl) dX11_start_6 (fun hb26 => ?_)
  refine mj_bipush (v := 6) C dX11_start_9 (by decide) ?_
  refine mj_icmp_ne (tgt := 41) C dX11_start_11 (by decide) (fun c27 => ?_) (fun c27 => ?_)
  · replace h := mj_if_f c27 h
    refine mj_iconst (v := 0) C dX11_start_41 (by decide) ?_
    cases h
    exact mj_iret C hT (mj_nb mj_b0) dX11_start_42 ⟨rfl, rfl, mj_b0⟩
  · replace h := mj_if_t c27 h
    refine mj_aload_n C dX11_start_14 rfl ?_
    refine mj_iload_n C dX11_start_15 rfl ?_
    refine mj_iconst (v := 0) C dX11_start_16 (by decide) ?_
    refine mj_iconst (v := 3) C dX11_start_17 (by decide) ?_
    obtain ⟨r28, er28, h⟩ := mj_let_o h
    refine mj_callV1 (av := [.inl a1, .inl 0, .inl 3]) C lM_X11_48 lV_X11_isIn (sM0 hB) ⟨_, rfl, rfl⟩ rfl (C_X11_isIn hB er28) (mj_rmok hR (by decide) (by decide)) rfl (Nat.le_of_ble_eq_true rfl) dX11_start_18 (fun hb29 => ?_)
    refine mj_if_eq (tgt := 41) C dX11_start_21 (by decide) (fun c30 => ?_) (fun c30 => ?_)
    · replace h := mj_if_t c30 h
      refine mj_iconst (v := 0) C dX11_start_41 (by decide) ?_
      cases h
      exact mj_iret C hT (mj_nb mj_b0) dX11_start_42 ⟨rfl, rfl, mj_b0⟩
    · replace h := mj_if_f c30 h
      refine mj_iload_n C dX11_start_24 rfl ?_
      refine mj_iconst (v := 3) C dX11_start_25 (by decide) ?_
      refine mj_icmp_ne (tgt := 43) C dX11_start_26 (by decide) (fun c31 => ?_) (fun c31 => ?_)
      · replace h := mj_if_f c31 h
        refine mj_sub (L' := [some (mj_r (β, 0)), some (.inl a1), some (.inl a2)]) ⟨rfl, ⟨rfl, ⟨rfl, trivial⟩⟩⟩ ?_
        exact C_X11_start_J43 C hB hR hT h
      · replace h := mj_if_t c31 h
        refine mj_aload_n C dX11_start_29 rfl ?_
        refine mj_iload_n C dX11_start_30 rfl ?_
        refine mj_iconst (v := 0) C dX11_start_31 (by decide) ?_
        refine mj_sipush (v := 255) C dX11_start_32 (by decide) ?_
        obtain ⟨r32, er32, h⟩ := mj_let_o h
        refine mj_callV1 (av := [.inl a2, .inl 0, .inl 255]) C lM_X11_48 lV_X11_isIn (sM0 hB) ⟨_, rfl, rfl⟩ rfl (C_X11_isIn hB er32) (mj_rmok hR (by decide) (by decide)) rfl (Nat.le_of_ble_eq_true rfl) dX11_start_35 (fun hb33 => ?_)
        refine mj_if_ne (tgt := 43) C dX11_start_38 (by decide) (fun c34 => ?_) (fun c34 => ?_)
        · replace h := mj_if_f c34 h
          refine mj_sub (L' := [some (mj_r (β, 0)), some (.inl a1), some (.inl a2)]) ⟨rfl, ⟨rfl, ⟨rfl, trivial⟩⟩⟩ ?_
          exact C_X11_start_J43 C hB hR hT h
        · replace h := mj_if_t c34 h
          refine mj_iconst (v := 0) C dX11_start_41 (by decide) ?_
          cases h
          exact mj_iret C hT (mj_nb mj_b0) dX11_start_42 ⟨rfl, rfl, mj_b0⟩
def f_X11_goesOn_J71 (l1 : Int32) (m : mj_m) : Option (mj_m) := mj_b1 (f_X11_marks m) (fun m1 => if l1 = 5 then (some m1) else (if m1 1 25 = 0 then (mj_let (mj_wrs m1 1 31 0) (fun m5 => some m5)) else (some m1)))
set_option maxHeartbeats 4000000 in
set_option maxRecDepth 20000 in
theorem C_X11_goesOn_J71 {κ : mj_K} {β : Nat} {M : mj_M} {l1 : Int32} {m : mj_m} {m0 : mj_m} (C : mj_C κ cX11_goesOn 2 RX11) (hB : mj_isM (mj_g κ) β) (hR : mj_dp κ 3) (hT : mj_rt κ = none) (h : f_X11_goesOn_J71 l1 m = some m0) : mj_R κ (mj_F κ (fun r M' => r = none ∧ M' = (va_up M β m0) ∧ mj_bb none none)) 71 [some (mj_r (β, 0)), some (.inl l1)] [] (va_up M β m) := by
  unfold f_X11_goesOn_J71 at h
  refine mj_aload_n C dX11_goesOn_71 rfl ?_
  obtain ⟨m1, em1, h⟩ := mj_b1_o h
  refine mj_callV0 (av := []) C lM_X11_119 lV_X11_marks (sM0 hB) ⟨_, rfl, rfl⟩ rfl (C_X11_marks hB em1) (mj_rmok hR (by decide) (by decide)) rfl (Nat.le_of_ble_eq_true rfl) dX11_goesOn_72 ?_
  refine mj_iload_n C dX11_goesOn_75 rfl ?_
  refine mj_iconst (v := 5) C dX11_goesOn_76 (by decide) ?_
  refine mj_icmp_eq (tgt := 98) C dX11_goesOn_77 (by decide) (fun c3 => ?_) (fun c3 => ?_)
  · replace h := mj_if_t c3 h
    cases h
    exact mj_vret C hT dX11_goesOn_98 ⟨rfl, rfl, mj_bv _⟩
  · replace h := mj_if_f c3 h
    refine mj_aload_n C dX11_goesOn_80 rfl ?_
    refine mj_getr (r := (β, 1)) C lF_X11_7 (sM0 hB) rfl dX11_goesOn_81 ?_
    refine mj_bipush (v := 25) C dX11_goesOn_84 (by decide) ?_
    refine mj_bald C (sM1 hB) (mj_okn 25 1897 (Nat.le_of_ble_eq_true rfl) (Nat.le_of_ble_eq_true rfl)) (mj_cln 25 (Nat.le_of_ble_eq_true rfl)) dX11_goesOn_86 ?_
    refine mj_if_ne (tgt := 98) C dX11_goesOn_87 (by decide) (fun c4 => ?_) (fun c4 => ?_)
    · replace h := mj_if_f c4 h
      cases h
      exact mj_vret C hT dX11_goesOn_98 ⟨rfl, rfl, mj_bv _⟩
    · replace h := mj_if_t c4 h
      refine mj_aload_n C dX11_goesOn_90 rfl ?_
      refine mj_getr (r := (β, 1)) C lF_X11_7 (sM0 hB) rfl dX11_goesOn_91 ?_
      refine mj_bipush (v := 31) C dX11_goesOn_94 (by decide) ?_
      refine mj_iconst (v := 0) C dX11_goesOn_96 (by decide) ?_
      obtain ⟨m5, hm5, h⟩ := mj_let_o h
      refine mj_bast C (sM1 hB) (mj_okn 31 1897 (Nat.le_of_ble_eq_true rfl) (Nat.le_of_ble_eq_true rfl)) (mj_cln 31 (Nat.le_of_ble_eq_true rfl)) dX11_goesOn_97 hm5 ?_
      cases h
      exact mj_vret C hT dX11_goesOn_98 ⟨rfl, rfl, mj_bv _⟩
def f_X11_goesOn_J68 (l1 : Int32) (s0 : Int32) (m : mj_m) : Option (mj_m) := mj_b1 (f_X11_becomes s0 m) (fun m6 => f_X11_goesOn_J71 l1 m6)
set_option maxHeartbeats 4000000 in
set_option maxRecDepth 20000 in
theorem C_X11_goesOn_J68 {κ : mj_K} {β : Nat} {M : mj_M} {l1 : Int32} {s0 : Int32} {m : mj_m} {m0 : mj_m} (C : mj_C κ cX11_goesOn 2 RX11) (hB : mj_isM (mj_g κ) β) (hR : mj_dp κ 3) (hT : mj_rt κ = none) (h : f_X11_goesOn_J68 l1 s0 m = some m0) : mj_R κ (mj_F κ (fun r M' => r = none ∧ M' = (va_up M β m0) ∧ mj_bb none none)) 68 [some (mj_r (β, 0)), some (.inl l1)] [.inl s0, mj_r (β, 0)] (va_up M β m) := by
  unfold f_X11_goesOn_J68 at h
  obtain ⟨m6, em6, h⟩ := mj_b1_o h
  refine mj_callV0 (av := [.inl s0]) C lM_X11_90 lV_X11_becomes (sM0 hB) ⟨_, rfl, rfl⟩ rfl (C_X11_becomes hB em6) (mj_rmok hR (by decide) (by decide)) rfl (Nat.le_of_ble_eq_true rfl) dX11_goesOn_68 ?_
  refine mj_sub (L' := [some (mj_r (β, 0)), some (.inl l1)]) ⟨rfl, ⟨rfl, trivial⟩⟩ ?_
  exact C_X11_goesOn_J71 C hB hR hT h
def f_X11_goesOn (m : mj_m) : Option (mj_m) := mj_let (m 1 32) (fun x8 => mj_let (mj_wrs m 1 32 0) (fun m9 => mj_b1 (f_X11_becomes x8 m9) (fun m10 => if x8 = 4 then (mj_b1 (f_X11_settingOf 4 m10) (fun r16 => mj_let (mj_wrs m10 1 31 r16) (fun m18 => some m18))) else (mj_let (mj_wrs m10 1 30 0) (fun m13 => if x8 = 5 then (f_X11_goesOn_J71 x8 m13) else (if m13 1 25 ≤ 0 then (f_X11_goesOn_J68 x8 1 m13) else (f_X11_goesOn_J68 x8 2 m13)))))))
set_option maxHeartbeats 4000000 in
set_option maxRecDepth 20000 in
theorem C_X11_goesOn {G : mj_G} {β : Nat} {M : mj_M} {m : mj_m} {m0 : mj_m} (hB : mj_isM G β) (h : f_X11_goesOn m = some m0) : mj_S1 yX11_goesOn cX11_goesOn 2 none 3 G [mj_r (β, 0)] (va_up M β m) none (va_up M β m0) := by
  refine mj_intro (by decide) (Nat.le_of_ble_eq_true rfl) ?_
  intro κ C hG hR hT
  subst hG
  have C : mj_C κ cX11_goesOn 2 RX11 := C
  show mj_R κ (mj_F κ (fun r M' => r = none ∧ M' = (va_up M β m0) ∧ mj_bb none none)) 0 [some (mj_r (β, 0)), none] [] (va_up M β m)
  unfold f_X11_goesOn at h
  refine mj_aload_n C dX11_goesOn_0 rfl ?_
  refine mj_getr (r := (β, 1)) C lF_X11_7 (sM0 hB) rfl dX11_goesOn_1 ?_
  refine mj_bipush (v := 32) C dX11_goesOn_4 (by decide) ?_
  refine mj_bald C (sM1 hB) (mj_okn 32 1897 (Nat.le_of_ble_eq_true rfl) (Nat.le_of_ble_eq_true rfl)) (mj_cln 32 (Nat.le_of_ble_eq_true rfl)) dX11_goesOn_6 ?_
  obtain ⟨x8, hx8, h⟩ := mj_let_o h
  refine mj_nm hx8 ?_
  refine mj_istore_n (L2 := [some (mj_r (β, 0)), some (.inl x8)]) C dX11_goesOn_7 (Nat.le_of_ble_eq_true rfl) rfl ?_
  refine mj_aload_n C dX11_goesOn_8 rfl ?_
  refine mj_getr (r := (β, 1)) C lF_X11_7 (sM0 hB) rfl dX11_goesOn_9 ?_
  refine mj_bipush (v := 32) C dX11_goesOn_12 (by decide) ?_
  refine mj_iconst (v := 0) C dX11_goesOn_14 (by decide) ?_
  obtain ⟨m9, hm9, h⟩ := mj_let_o h
  refine mj_bast C (sM1 hB) (mj_okn 32 1897 (Nat.le_of_ble_eq_true rfl) (Nat.le_of_ble_eq_true rfl)) (mj_cln 32 (Nat.le_of_ble_eq_true rfl)) dX11_goesOn_15 hm9 ?_
  refine mj_aload_n C dX11_goesOn_16 rfl ?_
  refine mj_iload_n C dX11_goesOn_17 rfl ?_
  obtain ⟨m10, em10, h⟩ := mj_b1_o h
  refine mj_callV0 (av := [.inl x8]) C lM_X11_90 lV_X11_becomes (sM0 hB) ⟨_, rfl, rfl⟩ rfl (C_X11_becomes hB em10) (mj_rmok hR (by decide) (by decide)) rfl (Nat.le_of_ble_eq_true rfl) dX11_goesOn_18 ?_
  refine mj_iload_n C dX11_goesOn_21 rfl ?_
  refine mj_iconst (v := 4) C dX11_goesOn_22 (by decide) ?_
  refine mj_icmp_ne (tgt := 39) C dX11_goesOn_23 (by decide) (fun c12 => ?_) (fun c12 => ?_)
  · replace h := mj_if_f c12 h
    refine mj_aload_n C dX11_goesOn_39 rfl ?_
    refine mj_getr (r := (β, 1)) C lF_X11_7 (sM0 hB) rfl dX11_goesOn_40 ?_
    refine mj_bipush (v := 30) C dX11_goesOn_43 (by decide) ?_
    refine mj_iconst (v := 0) C dX11_goesOn_45 (by decide) ?_
    obtain ⟨m13, hm13, h⟩ := mj_let_o h
    refine mj_bast C (sM1 hB) (mj_okn 30 1897 (Nat.le_of_ble_eq_true rfl) (Nat.le_of_ble_eq_true rfl)) (mj_cln 30 (Nat.le_of_ble_eq_true rfl)) dX11_goesOn_46 hm13 ?_
    refine mj_iload_n C dX11_goesOn_47 rfl ?_
    refine mj_iconst (v := 5) C dX11_goesOn_48 (by decide) ?_
    refine mj_icmp_eq (tgt := 71) C dX11_goesOn_49 (by decide) (fun c14 => ?_) (fun c14 => ?_)
    · replace h := mj_if_t c14 h
      refine mj_sub (L' := [some (mj_r (β, 0)), some (.inl x8)]) ⟨rfl, ⟨rfl, trivial⟩⟩ ?_
      exact C_X11_goesOn_J71 C hB hR hT h
    · replace h := mj_if_f c14 h
      refine mj_aload_n C dX11_goesOn_52 rfl ?_
      refine mj_aload_n C dX11_goesOn_53 rfl ?_
      refine mj_getr (r := (β, 1)) C lF_X11_7 (sM0 hB) rfl dX11_goesOn_54 ?_
      refine mj_bipush (v := 25) C dX11_goesOn_57 (by decide) ?_
      refine mj_bald C (sM1 hB) (mj_okn 25 1897 (Nat.le_of_ble_eq_true rfl) (Nat.le_of_ble_eq_true rfl)) (mj_cln 25 (Nat.le_of_ble_eq_true rfl)) dX11_goesOn_59 ?_
      refine mj_if_le (tgt := 67) C dX11_goesOn_60 (by decide) (fun c15 => ?_) (fun c15 => ?_)
      · replace h := mj_if_t c15 h
        refine mj_iconst (v := 1) C dX11_goesOn_67 (by decide) ?_
        refine mj_sub (L' := [some (mj_r (β, 0)), some (.inl x8)]) ⟨rfl, ⟨rfl, trivial⟩⟩ ?_
        exact C_X11_goesOn_J68 C hB hR hT h
      · replace h := mj_if_f c15 h
        refine mj_iconst (v := 2) C dX11_goesOn_63 (by decide) ?_
        refine mj_goto (tgt := 68) C dX11_goesOn_64 (by decide) ?_
        refine mj_sub (L' := [some (mj_r (β, 0)), some (.inl x8)]) ⟨rfl, ⟨rfl, trivial⟩⟩ ?_
        exact C_X11_goesOn_J68 C hB hR hT h
  · replace h := mj_if_t c12 h
    refine mj_aload_n C dX11_goesOn_26 rfl ?_
    refine mj_getr (r := (β, 1)) C lF_X11_7 (sM0 hB) rfl dX11_goesOn_27 ?_
    refine mj_bipush (v := 31) C dX11_goesOn_30 (by decide) ?_
    refine mj_aload_n C dX11_goesOn_32 rfl ?_
    refine mj_iconst (v := 4) C dX11_goesOn_33 (by decide) ?_
    obtain ⟨r16, er16, h⟩ := mj_b1_o h
    refine mj_callV1 (av := [.inl 4]) C lM_X11_102 lV_X11_settingOf (sM0 hB) ⟨_, rfl, rfl⟩ rfl (C_X11_settingOf hB er16) (mj_rmok hR (by decide) (by decide)) rfl (Nat.le_of_ble_eq_true rfl) dX11_goesOn_34 (fun hb17 => ?_)
    obtain ⟨m18, hm18, h⟩ := mj_let_o h
    refine mj_bast C (sM1 hB) (mj_okn 31 1897 (Nat.le_of_ble_eq_true rfl) (Nat.le_of_ble_eq_true rfl)) (mj_cln 31 (Nat.le_of_ble_eq_true rfl)) dX11_goesOn_37 hm18 ?_
    cases h
    exact mj_vret C hT dX11_goesOn_38 ⟨rfl, rfl, mj_bv _⟩
def f_X11_direct (a1 : Int32) (m : mj_m) : Option (Int32 × mj_m) := mj_let (mj_wrs m 0 0 0) (fun m1 => if a1 = 0 then (mj_let (f_X11_machine m1) (fun r7 => if r7 = 6 then (if m1 1 32 = 0 then (some (0, m1)) else (mj_b1 (f_X11_alarms 6 m1) (fun m13 => some (1, m13)))) else (mj_b1 (f_X11_alarms 6 m1) (fun m10 => some (1, m10))))) else (if a1 = 1 then (if m1 1 32 = 0 then (some (0, m1)) else (mj_b1 (f_X11_goesOn m1) (fun m5 => some (1, m5)))) else (some (0, m1))))
set_option maxHeartbeats 4000000 in
set_option maxRecDepth 20000 in
theorem C_X11_direct {G : mj_G} {β : Nat} {M : mj_M} {a1 : Int32} {m : mj_m} {x0 : Int32} {m0 : mj_m} (hB : mj_isM G β) (h : f_X11_direct a1 m = some (x0, m0)) : mj_S1 yX11_direct cX11_direct 2 (some .boolean) 4 G [mj_r (β, 0), .inl a1] (va_up M β m) (some (.inl x0)) (va_up M β m0) := by
  refine mj_intro (by decide) (Nat.le_of_ble_eq_true rfl) ?_
  intro κ C hG hR hT
  subst hG
  have C : mj_C κ cX11_direct 2 RX11 := C
  show mj_R κ (mj_F κ (fun r M' => r = (some (.inl x0)) ∧ M' = (va_up M β m0) ∧ mj_bb (some .boolean) (some (.inl x0)))) 0 [some (mj_r (β, 0)), some (.inl a1)] [] (va_up M β m)
  unfold f_X11_direct at h
  refine mj_aload_n C dX11_direct_0 rfl ?_
  refine mj_iconst (v := 0) C dX11_direct_1 (by decide) ?_
  obtain ⟨m1, hm1, h⟩ := mj_let_o h
  refine mj_bput C lF_X11_41 fP_12_0 (vp_nar_int _) rfl (sM0 hB) rfl dX11_direct_2 hm1 ?_
  refine mj_iload_n C dX11_direct_5 rfl ?_
  refine mj_if_ne (tgt := 38) C dX11_direct_6 (by decide) (fun c2 => ?_) (fun c2 => ?_)
  · replace h := mj_if_f c2 h
    refine mj_iload_n C dX11_direct_38 rfl ?_
    refine mj_iconst (v := 1) C dX11_direct_39 (by decide) ?_
    refine mj_icmp_ne (tgt := 53) C dX11_direct_40 (by decide) (fun c3 => ?_) (fun c3 => ?_)
    · replace h := mj_if_f c3 h
      refine mj_iconst (v := 0) C dX11_direct_53 (by decide) ?_
      cases h
      exact mj_iret C hT (mj_nb mj_b0) dX11_direct_54 ⟨rfl, rfl, mj_b0⟩
    · replace h := mj_if_t c3 h
      refine mj_aload_n C dX11_direct_43 rfl ?_
      refine mj_getr (r := (β, 1)) C lF_X11_7 (sM0 hB) rfl dX11_direct_44 ?_
      refine mj_bipush (v := 32) C dX11_direct_47 (by decide) ?_
      refine mj_bald C (sM1 hB) (mj_okn 32 1897 (Nat.le_of_ble_eq_true rfl) (Nat.le_of_ble_eq_true rfl)) (mj_cln 32 (Nat.le_of_ble_eq_true rfl)) dX11_direct_49 ?_
      refine mj_if_ne (tgt := 55) C dX11_direct_50 (by decide) (fun c4 => ?_) (fun c4 => ?_)
      · replace h := mj_if_f c4 h
        refine mj_aload_n C dX11_direct_55 rfl ?_
        obtain ⟨m5, em5, h⟩ := mj_b1_o h
        refine mj_callV0 (av := []) C lM_X11_122 lV_X11_goesOn (sM0 hB) ⟨_, rfl, rfl⟩ rfl (C_X11_goesOn hB em5) (mj_rmok hR (by decide) (by decide)) rfl (Nat.le_of_ble_eq_true rfl) dX11_direct_56 ?_
        refine mj_iconst (v := 1) C dX11_direct_59 (by decide) ?_
        cases h
        exact mj_iret C hT (mj_nb mj_b1') dX11_direct_60 ⟨rfl, rfl, mj_b1'⟩
      · replace h := mj_if_t c4 h
        refine mj_iconst (v := 0) C dX11_direct_53 (by decide) ?_
        cases h
        exact mj_iret C hT (mj_nb mj_b0) dX11_direct_54 ⟨rfl, rfl, mj_b0⟩
  · replace h := mj_if_t c2 h
    refine mj_aload_n C dX11_direct_9 rfl ?_
    obtain ⟨r7, er7, h⟩ := mj_let_o h
    refine mj_callV1 (av := []) C lM_X11_87 lV_X11_machine (sM0 hB) ⟨_, rfl, rfl⟩ rfl (C_X11_machine hB er7) (mj_rmok hR (by decide) (by decide)) rfl (Nat.le_of_ble_eq_true rfl) dX11_direct_10 (fun hb8 => ?_)
    refine mj_bipush (v := 6) C dX11_direct_13 (by decide) ?_
    refine mj_icmp_ne (tgt := 30) C dX11_direct_15 (by decide) (fun c9 => ?_) (fun c9 => ?_)
    · replace h := mj_if_f c9 h
      refine mj_aload_n C dX11_direct_30 rfl ?_
      refine mj_bipush (v := 6) C dX11_direct_31 (by decide) ?_
      obtain ⟨m10, em10, h⟩ := mj_b1_o h
      refine mj_callV0 (av := [.inl 6]) C lM_X11_96 lV_X11_alarms (sM0 hB) ⟨_, rfl, rfl⟩ rfl (C_X11_alarms hB em10) (mj_rmok hR (by decide) (by decide)) rfl (Nat.le_of_ble_eq_true rfl) dX11_direct_33 ?_
      refine mj_iconst (v := 1) C dX11_direct_36 (by decide) ?_
      cases h
      exact mj_iret C hT (mj_nb mj_b1') dX11_direct_37 ⟨rfl, rfl, mj_b1'⟩
    · replace h := mj_if_t c9 h
      refine mj_aload_n C dX11_direct_18 rfl ?_
      refine mj_getr (r := (β, 1)) C lF_X11_7 (sM0 hB) rfl dX11_direct_19 ?_
      refine mj_bipush (v := 32) C dX11_direct_22 (by decide) ?_
      refine mj_bald C (sM1 hB) (mj_okn 32 1897 (Nat.le_of_ble_eq_true rfl) (Nat.le_of_ble_eq_true rfl)) (mj_cln 32 (Nat.le_of_ble_eq_true rfl)) dX11_direct_24 ?_
      refine mj_if_ne (tgt := 30) C dX11_direct_25 (by decide) (fun c12 => ?_) (fun c12 => ?_)
      · replace h := mj_if_f c12 h
        refine mj_aload_n C dX11_direct_30 rfl ?_
        refine mj_bipush (v := 6) C dX11_direct_31 (by decide) ?_
        obtain ⟨m13, em13, h⟩ := mj_b1_o h
        refine mj_callV0 (av := [.inl 6]) C lM_X11_96 lV_X11_alarms (sM0 hB) ⟨_, rfl, rfl⟩ rfl (C_X11_alarms hB em13) (mj_rmok hR (by decide) (by decide)) rfl (Nat.le_of_ble_eq_true rfl) dX11_direct_33 ?_
        refine mj_iconst (v := 1) C dX11_direct_36 (by decide) ?_
        cases h
        exact mj_iret C hT (mj_nb mj_b1') dX11_direct_37 ⟨rfl, rfl, mj_b1'⟩
      · replace h := mj_if_t c12 h
        refine mj_iconst (v := 0) C dX11_direct_28 (by decide) ?_
        cases h
        exact mj_iret C hT (mj_nb mj_b0) dX11_direct_29 ⟨rfl, rfl, mj_b0⟩
def f_X11_renumber (a1 : Int32) (m : mj_m) : Int32 × mj_m := mj_let (mj_wrs m 0 0 0) (fun m1 => mj_let (f_X11_isIn a1 0 255) (fun r2 => if r2 = 0 then ((0, m1)) else (mj_let (f_X11_machine m1) (fun r5 => if r5 = 6 then (if m1 1 32 ≤ 0 then (mj_let (mj_wrs m1 1 22 a1) (fun m9 => mj_let (mj_wrs m9 1 23 a1) (fun m10 => (1, m10)))) else ((0, m1))) else ((0, m1))))))
set_option maxHeartbeats 4000000 in
set_option maxRecDepth 20000 in
theorem C_X11_renumber {G : mj_G} {β : Nat} {M : mj_M} {a1 : Int32} {m : mj_m} {x0 : Int32} {m0 : mj_m} (hB : mj_isM G β) (h : f_X11_renumber a1 m = (x0, m0)) : mj_S1 yX11_renumber cX11_renumber 2 (some .boolean) 1 G [mj_r (β, 0), .inl a1] (va_up M β m) (some (.inl x0)) (va_up M β m0) := by
  refine mj_intro (by decide) (Nat.le_of_ble_eq_true rfl) ?_
  intro κ C hG hR hT
  subst hG
  have C : mj_C κ cX11_renumber 2 RX11 := C
  show mj_R κ (mj_F κ (fun r M' => r = (some (.inl x0)) ∧ M' = (va_up M β m0) ∧ mj_bb (some .boolean) (some (.inl x0)))) 0 [some (mj_r (β, 0)), some (.inl a1)] [] (va_up M β m)
  unfold f_X11_renumber at h
  refine mj_aload_n C dX11_renumber_0 rfl ?_
  refine mj_iconst (v := 0) C dX11_renumber_1 (by decide) ?_
  obtain ⟨m1, hm1, h⟩ := mj_let_o h
  refine mj_bput C lF_X11_41 fP_12_0 (vp_nar_int _) rfl (sM0 hB) rfl dX11_renumber_2 hm1 ?_
  refine mj_aload_n C dX11_renumber_5 rfl ?_
  refine mj_iload_n C dX11_renumber_6 rfl ?_
  refine mj_iconst (v := 0) C dX11_renumber_7 (by decide) ?_
  refine mj_sipush (v := 255) C dX11_renumber_8 (by decide) ?_
  obtain ⟨r2, er2, h⟩ := mj_let_o h
  refine mj_callV1 (av := [.inl a1, .inl 0, .inl 255]) C lM_X11_48 lV_X11_isIn (sM0 hB) ⟨_, rfl, rfl⟩ rfl (C_X11_isIn hB er2) (mj_rmok hR (by decide) (by decide)) rfl (Nat.le_of_ble_eq_true rfl) dX11_renumber_11 (fun hb3 => ?_)
  refine mj_if_eq (tgt := 36) C dX11_renumber_14 (by decide) (fun c4 => ?_) (fun c4 => ?_)
  · replace h := mj_if_t c4 h
    refine mj_iconst (v := 0) C dX11_renumber_36 (by decide) ?_
    cases h
    exact mj_iret C hT (mj_nb mj_b0) dX11_renumber_37 ⟨rfl, rfl, mj_b0⟩
  · replace h := mj_if_f c4 h
    refine mj_aload_n C dX11_renumber_17 rfl ?_
    obtain ⟨r5, er5, h⟩ := mj_let_o h
    refine mj_callV1 (av := []) C lM_X11_87 lV_X11_machine (sM0 hB) ⟨_, rfl, rfl⟩ rfl (C_X11_machine hB er5) (mj_rmok hR (by decide) (by decide)) rfl (Nat.le_of_ble_eq_true rfl) dX11_renumber_18 (fun hb6 => ?_)
    refine mj_bipush (v := 6) C dX11_renumber_21 (by decide) ?_
    refine mj_icmp_ne (tgt := 36) C dX11_renumber_23 (by decide) (fun c7 => ?_) (fun c7 => ?_)
    · replace h := mj_if_f c7 h
      refine mj_iconst (v := 0) C dX11_renumber_36 (by decide) ?_
      cases h
      exact mj_iret C hT (mj_nb mj_b0) dX11_renumber_37 ⟨rfl, rfl, mj_b0⟩
    · replace h := mj_if_t c7 h
      refine mj_aload_n C dX11_renumber_26 rfl ?_
      refine mj_getr (r := (β, 1)) C lF_X11_7 (sM0 hB) rfl dX11_renumber_27 ?_
      refine mj_bipush (v := 32) C dX11_renumber_30 (by decide) ?_
      refine mj_bald C (sM1 hB) (mj_okn 32 1897 (Nat.le_of_ble_eq_true rfl) (Nat.le_of_ble_eq_true rfl)) (mj_cln 32 (Nat.le_of_ble_eq_true rfl)) dX11_renumber_32 ?_
      refine mj_if_le (tgt := 38) C dX11_renumber_33 (by decide) (fun c8 => ?_) (fun c8 => ?_)
      · replace h := mj_if_t c8 h
        refine mj_aload_n C dX11_renumber_38 rfl ?_
        refine mj_getr (r := (β, 1)) C lF_X11_7 (sM0 hB) rfl dX11_renumber_39 ?_
        refine mj_bipush (v := 22) C dX11_renumber_42 (by decide) ?_
        refine mj_iload_n C dX11_renumber_44 rfl ?_
        obtain ⟨m9, hm9, h⟩ := mj_let_o h
        refine mj_bast C (sM1 hB) (mj_okn 22 1897 (Nat.le_of_ble_eq_true rfl) (Nat.le_of_ble_eq_true rfl)) (mj_cln 22 (Nat.le_of_ble_eq_true rfl)) dX11_renumber_45 hm9 ?_
        refine mj_aload_n C dX11_renumber_46 rfl ?_
        refine mj_getr (r := (β, 1)) C lF_X11_7 (sM0 hB) rfl dX11_renumber_47 ?_
        refine mj_bipush (v := 23) C dX11_renumber_50 (by decide) ?_
        refine mj_iload_n C dX11_renumber_52 rfl ?_
        obtain ⟨m10, hm10, h⟩ := mj_let_o h
        refine mj_bast C (sM1 hB) (mj_okn 23 1897 (Nat.le_of_ble_eq_true rfl) (Nat.le_of_ble_eq_true rfl)) (mj_cln 23 (Nat.le_of_ble_eq_true rfl)) dX11_renumber_53 hm10 ?_
        refine mj_iconst (v := 1) C dX11_renumber_54 (by decide) ?_
        cases h
        exact mj_iret C hT (mj_nb mj_b1') dX11_renumber_55 ⟨rfl, rfl, mj_b1'⟩
      · replace h := mj_if_f c8 h
        refine mj_iconst (v := 0) C dX11_renumber_36 (by decide) ?_
        cases h
        exact mj_iret C hT (mj_nb mj_b0) dX11_renumber_37 ⟨rfl, rfl, mj_b0⟩
def f_X11_wayAt (a1 : Int32) (a2 : Int32) : Int32 := if a1 = 0 then ((929 + (4 * a2))) else ((635 + (7 * a2)))
set_option maxHeartbeats 4000000 in
set_option maxRecDepth 20000 in
theorem C_X11_wayAt {G : mj_G} {β : Nat} {M : mj_M} {a1 : Int32} {a2 : Int32} {m : mj_m} {x0 : Int32} (hB : mj_isM G β) (h : f_X11_wayAt a1 a2 = x0) : mj_S1 yX11_wayAt cX11_wayAt 3 (some .int) 0 G [mj_r (β, 0), .inl a1, .inl a2] (va_up M β m) (some (.inl x0)) (va_up M β m) := by
  refine mj_intro (by decide) (Nat.le_of_ble_eq_true rfl) ?_
  intro κ C hG hR hT
  subst hG
  have C : mj_C κ cX11_wayAt 3 RX11 := C
  show mj_R κ (mj_F κ (fun r M' => r = (some (.inl x0)) ∧ M' = (va_up M β m) ∧ mj_bb (some .int) (some (.inl x0)))) 0 [some (mj_r (β, 0)), some (.inl a1), some (.inl a2)] [] (va_up M β m)
  unfold f_X11_wayAt at h
  refine mj_iload_n C dX11_wayAt_0 rfl ?_
  refine mj_if_eq (tgt := 15) C dX11_wayAt_1 (by decide) (fun c1 => ?_) (fun c1 => ?_)
  · replace h := mj_if_t c1 h
    refine mj_sipush (v := 929) C dX11_wayAt_15 (by decide) ?_
    refine mj_iconst (v := 4) C dX11_wayAt_18 (by decide) ?_
    refine mj_iload_n C dX11_wayAt_19 rfl ?_
    refine mj_imul C dX11_wayAt_20 ?_
    refine mj_iadd C dX11_wayAt_21 ?_
    cases h
    exact mj_iret C hT (vp_nar_int _) dX11_wayAt_22 ⟨rfl, rfl, mj_bi _⟩
  · replace h := mj_if_f c1 h
    refine mj_sipush (v := 635) C dX11_wayAt_4 (by decide) ?_
    refine mj_bipush (v := 7) C dX11_wayAt_7 (by decide) ?_
    refine mj_iload_n C dX11_wayAt_9 rfl ?_
    refine mj_imul C dX11_wayAt_10 ?_
    refine mj_iadd C dX11_wayAt_11 ?_
    refine mj_goto (tgt := 22) C dX11_wayAt_12 (by decide) ?_
    cases h
    exact mj_iret C hT (vp_nar_int _) dX11_wayAt_22 ⟨rfl, rfl, mj_bi _⟩
def f_X11_wayMany (a1 : Int32) (m : mj_m) : Int32 := if a1 = 0 then ((m 1 42)) else ((m 1 41))
set_option maxHeartbeats 4000000 in
set_option maxRecDepth 20000 in
theorem C_X11_wayMany {G : mj_G} {β : Nat} {M : mj_M} {a1 : Int32} {m : mj_m} {x0 : Int32} (hB : mj_isM G β) (h : f_X11_wayMany a1 m = x0) : mj_S1 yX11_wayMany cX11_wayMany 2 (some .int) 0 G [mj_r (β, 0), .inl a1] (va_up M β m) (some (.inl x0)) (va_up M β m) := by
  refine mj_intro (by decide) (Nat.le_of_ble_eq_true rfl) ?_
  intro κ C hG hR hT
  subst hG
  have C : mj_C κ cX11_wayMany 2 RX11 := C
  show mj_R κ (mj_F κ (fun r M' => r = (some (.inl x0)) ∧ M' = (va_up M β m) ∧ mj_bb (some .int) (some (.inl x0)))) 0 [some (mj_r (β, 0)), some (.inl a1)] [] (va_up M β m)
  unfold f_X11_wayMany at h
  refine mj_aload_n C dX11_wayMany_0 rfl ?_
  refine mj_getr (r := (β, 1)) C lF_X11_7 (sM0 hB) rfl dX11_wayMany_1 ?_
  refine mj_iload_n C dX11_wayMany_4 rfl ?_
  refine mj_if_eq (tgt := 13) C dX11_wayMany_5 (by decide) (fun c1 => ?_) (fun c1 => ?_)
  · replace h := mj_if_t c1 h
    refine mj_bipush (v := 42) C dX11_wayMany_13 (by decide) ?_
    refine mj_bald C (sM1 hB) (mj_okn 42 1897 (Nat.le_of_ble_eq_true rfl) (Nat.le_of_ble_eq_true rfl)) (mj_cln 42 (Nat.le_of_ble_eq_true rfl)) dX11_wayMany_15 ?_
    cases h
    exact mj_iret C hT (vp_nar_int _) dX11_wayMany_16 ⟨rfl, rfl, mj_bi _⟩
  · replace h := mj_if_f c1 h
    refine mj_bipush (v := 41) C dX11_wayMany_8 (by decide) ?_
    refine mj_goto (tgt := 15) C dX11_wayMany_10 (by decide) ?_
    refine mj_bald C (sM1 hB) (mj_okn 41 1897 (Nat.le_of_ble_eq_true rfl) (Nat.le_of_ble_eq_true rfl)) (mj_cln 41 (Nat.le_of_ble_eq_true rfl)) dX11_wayMany_15 ?_
    cases h
    exact mj_iret C hT (vp_nar_int _) dX11_wayMany_16 ⟨rfl, rfl, mj_bi _⟩
def f_X11_wayLong (a1 : Int32) : Int32 := if a1 = 0 then (4) else (7)
set_option maxHeartbeats 4000000 in
set_option maxRecDepth 20000 in
theorem C_X11_wayLong {G : mj_G} {β : Nat} {M : mj_M} {a1 : Int32} {m : mj_m} {x0 : Int32} (hB : mj_isM G β) (h : f_X11_wayLong a1 = x0) : mj_S1 yX11_wayLong cX11_wayLong 2 (some .int) 0 G [mj_r (β, 0), .inl a1] (va_up M β m) (some (.inl x0)) (va_up M β m) := by
  refine mj_intro (by decide) (Nat.le_of_ble_eq_true rfl) ?_
  intro κ C hG hR hT
  subst hG
  have C : mj_C κ cX11_wayLong 2 RX11 := C
  show mj_R κ (mj_F κ (fun r M' => r = (some (.inl x0)) ∧ M' = (va_up M β m) ∧ mj_bb (some .int) (some (.inl x0)))) 0 [some (mj_r (β, 0)), some (.inl a1)] [] (va_up M β m)
  unfold f_X11_wayLong at h
  refine mj_iload_n C dX11_wayLong_0 rfl ?_
  refine mj_if_eq (tgt := 9) C dX11_wayLong_1 (by decide) (fun c1 => ?_) (fun c1 => ?_)
  · replace h := mj_if_t c1 h
    refine mj_iconst (v := 4) C dX11_wayLong_9 (by decide) ?_
    cases h
    exact mj_iret C hT (vp_nar_int _) dX11_wayLong_10 ⟨rfl, rfl, mj_bi _⟩
  · replace h := mj_if_f c1 h
    refine mj_bipush (v := 7) C dX11_wayLong_4 (by decide) ?_
    refine mj_goto (tgt := 10) C dX11_wayLong_6 (by decide) ?_
    cases h
    exact mj_iret C hT (vp_nar_int _) dX11_wayLong_10 ⟨rfl, rfl, mj_bi _⟩
def f_X11_byteMany (a1 : Int32) : Int32 := if a1 = 0 then (3) else (5)
set_option maxHeartbeats 4000000 in
set_option maxRecDepth 20000 in
theorem C_X11_byteMany {G : mj_G} {β : Nat} {M : mj_M} {a1 : Int32} {m : mj_m} {x0 : Int32} (hB : mj_isM G β) (h : f_X11_byteMany a1 = x0) : mj_S1 yX11_byteMany cX11_byteMany 2 (some .int) 0 G [mj_r (β, 0), .inl a1] (va_up M β m) (some (.inl x0)) (va_up M β m) := by
  refine mj_intro (by decide) (Nat.le_of_ble_eq_true rfl) ?_
  intro κ C hG hR hT
  subst hG
  have C : mj_C κ cX11_byteMany 2 RX11 := C
  show mj_R κ (mj_F κ (fun r M' => r = (some (.inl x0)) ∧ M' = (va_up M β m) ∧ mj_bb (some .int) (some (.inl x0)))) 0 [some (mj_r (β, 0)), some (.inl a1)] [] (va_up M β m)
  unfold f_X11_byteMany at h
  refine mj_iload_n C dX11_byteMany_0 rfl ?_
  refine mj_if_eq (tgt := 8) C dX11_byteMany_1 (by decide) (fun c1 => ?_) (fun c1 => ?_)
  · replace h := mj_if_t c1 h
    refine mj_iconst (v := 3) C dX11_byteMany_8 (by decide) ?_
    cases h
    exact mj_iret C hT (vp_nar_int _) dX11_byteMany_9 ⟨rfl, rfl, mj_bi _⟩
  · replace h := mj_if_f c1 h
    refine mj_iconst (v := 5) C dX11_byteMany_4 (by decide) ?_
    refine mj_goto (tgt := 9) C dX11_byteMany_5 (by decide) ?_
    cases h
    exact mj_iret C hT (vp_nar_int _) dX11_byteMany_9 ⟨rfl, rfl, mj_bi _⟩
def f_X11_drops_L16 (l1 : Int32) (l3 : Int32) : Nat → Int32 → mj_m → Option (mj_m)
  | 0, _, _ => none
  | n + 1, l4, m => mj_let (f_X11_wayAt l1 l3) (fun r1 => if r1 ≤ l4 then (some m) else (mj_let (f_X11_wayLong l1) (fun r4 => mj_chk (mj_ok (l4 + r4) 1897) (mj_chk (mj_ok l4 1897) (mj_let (mj_wrs m 1 (mj_cl l4) (m 1 (mj_cl (l4 + r4)))) (fun m8 => mj_let (l4 + 1) (fun x9 => f_X11_drops_L16 l1 l3 n x9 m8)))))))
set_option maxHeartbeats 4000000 in
set_option maxRecDepth 20000 in
theorem C_X11_drops_L16 {κ : mj_K} {Q : State → Prop} {β : Nat} {M : mj_M} {l1 : Int32} {l3 : Int32} (C : mj_C κ cX11_drops 5 RX11) (hB : mj_isM (mj_g κ) β) (hR : mj_dp κ 1) : ∀ (n : Nat) (l4 : Int32) (m : mj_m) (mo : mj_m), f_X11_drops_L16 l1 l3 n l4 m = some mo → (mj_R κ Q 53 [some (mj_r (β, 0)), some (.inl l1), none, some (.inl l3), none] [] (va_up M β mo)) → mj_R κ Q 16 [some (mj_r (β, 0)), some (.inl l1), none, some (.inl l3), some (.inl l4)] [] (va_up M β m) := by
  intro n
  induction n with
  | zero =>
    intro l4 m mo h
    cases h
  | succ n ih =>
    intro l4 m mo h hx53
    rw [f_X11_drops_L16] at h
    refine mj_iload C dX11_drops_16 rfl ?_
    refine mj_aload_n C dX11_drops_18 rfl ?_
    refine mj_iload_n C dX11_drops_19 rfl ?_
    refine mj_iload_n C dX11_drops_20 rfl ?_
    obtain ⟨r1, er1, h⟩ := mj_let_o h
    refine mj_callV1 (av := [.inl l1, .inl l3]) C lM_X11_129 lV_X11_wayAt (sM0 hB) ⟨_, rfl, rfl⟩ rfl (C_X11_wayAt hB er1) (mj_rmok hR (by decide) (by decide)) rfl (Nat.le_of_ble_eq_true rfl) dX11_drops_21 (fun hb2 => ?_)
    refine mj_icmp_ge (tgt := 53) C dX11_drops_24 (by decide) (fun c3 => ?_) (fun c3 => ?_)
    · replace h := mj_if_t c3 h
      cases h
      refine mj_sub ?_ (hx53)
      exact ⟨rfl, ⟨rfl, ⟨rfl, trivial⟩⟩⟩
    · replace h := mj_if_f c3 h
      refine mj_aload_n C dX11_drops_27 rfl ?_
      refine mj_getr (r := (β, 1)) C lF_X11_7 (sM0 hB) rfl dX11_drops_28 ?_
      refine mj_iload C dX11_drops_31 rfl ?_
      refine mj_aload_n C dX11_drops_33 rfl ?_
      refine mj_getr (r := (β, 1)) C lF_X11_7 (sM0 hB) rfl dX11_drops_34 ?_
      refine mj_iload C dX11_drops_37 rfl ?_
      refine mj_aload_n C dX11_drops_39 rfl ?_
      refine mj_iload_n C dX11_drops_40 rfl ?_
      obtain ⟨r4, er4, h⟩ := mj_let_o h
      refine mj_callV1 (av := [.inl l1]) C lM_X11_133 lV_X11_wayLong (sM0 hB) ⟨_, rfl, rfl⟩ rfl (C_X11_wayLong hB er4) (mj_rmok hR (by decide) (by decide)) rfl (Nat.le_of_ble_eq_true rfl) dX11_drops_41 (fun hb5 => ?_)
      refine mj_iadd C dX11_drops_44 ?_
      obtain ⟨k6, h⟩ := mj_chk_o h
      refine mj_bald C (sM1 hB) k6 rfl dX11_drops_45 ?_
      obtain ⟨k7, h⟩ := mj_chk_o h
      obtain ⟨m8, hm8, h⟩ := mj_let_o h
      refine mj_bast C (sM1 hB) k7 rfl dX11_drops_46 hm8 ?_
      obtain ⟨x9, hx9, h⟩ := mj_let_o h
      refine mj_iinc (L2 := [some (mj_r (β, 0)), some (.inl l1), none, some (.inl l3), some (.inl x9)]) C dX11_drops_47 rfl hx9 rfl ?_
      refine mj_goto (tgt := 16) C dX11_drops_50 (by decide) ?_
      refine mj_sub (L' := [some (mj_r (β, 0)), some (.inl l1), none, some (.inl l3), some (.inl x9)]) ⟨rfl, ⟨rfl, ⟨rfl, ⟨rfl, trivial⟩⟩⟩⟩ ?_
      exact ih _ _ _ h hx53
def f_X11_drops (a1 : Int32) (a2 : Int32) (m : mj_m) : Option (mj_m) := mj_let (f_X11_wayMany a1 m) (fun r10 => mj_let (r10 - 1) (fun x12 => mj_let (f_X11_wayAt a1 a2) (fun r13 => mj_b1 (f_X11_drops_L16 a1 x12 mj_fu r13 m) (fun m15 => if a1 = 0 then (mj_let (mj_wrs m15 1 42 x12) (fun m18 => some m18)) else (mj_let (mj_wrs m15 1 41 x12) (fun m19 => some m19))))))
set_option maxHeartbeats 4000000 in
set_option maxRecDepth 20000 in
theorem C_X11_drops {G : mj_G} {β : Nat} {M : mj_M} {a1 : Int32} {a2 : Int32} {m : mj_m} {m0 : mj_m} (hB : mj_isM G β) (h : f_X11_drops a1 a2 m = some m0) : mj_S1 yX11_drops cX11_drops 5 none 1 G [mj_r (β, 0), .inl a1, .inl a2] (va_up M β m) none (va_up M β m0) := by
  refine mj_intro (by decide) (Nat.le_of_ble_eq_true rfl) ?_
  intro κ C hG hR hT
  subst hG
  have C : mj_C κ cX11_drops 5 RX11 := C
  show mj_R κ (mj_F κ (fun r M' => r = none ∧ M' = (va_up M β m0) ∧ mj_bb none none)) 0 [some (mj_r (β, 0)), some (.inl a1), some (.inl a2), none, none] [] (va_up M β m)
  unfold f_X11_drops at h
  refine mj_aload_n C dX11_drops_0 rfl ?_
  refine mj_iload_n C dX11_drops_1 rfl ?_
  obtain ⟨r10, er10, h⟩ := mj_let_o h
  refine mj_callV1 (av := [.inl a1]) C lM_X11_125 lV_X11_wayMany (sM0 hB) ⟨_, rfl, rfl⟩ rfl (C_X11_wayMany hB er10) (mj_rmok hR (by decide) (by decide)) rfl (Nat.le_of_ble_eq_true rfl) dX11_drops_2 (fun hb11 => ?_)
  refine mj_iconst (v := 1) C dX11_drops_5 (by decide) ?_
  refine mj_isub C dX11_drops_6 ?_
  obtain ⟨x12, hx12, h⟩ := mj_let_o h
  refine mj_nm hx12 ?_
  refine mj_istore_n (L2 := [some (mj_r (β, 0)), some (.inl a1), some (.inl a2), some (.inl x12), none]) C dX11_drops_7 (Nat.le_of_ble_eq_true rfl) rfl ?_
  refine mj_aload_n C dX11_drops_8 rfl ?_
  refine mj_iload_n C dX11_drops_9 rfl ?_
  refine mj_iload_n C dX11_drops_10 rfl ?_
  obtain ⟨r13, er13, h⟩ := mj_let_o h
  refine mj_callV1 (av := [.inl a1, .inl a2]) C lM_X11_129 lV_X11_wayAt (sM0 hB) ⟨_, rfl, rfl⟩ rfl (C_X11_wayAt hB er13) (mj_rmok hR (by decide) (by decide)) rfl (Nat.le_of_ble_eq_true rfl) dX11_drops_11 (fun hb14 => ?_)
  refine mj_istore (L2 := [some (mj_r (β, 0)), some (.inl a1), some (.inl a2), some (.inl x12), some (.inl r13)]) C dX11_drops_14 (Nat.le_of_ble_eq_true rfl) rfl ?_
  obtain ⟨m15, hl16, h⟩ := mj_b1_o h
  refine mj_sub (L' := [some (mj_r (β, 0)), some (.inl a1), none, some (.inl x12), some (.inl r13)]) ⟨rfl, ⟨rfl, ⟨rfl, ⟨rfl, trivial⟩⟩⟩⟩ ?_
  refine C_X11_drops_L16 C hB hR _ _ _ _ hl16 ?_
  refine mj_aload_n C dX11_drops_53 rfl ?_
  refine mj_getr (r := (β, 1)) C lF_X11_7 (sM0 hB) rfl dX11_drops_54 ?_
  refine mj_iload_n C dX11_drops_57 rfl ?_
  refine mj_if_eq (tgt := 66) C dX11_drops_58 (by decide) (fun c17 => ?_) (fun c17 => ?_)
  · replace h := mj_if_t c17 h
    refine mj_bipush (v := 42) C dX11_drops_66 (by decide) ?_
    refine mj_iload_n C dX11_drops_68 rfl ?_
    obtain ⟨m18, hm18, h⟩ := mj_let_o h
    refine mj_bast C (sM1 hB) (mj_okn 42 1897 (Nat.le_of_ble_eq_true rfl) (Nat.le_of_ble_eq_true rfl)) (mj_cln 42 (Nat.le_of_ble_eq_true rfl)) dX11_drops_69 hm18 ?_
    cases h
    exact mj_vret C hT dX11_drops_70 ⟨rfl, rfl, mj_bv _⟩
  · replace h := mj_if_f c17 h
    refine mj_bipush (v := 41) C dX11_drops_61 (by decide) ?_
    refine mj_goto (tgt := 68) C dX11_drops_63 (by decide) ?_
    refine mj_iload_n C dX11_drops_68 rfl ?_
    obtain ⟨m19, hm19, h⟩ := mj_let_o h
    refine mj_bast C (sM1 hB) (mj_okn 41 1897 (Nat.le_of_ble_eq_true rfl) (Nat.le_of_ble_eq_true rfl)) (mj_cln 41 (Nat.le_of_ble_eq_true rfl)) dX11_drops_69 hm19 ?_
    cases h
    exact mj_vret C hT dX11_drops_70 ⟨rfl, rfl, mj_bv _⟩
def f_X11_fateMany (a1 : Int32) (m : mj_m) : Int32 := if a1 = 0 then ((m 1 44)) else ((m 1 43))
set_option maxHeartbeats 4000000 in
set_option maxRecDepth 20000 in
theorem C_X11_fateMany {G : mj_G} {β : Nat} {M : mj_M} {a1 : Int32} {m : mj_m} {x0 : Int32} (hB : mj_isM G β) (h : f_X11_fateMany a1 m = x0) : mj_S1 yX11_fateMany cX11_fateMany 2 (some .int) 0 G [mj_r (β, 0), .inl a1] (va_up M β m) (some (.inl x0)) (va_up M β m) := by
  refine mj_intro (by decide) (Nat.le_of_ble_eq_true rfl) ?_
  intro κ C hG hR hT
  subst hG
  have C : mj_C κ cX11_fateMany 2 RX11 := C
  show mj_R κ (mj_F κ (fun r M' => r = (some (.inl x0)) ∧ M' = (va_up M β m) ∧ mj_bb (some .int) (some (.inl x0)))) 0 [some (mj_r (β, 0)), some (.inl a1)] [] (va_up M β m)
  unfold f_X11_fateMany at h
  refine mj_aload_n C dX11_fateMany_0 rfl ?_
  refine mj_getr (r := (β, 1)) C lF_X11_7 (sM0 hB) rfl dX11_fateMany_1 ?_
  refine mj_iload_n C dX11_fateMany_4 rfl ?_
  refine mj_if_eq (tgt := 13) C dX11_fateMany_5 (by decide) (fun c1 => ?_) (fun c1 => ?_)
  · replace h := mj_if_t c1 h
    refine mj_bipush (v := 44) C dX11_fateMany_13 (by decide) ?_
    refine mj_bald C (sM1 hB) (mj_okn 44 1897 (Nat.le_of_ble_eq_true rfl) (Nat.le_of_ble_eq_true rfl)) (mj_cln 44 (Nat.le_of_ble_eq_true rfl)) dX11_fateMany_15 ?_
    cases h
    exact mj_iret C hT (vp_nar_int _) dX11_fateMany_16 ⟨rfl, rfl, mj_bi _⟩
  · replace h := mj_if_f c1 h
    refine mj_bipush (v := 43) C dX11_fateMany_8 (by decide) ?_
    refine mj_goto (tgt := 15) C dX11_fateMany_10 (by decide) ?_
    refine mj_bald C (sM1 hB) (mj_okn 43 1897 (Nat.le_of_ble_eq_true rfl) (Nat.le_of_ble_eq_true rfl)) (mj_cln 43 (Nat.le_of_ble_eq_true rfl)) dX11_fateMany_15 ?_
    cases h
    exact mj_iret C hT (vp_nar_int _) dX11_fateMany_16 ⟨rfl, rfl, mj_bi _⟩
def f_X11_fateAt (a1 : Int32) (a2 : Int32) : Int32 := if a1 = 0 then ((627 + a2)) else ((619 + a2))
set_option maxHeartbeats 4000000 in
set_option maxRecDepth 20000 in
theorem C_X11_fateAt {G : mj_G} {β : Nat} {M : mj_M} {a1 : Int32} {a2 : Int32} {m : mj_m} {x0 : Int32} (hB : mj_isM G β) (h : f_X11_fateAt a1 a2 = x0) : mj_S1 yX11_fateAt cX11_fateAt 3 (some .int) 0 G [mj_r (β, 0), .inl a1, .inl a2] (va_up M β m) (some (.inl x0)) (va_up M β m) := by
  refine mj_intro (by decide) (Nat.le_of_ble_eq_true rfl) ?_
  intro κ C hG hR hT
  subst hG
  have C : mj_C κ cX11_fateAt 3 RX11 := C
  show mj_R κ (mj_F κ (fun r M' => r = (some (.inl x0)) ∧ M' = (va_up M β m) ∧ mj_bb (some .int) (some (.inl x0)))) 0 [some (mj_r (β, 0)), some (.inl a1), some (.inl a2)] [] (va_up M β m)
  unfold f_X11_fateAt at h
  refine mj_iload_n C dX11_fateAt_0 rfl ?_
  refine mj_if_eq (tgt := 10) C dX11_fateAt_1 (by decide) (fun c1 => ?_) (fun c1 => ?_)
  · replace h := mj_if_t c1 h
    refine mj_sipush (v := 627) C dX11_fateAt_10 (by decide) ?_
    refine mj_iload_n C dX11_fateAt_13 rfl ?_
    refine mj_iadd C dX11_fateAt_14 ?_
    cases h
    exact mj_iret C hT (vp_nar_int _) dX11_fateAt_15 ⟨rfl, rfl, mj_bi _⟩
  · replace h := mj_if_f c1 h
    refine mj_sipush (v := 619) C dX11_fateAt_4 (by decide) ?_
    refine mj_goto (tgt := 13) C dX11_fateAt_7 (by decide) ?_
    refine mj_iload_n C dX11_fateAt_13 rfl ?_
    refine mj_iadd C dX11_fateAt_14 ?_
    cases h
    exact mj_iret C hT (vp_nar_int _) dX11_fateAt_15 ⟨rfl, rfl, mj_bi _⟩
def f_X11_fateOf_L2 (l1 : Int32) (l2 : Int32) : Nat → Int32 → mj_m → Option (Nat × Int32)
  | 0, _, _ => none
  | n + 1, l3, m => mj_let (f_X11_fateMany l1 m) (fun r1 => if r1 ≤ l3 then (some (34, 0)) else (mj_let (f_X11_fateAt l1 l3) (fun r4 => mj_chk (mj_ok r4 1897) (if m 1 (mj_cl r4) = l2 then (some (26, l3)) else (mj_let (l3 + 1) (fun x8 => f_X11_fateOf_L2 l1 l2 n x8 m))))))
set_option maxHeartbeats 4000000 in
set_option maxRecDepth 20000 in
theorem C_X11_fateOf_L2 {κ : mj_K} {Q : State → Prop} {β : Nat} {M : mj_M} {l1 : Int32} {l2 : Int32} (C : mj_C κ cX11_fateOf 4 RX11) (hB : mj_isM (mj_g κ) β) (hR : mj_dp κ 1) : ∀ (n : Nat) (l3 : Int32) (m : mj_m) (tg : Nat) (o3 : Int32), f_X11_fateOf_L2 l1 l2 n l3 m = some (tg, o3) → (tg = 26 → mj_R κ Q 26 [none, none, none, some (.inl o3)] [] (va_up M β m)) → (tg = 34 → mj_R κ Q 34 [none, none, none, none] [] (va_up M β m)) → mj_R κ Q 2 [some (mj_r (β, 0)), some (.inl l1), some (.inl l2), some (.inl l3)] [] (va_up M β m) := by
  intro n
  induction n with
  | zero =>
    intro l3 m tg o3 h
    cases h
  | succ n ih =>
    intro l3 m tg o3 h hx26 hx34
    rw [f_X11_fateOf_L2] at h
    refine mj_iload_n C dX11_fateOf_2 rfl ?_
    refine mj_aload_n C dX11_fateOf_3 rfl ?_
    refine mj_iload_n C dX11_fateOf_4 rfl ?_
    obtain ⟨r1, er1, h⟩ := mj_let_o h
    refine mj_callV1 (av := [.inl l1]) C lM_X11_136 lV_X11_fateMany (sM0 hB) ⟨_, rfl, rfl⟩ rfl (C_X11_fateMany hB er1) (mj_rmok hR (by decide) (by decide)) rfl (Nat.le_of_ble_eq_true rfl) dX11_fateOf_5 (fun hb2 => ?_)
    refine mj_icmp_ge (tgt := 34) C dX11_fateOf_8 (by decide) (fun c3 => ?_) (fun c3 => ?_)
    · replace h := mj_if_t c3 h
      cases h
      refine mj_sub ?_ (hx34 rfl)
      exact trivial
    · replace h := mj_if_f c3 h
      refine mj_aload_n C dX11_fateOf_11 rfl ?_
      refine mj_getr (r := (β, 1)) C lF_X11_7 (sM0 hB) rfl dX11_fateOf_12 ?_
      refine mj_aload_n C dX11_fateOf_15 rfl ?_
      refine mj_iload_n C dX11_fateOf_16 rfl ?_
      refine mj_iload_n C dX11_fateOf_17 rfl ?_
      obtain ⟨r4, er4, h⟩ := mj_let_o h
      refine mj_callV1 (av := [.inl l1, .inl l3]) C lM_X11_139 lV_X11_fateAt (sM0 hB) ⟨_, rfl, rfl⟩ rfl (C_X11_fateAt hB er4) (mj_rmok hR (by decide) (by decide)) rfl (Nat.le_of_ble_eq_true rfl) dX11_fateOf_18 (fun hb5 => ?_)
      obtain ⟨k6, h⟩ := mj_chk_o h
      refine mj_bald C (sM1 hB) k6 rfl dX11_fateOf_21 ?_
      refine mj_iload_n C dX11_fateOf_22 rfl ?_
      refine mj_icmp_ne (tgt := 28) C dX11_fateOf_23 (by decide) (fun c7 => ?_) (fun c7 => ?_)
      · replace h := mj_if_f c7 h
        obtain ⟨x8, hx8, h⟩ := mj_let_o h
        refine mj_iinc (L2 := [some (mj_r (β, 0)), some (.inl l1), some (.inl l2), some (.inl x8)]) C dX11_fateOf_28 rfl hx8 rfl ?_
        refine mj_goto (tgt := 2) C dX11_fateOf_31 (by decide) ?_
        refine mj_sub (L' := [some (mj_r (β, 0)), some (.inl l1), some (.inl l2), some (.inl x8)]) ⟨rfl, ⟨rfl, ⟨rfl, ⟨rfl, trivial⟩⟩⟩⟩ ?_
        exact ih _ _ _ _ h hx26 hx34
      · replace h := mj_if_t c7 h
        cases h
        refine mj_sub ?_ (hx26 rfl)
        exact ⟨rfl, trivial⟩
def f_X11_fateOf (a1 : Int32) (a2 : Int32) (m : mj_m) : Option (Int32) := mj_b2 (f_X11_fateOf_L2 a1 a2 mj_fu 0 m) (fun t9 x10 => if t9 = 26 then (some x10) else (some (-1)))
set_option maxHeartbeats 4000000 in
set_option maxRecDepth 20000 in
theorem C_X11_fateOf {G : mj_G} {β : Nat} {M : mj_M} {a1 : Int32} {a2 : Int32} {m : mj_m} {x0 : Int32} (hB : mj_isM G β) (h : f_X11_fateOf a1 a2 m = some x0) : mj_S1 yX11_fateOf cX11_fateOf 4 (some .int) 1 G [mj_r (β, 0), .inl a1, .inl a2] (va_up M β m) (some (.inl x0)) (va_up M β m) := by
  refine mj_intro (by decide) (Nat.le_of_ble_eq_true rfl) ?_
  intro κ C hG hR hT
  subst hG
  have C : mj_C κ cX11_fateOf 4 RX11 := C
  show mj_R κ (mj_F κ (fun r M' => r = (some (.inl x0)) ∧ M' = (va_up M β m) ∧ mj_bb (some .int) (some (.inl x0)))) 0 [some (mj_r (β, 0)), some (.inl a1), some (.inl a2), none] [] (va_up M β m)
  unfold f_X11_fateOf at h
  refine mj_iconst (v := 0) C dX11_fateOf_0 (by decide) ?_
  refine mj_istore_n (L2 := [some (mj_r (β, 0)), some (.inl a1), some (.inl a2), some (.inl 0)]) C dX11_fateOf_1 (Nat.le_of_ble_eq_true rfl) rfl ?_
  obtain ⟨t9, x10, hl11, h⟩ := mj_b2_o h
  refine mj_sub (L' := [some (mj_r (β, 0)), some (.inl a1), some (.inl a2), some (.inl 0)]) ⟨rfl, ⟨rfl, ⟨rfl, ⟨rfl, trivial⟩⟩⟩⟩ ?_
  refine C_X11_fateOf_L2 C hB hR _ _ _ _ _ hl11 (fun te => ?_) (fun te => ?_)
  · subst te
    replace h := mj_if_t rfl h
    refine mj_iload_n C dX11_fateOf_26 rfl ?_
    cases h
    exact mj_iret C hT (vp_nar_int _) dX11_fateOf_27 ⟨rfl, rfl, mj_bi _⟩
  · subst te
    replace h := mj_if_f (by decide) h
    refine mj_iconst (v := (-1)) C dX11_fateOf_34 (by decide) ?_
    cases h
    exact mj_iret C hT (vp_nar_int _) dX11_fateOf_35 ⟨rfl, rfl, mj_bi _⟩
def f_X11_isFated_L40 (l1 : Int32) (l3 : Int32) : Nat → Int32 → mj_m → Option (mj_m)
  | 0, _, _ => none
  | n + 1, l4, m => if l3 ≤ l4 then (some m) else (mj_let (f_X11_fateAt l1 l4) (fun r2 => mj_let (f_X11_fateAt l1 (l4 + 1)) (fun r4 => mj_chk (mj_ok r4 1897) (mj_chk (mj_ok r2 1897) (mj_let (mj_wrs m 1 (mj_cl r2) (m 1 (mj_cl r4))) (fun m8 => mj_let (l4 + 1) (fun x9 => f_X11_isFated_L40 l1 l3 n x9 m8)))))))
set_option maxHeartbeats 4000000 in
set_option maxRecDepth 20000 in
theorem C_X11_isFated_L40 {κ : mj_K} {Q : State → Prop} {β : Nat} {M : mj_M} {l1 : Int32} {l3 : Int32} (C : mj_C κ cX11_isFated 5 RX11) (hB : mj_isM (mj_g κ) β) (hR : mj_dp κ 2) : ∀ (n : Nat) (l4 : Int32) (m : mj_m) (mo : mj_m), f_X11_isFated_L40 l1 l3 n l4 m = some mo → (mj_R κ Q 78 [some (mj_r (β, 0)), some (.inl l1), none, some (.inl l3), none] [] (va_up M β mo)) → mj_R κ Q 40 [some (mj_r (β, 0)), some (.inl l1), none, some (.inl l3), some (.inl l4)] [] (va_up M β m) := by
  intro n
  induction n with
  | zero =>
    intro l4 m mo h
    cases h
  | succ n ih =>
    intro l4 m mo h hx78
    rw [f_X11_isFated_L40] at h
    refine mj_iload C dX11_isFated_40 rfl ?_
    refine mj_iload_n C dX11_isFated_42 rfl ?_
    refine mj_icmp_ge (tgt := 78) C dX11_isFated_43 (by decide) (fun c1 => ?_) (fun c1 => ?_)
    · replace h := mj_if_t c1 h
      cases h
      refine mj_sub ?_ (hx78)
      exact ⟨rfl, ⟨rfl, ⟨rfl, trivial⟩⟩⟩
    · replace h := mj_if_f c1 h
      refine mj_aload_n C dX11_isFated_46 rfl ?_
      refine mj_getr (r := (β, 1)) C lF_X11_7 (sM0 hB) rfl dX11_isFated_47 ?_
      refine mj_aload_n C dX11_isFated_50 rfl ?_
      refine mj_iload_n C dX11_isFated_51 rfl ?_
      refine mj_iload C dX11_isFated_52 rfl ?_
      obtain ⟨r2, er2, h⟩ := mj_let_o h
      refine mj_callV1 (av := [.inl l1, .inl l4]) C lM_X11_139 lV_X11_fateAt (sM0 hB) ⟨_, rfl, rfl⟩ rfl (C_X11_fateAt hB er2) (mj_rmok hR (by decide) (by decide)) rfl (Nat.le_of_ble_eq_true rfl) dX11_isFated_54 (fun hb3 => ?_)
      refine mj_aload_n C dX11_isFated_57 rfl ?_
      refine mj_getr (r := (β, 1)) C lF_X11_7 (sM0 hB) rfl dX11_isFated_58 ?_
      refine mj_aload_n C dX11_isFated_61 rfl ?_
      refine mj_iload_n C dX11_isFated_62 rfl ?_
      refine mj_iload C dX11_isFated_63 rfl ?_
      refine mj_iconst (v := 1) C dX11_isFated_65 (by decide) ?_
      refine mj_iadd C dX11_isFated_66 ?_
      obtain ⟨r4, er4, h⟩ := mj_let_o h
      refine mj_callV1 (av := [.inl l1, .inl (l4 + 1)]) C lM_X11_139 lV_X11_fateAt (sM0 hB) ⟨_, rfl, rfl⟩ rfl (C_X11_fateAt hB er4) (mj_rmok hR (by decide) (by decide)) rfl (Nat.le_of_ble_eq_true rfl) dX11_isFated_67 (fun hb5 => ?_)
      obtain ⟨k6, h⟩ := mj_chk_o h
      refine mj_bald C (sM1 hB) k6 rfl dX11_isFated_70 ?_
      obtain ⟨k7, h⟩ := mj_chk_o h
      obtain ⟨m8, hm8, h⟩ := mj_let_o h
      refine mj_bast C (sM1 hB) k7 rfl dX11_isFated_71 hm8 ?_
      obtain ⟨x9, hx9, h⟩ := mj_let_o h
      refine mj_iinc (L2 := [some (mj_r (β, 0)), some (.inl l1), none, some (.inl l3), some (.inl x9)]) C dX11_isFated_72 rfl hx9 rfl ?_
      refine mj_goto (tgt := 40) C dX11_isFated_75 (by decide) ?_
      refine mj_sub (L' := [some (mj_r (β, 0)), some (.inl l1), none, some (.inl l3), some (.inl x9)]) ⟨rfl, ⟨rfl, ⟨rfl, ⟨rfl, trivial⟩⟩⟩⟩ ?_
      exact ih _ _ _ h hx78
def f_X11_isFated_J17 (l1 : Int32) (s0 : Int32) (s2 : Int32) (m : mj_m) : Option (Int32 × mj_m) := mj_chk (mj_ok s0 1897) (mj_b1 (f_X11_fateOf s2 (m 1 (mj_cl s0)) m) (fun r11 => if r11 = (-1) then (some (0, m)) else (mj_let (f_X11_fateMany l1 m) (fun r14 => mj_let (r14 - 1) (fun x16 => mj_b1 (f_X11_isFated_L40 l1 x16 mj_fu r11 m) (fun m17 => if l1 = 0 then (mj_let (mj_wrs m17 1 44 x16) (fun m20 => some (1, m20))) else (mj_let (mj_wrs m17 1 43 x16) (fun m21 => some (1, m21)))))))))
set_option maxHeartbeats 4000000 in
set_option maxRecDepth 20000 in
theorem C_X11_isFated_J17 {κ : mj_K} {β : Nat} {M : mj_M} {l1 : Int32} {s0 : Int32} {s2 : Int32} {m : mj_m} {x0 : Int32} {m0 : mj_m} (C : mj_C κ cX11_isFated 5 RX11) (hB : mj_isM (mj_g κ) β) (hR : mj_dp κ 2) (hT : mj_rt κ = (some .boolean)) (h : f_X11_isFated_J17 l1 s0 s2 m = some (x0, m0)) : mj_R κ (mj_F κ (fun r M' => r = (some (.inl x0)) ∧ M' = (va_up M β m0) ∧ mj_bb (some .boolean) (some (.inl x0)))) 17 [some (mj_r (β, 0)), some (.inl l1), none, none, none] [.inl s0, mj_r (β, 1), .inl s2, mj_r (β, 0)] (va_up M β m) := by
  unfold f_X11_isFated_J17 at h
  obtain ⟨k10, h⟩ := mj_chk_o h
  refine mj_bald C (sM1 hB) k10 rfl dX11_isFated_17 ?_
  obtain ⟨r11, er11, h⟩ := mj_b1_o h
  refine mj_callV1 (av := [.inl s2, .inl (m 1 (mj_cl s0))]) C lM_X11_142 lV_X11_fateOf (sM0 hB) ⟨_, rfl, rfl⟩ rfl (C_X11_fateOf hB er11) (mj_rmok hR (by decide) (by decide)) rfl (Nat.le_of_ble_eq_true rfl) dX11_isFated_18 (fun hb12 => ?_)
  refine mj_istore_n (L2 := [some (mj_r (β, 0)), some (.inl l1), some (.inl r11), none, none]) C dX11_isFated_21 (Nat.le_of_ble_eq_true rfl) rfl ?_
  refine mj_iload_n C dX11_isFated_22 rfl ?_
  refine mj_iconst (v := (-1)) C dX11_isFated_23 (by decide) ?_
  refine mj_icmp_ne (tgt := 29) C dX11_isFated_24 (by decide) (fun c13 => ?_) (fun c13 => ?_)
  · replace h := mj_if_f c13 h
    refine mj_aload_n C dX11_isFated_29 rfl ?_
    refine mj_iload_n C dX11_isFated_30 rfl ?_
    obtain ⟨r14, er14, h⟩ := mj_let_o h
    refine mj_callV1 (av := [.inl l1]) C lM_X11_136 lV_X11_fateMany (sM0 hB) ⟨_, rfl, rfl⟩ rfl (C_X11_fateMany hB er14) (mj_rmok hR (by decide) (by decide)) rfl (Nat.le_of_ble_eq_true rfl) dX11_isFated_31 (fun hb15 => ?_)
    refine mj_iconst (v := 1) C dX11_isFated_34 (by decide) ?_
    refine mj_isub C dX11_isFated_35 ?_
    obtain ⟨x16, hx16, h⟩ := mj_let_o h
    refine mj_nm hx16 ?_
    refine mj_istore_n (L2 := [some (mj_r (β, 0)), some (.inl l1), some (.inl r11), some (.inl x16), none]) C dX11_isFated_36 (Nat.le_of_ble_eq_true rfl) rfl ?_
    refine mj_iload_n C dX11_isFated_37 rfl ?_
    refine mj_istore (L2 := [some (mj_r (β, 0)), some (.inl l1), some (.inl r11), some (.inl x16), some (.inl r11)]) C dX11_isFated_38 (Nat.le_of_ble_eq_true rfl) rfl ?_
    obtain ⟨m17, hl18, h⟩ := mj_b1_o h
    refine mj_sub (L' := [some (mj_r (β, 0)), some (.inl l1), none, some (.inl x16), some (.inl r11)]) ⟨rfl, ⟨rfl, ⟨rfl, ⟨rfl, trivial⟩⟩⟩⟩ ?_
    refine C_X11_isFated_L40 C hB hR _ _ _ _ hl18 ?_
    refine mj_aload_n C dX11_isFated_78 rfl ?_
    refine mj_getr (r := (β, 1)) C lF_X11_7 (sM0 hB) rfl dX11_isFated_79 ?_
    refine mj_iload_n C dX11_isFated_82 rfl ?_
    refine mj_if_eq (tgt := 91) C dX11_isFated_83 (by decide) (fun c19 => ?_) (fun c19 => ?_)
    · replace h := mj_if_t c19 h
      refine mj_bipush (v := 44) C dX11_isFated_91 (by decide) ?_
      refine mj_iload_n C dX11_isFated_93 rfl ?_
      obtain ⟨m20, hm20, h⟩ := mj_let_o h
      refine mj_bast C (sM1 hB) (mj_okn 44 1897 (Nat.le_of_ble_eq_true rfl) (Nat.le_of_ble_eq_true rfl)) (mj_cln 44 (Nat.le_of_ble_eq_true rfl)) dX11_isFated_94 hm20 ?_
      refine mj_iconst (v := 1) C dX11_isFated_95 (by decide) ?_
      cases h
      exact mj_iret C hT (mj_nb mj_b1') dX11_isFated_96 ⟨rfl, rfl, mj_b1'⟩
    · replace h := mj_if_f c19 h
      refine mj_bipush (v := 43) C dX11_isFated_86 (by decide) ?_
      refine mj_goto (tgt := 93) C dX11_isFated_88 (by decide) ?_
      refine mj_iload_n C dX11_isFated_93 rfl ?_
      obtain ⟨m21, hm21, h⟩ := mj_let_o h
      refine mj_bast C (sM1 hB) (mj_okn 43 1897 (Nat.le_of_ble_eq_true rfl) (Nat.le_of_ble_eq_true rfl)) (mj_cln 43 (Nat.le_of_ble_eq_true rfl)) dX11_isFated_94 hm21 ?_
      refine mj_iconst (v := 1) C dX11_isFated_95 (by decide) ?_
      cases h
      exact mj_iret C hT (mj_nb mj_b1') dX11_isFated_96 ⟨rfl, rfl, mj_b1'⟩
  · replace h := mj_if_t c13 h
    refine mj_iconst (v := 0) C dX11_isFated_27 (by decide) ?_
    cases h
    exact mj_iret C hT (mj_nb mj_b0) dX11_isFated_28 ⟨rfl, rfl, mj_b0⟩
def f_X11_isFated (a1 : Int32) (m : mj_m) : Option (Int32 × mj_m) := if a1 = 0 then (f_X11_isFated_J17 a1 36 a1 m) else (f_X11_isFated_J17 a1 35 a1 m)
set_option maxHeartbeats 4000000 in
set_option maxRecDepth 20000 in
theorem C_X11_isFated {G : mj_G} {β : Nat} {M : mj_M} {a1 : Int32} {m : mj_m} {x0 : Int32} {m0 : mj_m} (hB : mj_isM G β) (h : f_X11_isFated a1 m = some (x0, m0)) : mj_S1 yX11_isFated cX11_isFated 5 (some .boolean) 2 G [mj_r (β, 0), .inl a1] (va_up M β m) (some (.inl x0)) (va_up M β m0) := by
  refine mj_intro (by decide) (Nat.le_of_ble_eq_true rfl) ?_
  intro κ C hG hR hT
  subst hG
  have C : mj_C κ cX11_isFated 5 RX11 := C
  show mj_R κ (mj_F κ (fun r M' => r = (some (.inl x0)) ∧ M' = (va_up M β m0) ∧ mj_bb (some .boolean) (some (.inl x0)))) 0 [some (mj_r (β, 0)), some (.inl a1), none, none, none] [] (va_up M β m)
  unfold f_X11_isFated at h
  refine mj_aload_n C dX11_isFated_0 rfl ?_
  refine mj_iload_n C dX11_isFated_1 rfl ?_
  refine mj_aload_n C dX11_isFated_2 rfl ?_
  refine mj_getr (r := (β, 1)) C lF_X11_7 (sM0 hB) rfl dX11_isFated_3 ?_
  refine mj_iload_n C dX11_isFated_6 rfl ?_
  refine mj_if_eq (tgt := 15) C dX11_isFated_7 (by decide) (fun c22 => ?_) (fun c22 => ?_)
  · replace h := mj_if_t c22 h
    refine mj_bipush (v := 36) C dX11_isFated_15 (by decide) ?_
    refine mj_sub (L' := [some (mj_r (β, 0)), some (.inl a1), none, none, none]) ⟨rfl, ⟨rfl, trivial⟩⟩ ?_
    exact C_X11_isFated_J17 C hB hR hT h
  · replace h := mj_if_f c22 h
    refine mj_bipush (v := 35) C dX11_isFated_10 (by decide) ?_
    refine mj_goto (tgt := 17) C dX11_isFated_12 (by decide) ?_
    refine mj_sub (L' := [some (mj_r (β, 0)), some (.inl a1), none, none, none]) ⟨rfl, ⟨rfl, trivial⟩⟩ ?_
    exact C_X11_isFated_J17 C hB hR hT h
def f_X11_fate_J20 (l1 : Int32) (l2 : Int32) (s0 : Int32) (m : mj_m) : Option (Int32 × mj_m) := mj_chk (mj_ok s0 1897) (mj_let (m 1 (mj_cl s0)) (fun x2 => mj_let (f_X11_isIn l2 1 99) (fun r3 => if r3 = 0 then (some ((-1), m)) else (mj_let (f_X11_fateMany l1 m) (fun r6 => if r6 = 8 then (some ((-1), m)) else (mj_b1 (f_X11_fateOf l1 (x2 + l2) m) (fun r9 => if r9 = (-1) then (mj_let (f_X11_fateMany l1 m) (fun r12 => mj_let (f_X11_fateAt l1 r12) (fun r14 => mj_chk (mj_ok r14 1897) (mj_let (mj_wrs m 1 (mj_cl r14) (x2 + l2)) (fun m17 => if l1 = 0 then (mj_b1 (f_X11_more 44 m17) (fun m19 => mj_let (f_X11_fateMany l1 m19) (fun r21 => some (r21, m19)))) else (mj_b1 (f_X11_more 43 m17) (fun m23 => mj_let (f_X11_fateMany l1 m23) (fun r25 => some (r25, m23))))))))) else (some ((-1), m)))))))))
set_option maxHeartbeats 4000000 in
set_option maxRecDepth 20000 in
theorem C_X11_fate_J20 {κ : mj_K} {β : Nat} {M : mj_M} {l1 : Int32} {l2 : Int32} {s0 : Int32} {m : mj_m} {x0 : Int32} {m0 : mj_m} (C : mj_C κ cX11_fate 4 RX11) (hB : mj_isM (mj_g κ) β) (hR : mj_dp κ 2) (hT : mj_rt κ = (some .int)) (h : f_X11_fate_J20 l1 l2 s0 m = some (x0, m0)) : mj_R κ (mj_F κ (fun r M' => r = (some (.inl x0)) ∧ M' = (va_up M β m0) ∧ mj_bb (some .int) (some (.inl x0)))) 20 [some (mj_r (β, 0)), some (.inl l1), some (.inl l2), none] [.inl s0, mj_r (β, 1)] (va_up M β m) := by
  unfold f_X11_fate_J20 at h
  obtain ⟨k1, h⟩ := mj_chk_o h
  refine mj_bald C (sM1 hB) k1 rfl dX11_fate_20 ?_
  obtain ⟨x2, hx2, h⟩ := mj_let_o h
  refine mj_nm hx2 ?_
  refine mj_istore_n (L2 := [some (mj_r (β, 0)), some (.inl l1), some (.inl l2), some (.inl x2)]) C dX11_fate_21 (Nat.le_of_ble_eq_true rfl) rfl ?_
  refine mj_aload_n C dX11_fate_22 rfl ?_
  refine mj_iload_n C dX11_fate_23 rfl ?_
  refine mj_iconst (v := 1) C dX11_fate_24 (by decide) ?_
  refine mj_bipush (v := 99) C dX11_fate_25 (by decide) ?_
  obtain ⟨r3, er3, h⟩ := mj_let_o h
  refine mj_callV1 (av := [.inl l2, .inl 1, .inl 99]) C lM_X11_48 lV_X11_isIn (sM0 hB) ⟨_, rfl, rfl⟩ rfl (C_X11_isIn hB er3) (mj_rmok hR (by decide) (by decide)) rfl (Nat.le_of_ble_eq_true rfl) dX11_fate_27 (fun hb4 => ?_)
  refine mj_if_eq (tgt := 55) C dX11_fate_30 (by decide) (fun c5 => ?_) (fun c5 => ?_)
  · replace h := mj_if_t c5 h
    refine mj_iconst (v := (-1)) C dX11_fate_55 (by decide) ?_
    cases h
    exact mj_iret C hT (vp_nar_int _) dX11_fate_56 ⟨rfl, rfl, mj_bi _⟩
  · replace h := mj_if_f c5 h
    refine mj_aload_n C dX11_fate_33 rfl ?_
    refine mj_iload_n C dX11_fate_34 rfl ?_
    obtain ⟨r6, er6, h⟩ := mj_let_o h
    refine mj_callV1 (av := [.inl l1]) C lM_X11_136 lV_X11_fateMany (sM0 hB) ⟨_, rfl, rfl⟩ rfl (C_X11_fateMany hB er6) (mj_rmok hR (by decide) (by decide)) rfl (Nat.le_of_ble_eq_true rfl) dX11_fate_35 (fun hb7 => ?_)
    refine mj_bipush (v := 8) C dX11_fate_38 (by decide) ?_
    refine mj_icmp_eq (tgt := 55) C dX11_fate_40 (by decide) (fun c8 => ?_) (fun c8 => ?_)
    · replace h := mj_if_t c8 h
      refine mj_iconst (v := (-1)) C dX11_fate_55 (by decide) ?_
      cases h
      exact mj_iret C hT (vp_nar_int _) dX11_fate_56 ⟨rfl, rfl, mj_bi _⟩
    · replace h := mj_if_f c8 h
      refine mj_aload_n C dX11_fate_43 rfl ?_
      refine mj_iload_n C dX11_fate_44 rfl ?_
      refine mj_iload_n C dX11_fate_45 rfl ?_
      refine mj_iload_n C dX11_fate_46 rfl ?_
      refine mj_iadd C dX11_fate_47 ?_
      obtain ⟨r9, er9, h⟩ := mj_b1_o h
      refine mj_callV1 (av := [.inl l1, .inl (x2 + l2)]) C lM_X11_142 lV_X11_fateOf (sM0 hB) ⟨_, rfl, rfl⟩ rfl (C_X11_fateOf hB er9) (mj_rmok hR (by decide) (by decide)) rfl (Nat.le_of_ble_eq_true rfl) dX11_fate_48 (fun hb10 => ?_)
      refine mj_iconst (v := (-1)) C dX11_fate_51 (by decide) ?_
      refine mj_icmp_eq (tgt := 57) C dX11_fate_52 (by decide) (fun c11 => ?_) (fun c11 => ?_)
      · replace h := mj_if_t c11 h
        refine mj_aload_n C dX11_fate_57 rfl ?_
        refine mj_getr (r := (β, 1)) C lF_X11_7 (sM0 hB) rfl dX11_fate_58 ?_
        refine mj_aload_n C dX11_fate_61 rfl ?_
        refine mj_iload_n C dX11_fate_62 rfl ?_
        refine mj_aload_n C dX11_fate_63 rfl ?_
        refine mj_iload_n C dX11_fate_64 rfl ?_
        obtain ⟨r12, er12, h⟩ := mj_let_o h
        refine mj_callV1 (av := [.inl l1]) C lM_X11_136 lV_X11_fateMany (sM0 hB) ⟨_, rfl, rfl⟩ rfl (C_X11_fateMany hB er12) (mj_rmok hR (by decide) (by decide)) rfl (Nat.le_of_ble_eq_true rfl) dX11_fate_65 (fun hb13 => ?_)
        obtain ⟨r14, er14, h⟩ := mj_let_o h
        refine mj_callV1 (av := [.inl l1, .inl r12]) C lM_X11_139 lV_X11_fateAt (sM0 hB) ⟨_, rfl, rfl⟩ rfl (C_X11_fateAt hB er14) (mj_rmok hR (by decide) (by decide)) rfl (Nat.le_of_ble_eq_true rfl) dX11_fate_68 (fun hb15 => ?_)
        refine mj_iload_n C dX11_fate_71 rfl ?_
        refine mj_iload_n C dX11_fate_72 rfl ?_
        refine mj_iadd C dX11_fate_73 ?_
        obtain ⟨k16, h⟩ := mj_chk_o h
        obtain ⟨m17, hm17, h⟩ := mj_let_o h
        refine mj_bast C (sM1 hB) k16 rfl dX11_fate_74 hm17 ?_
        refine mj_aload_n C dX11_fate_75 rfl ?_
        refine mj_iload_n C dX11_fate_76 rfl ?_
        refine mj_if_eq (tgt := 85) C dX11_fate_77 (by decide) (fun c18 => ?_) (fun c18 => ?_)
        · replace h := mj_if_t c18 h
          refine mj_bipush (v := 44) C dX11_fate_85 (by decide) ?_
          obtain ⟨m19, em19, h⟩ := mj_b1_o h
          refine mj_callV0 (av := [.inl 44]) C lM_X11_58 lV_X11_more (sM0 hB) ⟨_, rfl, rfl⟩ rfl (C_X11_more hB em19) (mj_rmok hR (by decide) (by decide)) rfl (Nat.le_of_ble_eq_true rfl) dX11_fate_87 ?_
          refine mj_aload_n C dX11_fate_90 rfl ?_
          refine mj_iload_n C dX11_fate_91 rfl ?_
          obtain ⟨r21, er21, h⟩ := mj_let_o h
          refine mj_callV1 (av := [.inl l1]) C lM_X11_136 lV_X11_fateMany (sM0 hB) ⟨_, rfl, rfl⟩ rfl (C_X11_fateMany hB er21) (mj_rmok hR (by decide) (by decide)) rfl (Nat.le_of_ble_eq_true rfl) dX11_fate_92 (fun hb22 => ?_)
          cases h
          exact mj_iret C hT (vp_nar_int _) dX11_fate_95 ⟨rfl, rfl, mj_bi _⟩
        · replace h := mj_if_f c18 h
          refine mj_bipush (v := 43) C dX11_fate_80 (by decide) ?_
          refine mj_goto (tgt := 87) C dX11_fate_82 (by decide) ?_
          obtain ⟨m23, em23, h⟩ := mj_b1_o h
          refine mj_callV0 (av := [.inl 43]) C lM_X11_58 lV_X11_more (sM0 hB) ⟨_, rfl, rfl⟩ rfl (C_X11_more hB em23) (mj_rmok hR (by decide) (by decide)) rfl (Nat.le_of_ble_eq_true rfl) dX11_fate_87 ?_
          refine mj_aload_n C dX11_fate_90 rfl ?_
          refine mj_iload_n C dX11_fate_91 rfl ?_
          obtain ⟨r25, er25, h⟩ := mj_let_o h
          refine mj_callV1 (av := [.inl l1]) C lM_X11_136 lV_X11_fateMany (sM0 hB) ⟨_, rfl, rfl⟩ rfl (C_X11_fateMany hB er25) (mj_rmok hR (by decide) (by decide)) rfl (Nat.le_of_ble_eq_true rfl) dX11_fate_92 (fun hb26 => ?_)
          cases h
          exact mj_iret C hT (vp_nar_int _) dX11_fate_95 ⟨rfl, rfl, mj_bi _⟩
      · replace h := mj_if_f c11 h
        refine mj_iconst (v := (-1)) C dX11_fate_55 (by decide) ?_
        cases h
        exact mj_iret C hT (vp_nar_int _) dX11_fate_56 ⟨rfl, rfl, mj_bi _⟩
def f_X11_fate (a1 : Int32) (a2 : Int32) (m : mj_m) : Option (Int32 × mj_m) := mj_let (mj_wrs m 0 0 0) (fun m27 => if a1 = 0 then (f_X11_fate_J20 a1 a2 36 m27) else (f_X11_fate_J20 a1 a2 35 m27))
set_option maxHeartbeats 4000000 in
set_option maxRecDepth 20000 in
theorem C_X11_fate {G : mj_G} {β : Nat} {M : mj_M} {a1 : Int32} {a2 : Int32} {m : mj_m} {x0 : Int32} {m0 : mj_m} (hB : mj_isM G β) (h : f_X11_fate a1 a2 m = some (x0, m0)) : mj_S1 yX11_fate cX11_fate 4 (some .int) 2 G [mj_r (β, 0), .inl a1, .inl a2] (va_up M β m) (some (.inl x0)) (va_up M β m0) := by
  refine mj_intro (by decide) (Nat.le_of_ble_eq_true rfl) ?_
  intro κ C hG hR hT
  subst hG
  have C : mj_C κ cX11_fate 4 RX11 := C
  show mj_R κ (mj_F κ (fun r M' => r = (some (.inl x0)) ∧ M' = (va_up M β m0) ∧ mj_bb (some .int) (some (.inl x0)))) 0 [some (mj_r (β, 0)), some (.inl a1), some (.inl a2), none] [] (va_up M β m)
  unfold f_X11_fate at h
  refine mj_aload_n C dX11_fate_0 rfl ?_
  refine mj_iconst (v := 0) C dX11_fate_1 (by decide) ?_
  obtain ⟨m27, hm27, h⟩ := mj_let_o h
  refine mj_bput C lF_X11_41 fP_12_0 (vp_nar_int _) rfl (sM0 hB) rfl dX11_fate_2 hm27 ?_
  refine mj_aload_n C dX11_fate_5 rfl ?_
  refine mj_getr (r := (β, 1)) C lF_X11_7 (sM0 hB) rfl dX11_fate_6 ?_
  refine mj_iload_n C dX11_fate_9 rfl ?_
  refine mj_if_eq (tgt := 18) C dX11_fate_10 (by decide) (fun c28 => ?_) (fun c28 => ?_)
  · replace h := mj_if_t c28 h
    refine mj_bipush (v := 36) C dX11_fate_18 (by decide) ?_
    refine mj_sub (L' := [some (mj_r (β, 0)), some (.inl a1), some (.inl a2), none]) ⟨rfl, ⟨rfl, ⟨rfl, trivial⟩⟩⟩ ?_
    exact C_X11_fate_J20 C hB hR hT h
  · replace h := mj_if_f c28 h
    refine mj_bipush (v := 35) C dX11_fate_13 (by decide) ?_
    refine mj_goto (tgt := 20) C dX11_fate_15 (by decide) ?_
    refine mj_sub (L' := [some (mj_r (β, 0)), some (.inl a1), some (.inl a2), none]) ⟨rfl, ⟨rfl, ⟨rfl, trivial⟩⟩⟩ ?_
    exact C_X11_fate_J20 C hB hR hT h
def f_X11_goes_L192 (l1 : Int32) (l5 : Int32) : Nat → Int32 → mj_m → Option (mj_m)
  | 0, _, _ => none
  | n + 1, l6, m => mj_let (f_X11_byteMany l1) (fun r1 => if r1 ≤ l6 then (some m) else (mj_chk (mj_ok l6 5) (mj_chk (mj_ok ((l5 + 1) + l6) 1897) (mj_let (mj_wrs m 1 (mj_cl ((l5 + 1) + l6)) (m 3 (mj_cl l6))) (fun m6 => mj_let (l6 + 1) (fun x7 => f_X11_goes_L192 l1 l5 n x7 m6))))))
set_option maxHeartbeats 4000000 in
set_option maxRecDepth 20000 in
theorem C_X11_goes_L192 {κ : mj_K} {Q : State → Prop} {β : Nat} {M : mj_M} {l1 : Int32} {l5 : Int32} (C : mj_C κ cX11_goes 7 RX11) (hB : mj_isM (mj_g κ) β) (hR : mj_dp κ 3) : ∀ (n : Nat) (l6 : Int32) (m : mj_m) (mo : mj_m), f_X11_goes_L192 l1 l5 n l6 m = some mo → (mj_R κ Q 227 [some (mj_r (β, 0)), some (.inl l1), none, none, none, some (.inl l5), none] [] (va_up M β mo)) → mj_R κ Q 192 [some (mj_r (β, 0)), some (.inl l1), none, none, none, some (.inl l5), some (.inl l6)] [] (va_up M β m) := by
  intro n
  induction n with
  | zero =>
    intro l6 m mo h
    cases h
  | succ n ih =>
    intro l6 m mo h hx227
    rw [f_X11_goes_L192] at h
    refine mj_iload C dX11_goes_192 rfl ?_
    refine mj_aload_n C dX11_goes_194 rfl ?_
    refine mj_iload_n C dX11_goes_195 rfl ?_
    obtain ⟨r1, er1, h⟩ := mj_let_o h
    refine mj_callV1 (av := [.inl l1]) C lM_X11_152 lV_X11_byteMany (sM0 hB) ⟨_, rfl, rfl⟩ rfl (C_X11_byteMany hB er1) (mj_rmok hR (by decide) (by decide)) rfl (Nat.le_of_ble_eq_true rfl) dX11_goes_196 (fun hb2 => ?_)
    refine mj_icmp_ge (tgt := 227) C dX11_goes_199 (by decide) (fun c3 => ?_) (fun c3 => ?_)
    · replace h := mj_if_t c3 h
      cases h
      refine mj_sub ?_ (hx227)
      exact ⟨rfl, ⟨rfl, ⟨rfl, trivial⟩⟩⟩
    · replace h := mj_if_f c3 h
      refine mj_aload_n C dX11_goes_202 rfl ?_
      refine mj_getr (r := (β, 1)) C lF_X11_7 (sM0 hB) rfl dX11_goes_203 ?_
      refine mj_iload C dX11_goes_206 rfl ?_
      refine mj_iconst (v := 1) C dX11_goes_208 (by decide) ?_
      refine mj_iadd C dX11_goes_209 ?_
      refine mj_iload C dX11_goes_210 rfl ?_
      refine mj_iadd C dX11_goes_212 ?_
      refine mj_aload_n C dX11_goes_213 rfl ?_
      refine mj_getr (r := (β, 3)) C lF_X11_16 (sM0 hB) rfl dX11_goes_214 ?_
      refine mj_iload C dX11_goes_217 rfl ?_
      obtain ⟨k4, h⟩ := mj_chk_o h
      refine mj_bald C (sM3 hB) k4 rfl dX11_goes_219 ?_
      obtain ⟨k5, h⟩ := mj_chk_o h
      obtain ⟨m6, hm6, h⟩ := mj_let_o h
      refine mj_bast C (sM1 hB) k5 rfl dX11_goes_220 hm6 ?_
      obtain ⟨x7, hx7, h⟩ := mj_let_o h
      refine mj_iinc (L2 := [some (mj_r (β, 0)), some (.inl l1), none, none, none, some (.inl l5), some (.inl x7)]) C dX11_goes_221 rfl hx7 rfl ?_
      refine mj_goto (tgt := 192) C dX11_goes_224 (by decide) ?_
      refine mj_sub (L' := [some (mj_r (β, 0)), some (.inl l1), none, none, none, some (.inl l5), some (.inl x7)]) ⟨rfl, ⟨rfl, ⟨rfl, ⟨rfl, trivial⟩⟩⟩⟩ ?_
      exact ih _ _ _ h hx227
def f_X11_goes_J246 (l1 : Int32) (m : mj_m) : Option (mj_m) := if l1 = 0 then (mj_b1 (f_X11_more 42 m) (fun m9 => some m9)) else (mj_b1 (f_X11_more 41 m) (fun m11 => some m11))
set_option maxHeartbeats 4000000 in
set_option maxRecDepth 20000 in
theorem C_X11_goes_J246 {κ : mj_K} {β : Nat} {M : mj_M} {l1 : Int32} {m : mj_m} {m0 : mj_m} (C : mj_C κ cX11_goes 7 RX11) (hB : mj_isM (mj_g κ) β) (hR : mj_dp κ 3) (hT : mj_rt κ = none) (h : f_X11_goes_J246 l1 m = some m0) : mj_R κ (mj_F κ (fun r M' => r = none ∧ M' = (va_up M β m0) ∧ mj_bb none none)) 246 [some (mj_r (β, 0)), some (.inl l1), none, none, none, none, none] [] (va_up M β m) := by
  unfold f_X11_goes_J246 at h
  refine mj_aload_n C dX11_goes_246 rfl ?_
  refine mj_iload_n C dX11_goes_247 rfl ?_
  refine mj_if_eq (tgt := 256) C dX11_goes_248 (by decide) (fun c8 => ?_) (fun c8 => ?_)
  · replace h := mj_if_t c8 h
    refine mj_bipush (v := 42) C dX11_goes_256 (by decide) ?_
    obtain ⟨m9, em9, h⟩ := mj_b1_o h
    refine mj_callV0 (av := [.inl 42]) C lM_X11_58 lV_X11_more (sM0 hB) ⟨_, rfl, rfl⟩ rfl (C_X11_more hB em9) (mj_rmok hR (by decide) (by decide)) rfl (Nat.le_of_ble_eq_true rfl) dX11_goes_258 ?_
    cases h
    exact mj_vret C hT dX11_goes_261 ⟨rfl, rfl, mj_bv _⟩
  · replace h := mj_if_f c8 h
    refine mj_bipush (v := 41) C dX11_goes_251 (by decide) ?_
    refine mj_goto (tgt := 258) C dX11_goes_253 (by decide) ?_
    obtain ⟨m11, em11, h⟩ := mj_b1_o h
    refine mj_callV0 (av := [.inl 41]) C lM_X11_58 lV_X11_more (sM0 hB) ⟨_, rfl, rfl⟩ rfl (C_X11_more hB em11) (mj_rmok hR (by decide) (by decide)) rfl (Nat.le_of_ble_eq_true rfl) dX11_goes_258 ?_
    cases h
    exact mj_vret C hT dX11_goes_261 ⟨rfl, rfl, mj_bv _⟩
def f_X11_goes_J184 (l1 : Int32) (l5 : Int32) (s0 : Int32) (s2 : Int32) (s3 : Int32) (m : mj_m) : Option (mj_m) := mj_b1 (f_X11_settingOf s0 m) (fun r13 => mj_chk (mj_ok s3 1897) (mj_let (mj_wrs m 1 (mj_cl s3) (s2 + r13)) (fun m16 => mj_b1 (f_X11_goes_L192 l1 l5 mj_fu 0 m16) (fun m17 => if l1 = 0 then (f_X11_goes_J246 l1 m17) else (mj_chk (mj_ok ((l5 + 1) + 5) 1897) (mj_let (mj_wrs m17 1 (mj_cl ((l5 + 1) + 5)) (m17 0 4)) (fun m21 => f_X11_goes_J246 l1 m21)))))))
set_option maxHeartbeats 4000000 in
set_option maxRecDepth 20000 in
theorem C_X11_goes_J184 {κ : mj_K} {β : Nat} {M : mj_M} {l1 : Int32} {l5 : Int32} {s0 : Int32} {s2 : Int32} {s3 : Int32} {m : mj_m} {m0 : mj_m} (C : mj_C κ cX11_goes 7 RX11) (hB : mj_isM (mj_g κ) β) (hR : mj_dp κ 3) (hT : mj_rt κ = none) (h : f_X11_goes_J184 l1 l5 s0 s2 s3 m = some m0) : mj_R κ (mj_F κ (fun r M' => r = none ∧ M' = (va_up M β m0) ∧ mj_bb none none)) 184 [some (mj_r (β, 0)), some (.inl l1), none, none, none, some (.inl l5), none] [.inl s0, mj_r (β, 0), .inl s2, .inl s3, mj_r (β, 1)] (va_up M β m) := by
  unfold f_X11_goes_J184 at h
  obtain ⟨r13, er13, h⟩ := mj_b1_o h
  refine mj_callV1 (av := [.inl s0]) C lM_X11_102 lV_X11_settingOf (sM0 hB) ⟨_, rfl, rfl⟩ rfl (C_X11_settingOf hB er13) (mj_rmok hR (by decide) (by decide)) rfl (Nat.le_of_ble_eq_true rfl) dX11_goes_184 (fun hb14 => ?_)
  refine mj_iadd C dX11_goes_187 ?_
  obtain ⟨k15, h⟩ := mj_chk_o h
  obtain ⟨m16, hm16, h⟩ := mj_let_o h
  refine mj_bast C (sM1 hB) k15 rfl dX11_goes_188 hm16 ?_
  refine mj_iconst (v := 0) C dX11_goes_189 (by decide) ?_
  refine mj_istore (L2 := [some (mj_r (β, 0)), some (.inl l1), none, none, none, some (.inl l5), some (.inl 0)]) C dX11_goes_190 (Nat.le_of_ble_eq_true rfl) rfl ?_
  obtain ⟨m17, hl18, h⟩ := mj_b1_o h
  refine mj_sub (L' := [some (mj_r (β, 0)), some (.inl l1), none, none, none, some (.inl l5), some (.inl 0)]) ⟨rfl, ⟨rfl, ⟨rfl, ⟨rfl, trivial⟩⟩⟩⟩ ?_
  refine C_X11_goes_L192 C hB hR _ _ _ _ hl18 ?_
  refine mj_iload_n C dX11_goes_227 rfl ?_
  refine mj_if_eq (tgt := 246) C dX11_goes_228 (by decide) (fun c19 => ?_) (fun c19 => ?_)
  · replace h := mj_if_t c19 h
    refine mj_sub (L' := [some (mj_r (β, 0)), some (.inl l1), none, none, none, none, none]) ⟨rfl, ⟨rfl, trivial⟩⟩ ?_
    exact C_X11_goes_J246 C hB hR hT h
  · replace h := mj_if_f c19 h
    refine mj_aload_n C dX11_goes_231 rfl ?_
    refine mj_getr (r := (β, 1)) C lF_X11_7 (sM0 hB) rfl dX11_goes_232 ?_
    refine mj_iload C dX11_goes_235 rfl ?_
    refine mj_iconst (v := 1) C dX11_goes_237 (by decide) ?_
    refine mj_iadd C dX11_goes_238 ?_
    refine mj_iconst (v := 5) C dX11_goes_239 (by decide) ?_
    refine mj_iadd C dX11_goes_240 ?_
    refine mj_aload_n C dX11_goes_241 rfl ?_
    refine mj_bget C lF_X11_158 (sM0 hB) rfl dX11_goes_242 ?_
    obtain ⟨k20, h⟩ := mj_chk_o h
    obtain ⟨m21, hm21, h⟩ := mj_let_o h
    refine mj_bast C (sM1 hB) k20 rfl dX11_goes_245 hm21 ?_
    refine mj_sub (L' := [some (mj_r (β, 0)), some (.inl l1), none, none, none, none, none]) ⟨rfl, ⟨rfl, trivial⟩⟩ ?_
    exact C_X11_goes_J246 C hB hR hT h
def f_X11_goes_J147 (l1 : Int32) (m : mj_m) : Option (mj_m) := mj_let (f_X11_wayMany l1 m) (fun r22 => mj_let (f_X11_wayAt l1 r22) (fun r24 => if l1 = 0 then (f_X11_goes_J184 l1 r24 7 (m 1 11) r24 m) else (f_X11_goes_J184 l1 r24 6 (m 1 11) r24 m)))
set_option maxHeartbeats 4000000 in
set_option maxRecDepth 20000 in
theorem C_X11_goes_J147 {κ : mj_K} {β : Nat} {M : mj_M} {l1 : Int32} {m : mj_m} {m0 : mj_m} (C : mj_C κ cX11_goes 7 RX11) (hB : mj_isM (mj_g κ) β) (hR : mj_dp κ 3) (hT : mj_rt κ = none) (h : f_X11_goes_J147 l1 m = some m0) : mj_R κ (mj_F κ (fun r M' => r = none ∧ M' = (va_up M β m0) ∧ mj_bb none none)) 147 [some (mj_r (β, 0)), some (.inl l1), none, none, none, none, none] [] (va_up M β m) := by
  unfold f_X11_goes_J147 at h
  refine mj_aload_n C dX11_goes_147 rfl ?_
  refine mj_iload_n C dX11_goes_148 rfl ?_
  refine mj_aload_n C dX11_goes_149 rfl ?_
  refine mj_iload_n C dX11_goes_150 rfl ?_
  obtain ⟨r22, er22, h⟩ := mj_let_o h
  refine mj_callV1 (av := [.inl l1]) C lM_X11_125 lV_X11_wayMany (sM0 hB) ⟨_, rfl, rfl⟩ rfl (C_X11_wayMany hB er22) (mj_rmok hR (by decide) (by decide)) rfl (Nat.le_of_ble_eq_true rfl) dX11_goes_151 (fun hb23 => ?_)
  obtain ⟨r24, er24, h⟩ := mj_let_o h
  refine mj_callV1 (av := [.inl l1, .inl r22]) C lM_X11_129 lV_X11_wayAt (sM0 hB) ⟨_, rfl, rfl⟩ rfl (C_X11_wayAt hB er24) (mj_rmok hR (by decide) (by decide)) rfl (Nat.le_of_ble_eq_true rfl) dX11_goes_154 (fun hb25 => ?_)
  refine mj_istore (L2 := [some (mj_r (β, 0)), some (.inl l1), none, none, none, some (.inl r24), none]) C dX11_goes_157 (Nat.le_of_ble_eq_true rfl) rfl ?_
  refine mj_aload_n C dX11_goes_159 rfl ?_
  refine mj_getr (r := (β, 1)) C lF_X11_7 (sM0 hB) rfl dX11_goes_160 ?_
  refine mj_iload C dX11_goes_163 rfl ?_
  refine mj_aload_n C dX11_goes_165 rfl ?_
  refine mj_getr (r := (β, 1)) C lF_X11_7 (sM0 hB) rfl dX11_goes_166 ?_
  refine mj_bipush (v := 11) C dX11_goes_169 (by decide) ?_
  refine mj_bald C (sM1 hB) (mj_okn 11 1897 (Nat.le_of_ble_eq_true rfl) (Nat.le_of_ble_eq_true rfl)) (mj_cln 11 (Nat.le_of_ble_eq_true rfl)) dX11_goes_171 ?_
  refine mj_aload_n C dX11_goes_172 rfl ?_
  refine mj_iload_n C dX11_goes_173 rfl ?_
  refine mj_if_eq (tgt := 182) C dX11_goes_174 (by decide) (fun c26 => ?_) (fun c26 => ?_)
  · replace h := mj_if_t c26 h
    refine mj_bipush (v := 7) C dX11_goes_182 (by decide) ?_
    refine mj_sub (L' := [some (mj_r (β, 0)), some (.inl l1), none, none, none, some (.inl r24), none]) ⟨rfl, ⟨rfl, ⟨rfl, trivial⟩⟩⟩ ?_
    exact C_X11_goes_J184 C hB hR hT h
  · replace h := mj_if_f c26 h
    refine mj_bipush (v := 6) C dX11_goes_177 (by decide) ?_
    refine mj_goto (tgt := 184) C dX11_goes_179 (by decide) ?_
    refine mj_sub (L' := [some (mj_r (β, 0)), some (.inl l1), none, none, none, some (.inl r24), none]) ⟨rfl, ⟨rfl, ⟨rfl, trivial⟩⟩⟩ ?_
    exact C_X11_goes_J184 C hB hR hT h
def f_X11_goes_J106 (l1 : Int32) (l2 : Int32) (l4 : Int32) (m : mj_m) : Option (mj_m) := if l2 = 0 then (if l4 = 0 then (f_X11_goes_J147 l1 m) else (mj_let (f_X11_byteMany l1) (fun r29 => mj_b2 (f_X11_draw r29 m) (fun r31 m32 => mj_chk (mj_ok r31 5) (mj_let (f_X11_round ((m32 3 (mj_cl r31)) + 1)) (fun r35 => mj_chk (mj_ok r31 5) (mj_let (mj_wrs m32 3 (mj_cl r31) r35) (fun m38 => f_X11_goes_J147 l1 m38)))))))) else (some m)
set_option maxHeartbeats 4000000 in
set_option maxRecDepth 20000 in
theorem C_X11_goes_J106 {κ : mj_K} {β : Nat} {M : mj_M} {l1 : Int32} {l2 : Int32} {l4 : Int32} {m : mj_m} {m0 : mj_m} (C : mj_C κ cX11_goes 7 RX11) (hB : mj_isM (mj_g κ) β) (hR : mj_dp κ 3) (hT : mj_rt κ = none) (h : f_X11_goes_J106 l1 l2 l4 m = some m0) : mj_R κ (mj_F κ (fun r M' => r = none ∧ M' = (va_up M β m0) ∧ mj_bb none none)) 106 [some (mj_r (β, 0)), some (.inl l1), some (.inl l2), none, some (.inl l4), none, none] [] (va_up M β m) := by
  unfold f_X11_goes_J106 at h
  refine mj_iload_n C dX11_goes_106 rfl ?_
  refine mj_if_eq (tgt := 111) C dX11_goes_107 (by decide) (fun c27 => ?_) (fun c27 => ?_)
  · replace h := mj_if_t c27 h
    refine mj_iload C dX11_goes_111 rfl ?_
    refine mj_if_eq (tgt := 147) C dX11_goes_113 (by decide) (fun c28 => ?_) (fun c28 => ?_)
    · replace h := mj_if_t c28 h
      refine mj_sub (L' := [some (mj_r (β, 0)), some (.inl l1), none, none, none, none, none]) ⟨rfl, ⟨rfl, trivial⟩⟩ ?_
      exact C_X11_goes_J147 C hB hR hT h
    · replace h := mj_if_f c28 h
      refine mj_aload_n C dX11_goes_116 rfl ?_
      refine mj_aload_n C dX11_goes_117 rfl ?_
      refine mj_iload_n C dX11_goes_118 rfl ?_
      obtain ⟨r29, er29, h⟩ := mj_let_o h
      refine mj_callV1 (av := [.inl l1]) C lM_X11_152 lV_X11_byteMany (sM0 hB) ⟨_, rfl, rfl⟩ rfl (C_X11_byteMany hB er29) (mj_rmok hR (by decide) (by decide)) rfl (Nat.le_of_ble_eq_true rfl) dX11_goes_119 (fun hb30 => ?_)
      obtain ⟨r31, m32, em32, h⟩ := mj_b2_o h
      refine mj_callV1 (av := [.inl r29]) C lM_X11_149 lV_X11_draw (sM0 hB) ⟨_, rfl, rfl⟩ rfl (C_X11_draw hB em32) (mj_rmok hR (by decide) (by decide)) rfl (Nat.le_of_ble_eq_true rfl) dX11_goes_122 (fun hb33 => ?_)
      refine mj_istore (L2 := [some (mj_r (β, 0)), some (.inl l1), some (.inl l2), none, some (.inl l4), some (.inl r31), none]) C dX11_goes_125 (Nat.le_of_ble_eq_true rfl) rfl ?_
      refine mj_aload_n C dX11_goes_127 rfl ?_
      refine mj_getr (r := (β, 3)) C lF_X11_16 (sM0 hB) rfl dX11_goes_128 ?_
      refine mj_iload C dX11_goes_131 rfl ?_
      refine mj_aload_n C dX11_goes_133 rfl ?_
      refine mj_aload_n C dX11_goes_134 rfl ?_
      refine mj_getr (r := (β, 3)) C lF_X11_16 (sM0 hB) rfl dX11_goes_135 ?_
      refine mj_iload C dX11_goes_138 rfl ?_
      obtain ⟨k34, h⟩ := mj_chk_o h
      refine mj_bald C (sM3 hB) k34 rfl dX11_goes_140 ?_
      refine mj_iconst (v := 1) C dX11_goes_141 (by decide) ?_
      refine mj_iadd C dX11_goes_142 ?_
      obtain ⟨r35, er35, h⟩ := mj_let_o h
      refine mj_callV1 (av := [.inl ((m32 3 (mj_cl r31)) + 1)]) C lM_X11_155 lV_X11_round (sM0 hB) ⟨_, rfl, rfl⟩ rfl (C_X11_round hB er35) (mj_rmok hR (by decide) (by decide)) rfl (Nat.le_of_ble_eq_true rfl) dX11_goes_143 (fun hb36 => ?_)
      obtain ⟨k37, h⟩ := mj_chk_o h
      obtain ⟨m38, hm38, h⟩ := mj_let_o h
      refine mj_bast C (sM3 hB) k37 rfl dX11_goes_146 hm38 ?_
      refine mj_sub (L' := [some (mj_r (β, 0)), some (.inl l1), none, none, none, none, none]) ⟨rfl, ⟨rfl, trivial⟩⟩ ?_
      exact C_X11_goes_J147 C hB hR hT h
  · replace h := mj_if_f c27 h
    cases h
    exact mj_vret C hT dX11_goes_110 ⟨rfl, rfl, mj_bv _⟩
def f_X11_goes_J100 (l1 : Int32) (l2 : Int32) (l4 : Int32) (m : mj_m) : Option (mj_m) := mj_b1 (f_X11_more 37 m) (fun m39 => f_X11_goes_J106 l1 l2 l4 m39)
set_option maxHeartbeats 4000000 in
set_option maxRecDepth 20000 in
theorem C_X11_goes_J100 {κ : mj_K} {β : Nat} {M : mj_M} {l1 : Int32} {l2 : Int32} {l4 : Int32} {m : mj_m} {m0 : mj_m} (C : mj_C κ cX11_goes 7 RX11) (hB : mj_isM (mj_g κ) β) (hR : mj_dp κ 3) (hT : mj_rt κ = none) (h : f_X11_goes_J100 l1 l2 l4 m = some m0) : mj_R κ (mj_F κ (fun r M' => r = none ∧ M' = (va_up M β m0) ∧ mj_bb none none)) 100 [some (mj_r (β, 0)), some (.inl l1), some (.inl l2), none, some (.inl l4), none, none] [] (va_up M β m) := by
  unfold f_X11_goes_J100 at h
  refine mj_aload_n C dX11_goes_100 rfl ?_
  refine mj_bipush (v := 37) C dX11_goes_101 (by decide) ?_
  obtain ⟨m39, em39, h⟩ := mj_b1_o h
  refine mj_callV0 (av := [.inl 37]) C lM_X11_58 lV_X11_more (sM0 hB) ⟨_, rfl, rfl⟩ rfl (C_X11_more hB em39) (mj_rmok hR (by decide) (by decide)) rfl (Nat.le_of_ble_eq_true rfl) dX11_goes_103 ?_
  refine mj_sub (L' := [some (mj_r (β, 0)), some (.inl l1), some (.inl l2), none, some (.inl l4), none, none]) ⟨rfl, ⟨rfl, ⟨rfl, ⟨rfl, trivial⟩⟩⟩⟩ ?_
  exact C_X11_goes_J106 C hB hR hT h
def f_X11_goes_J85 (l1 : Int32) (l2 : Int32) (s0 : Int32) (m : mj_m) : Option (mj_m) := if l1 = 0 then (f_X11_goes_J106 l1 l2 s0 m) else (if l2 = 0 then (if s0 = 0 then (f_X11_goes_J106 l1 l2 s0 m) else (f_X11_goes_J100 l1 l2 s0 m)) else (f_X11_goes_J100 l1 l2 s0 m))
set_option maxHeartbeats 4000000 in
set_option maxRecDepth 20000 in
theorem C_X11_goes_J85 {κ : mj_K} {β : Nat} {M : mj_M} {l1 : Int32} {l2 : Int32} {s0 : Int32} {m : mj_m} {m0 : mj_m} (C : mj_C κ cX11_goes 7 RX11) (hB : mj_isM (mj_g κ) β) (hR : mj_dp κ 3) (hT : mj_rt κ = none) (h : f_X11_goes_J85 l1 l2 s0 m = some m0) : mj_R κ (mj_F κ (fun r M' => r = none ∧ M' = (va_up M β m0) ∧ mj_bb none none)) 85 [some (mj_r (β, 0)), some (.inl l1), some (.inl l2), none, none, none, none] [.inl s0] (va_up M β m) := by
  unfold f_X11_goes_J85 at h
  refine mj_istore (L2 := [some (mj_r (β, 0)), some (.inl l1), some (.inl l2), none, some (.inl s0), none, none]) C dX11_goes_85 (Nat.le_of_ble_eq_true rfl) rfl ?_
  refine mj_iload_n C dX11_goes_87 rfl ?_
  refine mj_if_eq (tgt := 106) C dX11_goes_88 (by decide) (fun c41 => ?_) (fun c41 => ?_)
  · replace h := mj_if_t c41 h
    refine mj_sub (L' := [some (mj_r (β, 0)), some (.inl l1), some (.inl l2), none, some (.inl s0), none, none]) ⟨rfl, ⟨rfl, ⟨rfl, ⟨rfl, trivial⟩⟩⟩⟩ ?_
    exact C_X11_goes_J106 C hB hR hT h
  · replace h := mj_if_f c41 h
    refine mj_iload_n C dX11_goes_91 rfl ?_
    refine mj_if_ne (tgt := 100) C dX11_goes_92 (by decide) (fun c42 => ?_) (fun c42 => ?_)
    · replace h := mj_if_f c42 h
      refine mj_sub (L' := [some (mj_r (β, 0)), some (.inl l1), some (.inl l2), none, some (.inl s0), none, none]) ⟨rfl, ⟨rfl, ⟨rfl, ⟨rfl, trivial⟩⟩⟩⟩ ?_
      exact C_X11_goes_J100 C hB hR hT h
    · replace h := mj_if_t c42 h
      refine mj_iload C dX11_goes_95 rfl ?_
      refine mj_if_eq (tgt := 106) C dX11_goes_97 (by decide) (fun c43 => ?_) (fun c43 => ?_)
      · replace h := mj_if_t c43 h
        refine mj_sub (L' := [some (mj_r (β, 0)), some (.inl l1), some (.inl l2), none, some (.inl s0), none, none]) ⟨rfl, ⟨rfl, ⟨rfl, ⟨rfl, trivial⟩⟩⟩⟩ ?_
        exact C_X11_goes_J106 C hB hR hT h
      · replace h := mj_if_f c43 h
        refine mj_sub (L' := [some (mj_r (β, 0)), some (.inl l1), some (.inl l2), none, some (.inl s0), none, none]) ⟨rfl, ⟨rfl, ⟨rfl, ⟨rfl, trivial⟩⟩⟩⟩ ?_
        exact C_X11_goes_J100 C hB hR hT h
def f_X11_goes_J84 (l1 : Int32) (l2 : Int32) (m : mj_m) : Option (mj_m) := f_X11_goes_J85 l1 l2 0 m
set_option maxHeartbeats 4000000 in
set_option maxRecDepth 20000 in
theorem C_X11_goes_J84 {κ : mj_K} {β : Nat} {M : mj_M} {l1 : Int32} {l2 : Int32} {m : mj_m} {m0 : mj_m} (C : mj_C κ cX11_goes 7 RX11) (hB : mj_isM (mj_g κ) β) (hR : mj_dp κ 3) (hT : mj_rt κ = none) (h : f_X11_goes_J84 l1 l2 m = some m0) : mj_R κ (mj_F κ (fun r M' => r = none ∧ M' = (va_up M β m0) ∧ mj_bb none none)) 84 [some (mj_r (β, 0)), some (.inl l1), some (.inl l2), none, none, none, none] [] (va_up M β m) := by
  unfold f_X11_goes_J84 at h
  refine mj_iconst (v := 0) C dX11_goes_84 (by decide) ?_
  refine mj_sub (L' := [some (mj_r (β, 0)), some (.inl l1), some (.inl l2), none, none, none, none]) ⟨rfl, ⟨rfl, ⟨rfl, trivial⟩⟩⟩ ?_
  exact C_X11_goes_J85 C hB hR hT h
def f_X11_goes_J56 (l1 : Int32) (l3 : Int32) (s0 : Int32) (m : mj_m) : Option (mj_m) := if s0 = 0 then (if (m 1 8) + (m 1 9) ≤ l3 then (f_X11_goes_J84 l1 s0 m) else (f_X11_goes_J85 l1 s0 1 m)) else (f_X11_goes_J84 l1 s0 m)
set_option maxHeartbeats 4000000 in
set_option maxRecDepth 20000 in
theorem C_X11_goes_J56 {κ : mj_K} {β : Nat} {M : mj_M} {l1 : Int32} {l3 : Int32} {s0 : Int32} {m : mj_m} {m0 : mj_m} (C : mj_C κ cX11_goes 7 RX11) (hB : mj_isM (mj_g κ) β) (hR : mj_dp κ 3) (hT : mj_rt κ = none) (h : f_X11_goes_J56 l1 l3 s0 m = some m0) : mj_R κ (mj_F κ (fun r M' => r = none ∧ M' = (va_up M β m0) ∧ mj_bb none none)) 56 [some (mj_r (β, 0)), some (.inl l1), none, some (.inl l3), none, none, none] [.inl s0] (va_up M β m) := by
  unfold f_X11_goes_J56 at h
  refine mj_istore_n (L2 := [some (mj_r (β, 0)), some (.inl l1), some (.inl s0), some (.inl l3), none, none, none]) C dX11_goes_56 (Nat.le_of_ble_eq_true rfl) rfl ?_
  refine mj_iload_n C dX11_goes_57 rfl ?_
  refine mj_if_ne (tgt := 84) C dX11_goes_58 (by decide) (fun c44 => ?_) (fun c44 => ?_)
  · replace h := mj_if_f c44 h
    refine mj_sub (L' := [some (mj_r (β, 0)), some (.inl l1), some (.inl s0), none, none, none, none]) ⟨rfl, ⟨rfl, ⟨rfl, trivial⟩⟩⟩ ?_
    exact C_X11_goes_J84 C hB hR hT h
  · replace h := mj_if_t c44 h
    refine mj_iload_n C dX11_goes_61 rfl ?_
    refine mj_aload_n C dX11_goes_62 rfl ?_
    refine mj_getr (r := (β, 1)) C lF_X11_7 (sM0 hB) rfl dX11_goes_63 ?_
    refine mj_bipush (v := 8) C dX11_goes_66 (by decide) ?_
    refine mj_bald C (sM1 hB) (mj_okn 8 1897 (Nat.le_of_ble_eq_true rfl) (Nat.le_of_ble_eq_true rfl)) (mj_cln 8 (Nat.le_of_ble_eq_true rfl)) dX11_goes_68 ?_
    refine mj_aload_n C dX11_goes_69 rfl ?_
    refine mj_getr (r := (β, 1)) C lF_X11_7 (sM0 hB) rfl dX11_goes_70 ?_
    refine mj_bipush (v := 9) C dX11_goes_73 (by decide) ?_
    refine mj_bald C (sM1 hB) (mj_okn 9 1897 (Nat.le_of_ble_eq_true rfl) (Nat.le_of_ble_eq_true rfl)) (mj_cln 9 (Nat.le_of_ble_eq_true rfl)) dX11_goes_75 ?_
    refine mj_iadd C dX11_goes_76 ?_
    refine mj_icmp_ge (tgt := 84) C dX11_goes_77 (by decide) (fun c45 => ?_) (fun c45 => ?_)
    · replace h := mj_if_t c45 h
      refine mj_sub (L' := [some (mj_r (β, 0)), some (.inl l1), some (.inl s0), none, none, none, none]) ⟨rfl, ⟨rfl, ⟨rfl, trivial⟩⟩⟩ ?_
      exact C_X11_goes_J84 C hB hR hT h
    · replace h := mj_if_f c45 h
      refine mj_iconst (v := 1) C dX11_goes_80 (by decide) ?_
      refine mj_goto (tgt := 85) C dX11_goes_81 (by decide) ?_
      refine mj_sub (L' := [some (mj_r (β, 0)), some (.inl l1), some (.inl s0), none, none, none, none]) ⟨rfl, ⟨rfl, ⟨rfl, trivial⟩⟩⟩ ?_
      exact C_X11_goes_J85 C hB hR hT h
def f_X11_goes_J51 (l1 : Int32) (l3 : Int32) (m : mj_m) : Option (mj_m) := f_X11_goes_J56 l1 l3 1 m
set_option maxHeartbeats 4000000 in
set_option maxRecDepth 20000 in
theorem C_X11_goes_J51 {κ : mj_K} {β : Nat} {M : mj_M} {l1 : Int32} {l3 : Int32} {m : mj_m} {m0 : mj_m} (C : mj_C κ cX11_goes 7 RX11) (hB : mj_isM (mj_g κ) β) (hR : mj_dp κ 3) (hT : mj_rt κ = none) (h : f_X11_goes_J51 l1 l3 m = some m0) : mj_R κ (mj_F κ (fun r M' => r = none ∧ M' = (va_up M β m0) ∧ mj_bb none none)) 51 [some (mj_r (β, 0)), some (.inl l1), none, some (.inl l3), none, none, none] [] (va_up M β m) := by
  unfold f_X11_goes_J51 at h
  refine mj_iconst (v := 1) C dX11_goes_51 (by decide) ?_
  refine mj_goto (tgt := 56) C dX11_goes_52 (by decide) ?_
  refine mj_sub (L' := [some (mj_r (β, 0)), some (.inl l1), none, some (.inl l3), none, none, none]) ⟨rfl, ⟨rfl, ⟨rfl, trivial⟩⟩⟩ ?_
  exact C_X11_goes_J56 C hB hR hT h
def f_X11_goes_J35 (l1 : Int32) (l2 : Int32) (s0 : Int32) (m : mj_m) : Option (mj_m) := if l2 = 0 then (if m 1 8 ≤ s0 then (f_X11_goes_J56 l1 s0 0 m) else (f_X11_goes_J51 l1 s0 m)) else (f_X11_goes_J51 l1 s0 m)
set_option maxHeartbeats 4000000 in
set_option maxRecDepth 20000 in
theorem C_X11_goes_J35 {κ : mj_K} {β : Nat} {M : mj_M} {l1 : Int32} {l2 : Int32} {s0 : Int32} {m : mj_m} {m0 : mj_m} (C : mj_C κ cX11_goes 7 RX11) (hB : mj_isM (mj_g κ) β) (hR : mj_dp κ 3) (hT : mj_rt κ = none) (h : f_X11_goes_J35 l1 l2 s0 m = some m0) : mj_R κ (mj_F κ (fun r M' => r = none ∧ M' = (va_up M β m0) ∧ mj_bb none none)) 35 [some (mj_r (β, 0)), some (.inl l1), some (.inl l2), none, none, none, none] [.inl s0] (va_up M β m) := by
  unfold f_X11_goes_J35 at h
  refine mj_istore_n (L2 := [some (mj_r (β, 0)), some (.inl l1), some (.inl l2), some (.inl s0), none, none, none]) C dX11_goes_35 (Nat.le_of_ble_eq_true rfl) rfl ?_
  refine mj_iload_n C dX11_goes_36 rfl ?_
  refine mj_if_ne (tgt := 51) C dX11_goes_37 (by decide) (fun c46 => ?_) (fun c46 => ?_)
  · replace h := mj_if_f c46 h
    refine mj_sub (L' := [some (mj_r (β, 0)), some (.inl l1), none, some (.inl s0), none, none, none]) ⟨rfl, ⟨rfl, ⟨rfl, trivial⟩⟩⟩ ?_
    exact C_X11_goes_J51 C hB hR hT h
  · replace h := mj_if_t c46 h
    refine mj_iload_n C dX11_goes_40 rfl ?_
    refine mj_aload_n C dX11_goes_41 rfl ?_
    refine mj_getr (r := (β, 1)) C lF_X11_7 (sM0 hB) rfl dX11_goes_42 ?_
    refine mj_bipush (v := 8) C dX11_goes_45 (by decide) ?_
    refine mj_bald C (sM1 hB) (mj_okn 8 1897 (Nat.le_of_ble_eq_true rfl) (Nat.le_of_ble_eq_true rfl)) (mj_cln 8 (Nat.le_of_ble_eq_true rfl)) dX11_goes_47 ?_
    refine mj_icmp_ge (tgt := 55) C dX11_goes_48 (by decide) (fun c47 => ?_) (fun c47 => ?_)
    · replace h := mj_if_t c47 h
      refine mj_iconst (v := 0) C dX11_goes_55 (by decide) ?_
      refine mj_sub (L' := [some (mj_r (β, 0)), some (.inl l1), none, some (.inl s0), none, none, none]) ⟨rfl, ⟨rfl, ⟨rfl, trivial⟩⟩⟩ ?_
      exact C_X11_goes_J56 C hB hR hT h
    · replace h := mj_if_f c47 h
      refine mj_sub (L' := [some (mj_r (β, 0)), some (.inl l1), none, some (.inl s0), none, none, none]) ⟨rfl, ⟨rfl, ⟨rfl, trivial⟩⟩⟩ ?_
      exact C_X11_goes_J51 C hB hR hT h
def f_X11_goes_J12 (l1 : Int32) (s0 : Int32) (m : mj_m) : Option (mj_m) := mj_b1 (f_X11_more s0 m) (fun m48 => mj_b2 (f_X11_isFated l1 m48) (fun r50 m51 => if r50 = 0 then (mj_b2 (f_X11_draw 100 m51) (fun r54 m55 => f_X11_goes_J35 l1 r50 r54 m55)) else (f_X11_goes_J35 l1 r50 0 m51)))
set_option maxHeartbeats 4000000 in
set_option maxRecDepth 20000 in
theorem C_X11_goes_J12 {κ : mj_K} {β : Nat} {M : mj_M} {l1 : Int32} {s0 : Int32} {m : mj_m} {m0 : mj_m} (C : mj_C κ cX11_goes 7 RX11) (hB : mj_isM (mj_g κ) β) (hR : mj_dp κ 3) (hT : mj_rt κ = none) (h : f_X11_goes_J12 l1 s0 m = some m0) : mj_R κ (mj_F κ (fun r M' => r = none ∧ M' = (va_up M β m0) ∧ mj_bb none none)) 12 [some (mj_r (β, 0)), some (.inl l1), none, none, none, none, none] [.inl s0, mj_r (β, 0)] (va_up M β m) := by
  unfold f_X11_goes_J12 at h
  obtain ⟨m48, em48, h⟩ := mj_b1_o h
  refine mj_callV0 (av := [.inl s0]) C lM_X11_58 lV_X11_more (sM0 hB) ⟨_, rfl, rfl⟩ rfl (C_X11_more hB em48) (mj_rmok hR (by decide) (by decide)) rfl (Nat.le_of_ble_eq_true rfl) dX11_goes_12 ?_
  refine mj_aload_n C dX11_goes_15 rfl ?_
  refine mj_iload_n C dX11_goes_16 rfl ?_
  obtain ⟨r50, m51, em51, h⟩ := mj_b2_o h
  refine mj_callV1 (av := [.inl l1]) C lM_X11_145 lV_X11_isFated (sM0 hB) ⟨_, rfl, rfl⟩ rfl (C_X11_isFated hB em51) (mj_rmok hR (by decide) (by decide)) rfl (Nat.le_of_ble_eq_true rfl) dX11_goes_17 (fun hb52 => ?_)
  refine mj_istore_n (L2 := [some (mj_r (β, 0)), some (.inl l1), some (.inl r50), none, none, none, none]) C dX11_goes_20 (Nat.le_of_ble_eq_true rfl) rfl ?_
  refine mj_iload_n C dX11_goes_21 rfl ?_
  refine mj_if_eq (tgt := 29) C dX11_goes_22 (by decide) (fun c53 => ?_) (fun c53 => ?_)
  · replace h := mj_if_t c53 h
    refine mj_aload_n C dX11_goes_29 rfl ?_
    refine mj_bipush (v := 100) C dX11_goes_30 (by decide) ?_
    obtain ⟨r54, m55, em55, h⟩ := mj_b2_o h
    refine mj_callV1 (av := [.inl 100]) C lM_X11_149 lV_X11_draw (sM0 hB) ⟨_, rfl, rfl⟩ rfl (C_X11_draw hB em55) (mj_rmok hR (by decide) (by decide)) rfl (Nat.le_of_ble_eq_true rfl) dX11_goes_32 (fun hb56 => ?_)
    refine mj_sub (L' := [some (mj_r (β, 0)), some (.inl l1), some (.inl r50), none, none, none, none]) ⟨rfl, ⟨rfl, ⟨rfl, trivial⟩⟩⟩ ?_
    exact C_X11_goes_J35 C hB hR hT h
  · replace h := mj_if_f c53 h
    refine mj_iconst (v := 0) C dX11_goes_25 (by decide) ?_
    refine mj_goto (tgt := 35) C dX11_goes_26 (by decide) ?_
    refine mj_sub (L' := [some (mj_r (β, 0)), some (.inl l1), some (.inl r50), none, none, none, none]) ⟨rfl, ⟨rfl, ⟨rfl, trivial⟩⟩⟩ ?_
    exact C_X11_goes_J35 C hB hR hT h
def f_X11_goes (a1 : Int32) (m : mj_m) : Option (mj_m) := if a1 = 0 then (f_X11_goes_J12 a1 36 m) else (f_X11_goes_J12 a1 35 m)
set_option maxHeartbeats 4000000 in
set_option maxRecDepth 20000 in
theorem C_X11_goes {G : mj_G} {β : Nat} {M : mj_M} {a1 : Int32} {m : mj_m} {m0 : mj_m} (hB : mj_isM G β) (h : f_X11_goes a1 m = some m0) : mj_S1 yX11_goes cX11_goes 7 none 3 G [mj_r (β, 0), .inl a1] (va_up M β m) none (va_up M β m0) := by
  refine mj_intro (by decide) (Nat.le_of_ble_eq_true rfl) ?_
  intro κ C hG hR hT
  subst hG
  have C : mj_C κ cX11_goes 7 RX11 := C
  show mj_R κ (mj_F κ (fun r M' => r = none ∧ M' = (va_up M β m0) ∧ mj_bb none none)) 0 [some (mj_r (β, 0)), some (.inl a1), none, none, none, none, none] [] (va_up M β m)
  unfold f_X11_goes at h
  refine mj_aload_n C dX11_goes_0 rfl ?_
  refine mj_iload_n C dX11_goes_1 rfl ?_
  refine mj_if_eq (tgt := 10) C dX11_goes_2 (by decide) (fun c57 => ?_) (fun c57 => ?_)
  · replace h := mj_if_t c57 h
    refine mj_bipush (v := 36) C dX11_goes_10 (by decide) ?_
    refine mj_sub (L' := [some (mj_r (β, 0)), some (.inl a1), none, none, none, none, none]) ⟨rfl, ⟨rfl, trivial⟩⟩ ?_
    exact C_X11_goes_J12 C hB hR hT h
  · replace h := mj_if_f c57 h
    refine mj_bipush (v := 35) C dX11_goes_5 (by decide) ?_
    refine mj_goto (tgt := 12) C dX11_goes_7 (by decide) ?_
    refine mj_sub (L' := [some (mj_r (β, 0)), some (.inl a1), none, none, none, none, none]) ⟨rfl, ⟨rfl, trivial⟩⟩ ?_
    exact C_X11_goes_J12 C hB hR hT h
def f_X11_goesFrame (a1 : Int32) (a2 : Int32) (a3 : Int32) (a4 : Int32) (a5 : Int32) (m : mj_m) : Option (mj_m) := mj_let (mj_wrs m 0 4 (a5 + 1)) (fun m1 => mj_let (mj_wrs m1 3 0 a1) (fun m2 => mj_let (mj_wrs m2 3 1 a2) (fun m3 => mj_let (mj_wrs m3 3 2 a3) (fun m4 => mj_let (mj_wrs m4 3 3 a4) (fun m5 => mj_let (f_X11_round ((((a1 + a2) + a3) + a4) + 85)) (fun r6 => mj_let (mj_wrs m5 3 4 r6) (fun m8 => mj_b1 (f_X11_goes 1 m8) (fun m9 => some m9))))))))
set_option maxHeartbeats 4000000 in
set_option maxRecDepth 20000 in
theorem C_X11_goesFrame {G : mj_G} {β : Nat} {M : mj_M} {a1 : Int32} {a2 : Int32} {a3 : Int32} {a4 : Int32} {a5 : Int32} {m : mj_m} {m0 : mj_m} (hB : mj_isM G β) (h : f_X11_goesFrame a1 a2 a3 a4 a5 m = some m0) : mj_S1 yX11_goesFrame cX11_goesFrame 6 none 4 G [mj_r (β, 0), .inl a1, .inl a2, .inl a3, .inl a4, .inl a5] (va_up M β m) none (va_up M β m0) := by
  refine mj_intro (by decide) (Nat.le_of_ble_eq_true rfl) ?_
  intro κ C hG hR hT
  subst hG
  have C : mj_C κ cX11_goesFrame 6 RX11 := C
  show mj_R κ (mj_F κ (fun r M' => r = none ∧ M' = (va_up M β m0) ∧ mj_bb none none)) 0 [some (mj_r (β, 0)), some (.inl a1), some (.inl a2), some (.inl a3), some (.inl a4), some (.inl a5)] [] (va_up M β m)
  unfold f_X11_goesFrame at h
  refine mj_aload_n C dX11_goesFrame_0 rfl ?_
  refine mj_iload C dX11_goesFrame_1 rfl ?_
  refine mj_iconst (v := 1) C dX11_goesFrame_3 (by decide) ?_
  refine mj_iadd C dX11_goesFrame_4 ?_
  obtain ⟨m1, hm1, h⟩ := mj_let_o h
  refine mj_bput C lF_X11_158 fP_12_4 (vp_nar_int _) rfl (sM0 hB) rfl dX11_goesFrame_5 hm1 ?_
  refine mj_aload_n C dX11_goesFrame_8 rfl ?_
  refine mj_getr (r := (β, 3)) C lF_X11_16 (sM0 hB) rfl dX11_goesFrame_9 ?_
  refine mj_iconst (v := 0) C dX11_goesFrame_12 (by decide) ?_
  refine mj_iload_n C dX11_goesFrame_13 rfl ?_
  obtain ⟨m2, hm2, h⟩ := mj_let_o h
  refine mj_bast C (sM3 hB) (mj_okn 0 5 (Nat.le_of_ble_eq_true rfl) (Nat.le_of_ble_eq_true rfl)) (mj_cln 0 (Nat.le_of_ble_eq_true rfl)) dX11_goesFrame_14 hm2 ?_
  refine mj_aload_n C dX11_goesFrame_15 rfl ?_
  refine mj_getr (r := (β, 3)) C lF_X11_16 (sM0 hB) rfl dX11_goesFrame_16 ?_
  refine mj_iconst (v := 1) C dX11_goesFrame_19 (by decide) ?_
  refine mj_iload_n C dX11_goesFrame_20 rfl ?_
  obtain ⟨m3, hm3, h⟩ := mj_let_o h
  refine mj_bast C (sM3 hB) (mj_okn 1 5 (Nat.le_of_ble_eq_true rfl) (Nat.le_of_ble_eq_true rfl)) (mj_cln 1 (Nat.le_of_ble_eq_true rfl)) dX11_goesFrame_21 hm3 ?_
  refine mj_aload_n C dX11_goesFrame_22 rfl ?_
  refine mj_getr (r := (β, 3)) C lF_X11_16 (sM0 hB) rfl dX11_goesFrame_23 ?_
  refine mj_iconst (v := 2) C dX11_goesFrame_26 (by decide) ?_
  refine mj_iload_n C dX11_goesFrame_27 rfl ?_
  obtain ⟨m4, hm4, h⟩ := mj_let_o h
  refine mj_bast C (sM3 hB) (mj_okn 2 5 (Nat.le_of_ble_eq_true rfl) (Nat.le_of_ble_eq_true rfl)) (mj_cln 2 (Nat.le_of_ble_eq_true rfl)) dX11_goesFrame_28 hm4 ?_
  refine mj_aload_n C dX11_goesFrame_29 rfl ?_
  refine mj_getr (r := (β, 3)) C lF_X11_16 (sM0 hB) rfl dX11_goesFrame_30 ?_
  refine mj_iconst (v := 3) C dX11_goesFrame_33 (by decide) ?_
  refine mj_iload C dX11_goesFrame_34 rfl ?_
  obtain ⟨m5, hm5, h⟩ := mj_let_o h
  refine mj_bast C (sM3 hB) (mj_okn 3 5 (Nat.le_of_ble_eq_true rfl) (Nat.le_of_ble_eq_true rfl)) (mj_cln 3 (Nat.le_of_ble_eq_true rfl)) dX11_goesFrame_36 hm5 ?_
  refine mj_aload_n C dX11_goesFrame_37 rfl ?_
  refine mj_getr (r := (β, 3)) C lF_X11_16 (sM0 hB) rfl dX11_goesFrame_38 ?_
  refine mj_iconst (v := 4) C dX11_goesFrame_41 (by decide) ?_
  refine mj_aload_n C dX11_goesFrame_42 rfl ?_
  refine mj_iload_n C dX11_goesFrame_43 rfl ?_
  refine mj_iload_n C dX11_goesFrame_44 rfl ?_
  refine mj_iadd C dX11_goesFrame_45 ?_
  refine mj_iload_n C dX11_goesFrame_46 rfl ?_
  refine mj_iadd C dX11_goesFrame_47 ?_
  refine mj_iload C dX11_goesFrame_48 rfl ?_
  refine mj_iadd C dX11_goesFrame_50 ?_
  refine mj_bipush (v := 85) C dX11_goesFrame_51 (by decide) ?_
  refine mj_iadd C dX11_goesFrame_53 ?_
  obtain ⟨r6, er6, h⟩ := mj_let_o h
  refine mj_callV1 (av := [.inl ((((a1 + a2) + a3) + a4) + 85)]) C lM_X11_155 lV_X11_round (sM0 hB) ⟨_, rfl, rfl⟩ rfl (C_X11_round hB er6) (mj_rmok hR (by decide) (by decide)) rfl (Nat.le_of_ble_eq_true rfl) dX11_goesFrame_54 (fun hb7 => ?_)
  obtain ⟨m8, hm8, h⟩ := mj_let_o h
  refine mj_bast C (sM3 hB) (mj_okn 4 5 (Nat.le_of_ble_eq_true rfl) (Nat.le_of_ble_eq_true rfl)) (mj_cln 4 (Nat.le_of_ble_eq_true rfl)) dX11_goesFrame_57 hm8 ?_
  refine mj_aload_n C dX11_goesFrame_58 rfl ?_
  refine mj_iconst (v := 1) C dX11_goesFrame_59 (by decide) ?_
  obtain ⟨m9, em9, h⟩ := mj_b1_o h
  refine mj_callV0 (av := [.inl 1]) C lM_X11_161 lV_X11_goes (sM0 hB) ⟨_, rfl, rfl⟩ rfl (C_X11_goes hB em9) (mj_rmok hR (by decide) (by decide)) rfl (Nat.le_of_ble_eq_true rfl) dX11_goesFrame_60 ?_
  cases h
  exact mj_vret C hT dX11_goesFrame_63 ⟨rfl, rfl, mj_bv _⟩
def f_X11_comes_L33 (l1 : Int32) : Nat → Int32 → mj_m → Option (mj_m)
  | 0, _, _ => none
  | n + 1, l2, m => mj_let (f_X11_byteMany l1) (fun r1 => if r1 ≤ l2 then (some m) else (mj_let (f_X11_wayAt l1 0) (fun r4 => mj_chk (mj_ok ((r4 + 1) + l2) 1897) (mj_chk (mj_ok l2 5) (mj_let (mj_wrs m 3 (mj_cl l2) (m 1 (mj_cl ((r4 + 1) + l2)))) (fun m8 => mj_let (l2 + 1) (fun x9 => f_X11_comes_L33 l1 n x9 m8)))))))
set_option maxHeartbeats 4000000 in
set_option maxRecDepth 20000 in
theorem C_X11_comes_L33 {κ : mj_K} {Q : State → Prop} {β : Nat} {M : mj_M} {l1 : Int32} (C : mj_C κ cX11_comes 3 RX11) (hB : mj_isM (mj_g κ) β) (hR : mj_dp κ 2) : ∀ (n : Nat) (l2 : Int32) (m : mj_m) (mo : mj_m), f_X11_comes_L33 l1 n l2 m = some mo → (mj_R κ Q 69 [some (mj_r (β, 0)), some (.inl l1), none] [] (va_up M β mo)) → mj_R κ Q 33 [some (mj_r (β, 0)), some (.inl l1), some (.inl l2)] [] (va_up M β m) := by
  intro n
  induction n with
  | zero =>
    intro l2 m mo h
    cases h
  | succ n ih =>
    intro l2 m mo h hx69
    rw [f_X11_comes_L33] at h
    refine mj_iload_n C dX11_comes_33 rfl ?_
    refine mj_aload_n C dX11_comes_34 rfl ?_
    refine mj_iload_n C dX11_comes_35 rfl ?_
    obtain ⟨r1, er1, h⟩ := mj_let_o h
    refine mj_callV1 (av := [.inl l1]) C lM_X11_152 lV_X11_byteMany (sM0 hB) ⟨_, rfl, rfl⟩ rfl (C_X11_byteMany hB er1) (mj_rmok hR (by decide) (by decide)) rfl (Nat.le_of_ble_eq_true rfl) dX11_comes_36 (fun hb2 => ?_)
    refine mj_icmp_ge (tgt := 69) C dX11_comes_39 (by decide) (fun c3 => ?_) (fun c3 => ?_)
    · replace h := mj_if_t c3 h
      cases h
      refine mj_sub ?_ (hx69)
      exact ⟨rfl, ⟨rfl, trivial⟩⟩
    · replace h := mj_if_f c3 h
      refine mj_aload_n C dX11_comes_42 rfl ?_
      refine mj_getr (r := (β, 3)) C lF_X11_16 (sM0 hB) rfl dX11_comes_43 ?_
      refine mj_iload_n C dX11_comes_46 rfl ?_
      refine mj_aload_n C dX11_comes_47 rfl ?_
      refine mj_getr (r := (β, 1)) C lF_X11_7 (sM0 hB) rfl dX11_comes_48 ?_
      refine mj_aload_n C dX11_comes_51 rfl ?_
      refine mj_iload_n C dX11_comes_52 rfl ?_
      refine mj_iconst (v := 0) C dX11_comes_53 (by decide) ?_
      obtain ⟨r4, er4, h⟩ := mj_let_o h
      refine mj_callV1 (av := [.inl l1, .inl 0]) C lM_X11_129 lV_X11_wayAt (sM0 hB) ⟨_, rfl, rfl⟩ rfl (C_X11_wayAt hB er4) (mj_rmok hR (by decide) (by decide)) rfl (Nat.le_of_ble_eq_true rfl) dX11_comes_54 (fun hb5 => ?_)
      refine mj_iconst (v := 1) C dX11_comes_57 (by decide) ?_
      refine mj_iadd C dX11_comes_58 ?_
      refine mj_iload_n C dX11_comes_59 rfl ?_
      refine mj_iadd C dX11_comes_60 ?_
      obtain ⟨k6, h⟩ := mj_chk_o h
      refine mj_bald C (sM1 hB) k6 rfl dX11_comes_61 ?_
      obtain ⟨k7, h⟩ := mj_chk_o h
      obtain ⟨m8, hm8, h⟩ := mj_let_o h
      refine mj_bast C (sM3 hB) k7 rfl dX11_comes_62 hm8 ?_
      obtain ⟨x9, hx9, h⟩ := mj_let_o h
      refine mj_iinc (L2 := [some (mj_r (β, 0)), some (.inl l1), some (.inl x9)]) C dX11_comes_63 rfl hx9 rfl ?_
      refine mj_goto (tgt := 33) C dX11_comes_66 (by decide) ?_
      refine mj_sub (L' := [some (mj_r (β, 0)), some (.inl l1), some (.inl x9)]) ⟨rfl, ⟨rfl, ⟨rfl, trivial⟩⟩⟩ ?_
      exact ih _ _ _ h hx69
def f_X11_comes (a1 : Int32) (m : mj_m) : Option (Int32 × mj_m) := mj_let (f_X11_wayMany a1 m) (fun r10 => if r10 = 0 then (some (0, m)) else (mj_let (f_X11_wayAt a1 0) (fun r13 => mj_chk (mj_ok r13 1897) (if m 1 (mj_cl r13) ≤ m 1 11 then (mj_b1 (f_X11_comes_L33 a1 mj_fu 0 m) (fun m17 => if a1 = 0 then (mj_b1 (f_X11_drops a1 0 m17) (fun m20 => some (1, m20))) else (mj_let (f_X11_wayAt a1 0) (fun r22 => mj_chk (mj_ok ((r22 + 1) + 5) 1897) (mj_let (mj_wrs m17 0 4 (m17 1 (mj_cl ((r22 + 1) + 5)))) (fun m25 => mj_b1 (f_X11_drops a1 0 m25) (fun m26 => some (1, m26)))))))) else (some (0, m))))))
set_option maxHeartbeats 4000000 in
set_option maxRecDepth 20000 in
theorem C_X11_comes {G : mj_G} {β : Nat} {M : mj_M} {a1 : Int32} {m : mj_m} {x0 : Int32} {m0 : mj_m} (hB : mj_isM G β) (h : f_X11_comes a1 m = some (x0, m0)) : mj_S1 yX11_comes cX11_comes 3 (some .boolean) 2 G [mj_r (β, 0), .inl a1] (va_up M β m) (some (.inl x0)) (va_up M β m0) := by
  refine mj_intro (by decide) (Nat.le_of_ble_eq_true rfl) ?_
  intro κ C hG hR hT
  subst hG
  have C : mj_C κ cX11_comes 3 RX11 := C
  show mj_R κ (mj_F κ (fun r M' => r = (some (.inl x0)) ∧ M' = (va_up M β m0) ∧ mj_bb (some .boolean) (some (.inl x0)))) 0 [some (mj_r (β, 0)), some (.inl a1), none] [] (va_up M β m)
  unfold f_X11_comes at h
  refine mj_aload_n C dX11_comes_0 rfl ?_
  refine mj_iload_n C dX11_comes_1 rfl ?_
  obtain ⟨r10, er10, h⟩ := mj_let_o h
  refine mj_callV1 (av := [.inl a1]) C lM_X11_125 lV_X11_wayMany (sM0 hB) ⟨_, rfl, rfl⟩ rfl (C_X11_wayMany hB er10) (mj_rmok hR (by decide) (by decide)) rfl (Nat.le_of_ble_eq_true rfl) dX11_comes_2 (fun hb11 => ?_)
  refine mj_if_eq (tgt := 29) C dX11_comes_5 (by decide) (fun c12 => ?_) (fun c12 => ?_)
  · replace h := mj_if_t c12 h
    refine mj_iconst (v := 0) C dX11_comes_29 (by decide) ?_
    cases h
    exact mj_iret C hT (mj_nb mj_b0) dX11_comes_30 ⟨rfl, rfl, mj_b0⟩
  · replace h := mj_if_f c12 h
    refine mj_aload_n C dX11_comes_8 rfl ?_
    refine mj_getr (r := (β, 1)) C lF_X11_7 (sM0 hB) rfl dX11_comes_9 ?_
    refine mj_aload_n C dX11_comes_12 rfl ?_
    refine mj_iload_n C dX11_comes_13 rfl ?_
    refine mj_iconst (v := 0) C dX11_comes_14 (by decide) ?_
    obtain ⟨r13, er13, h⟩ := mj_let_o h
    refine mj_callV1 (av := [.inl a1, .inl 0]) C lM_X11_129 lV_X11_wayAt (sM0 hB) ⟨_, rfl, rfl⟩ rfl (C_X11_wayAt hB er13) (mj_rmok hR (by decide) (by decide)) rfl (Nat.le_of_ble_eq_true rfl) dX11_comes_15 (fun hb14 => ?_)
    obtain ⟨k15, h⟩ := mj_chk_o h
    refine mj_bald C (sM1 hB) k15 rfl dX11_comes_18 ?_
    refine mj_aload_n C dX11_comes_19 rfl ?_
    refine mj_getr (r := (β, 1)) C lF_X11_7 (sM0 hB) rfl dX11_comes_20 ?_
    refine mj_bipush (v := 11) C dX11_comes_23 (by decide) ?_
    refine mj_bald C (sM1 hB) (mj_okn 11 1897 (Nat.le_of_ble_eq_true rfl) (Nat.le_of_ble_eq_true rfl)) (mj_cln 11 (Nat.le_of_ble_eq_true rfl)) dX11_comes_25 ?_
    refine mj_icmp_le (tgt := 31) C dX11_comes_26 (by decide) (fun c16 => ?_) (fun c16 => ?_)
    · replace h := mj_if_t c16 h
      refine mj_iconst (v := 0) C dX11_comes_31 (by decide) ?_
      refine mj_istore_n (L2 := [some (mj_r (β, 0)), some (.inl a1), some (.inl 0)]) C dX11_comes_32 (Nat.le_of_ble_eq_true rfl) rfl ?_
      obtain ⟨m17, hl18, h⟩ := mj_b1_o h
      refine mj_sub (L' := [some (mj_r (β, 0)), some (.inl a1), some (.inl 0)]) ⟨rfl, ⟨rfl, ⟨rfl, trivial⟩⟩⟩ ?_
      refine C_X11_comes_L33 C hB hR _ _ _ _ hl18 ?_
      refine mj_iload_n C dX11_comes_69 rfl ?_
      refine mj_if_eq (tgt := 92) C dX11_comes_70 (by decide) (fun c19 => ?_) (fun c19 => ?_)
      · replace h := mj_if_t c19 h
        refine mj_aload_n C dX11_comes_92 rfl ?_
        refine mj_iload_n C dX11_comes_93 rfl ?_
        refine mj_iconst (v := 0) C dX11_comes_94 (by decide) ?_
        obtain ⟨m20, em20, h⟩ := mj_b1_o h
        refine mj_callV0 (av := [.inl a1, .inl 0]) C lM_X11_165 lV_X11_drops (sM0 hB) ⟨_, rfl, rfl⟩ rfl (C_X11_drops hB em20) (mj_rmok hR (by decide) (by decide)) rfl (Nat.le_of_ble_eq_true rfl) dX11_comes_95 ?_
        refine mj_iconst (v := 1) C dX11_comes_98 (by decide) ?_
        cases h
        exact mj_iret C hT (mj_nb mj_b1') dX11_comes_99 ⟨rfl, rfl, mj_b1'⟩
      · replace h := mj_if_f c19 h
        refine mj_aload_n C dX11_comes_73 rfl ?_
        refine mj_aload_n C dX11_comes_74 rfl ?_
        refine mj_getr (r := (β, 1)) C lF_X11_7 (sM0 hB) rfl dX11_comes_75 ?_
        refine mj_aload_n C dX11_comes_78 rfl ?_
        refine mj_iload_n C dX11_comes_79 rfl ?_
        refine mj_iconst (v := 0) C dX11_comes_80 (by decide) ?_
        obtain ⟨r22, er22, h⟩ := mj_let_o h
        refine mj_callV1 (av := [.inl a1, .inl 0]) C lM_X11_129 lV_X11_wayAt (sM0 hB) ⟨_, rfl, rfl⟩ rfl (C_X11_wayAt hB er22) (mj_rmok hR (by decide) (by decide)) rfl (Nat.le_of_ble_eq_true rfl) dX11_comes_81 (fun hb23 => ?_)
        refine mj_iconst (v := 1) C dX11_comes_84 (by decide) ?_
        refine mj_iadd C dX11_comes_85 ?_
        refine mj_iconst (v := 5) C dX11_comes_86 (by decide) ?_
        refine mj_iadd C dX11_comes_87 ?_
        obtain ⟨k24, h⟩ := mj_chk_o h
        refine mj_bald C (sM1 hB) k24 rfl dX11_comes_88 ?_
        obtain ⟨m25, hm25, h⟩ := mj_let_o h
        refine mj_bput C lF_X11_158 fP_12_4 (vp_nar_int _) rfl (sM0 hB) rfl dX11_comes_89 hm25 ?_
        refine mj_aload_n C dX11_comes_92 rfl ?_
        refine mj_iload_n C dX11_comes_93 rfl ?_
        refine mj_iconst (v := 0) C dX11_comes_94 (by decide) ?_
        obtain ⟨m26, em26, h⟩ := mj_b1_o h
        refine mj_callV0 (av := [.inl a1, .inl 0]) C lM_X11_165 lV_X11_drops (sM0 hB) ⟨_, rfl, rfl⟩ rfl (C_X11_drops hB em26) (mj_rmok hR (by decide) (by decide)) rfl (Nat.le_of_ble_eq_true rfl) dX11_comes_95 ?_
        refine mj_iconst (v := 1) C dX11_comes_98 (by decide) ?_
        cases h
        exact mj_iret C hT (mj_nb mj_b1') dX11_comes_99 ⟨rfl, rfl, mj_b1'⟩
    · replace h := mj_if_f c16 h
      refine mj_iconst (v := 0) C dX11_comes_29 (by decide) ?_
      cases h
      exact mj_iret C hT (mj_nb mj_b0) dX11_comes_30 ⟨rfl, rfl, mj_b0⟩
def f_X11_isOnWay (a1 : Int32) (a2 : Int32) (m : mj_m) : Int32 := if a2 < 0 then (0) else (mj_let (f_X11_wayMany a1 m) (fun r2 => if r2 ≤ a2 then (0) else (1)))
set_option maxHeartbeats 4000000 in
set_option maxRecDepth 20000 in
theorem C_X11_isOnWay {G : mj_G} {β : Nat} {M : mj_M} {a1 : Int32} {a2 : Int32} {m : mj_m} {x0 : Int32} (hB : mj_isM G β) (h : f_X11_isOnWay a1 a2 m = x0) : mj_S1 yX11_isOnWay cX11_isOnWay 3 (some .boolean) 1 G [mj_r (β, 0), .inl a1, .inl a2] (va_up M β m) (some (.inl x0)) (va_up M β m) := by
  refine mj_intro (by decide) (Nat.le_of_ble_eq_true rfl) ?_
  intro κ C hG hR hT
  subst hG
  have C : mj_C κ cX11_isOnWay 3 RX11 := C
  show mj_R κ (mj_F κ (fun r M' => r = (some (.inl x0)) ∧ M' = (va_up M β m) ∧ mj_bb (some .boolean) (some (.inl x0)))) 0 [some (mj_r (β, 0)), some (.inl a1), some (.inl a2)] [] (va_up M β m)
  unfold f_X11_isOnWay at h
  refine mj_iload_n C dX11_isOnWay_0 rfl ?_
  refine mj_if_lt (tgt := 17) C dX11_isOnWay_1 (by decide) (fun c1 => ?_) (fun c1 => ?_)
  · replace h := mj_if_t c1 h
    refine mj_iconst (v := 0) C dX11_isOnWay_17 (by decide) ?_
    cases h
    exact mj_iret C hT (mj_nb mj_b0) dX11_isOnWay_18 ⟨rfl, rfl, mj_b0⟩
  · replace h := mj_if_f c1 h
    refine mj_iload_n C dX11_isOnWay_4 rfl ?_
    refine mj_aload_n C dX11_isOnWay_5 rfl ?_
    refine mj_iload_n C dX11_isOnWay_6 rfl ?_
    obtain ⟨r2, er2, h⟩ := mj_let_o h
    refine mj_callV1 (av := [.inl a1]) C lM_X11_125 lV_X11_wayMany (sM0 hB) ⟨_, rfl, rfl⟩ rfl (C_X11_wayMany hB er2) (mj_rmok hR (by decide) (by decide)) rfl (Nat.le_of_ble_eq_true rfl) dX11_isOnWay_7 (fun hb3 => ?_)
    refine mj_icmp_ge (tgt := 17) C dX11_isOnWay_10 (by decide) (fun c4 => ?_) (fun c4 => ?_)
    · replace h := mj_if_t c4 h
      refine mj_iconst (v := 0) C dX11_isOnWay_17 (by decide) ?_
      cases h
      exact mj_iret C hT (mj_nb mj_b0) dX11_isOnWay_18 ⟨rfl, rfl, mj_b0⟩
    · replace h := mj_if_f c4 h
      refine mj_iconst (v := 1) C dX11_isOnWay_13 (by decide) ?_
      refine mj_goto (tgt := 18) C dX11_isOnWay_14 (by decide) ?_
      cases h
      exact mj_iret C hT (mj_nb mj_b1') dX11_isOnWay_18 ⟨rfl, rfl, mj_b1'⟩
def f_X11_drop (a1 : Int32) (a2 : Int32) (m : mj_m) : Option (Int32 × mj_m) := mj_let (mj_wrs m 0 0 0) (fun m1 => mj_let (f_X11_isOnWay a1 a2 m1) (fun r2 => if r2 = 0 then (some (0, m1)) else (mj_b1 (f_X11_drops a1 a2 m1) (fun m5 => some (1, m5)))))
set_option maxHeartbeats 4000000 in
set_option maxRecDepth 20000 in
theorem C_X11_drop {G : mj_G} {β : Nat} {M : mj_M} {a1 : Int32} {a2 : Int32} {m : mj_m} {x0 : Int32} {m0 : mj_m} (hB : mj_isM G β) (h : f_X11_drop a1 a2 m = some (x0, m0)) : mj_S1 yX11_drop cX11_drop 3 (some .boolean) 2 G [mj_r (β, 0), .inl a1, .inl a2] (va_up M β m) (some (.inl x0)) (va_up M β m0) := by
  refine mj_intro (by decide) (Nat.le_of_ble_eq_true rfl) ?_
  intro κ C hG hR hT
  subst hG
  have C : mj_C κ cX11_drop 3 RX11 := C
  show mj_R κ (mj_F κ (fun r M' => r = (some (.inl x0)) ∧ M' = (va_up M β m0) ∧ mj_bb (some .boolean) (some (.inl x0)))) 0 [some (mj_r (β, 0)), some (.inl a1), some (.inl a2)] [] (va_up M β m)
  unfold f_X11_drop at h
  refine mj_aload_n C dX11_drop_0 rfl ?_
  refine mj_iconst (v := 0) C dX11_drop_1 (by decide) ?_
  obtain ⟨m1, hm1, h⟩ := mj_let_o h
  refine mj_bput C lF_X11_41 fP_12_0 (vp_nar_int _) rfl (sM0 hB) rfl dX11_drop_2 hm1 ?_
  refine mj_aload_n C dX11_drop_5 rfl ?_
  refine mj_iload_n C dX11_drop_6 rfl ?_
  refine mj_iload_n C dX11_drop_7 rfl ?_
  obtain ⟨r2, er2, h⟩ := mj_let_o h
  refine mj_callV1 (av := [.inl a1, .inl a2]) C lM_X11_169 lV_X11_isOnWay (sM0 hB) ⟨_, rfl, rfl⟩ rfl (C_X11_isOnWay hB er2) (mj_rmok hR (by decide) (by decide)) rfl (Nat.le_of_ble_eq_true rfl) dX11_drop_8 (fun hb3 => ?_)
  refine mj_if_ne (tgt := 16) C dX11_drop_11 (by decide) (fun c4 => ?_) (fun c4 => ?_)
  · replace h := mj_if_f c4 h
    refine mj_aload_n C dX11_drop_16 rfl ?_
    refine mj_iload_n C dX11_drop_17 rfl ?_
    refine mj_iload_n C dX11_drop_18 rfl ?_
    obtain ⟨m5, em5, h⟩ := mj_b1_o h
    refine mj_callV0 (av := [.inl a1, .inl a2]) C lM_X11_165 lV_X11_drops (sM0 hB) ⟨_, rfl, rfl⟩ rfl (C_X11_drops hB em5) (mj_rmok hR (by decide) (by decide)) rfl (Nat.le_of_ble_eq_true rfl) dX11_drop_19 ?_
    refine mj_iconst (v := 1) C dX11_drop_22 (by decide) ?_
    cases h
    exact mj_iret C hT (mj_nb mj_b1') dX11_drop_23 ⟨rfl, rfl, mj_b1'⟩
  · replace h := mj_if_t c4 h
    refine mj_iconst (v := 0) C dX11_drop_14 (by decide) ?_
    cases h
    exact mj_iret C hT (mj_nb mj_b0) dX11_drop_15 ⟨rfl, rfl, mj_b0⟩
def f_X11_spoil (a1 : Int32) (a2 : Int32) (a3 : Int32) (a4 : Int32) (m : mj_m) : Option (Int32 × mj_m) := mj_let (mj_wrs m 0 0 0) (fun m1 => mj_let (f_X11_isOnWay a1 a2 m1) (fun r2 => if r2 = 0 then (some (0, m1)) else (mj_let (f_X11_byteMany a1) (fun r5 => mj_let (f_X11_isIn a3 0 (r5 - 1)) (fun r7 => if r7 = 0 then (some (0, m1)) else (mj_let (f_X11_isIn a4 0 255) (fun r10 => if r10 = 0 then (some (0, m1)) else (mj_let (f_X11_wayAt a1 a2) (fun r13 => mj_chk (mj_ok ((r13 + 1) + a3) 1897) (mj_let (mj_wrs m1 1 (mj_cl ((r13 + 1) + a3)) a4) (fun m16 => some (1, m16))))))))))))
set_option maxHeartbeats 4000000 in
set_option maxRecDepth 20000 in
theorem C_X11_spoil {G : mj_G} {β : Nat} {M : mj_M} {a1 : Int32} {a2 : Int32} {a3 : Int32} {a4 : Int32} {m : mj_m} {x0 : Int32} {m0 : mj_m} (hB : mj_isM G β) (h : f_X11_spoil a1 a2 a3 a4 m = some (x0, m0)) : mj_S1 yX11_spoil cX11_spoil 5 (some .boolean) 2 G [mj_r (β, 0), .inl a1, .inl a2, .inl a3, .inl a4] (va_up M β m) (some (.inl x0)) (va_up M β m0) := by
  refine mj_intro (by decide) (Nat.le_of_ble_eq_true rfl) ?_
  intro κ C hG hR hT
  subst hG
  have C : mj_C κ cX11_spoil 5 RX11 := C
  show mj_R κ (mj_F κ (fun r M' => r = (some (.inl x0)) ∧ M' = (va_up M β m0) ∧ mj_bb (some .boolean) (some (.inl x0)))) 0 [some (mj_r (β, 0)), some (.inl a1), some (.inl a2), some (.inl a3), some (.inl a4)] [] (va_up M β m)
  unfold f_X11_spoil at h
  refine mj_aload_n C dX11_spoil_0 rfl ?_
  refine mj_iconst (v := 0) C dX11_spoil_1 (by decide) ?_
  obtain ⟨m1, hm1, h⟩ := mj_let_o h
  refine mj_bput C lF_X11_41 fP_12_0 (vp_nar_int _) rfl (sM0 hB) rfl dX11_spoil_2 hm1 ?_
  refine mj_aload_n C dX11_spoil_5 rfl ?_
  refine mj_iload_n C dX11_spoil_6 rfl ?_
  refine mj_iload_n C dX11_spoil_7 rfl ?_
  obtain ⟨r2, er2, h⟩ := mj_let_o h
  refine mj_callV1 (av := [.inl a1, .inl a2]) C lM_X11_169 lV_X11_isOnWay (sM0 hB) ⟨_, rfl, rfl⟩ rfl (C_X11_isOnWay hB er2) (mj_rmok hR (by decide) (by decide)) rfl (Nat.le_of_ble_eq_true rfl) dX11_spoil_8 (fun hb3 => ?_)
  refine mj_if_eq (tgt := 43) C dX11_spoil_11 (by decide) (fun c4 => ?_) (fun c4 => ?_)
  · replace h := mj_if_t c4 h
    refine mj_iconst (v := 0) C dX11_spoil_43 (by decide) ?_
    cases h
    exact mj_iret C hT (mj_nb mj_b0) dX11_spoil_44 ⟨rfl, rfl, mj_b0⟩
  · replace h := mj_if_f c4 h
    refine mj_aload_n C dX11_spoil_14 rfl ?_
    refine mj_iload_n C dX11_spoil_15 rfl ?_
    refine mj_iconst (v := 0) C dX11_spoil_16 (by decide) ?_
    refine mj_aload_n C dX11_spoil_17 rfl ?_
    refine mj_iload_n C dX11_spoil_18 rfl ?_
    obtain ⟨r5, er5, h⟩ := mj_let_o h
    refine mj_callV1 (av := [.inl a1]) C lM_X11_152 lV_X11_byteMany (sM0 hB) ⟨_, rfl, rfl⟩ rfl (C_X11_byteMany hB er5) (mj_rmok hR (by decide) (by decide)) rfl (Nat.le_of_ble_eq_true rfl) dX11_spoil_19 (fun hb6 => ?_)
    refine mj_iconst (v := 1) C dX11_spoil_22 (by decide) ?_
    refine mj_isub C dX11_spoil_23 ?_
    obtain ⟨r7, er7, h⟩ := mj_let_o h
    refine mj_callV1 (av := [.inl a3, .inl 0, .inl (r5 - 1)]) C lM_X11_48 lV_X11_isIn (sM0 hB) ⟨_, rfl, rfl⟩ rfl (C_X11_isIn hB er7) (mj_rmok hR (by decide) (by decide)) rfl (Nat.le_of_ble_eq_true rfl) dX11_spoil_24 (fun hb8 => ?_)
    refine mj_if_eq (tgt := 43) C dX11_spoil_27 (by decide) (fun c9 => ?_) (fun c9 => ?_)
    · replace h := mj_if_t c9 h
      refine mj_iconst (v := 0) C dX11_spoil_43 (by decide) ?_
      cases h
      exact mj_iret C hT (mj_nb mj_b0) dX11_spoil_44 ⟨rfl, rfl, mj_b0⟩
    · replace h := mj_if_f c9 h
      refine mj_aload_n C dX11_spoil_30 rfl ?_
      refine mj_iload C dX11_spoil_31 rfl ?_
      refine mj_iconst (v := 0) C dX11_spoil_33 (by decide) ?_
      refine mj_sipush (v := 255) C dX11_spoil_34 (by decide) ?_
      obtain ⟨r10, er10, h⟩ := mj_let_o h
      refine mj_callV1 (av := [.inl a4, .inl 0, .inl 255]) C lM_X11_48 lV_X11_isIn (sM0 hB) ⟨_, rfl, rfl⟩ rfl (C_X11_isIn hB er10) (mj_rmok hR (by decide) (by decide)) rfl (Nat.le_of_ble_eq_true rfl) dX11_spoil_37 (fun hb11 => ?_)
      refine mj_if_ne (tgt := 45) C dX11_spoil_40 (by decide) (fun c12 => ?_) (fun c12 => ?_)
      · replace h := mj_if_f c12 h
        refine mj_aload_n C dX11_spoil_45 rfl ?_
        refine mj_getr (r := (β, 1)) C lF_X11_7 (sM0 hB) rfl dX11_spoil_46 ?_
        refine mj_aload_n C dX11_spoil_49 rfl ?_
        refine mj_iload_n C dX11_spoil_50 rfl ?_
        refine mj_iload_n C dX11_spoil_51 rfl ?_
        obtain ⟨r13, er13, h⟩ := mj_let_o h
        refine mj_callV1 (av := [.inl a1, .inl a2]) C lM_X11_129 lV_X11_wayAt (sM0 hB) ⟨_, rfl, rfl⟩ rfl (C_X11_wayAt hB er13) (mj_rmok hR (by decide) (by decide)) rfl (Nat.le_of_ble_eq_true rfl) dX11_spoil_52 (fun hb14 => ?_)
        refine mj_iconst (v := 1) C dX11_spoil_55 (by decide) ?_
        refine mj_iadd C dX11_spoil_56 ?_
        refine mj_iload_n C dX11_spoil_57 rfl ?_
        refine mj_iadd C dX11_spoil_58 ?_
        refine mj_iload C dX11_spoil_59 rfl ?_
        obtain ⟨k15, h⟩ := mj_chk_o h
        obtain ⟨m16, hm16, h⟩ := mj_let_o h
        refine mj_bast C (sM1 hB) k15 rfl dX11_spoil_61 hm16 ?_
        refine mj_iconst (v := 1) C dX11_spoil_62 (by decide) ?_
        cases h
        exact mj_iret C hT (mj_nb mj_b1') dX11_spoil_63 ⟨rfl, rfl, mj_b1'⟩
      · replace h := mj_if_t c12 h
        refine mj_iconst (v := 0) C dX11_spoil_43 (by decide) ?_
        cases h
        exact mj_iret C hT (mj_nb mj_b0) dX11_spoil_44 ⟨rfl, rfl, mj_b0⟩
def f_X11_way (a1 : Int32) (a2 : Int32) (a3 : Int32) (m : mj_m) : Option (Int32 × mj_m) := mj_let (mj_wrs m 0 0 0) (fun m1 => if a2 = (-1) then (mj_let (f_X11_wayMany a1 m1) (fun r14 => some (r14, m1))) else (mj_let (f_X11_isOnWay a1 a2 m1) (fun r3 => if r3 = 0 then (some ((-1), m1)) else (mj_let (f_X11_byteMany a1) (fun r6 => mj_let (f_X11_isIn a3 (-1) (r6 - 1)) (fun r8 => if r8 = 0 then (some ((-1), m1)) else (mj_let (f_X11_wayAt a1 a2) (fun r11 => mj_chk (mj_ok ((r11 + 1) + a3) 1897) (some (m1 1 (mj_cl ((r11 + 1) + a3)), m1))))))))))
set_option maxHeartbeats 4000000 in
set_option maxRecDepth 20000 in
theorem C_X11_way {G : mj_G} {β : Nat} {M : mj_M} {a1 : Int32} {a2 : Int32} {a3 : Int32} {m : mj_m} {x0 : Int32} {m0 : mj_m} (hB : mj_isM G β) (h : f_X11_way a1 a2 a3 m = some (x0, m0)) : mj_S1 yX11_way cX11_way 4 (some .int) 2 G [mj_r (β, 0), .inl a1, .inl a2, .inl a3] (va_up M β m) (some (.inl x0)) (va_up M β m0) := by
  refine mj_intro (by decide) (Nat.le_of_ble_eq_true rfl) ?_
  intro κ C hG hR hT
  subst hG
  have C : mj_C κ cX11_way 4 RX11 := C
  show mj_R κ (mj_F κ (fun r M' => r = (some (.inl x0)) ∧ M' = (va_up M β m0) ∧ mj_bb (some .int) (some (.inl x0)))) 0 [some (mj_r (β, 0)), some (.inl a1), some (.inl a2), some (.inl a3)] [] (va_up M β m)
  unfold f_X11_way at h
  refine mj_aload_n C dX11_way_0 rfl ?_
  refine mj_iconst (v := 0) C dX11_way_1 (by decide) ?_
  obtain ⟨m1, hm1, h⟩ := mj_let_o h
  refine mj_bput C lF_X11_41 fP_12_0 (vp_nar_int _) rfl (sM0 hB) rfl dX11_way_2 hm1 ?_
  refine mj_iload_n C dX11_way_5 rfl ?_
  refine mj_iconst (v := (-1)) C dX11_way_6 (by decide) ?_
  refine mj_icmp_ne (tgt := 16) C dX11_way_7 (by decide) (fun c2 => ?_) (fun c2 => ?_)
  · replace h := mj_if_f c2 h
    refine mj_aload_n C dX11_way_16 rfl ?_
    refine mj_iload_n C dX11_way_17 rfl ?_
    refine mj_iload_n C dX11_way_18 rfl ?_
    obtain ⟨r3, er3, h⟩ := mj_let_o h
    refine mj_callV1 (av := [.inl a1, .inl a2]) C lM_X11_169 lV_X11_isOnWay (sM0 hB) ⟨_, rfl, rfl⟩ rfl (C_X11_isOnWay hB er3) (mj_rmok hR (by decide) (by decide)) rfl (Nat.le_of_ble_eq_true rfl) dX11_way_19 (fun hb4 => ?_)
    refine mj_if_eq (tgt := 41) C dX11_way_22 (by decide) (fun c5 => ?_) (fun c5 => ?_)
    · replace h := mj_if_t c5 h
      refine mj_iconst (v := (-1)) C dX11_way_41 (by decide) ?_
      cases h
      exact mj_iret C hT (vp_nar_int _) dX11_way_42 ⟨rfl, rfl, mj_bi _⟩
    · replace h := mj_if_f c5 h
      refine mj_aload_n C dX11_way_25 rfl ?_
      refine mj_iload_n C dX11_way_26 rfl ?_
      refine mj_iconst (v := (-1)) C dX11_way_27 (by decide) ?_
      refine mj_aload_n C dX11_way_28 rfl ?_
      refine mj_iload_n C dX11_way_29 rfl ?_
      obtain ⟨r6, er6, h⟩ := mj_let_o h
      refine mj_callV1 (av := [.inl a1]) C lM_X11_152 lV_X11_byteMany (sM0 hB) ⟨_, rfl, rfl⟩ rfl (C_X11_byteMany hB er6) (mj_rmok hR (by decide) (by decide)) rfl (Nat.le_of_ble_eq_true rfl) dX11_way_30 (fun hb7 => ?_)
      refine mj_iconst (v := 1) C dX11_way_33 (by decide) ?_
      refine mj_isub C dX11_way_34 ?_
      obtain ⟨r8, er8, h⟩ := mj_let_o h
      refine mj_callV1 (av := [.inl a3, .inl (-1), .inl (r6 - 1)]) C lM_X11_48 lV_X11_isIn (sM0 hB) ⟨_, rfl, rfl⟩ rfl (C_X11_isIn hB er8) (mj_rmok hR (by decide) (by decide)) rfl (Nat.le_of_ble_eq_true rfl) dX11_way_35 (fun hb9 => ?_)
      refine mj_if_ne (tgt := 43) C dX11_way_38 (by decide) (fun c10 => ?_) (fun c10 => ?_)
      · replace h := mj_if_f c10 h
        refine mj_aload_n C dX11_way_43 rfl ?_
        refine mj_getr (r := (β, 1)) C lF_X11_7 (sM0 hB) rfl dX11_way_44 ?_
        refine mj_aload_n C dX11_way_47 rfl ?_
        refine mj_iload_n C dX11_way_48 rfl ?_
        refine mj_iload_n C dX11_way_49 rfl ?_
        obtain ⟨r11, er11, h⟩ := mj_let_o h
        refine mj_callV1 (av := [.inl a1, .inl a2]) C lM_X11_129 lV_X11_wayAt (sM0 hB) ⟨_, rfl, rfl⟩ rfl (C_X11_wayAt hB er11) (mj_rmok hR (by decide) (by decide)) rfl (Nat.le_of_ble_eq_true rfl) dX11_way_50 (fun hb12 => ?_)
        refine mj_iconst (v := 1) C dX11_way_53 (by decide) ?_
        refine mj_iadd C dX11_way_54 ?_
        refine mj_iload_n C dX11_way_55 rfl ?_
        refine mj_iadd C dX11_way_56 ?_
        obtain ⟨k13, h⟩ := mj_chk_o h
        refine mj_bald C (sM1 hB) k13 rfl dX11_way_57 ?_
        cases h
        exact mj_iret C hT (vp_nar_int _) dX11_way_58 ⟨rfl, rfl, mj_bi _⟩
      · replace h := mj_if_t c10 h
        refine mj_iconst (v := (-1)) C dX11_way_41 (by decide) ?_
        cases h
        exact mj_iret C hT (vp_nar_int _) dX11_way_42 ⟨rfl, rfl, mj_bi _⟩
  · replace h := mj_if_t c2 h
    refine mj_aload_n C dX11_way_10 rfl ?_
    refine mj_iload_n C dX11_way_11 rfl ?_
    obtain ⟨r14, er14, h⟩ := mj_let_o h
    refine mj_callV1 (av := [.inl a1]) C lM_X11_125 lV_X11_wayMany (sM0 hB) ⟨_, rfl, rfl⟩ rfl (C_X11_wayMany hB er14) (mj_rmok hR (by decide) (by decide)) rfl (Nat.le_of_ble_eq_true rfl) dX11_way_12 (fun hb15 => ?_)
    cases h
    exact mj_iret C hT (vp_nar_int _) dX11_way_15 ⟨rfl, rfl, mj_bi _⟩
def f_X11_isGoodFrame (m : mj_m) : Int32 := mj_let (f_X11_round (((((m 3 0) + (m 3 1)) + (m 3 2)) + (m 3 3)) + 85)) (fun r1 => if m 3 4 = r1 then (if m 3 0 ≤ 2 then (if m 3 0 = 2 then (if 2 ≤ m 3 2 then (0) else (1)) else (if 9999 < (256 * (m 3 2)) + (m 3 3) then (0) else (1))) else (0)) else (0))
set_option maxHeartbeats 4000000 in
set_option maxRecDepth 20000 in
theorem C_X11_isGoodFrame {G : mj_G} {β : Nat} {M : mj_M} {m : mj_m} {x0 : Int32} (hB : mj_isM G β) (h : f_X11_isGoodFrame m = x0) : mj_S1 yX11_isGoodFrame cX11_isGoodFrame 1 (some .boolean) 1 G [mj_r (β, 0)] (va_up M β m) (some (.inl x0)) (va_up M β m) := by
  refine mj_intro (by decide) (Nat.le_of_ble_eq_true rfl) ?_
  intro κ C hG hR hT
  subst hG
  have C : mj_C κ cX11_isGoodFrame 1 RX11 := C
  show mj_R κ (mj_F κ (fun r M' => r = (some (.inl x0)) ∧ M' = (va_up M β m) ∧ mj_bb (some .boolean) (some (.inl x0)))) 0 [some (mj_r (β, 0))] [] (va_up M β m)
  unfold f_X11_isGoodFrame at h
  refine mj_aload_n C dX11_isGoodFrame_0 rfl ?_
  refine mj_getr (r := (β, 3)) C lF_X11_16 (sM0 hB) rfl dX11_isGoodFrame_1 ?_
  refine mj_iconst (v := 4) C dX11_isGoodFrame_4 (by decide) ?_
  refine mj_bald C (sM3 hB) (mj_okn 4 5 (Nat.le_of_ble_eq_true rfl) (Nat.le_of_ble_eq_true rfl)) (mj_cln 4 (Nat.le_of_ble_eq_true rfl)) dX11_isGoodFrame_5 ?_
  refine mj_aload_n C dX11_isGoodFrame_6 rfl ?_
  refine mj_aload_n C dX11_isGoodFrame_7 rfl ?_
  refine mj_getr (r := (β, 3)) C lF_X11_16 (sM0 hB) rfl dX11_isGoodFrame_8 ?_
  refine mj_iconst (v := 0) C dX11_isGoodFrame_11 (by decide) ?_
  refine mj_bald C (sM3 hB) (mj_okn 0 5 (Nat.le_of_ble_eq_true rfl) (Nat.le_of_ble_eq_true rfl)) (mj_cln 0 (Nat.le_of_ble_eq_true rfl)) dX11_isGoodFrame_12 ?_
  refine mj_aload_n C dX11_isGoodFrame_13 rfl ?_
  refine mj_getr (r := (β, 3)) C lF_X11_16 (sM0 hB) rfl dX11_isGoodFrame_14 ?_
  refine mj_iconst (v := 1) C dX11_isGoodFrame_17 (by decide) ?_
  refine mj_bald C (sM3 hB) (mj_okn 1 5 (Nat.le_of_ble_eq_true rfl) (Nat.le_of_ble_eq_true rfl)) (mj_cln 1 (Nat.le_of_ble_eq_true rfl)) dX11_isGoodFrame_18 ?_
  refine mj_iadd C dX11_isGoodFrame_19 ?_
  refine mj_aload_n C dX11_isGoodFrame_20 rfl ?_
  refine mj_getr (r := (β, 3)) C lF_X11_16 (sM0 hB) rfl dX11_isGoodFrame_21 ?_
  refine mj_iconst (v := 2) C dX11_isGoodFrame_24 (by decide) ?_
  refine mj_bald C (sM3 hB) (mj_okn 2 5 (Nat.le_of_ble_eq_true rfl) (Nat.le_of_ble_eq_true rfl)) (mj_cln 2 (Nat.le_of_ble_eq_true rfl)) dX11_isGoodFrame_25 ?_
  refine mj_iadd C dX11_isGoodFrame_26 ?_
  refine mj_aload_n C dX11_isGoodFrame_27 rfl ?_
  refine mj_getr (r := (β, 3)) C lF_X11_16 (sM0 hB) rfl dX11_isGoodFrame_28 ?_
  refine mj_iconst (v := 3) C dX11_isGoodFrame_31 (by decide) ?_
  refine mj_bald C (sM3 hB) (mj_okn 3 5 (Nat.le_of_ble_eq_true rfl) (Nat.le_of_ble_eq_true rfl)) (mj_cln 3 (Nat.le_of_ble_eq_true rfl)) dX11_isGoodFrame_32 ?_
  refine mj_iadd C dX11_isGoodFrame_33 ?_
  refine mj_bipush (v := 85) C dX11_isGoodFrame_34 (by decide) ?_
  refine mj_iadd C dX11_isGoodFrame_36 ?_
  obtain ⟨r1, er1, h⟩ := mj_let_o h
  refine mj_callV1 (av := [.inl (((((m 3 0) + (m 3 1)) + (m 3 2)) + (m 3 3)) + 85)]) C lM_X11_155 lV_X11_round (sM0 hB) ⟨_, rfl, rfl⟩ rfl (C_X11_round hB er1) (mj_rmok hR (by decide) (by decide)) rfl (Nat.le_of_ble_eq_true rfl) dX11_isGoodFrame_37 (fun hb2 => ?_)
  refine mj_icmp_ne (tgt := 53) C dX11_isGoodFrame_40 (by decide) (fun c3 => ?_) (fun c3 => ?_)
  · replace h := mj_if_f c3 h
    refine mj_iconst (v := 0) C dX11_isGoodFrame_53 (by decide) ?_
    cases h
    exact mj_iret C hT (mj_nb mj_b0) dX11_isGoodFrame_54 ⟨rfl, rfl, mj_b0⟩
  · replace h := mj_if_t c3 h
    refine mj_aload_n C dX11_isGoodFrame_43 rfl ?_
    refine mj_getr (r := (β, 3)) C lF_X11_16 (sM0 hB) rfl dX11_isGoodFrame_44 ?_
    refine mj_iconst (v := 0) C dX11_isGoodFrame_47 (by decide) ?_
    refine mj_bald C (sM3 hB) (mj_okn 0 5 (Nat.le_of_ble_eq_true rfl) (Nat.le_of_ble_eq_true rfl)) (mj_cln 0 (Nat.le_of_ble_eq_true rfl)) dX11_isGoodFrame_48 ?_
    refine mj_iconst (v := 2) C dX11_isGoodFrame_49 (by decide) ?_
    refine mj_icmp_le (tgt := 55) C dX11_isGoodFrame_50 (by decide) (fun c4 => ?_) (fun c4 => ?_)
    · replace h := mj_if_t c4 h
      refine mj_aload_n C dX11_isGoodFrame_55 rfl ?_
      refine mj_getr (r := (β, 3)) C lF_X11_16 (sM0 hB) rfl dX11_isGoodFrame_56 ?_
      refine mj_iconst (v := 0) C dX11_isGoodFrame_59 (by decide) ?_
      refine mj_bald C (sM3 hB) (mj_okn 0 5 (Nat.le_of_ble_eq_true rfl) (Nat.le_of_ble_eq_true rfl)) (mj_cln 0 (Nat.le_of_ble_eq_true rfl)) dX11_isGoodFrame_60 ?_
      refine mj_iconst (v := 2) C dX11_isGoodFrame_61 (by decide) ?_
      refine mj_icmp_ne (tgt := 83) C dX11_isGoodFrame_62 (by decide) (fun c5 => ?_) (fun c5 => ?_)
      · replace h := mj_if_f c5 h
        refine mj_sipush (v := 256) C dX11_isGoodFrame_83 (by decide) ?_
        refine mj_aload_n C dX11_isGoodFrame_86 rfl ?_
        refine mj_getr (r := (β, 3)) C lF_X11_16 (sM0 hB) rfl dX11_isGoodFrame_87 ?_
        refine mj_iconst (v := 2) C dX11_isGoodFrame_90 (by decide) ?_
        refine mj_bald C (sM3 hB) (mj_okn 2 5 (Nat.le_of_ble_eq_true rfl) (Nat.le_of_ble_eq_true rfl)) (mj_cln 2 (Nat.le_of_ble_eq_true rfl)) dX11_isGoodFrame_91 ?_
        refine mj_imul C dX11_isGoodFrame_92 ?_
        refine mj_aload_n C dX11_isGoodFrame_93 rfl ?_
        refine mj_getr (r := (β, 3)) C lF_X11_16 (sM0 hB) rfl dX11_isGoodFrame_94 ?_
        refine mj_iconst (v := 3) C dX11_isGoodFrame_97 (by decide) ?_
        refine mj_bald C (sM3 hB) (mj_okn 3 5 (Nat.le_of_ble_eq_true rfl) (Nat.le_of_ble_eq_true rfl)) (mj_cln 3 (Nat.le_of_ble_eq_true rfl)) dX11_isGoodFrame_98 ?_
        refine mj_iadd C dX11_isGoodFrame_99 ?_
        refine mj_sipush (v := 9999) C dX11_isGoodFrame_100 (by decide) ?_
        refine mj_icmp_gt (tgt := 110) C dX11_isGoodFrame_103 (by decide) (fun c6 => ?_) (fun c6 => ?_)
        · replace h := mj_if_t c6 h
          refine mj_iconst (v := 0) C dX11_isGoodFrame_110 (by decide) ?_
          cases h
          exact mj_iret C hT (mj_nb mj_b0) dX11_isGoodFrame_111 ⟨rfl, rfl, mj_b0⟩
        · replace h := mj_if_f c6 h
          refine mj_iconst (v := 1) C dX11_isGoodFrame_106 (by decide) ?_
          refine mj_goto (tgt := 111) C dX11_isGoodFrame_107 (by decide) ?_
          cases h
          exact mj_iret C hT (mj_nb mj_b1') dX11_isGoodFrame_111 ⟨rfl, rfl, mj_b1'⟩
      · replace h := mj_if_t c5 h
        refine mj_aload_n C dX11_isGoodFrame_65 rfl ?_
        refine mj_getr (r := (β, 3)) C lF_X11_16 (sM0 hB) rfl dX11_isGoodFrame_66 ?_
        refine mj_iconst (v := 2) C dX11_isGoodFrame_69 (by decide) ?_
        refine mj_bald C (sM3 hB) (mj_okn 2 5 (Nat.le_of_ble_eq_true rfl) (Nat.le_of_ble_eq_true rfl)) (mj_cln 2 (Nat.le_of_ble_eq_true rfl)) dX11_isGoodFrame_70 ?_
        refine mj_iconst (v := 2) C dX11_isGoodFrame_71 (by decide) ?_
        refine mj_icmp_ge (tgt := 79) C dX11_isGoodFrame_72 (by decide) (fun c7 => ?_) (fun c7 => ?_)
        · replace h := mj_if_t c7 h
          refine mj_iconst (v := 0) C dX11_isGoodFrame_79 (by decide) ?_
          refine mj_goto (tgt := 111) C dX11_isGoodFrame_80 (by decide) ?_
          cases h
          exact mj_iret C hT (mj_nb mj_b0) dX11_isGoodFrame_111 ⟨rfl, rfl, mj_b0⟩
        · replace h := mj_if_f c7 h
          refine mj_iconst (v := 1) C dX11_isGoodFrame_75 (by decide) ?_
          refine mj_goto (tgt := 111) C dX11_isGoodFrame_76 (by decide) ?_
          cases h
          exact mj_iret C hT (mj_nb mj_b1') dX11_isGoodFrame_111 ⟨rfl, rfl, mj_b1'⟩
    · replace h := mj_if_f c4 h
      refine mj_iconst (v := 0) C dX11_isGoodFrame_53 (by decide) ?_
      cases h
      exact mj_iret C hT (mj_nb mj_b0) dX11_isGoodFrame_54 ⟨rfl, rfl, mj_b0⟩
def f_X11_far (a1 : Int32) (m : mj_m) : Int32 := mj_let (f_X11_round (a1 - (m 1 13))) (fun r1 => r1)
set_option maxHeartbeats 4000000 in
set_option maxRecDepth 20000 in
theorem C_X11_far {G : mj_G} {β : Nat} {M : mj_M} {a1 : Int32} {m : mj_m} {x0 : Int32} (hB : mj_isM G β) (h : f_X11_far a1 m = x0) : mj_S1 yX11_far cX11_far 2 (some .int) 1 G [mj_r (β, 0), .inl a1] (va_up M β m) (some (.inl x0)) (va_up M β m) := by
  refine mj_intro (by decide) (Nat.le_of_ble_eq_true rfl) ?_
  intro κ C hG hR hT
  subst hG
  have C : mj_C κ cX11_far 2 RX11 := C
  show mj_R κ (mj_F κ (fun r M' => r = (some (.inl x0)) ∧ M' = (va_up M β m) ∧ mj_bb (some .int) (some (.inl x0)))) 0 [some (mj_r (β, 0)), some (.inl a1)] [] (va_up M β m)
  unfold f_X11_far at h
  refine mj_aload_n C dX11_far_0 rfl ?_
  refine mj_iload_n C dX11_far_1 rfl ?_
  refine mj_aload_n C dX11_far_2 rfl ?_
  refine mj_getr (r := (β, 1)) C lF_X11_7 (sM0 hB) rfl dX11_far_3 ?_
  refine mj_bipush (v := 13) C dX11_far_6 (by decide) ?_
  refine mj_bald C (sM1 hB) (mj_okn 13 1897 (Nat.le_of_ble_eq_true rfl) (Nat.le_of_ble_eq_true rfl)) (mj_cln 13 (Nat.le_of_ble_eq_true rfl)) dX11_far_8 ?_
  refine mj_isub C dX11_far_9 ?_
  obtain ⟨r1, er1, h⟩ := mj_let_o h
  refine mj_callV1 (av := [.inl (a1 - (m 1 13))]) C lM_X11_155 lV_X11_round (sM0 hB) ⟨_, rfl, rfl⟩ rfl (C_X11_round hB er1) (mj_rmok hR (by decide) (by decide)) rfl (Nat.le_of_ble_eq_true rfl) dX11_far_10 (fun hb2 => ?_)
  cases h
  exact mj_iret C hT (vp_nar_int _) dX11_far_13 ⟨rfl, rfl, mj_bi _⟩
def f_X11_zoneOf (a1 : Int32) (m : mj_m) : Option (Int32) := if a1 = 0 then (some 0) else (mj_b1 (f_X11_settingOf 0 m) (fun r2 => mj_let (r2 / 2) (fun x4 => if x4 ≤ a1 then (if a1 < 256 - x4 then (some 3) else (some 2)) else (some 1))))
set_option maxHeartbeats 4000000 in
set_option maxRecDepth 20000 in
theorem C_X11_zoneOf {G : mj_G} {β : Nat} {M : mj_M} {a1 : Int32} {m : mj_m} {x0 : Int32} (hB : mj_isM G β) (h : f_X11_zoneOf a1 m = some x0) : mj_S1 yX11_zoneOf cX11_zoneOf 3 (some .int) 2 G [mj_r (β, 0), .inl a1] (va_up M β m) (some (.inl x0)) (va_up M β m) := by
  refine mj_intro (by decide) (Nat.le_of_ble_eq_true rfl) ?_
  intro κ C hG hR hT
  subst hG
  have C : mj_C κ cX11_zoneOf 3 RX11 := C
  show mj_R κ (mj_F κ (fun r M' => r = (some (.inl x0)) ∧ M' = (va_up M β m) ∧ mj_bb (some .int) (some (.inl x0)))) 0 [some (mj_r (β, 0)), some (.inl a1), none] [] (va_up M β m)
  unfold f_X11_zoneOf at h
  refine mj_iload_n C dX11_zoneOf_0 rfl ?_
  refine mj_if_ne (tgt := 6) C dX11_zoneOf_1 (by decide) (fun c1 => ?_) (fun c1 => ?_)
  · replace h := mj_if_f c1 h
    refine mj_aload_n C dX11_zoneOf_6 rfl ?_
    refine mj_iconst (v := 0) C dX11_zoneOf_7 (by decide) ?_
    obtain ⟨r2, er2, h⟩ := mj_b1_o h
    refine mj_callV1 (av := [.inl 0]) C lM_X11_102 lV_X11_settingOf (sM0 hB) ⟨_, rfl, rfl⟩ rfl (C_X11_settingOf hB er2) (mj_rmok hR (by decide) (by decide)) rfl (Nat.le_of_ble_eq_true rfl) dX11_zoneOf_8 (fun hb3 => ?_)
    refine mj_iconst (v := 2) C dX11_zoneOf_11 (by decide) ?_
    refine mj_idiv C dX11_zoneOf_12 (by decide) ?_
    obtain ⟨x4, hx4, h⟩ := mj_let_o h
    refine mj_nm hx4 ?_
    refine mj_istore_n (L2 := [some (mj_r (β, 0)), some (.inl a1), some (.inl x4)]) C dX11_zoneOf_13 (Nat.le_of_ble_eq_true rfl) rfl ?_
    refine mj_iload_n C dX11_zoneOf_14 rfl ?_
    refine mj_iload_n C dX11_zoneOf_15 rfl ?_
    refine mj_icmp_ge (tgt := 23) C dX11_zoneOf_16 (by decide) (fun c5 => ?_) (fun c5 => ?_)
    · replace h := mj_if_t c5 h
      refine mj_iload_n C dX11_zoneOf_23 rfl ?_
      refine mj_sipush (v := 256) C dX11_zoneOf_24 (by decide) ?_
      refine mj_iload_n C dX11_zoneOf_27 rfl ?_
      refine mj_isub C dX11_zoneOf_28 ?_
      refine mj_icmp_lt (tgt := 36) C dX11_zoneOf_29 (by decide) (fun c6 => ?_) (fun c6 => ?_)
      · replace h := mj_if_t c6 h
        refine mj_iconst (v := 3) C dX11_zoneOf_36 (by decide) ?_
        cases h
        exact mj_iret C hT (vp_nar_int _) dX11_zoneOf_37 ⟨rfl, rfl, mj_bi _⟩
      · replace h := mj_if_f c6 h
        refine mj_iconst (v := 2) C dX11_zoneOf_32 (by decide) ?_
        refine mj_goto (tgt := 37) C dX11_zoneOf_33 (by decide) ?_
        cases h
        exact mj_iret C hT (vp_nar_int _) dX11_zoneOf_37 ⟨rfl, rfl, mj_bi _⟩
    · replace h := mj_if_f c5 h
      refine mj_iconst (v := 1) C dX11_zoneOf_19 (by decide) ?_
      refine mj_goto (tgt := 37) C dX11_zoneOf_20 (by decide) ?_
      cases h
      exact mj_iret C hT (vp_nar_int _) dX11_zoneOf_37 ⟨rfl, rfl, mj_bi _⟩
  · replace h := mj_if_t c1 h
    refine mj_iconst (v := 0) C dX11_zoneOf_4 (by decide) ?_
    cases h
    exact mj_iret C hT (vp_nar_int _) dX11_zoneOf_5 ⟨rfl, rfl, mj_bi _⟩
def f_X11_keeps (a1 : Int32) (a2 : Int32) (a3 : Int32) (m : mj_m) : Option (mj_m) := mj_chk (mj_ok a2 1897) (if 100 ≤ m 1 (mj_cl a2) then (mj_b1 (f_X11_more a2 m) (fun m3 => some m3)) else (mj_chk (mj_ok a2 1897) (mj_chk (mj_ok (a1 + (m 1 (mj_cl a2))) 1897) (mj_let (mj_wrs m 1 (mj_cl (a1 + (m 1 (mj_cl a2)))) a3) (fun m7 => mj_b1 (f_X11_more a2 m7) (fun m8 => some m8))))))
set_option maxHeartbeats 4000000 in
set_option maxRecDepth 20000 in
theorem C_X11_keeps {G : mj_G} {β : Nat} {M : mj_M} {a1 : Int32} {a2 : Int32} {a3 : Int32} {m : mj_m} {m0 : mj_m} (hB : mj_isM G β) (h : f_X11_keeps a1 a2 a3 m = some m0) : mj_S1 yX11_keeps cX11_keeps 4 none 1 G [mj_r (β, 0), .inl a1, .inl a2, .inl a3] (va_up M β m) none (va_up M β m0) := by
  refine mj_intro (by decide) (Nat.le_of_ble_eq_true rfl) ?_
  intro κ C hG hR hT
  subst hG
  have C : mj_C κ cX11_keeps 4 RX11 := C
  show mj_R κ (mj_F κ (fun r M' => r = none ∧ M' = (va_up M β m0) ∧ mj_bb none none)) 0 [some (mj_r (β, 0)), some (.inl a1), some (.inl a2), some (.inl a3)] [] (va_up M β m)
  unfold f_X11_keeps at h
  refine mj_aload_n C dX11_keeps_0 rfl ?_
  refine mj_getr (r := (β, 1)) C lF_X11_7 (sM0 hB) rfl dX11_keeps_1 ?_
  refine mj_iload_n C dX11_keeps_4 rfl ?_
  obtain ⟨k1, h⟩ := mj_chk_o h
  refine mj_bald C (sM1 hB) k1 rfl dX11_keeps_5 ?_
  refine mj_bipush (v := 100) C dX11_keeps_6 (by decide) ?_
  refine mj_icmp_ge (tgt := 25) C dX11_keeps_8 (by decide) (fun c2 => ?_) (fun c2 => ?_)
  · replace h := mj_if_t c2 h
    refine mj_aload_n C dX11_keeps_25 rfl ?_
    refine mj_iload_n C dX11_keeps_26 rfl ?_
    obtain ⟨m3, em3, h⟩ := mj_b1_o h
    refine mj_callV0 (av := [.inl a2]) C lM_X11_58 lV_X11_more (sM0 hB) ⟨_, rfl, rfl⟩ rfl (C_X11_more hB em3) (mj_rmok hR (by decide) (by decide)) rfl (Nat.le_of_ble_eq_true rfl) dX11_keeps_27 ?_
    cases h
    exact mj_vret C hT dX11_keeps_30 ⟨rfl, rfl, mj_bv _⟩
  · replace h := mj_if_f c2 h
    refine mj_aload_n C dX11_keeps_11 rfl ?_
    refine mj_getr (r := (β, 1)) C lF_X11_7 (sM0 hB) rfl dX11_keeps_12 ?_
    refine mj_iload_n C dX11_keeps_15 rfl ?_
    refine mj_aload_n C dX11_keeps_16 rfl ?_
    refine mj_getr (r := (β, 1)) C lF_X11_7 (sM0 hB) rfl dX11_keeps_17 ?_
    refine mj_iload_n C dX11_keeps_20 rfl ?_
    obtain ⟨k5, h⟩ := mj_chk_o h
    refine mj_bald C (sM1 hB) k5 rfl dX11_keeps_21 ?_
    refine mj_iadd C dX11_keeps_22 ?_
    refine mj_iload_n C dX11_keeps_23 rfl ?_
    obtain ⟨k6, h⟩ := mj_chk_o h
    obtain ⟨m7, hm7, h⟩ := mj_let_o h
    refine mj_bast C (sM1 hB) k6 rfl dX11_keeps_24 hm7 ?_
    refine mj_aload_n C dX11_keeps_25 rfl ?_
    refine mj_iload_n C dX11_keeps_26 rfl ?_
    obtain ⟨m8, em8, h⟩ := mj_b1_o h
    refine mj_callV0 (av := [.inl a2]) C lM_X11_58 lV_X11_more (sM0 hB) ⟨_, rfl, rfl⟩ rfl (C_X11_more hB em8) (mj_rmok hR (by decide) (by decide)) rfl (Nat.le_of_ble_eq_true rfl) dX11_keeps_27 ?_
    cases h
    exact mj_vret C hT dX11_keeps_30 ⟨rfl, rfl, mj_bv _⟩
def f_X11_counts (m : mj_m) : mj_m := mj_let (mj_wrs m 1 17 (mj_rem ((m 1 17) + 1) 4)) (fun m1 => m1)
set_option maxHeartbeats 4000000 in
set_option maxRecDepth 20000 in
theorem C_X11_counts {G : mj_G} {β : Nat} {M : mj_M} {m : mj_m} {m0 : mj_m} (hB : mj_isM G β) (h : f_X11_counts m = m0) : mj_S1 yX11_counts cX11_counts 1 none 0 G [mj_r (β, 0)] (va_up M β m) none (va_up M β m0) := by
  refine mj_intro (by decide) (Nat.le_of_ble_eq_true rfl) ?_
  intro κ C hG hR hT
  subst hG
  have C : mj_C κ cX11_counts 1 RX11 := C
  show mj_R κ (mj_F κ (fun r M' => r = none ∧ M' = (va_up M β m0) ∧ mj_bb none none)) 0 [some (mj_r (β, 0))] [] (va_up M β m)
  unfold f_X11_counts at h
  refine mj_aload_n C dX11_counts_0 rfl ?_
  refine mj_getr (r := (β, 1)) C lF_X11_7 (sM0 hB) rfl dX11_counts_1 ?_
  refine mj_bipush (v := 17) C dX11_counts_4 (by decide) ?_
  refine mj_aload_n C dX11_counts_6 rfl ?_
  refine mj_getr (r := (β, 1)) C lF_X11_7 (sM0 hB) rfl dX11_counts_7 ?_
  refine mj_bipush (v := 17) C dX11_counts_10 (by decide) ?_
  refine mj_bald C (sM1 hB) (mj_okn 17 1897 (Nat.le_of_ble_eq_true rfl) (Nat.le_of_ble_eq_true rfl)) (mj_cln 17 (Nat.le_of_ble_eq_true rfl)) dX11_counts_12 ?_
  refine mj_iconst (v := 1) C dX11_counts_13 (by decide) ?_
  refine mj_iadd C dX11_counts_14 ?_
  refine mj_iconst (v := 4) C dX11_counts_15 (by decide) ?_
  refine mj_irem C dX11_counts_16 (by decide) ?_
  obtain ⟨m1, hm1, h⟩ := mj_let_o h
  refine mj_bast C (sM1 hB) (mj_okn 17 1897 (Nat.le_of_ble_eq_true rfl) (Nat.le_of_ble_eq_true rfl)) (mj_cln 17 (Nat.le_of_ble_eq_true rfl)) dX11_counts_17 hm1 ?_
  cases h
  exact mj_vret C hT dX11_counts_18 ⟨rfl, rfl, mj_bv _⟩
def f_X11_takesIn_J59 (l2 : Int32) (l3 : Int32) (m : mj_m) : Option (Int32 × mj_m) := if 0 < l3 then (some (0, m)) else (if m 1 15 = 1 then (some (0, m)) else (mj_b1 (f_X11_settingOf 1 m) (fun r3 => if m 1 18 < r3 then (mj_b1 (f_X11_puts 50 18 l2 m) (fun m6 => mj_b1 (f_X11_keeps 419 19 l2 m6) (fun m8 => mj_b1 (f_X11_takenOf ((m8 0 4) - 1) m8) (fun m10 => mj_let (f_X11_round ((m10 1 13) + 1)) (fun r12 => mj_let (mj_wrs m10 1 13 r12) (fun m14 => mj_let (mj_wrs m14 1 16 0) (fun m15 => some (1, m15)))))))) else (mj_let (mj_wrs m 1 16 1) (fun m16 => mj_let (mj_wrs m16 1 15 1) (fun m17 => some (0, m17)))))))
set_option maxHeartbeats 4000000 in
set_option maxRecDepth 20000 in
theorem C_X11_takesIn_J59 {κ : mj_K} {β : Nat} {M : mj_M} {l2 : Int32} {l3 : Int32} {m : mj_m} {x0 : Int32} {m0 : mj_m} (C : mj_C κ cX11_takesIn 4 RX11) (hB : mj_isM (mj_g κ) β) (hR : mj_dp κ 3) (hT : mj_rt κ = (some .boolean)) (h : f_X11_takesIn_J59 l2 l3 m = some (x0, m0)) : mj_R κ (mj_F κ (fun r M' => r = (some (.inl x0)) ∧ M' = (va_up M β m0) ∧ mj_bb (some .boolean) (some (.inl x0)))) 59 [some (mj_r (β, 0)), none, some (.inl l2), some (.inl l3)] [] (va_up M β m) := by
  unfold f_X11_takesIn_J59 at h
  refine mj_iload_n C dX11_takesIn_59 rfl ?_
  refine mj_if_gt (tgt := 74) C dX11_takesIn_60 (by decide) (fun c1 => ?_) (fun c1 => ?_)
  · replace h := mj_if_t c1 h
    refine mj_iconst (v := 0) C dX11_takesIn_74 (by decide) ?_
    cases h
    exact mj_iret C hT (mj_nb mj_b0) dX11_takesIn_75 ⟨rfl, rfl, mj_b0⟩
  · replace h := mj_if_f c1 h
    refine mj_aload_n C dX11_takesIn_63 rfl ?_
    refine mj_getr (r := (β, 1)) C lF_X11_7 (sM0 hB) rfl dX11_takesIn_64 ?_
    refine mj_bipush (v := 15) C dX11_takesIn_67 (by decide) ?_
    refine mj_bald C (sM1 hB) (mj_okn 15 1897 (Nat.le_of_ble_eq_true rfl) (Nat.le_of_ble_eq_true rfl)) (mj_cln 15 (Nat.le_of_ble_eq_true rfl)) dX11_takesIn_69 ?_
    refine mj_iconst (v := 1) C dX11_takesIn_70 (by decide) ?_
    refine mj_icmp_ne (tgt := 76) C dX11_takesIn_71 (by decide) (fun c2 => ?_) (fun c2 => ?_)
    · replace h := mj_if_f c2 h
      refine mj_aload_n C dX11_takesIn_76 rfl ?_
      refine mj_getr (r := (β, 1)) C lF_X11_7 (sM0 hB) rfl dX11_takesIn_77 ?_
      refine mj_bipush (v := 18) C dX11_takesIn_80 (by decide) ?_
      refine mj_bald C (sM1 hB) (mj_okn 18 1897 (Nat.le_of_ble_eq_true rfl) (Nat.le_of_ble_eq_true rfl)) (mj_cln 18 (Nat.le_of_ble_eq_true rfl)) dX11_takesIn_82 ?_
      refine mj_aload_n C dX11_takesIn_83 rfl ?_
      refine mj_iconst (v := 1) C dX11_takesIn_84 (by decide) ?_
      obtain ⟨r3, er3, h⟩ := mj_b1_o h
      refine mj_callV1 (av := [.inl 1]) C lM_X11_102 lV_X11_settingOf (sM0 hB) ⟨_, rfl, rfl⟩ rfl (C_X11_settingOf hB er3) (mj_rmok hR (by decide) (by decide)) rfl (Nat.le_of_ble_eq_true rfl) dX11_takesIn_85 (fun hb4 => ?_)
      refine mj_icmp_lt (tgt := 109) C dX11_takesIn_88 (by decide) (fun c5 => ?_) (fun c5 => ?_)
      · replace h := mj_if_t c5 h
        refine mj_aload_n C dX11_takesIn_109 rfl ?_
        refine mj_bipush (v := 50) C dX11_takesIn_110 (by decide) ?_
        refine mj_bipush (v := 18) C dX11_takesIn_112 (by decide) ?_
        refine mj_iload_n C dX11_takesIn_114 rfl ?_
        obtain ⟨m6, em6, h⟩ := mj_b1_o h
        refine mj_callV0 (av := [.inl 50, .inl 18, .inl l2]) C lM_X11_109 lV_X11_puts (sM0 hB) ⟨_, rfl, rfl⟩ rfl (C_X11_puts hB em6) (mj_rmok hR (by decide) (by decide)) rfl (Nat.le_of_ble_eq_true rfl) dX11_takesIn_115 ?_
        refine mj_aload_n C dX11_takesIn_118 rfl ?_
        refine mj_sipush (v := 419) C dX11_takesIn_119 (by decide) ?_
        refine mj_bipush (v := 19) C dX11_takesIn_122 (by decide) ?_
        refine mj_iload_n C dX11_takesIn_124 rfl ?_
        obtain ⟨m8, em8, h⟩ := mj_b1_o h
        refine mj_callV0 (av := [.inl 419, .inl 19, .inl l2]) C lM_X11_179 lV_X11_keeps (sM0 hB) ⟨_, rfl, rfl⟩ rfl (C_X11_keeps hB em8) (mj_rmok hR (by decide) (by decide)) rfl (Nat.le_of_ble_eq_true rfl) dX11_takesIn_125 ?_
        refine mj_aload_n C dX11_takesIn_128 rfl ?_
        refine mj_aload_n C dX11_takesIn_129 rfl ?_
        refine mj_bget C lF_X11_158 (sM0 hB) rfl dX11_takesIn_130 ?_
        refine mj_iconst (v := 1) C dX11_takesIn_133 (by decide) ?_
        refine mj_isub C dX11_takesIn_134 ?_
        obtain ⟨m10, em10, h⟩ := mj_b1_o h
        refine mj_callV0 (av := [.inl ((m8 0 4) - 1)]) C lM_X11_182 lV_X11_takenOf (sM0 hB) ⟨_, rfl, rfl⟩ rfl (C_X11_takenOf hB em10) (mj_rmok hR (by decide) (by decide)) rfl (Nat.le_of_ble_eq_true rfl) dX11_takesIn_135 ?_
        refine mj_aload_n C dX11_takesIn_138 rfl ?_
        refine mj_getr (r := (β, 1)) C lF_X11_7 (sM0 hB) rfl dX11_takesIn_139 ?_
        refine mj_bipush (v := 13) C dX11_takesIn_142 (by decide) ?_
        refine mj_aload_n C dX11_takesIn_144 rfl ?_
        refine mj_aload_n C dX11_takesIn_145 rfl ?_
        refine mj_getr (r := (β, 1)) C lF_X11_7 (sM0 hB) rfl dX11_takesIn_146 ?_
        refine mj_bipush (v := 13) C dX11_takesIn_149 (by decide) ?_
        refine mj_bald C (sM1 hB) (mj_okn 13 1897 (Nat.le_of_ble_eq_true rfl) (Nat.le_of_ble_eq_true rfl)) (mj_cln 13 (Nat.le_of_ble_eq_true rfl)) dX11_takesIn_151 ?_
        refine mj_iconst (v := 1) C dX11_takesIn_152 (by decide) ?_
        refine mj_iadd C dX11_takesIn_153 ?_
        obtain ⟨r12, er12, h⟩ := mj_let_o h
        refine mj_callV1 (av := [.inl ((m10 1 13) + 1)]) C lM_X11_155 lV_X11_round (sM0 hB) ⟨_, rfl, rfl⟩ rfl (C_X11_round hB er12) (mj_rmok hR (by decide) (by decide)) rfl (Nat.le_of_ble_eq_true rfl) dX11_takesIn_154 (fun hb13 => ?_)
        obtain ⟨m14, hm14, h⟩ := mj_let_o h
        refine mj_bast C (sM1 hB) (mj_okn 13 1897 (Nat.le_of_ble_eq_true rfl) (Nat.le_of_ble_eq_true rfl)) (mj_cln 13 (Nat.le_of_ble_eq_true rfl)) dX11_takesIn_157 hm14 ?_
        refine mj_aload_n C dX11_takesIn_158 rfl ?_
        refine mj_getr (r := (β, 1)) C lF_X11_7 (sM0 hB) rfl dX11_takesIn_159 ?_
        refine mj_bipush (v := 16) C dX11_takesIn_162 (by decide) ?_
        refine mj_iconst (v := 0) C dX11_takesIn_164 (by decide) ?_
        obtain ⟨m15, hm15, h⟩ := mj_let_o h
        refine mj_bast C (sM1 hB) (mj_okn 16 1897 (Nat.le_of_ble_eq_true rfl) (Nat.le_of_ble_eq_true rfl)) (mj_cln 16 (Nat.le_of_ble_eq_true rfl)) dX11_takesIn_165 hm15 ?_
        refine mj_iconst (v := 1) C dX11_takesIn_166 (by decide) ?_
        cases h
        exact mj_iret C hT (mj_nb mj_b1') dX11_takesIn_167 ⟨rfl, rfl, mj_b1'⟩
      · replace h := mj_if_f c5 h
        refine mj_aload_n C dX11_takesIn_91 rfl ?_
        refine mj_getr (r := (β, 1)) C lF_X11_7 (sM0 hB) rfl dX11_takesIn_92 ?_
        refine mj_bipush (v := 16) C dX11_takesIn_95 (by decide) ?_
        refine mj_iconst (v := 1) C dX11_takesIn_97 (by decide) ?_
        obtain ⟨m16, hm16, h⟩ := mj_let_o h
        refine mj_bast C (sM1 hB) (mj_okn 16 1897 (Nat.le_of_ble_eq_true rfl) (Nat.le_of_ble_eq_true rfl)) (mj_cln 16 (Nat.le_of_ble_eq_true rfl)) dX11_takesIn_98 hm16 ?_
        refine mj_aload_n C dX11_takesIn_99 rfl ?_
        refine mj_getr (r := (β, 1)) C lF_X11_7 (sM0 hB) rfl dX11_takesIn_100 ?_
        refine mj_bipush (v := 15) C dX11_takesIn_103 (by decide) ?_
        refine mj_iconst (v := 1) C dX11_takesIn_105 (by decide) ?_
        obtain ⟨m17, hm17, h⟩ := mj_let_o h
        refine mj_bast C (sM1 hB) (mj_okn 15 1897 (Nat.le_of_ble_eq_true rfl) (Nat.le_of_ble_eq_true rfl)) (mj_cln 15 (Nat.le_of_ble_eq_true rfl)) dX11_takesIn_106 hm17 ?_
        refine mj_iconst (v := 0) C dX11_takesIn_107 (by decide) ?_
        cases h
        exact mj_iret C hT (mj_nb mj_b0) dX11_takesIn_108 ⟨rfl, rfl, mj_b0⟩
    · replace h := mj_if_t c2 h
      refine mj_iconst (v := 0) C dX11_takesIn_74 (by decide) ?_
      cases h
      exact mj_iret C hT (mj_nb mj_b0) dX11_takesIn_75 ⟨rfl, rfl, mj_b0⟩
def f_X11_takesIn_J46 (l2 : Int32) (l3 : Int32) (m : mj_m) : Option (Int32 × mj_m) := if l3 = 3 then (mj_let (mj_wrs m 1 14 1) (fun m19 => f_X11_takesIn_J59 l2 l3 m19)) else (f_X11_takesIn_J59 l2 l3 m)
set_option maxHeartbeats 4000000 in
set_option maxRecDepth 20000 in
theorem C_X11_takesIn_J46 {κ : mj_K} {β : Nat} {M : mj_M} {l2 : Int32} {l3 : Int32} {m : mj_m} {x0 : Int32} {m0 : mj_m} (C : mj_C κ cX11_takesIn 4 RX11) (hB : mj_isM (mj_g κ) β) (hR : mj_dp κ 3) (hT : mj_rt κ = (some .boolean)) (h : f_X11_takesIn_J46 l2 l3 m = some (x0, m0)) : mj_R κ (mj_F κ (fun r M' => r = (some (.inl x0)) ∧ M' = (va_up M β m0) ∧ mj_bb (some .boolean) (some (.inl x0)))) 46 [some (mj_r (β, 0)), none, some (.inl l2), some (.inl l3)] [] (va_up M β m) := by
  unfold f_X11_takesIn_J46 at h
  refine mj_iload_n C dX11_takesIn_46 rfl ?_
  refine mj_iconst (v := 3) C dX11_takesIn_47 (by decide) ?_
  refine mj_icmp_ne (tgt := 59) C dX11_takesIn_48 (by decide) (fun c18 => ?_) (fun c18 => ?_)
  · replace h := mj_if_f c18 h
    refine mj_sub (L' := [some (mj_r (β, 0)), none, some (.inl l2), some (.inl l3)]) ⟨rfl, ⟨rfl, ⟨rfl, trivial⟩⟩⟩ ?_
    exact C_X11_takesIn_J59 C hB hR hT h
  · replace h := mj_if_t c18 h
    refine mj_aload_n C dX11_takesIn_51 rfl ?_
    refine mj_getr (r := (β, 1)) C lF_X11_7 (sM0 hB) rfl dX11_takesIn_52 ?_
    refine mj_bipush (v := 14) C dX11_takesIn_55 (by decide) ?_
    refine mj_iconst (v := 1) C dX11_takesIn_57 (by decide) ?_
    obtain ⟨m19, hm19, h⟩ := mj_let_o h
    refine mj_bast C (sM1 hB) (mj_okn 14 1897 (Nat.le_of_ble_eq_true rfl) (Nat.le_of_ble_eq_true rfl)) (mj_cln 14 (Nat.le_of_ble_eq_true rfl)) dX11_takesIn_58 hm19 ?_
    refine mj_sub (L' := [some (mj_r (β, 0)), none, some (.inl l2), some (.inl l3)]) ⟨rfl, ⟨rfl, ⟨rfl, trivial⟩⟩⟩ ?_
    exact C_X11_takesIn_J59 C hB hR hT h
def f_X11_takesIn (a1 : Int32) (a2 : Int32) (m : mj_m) : Option (Int32 × mj_m) := if m 1 14 = 1 then (some (0, m)) else (mj_let (f_X11_far a1 m) (fun r21 => mj_b1 (f_X11_zoneOf r21 m) (fun r23 => if r23 = 1 then (if m 1 15 = 0 then (mj_let (mj_wrs m 1 16 1) (fun m27 => f_X11_takesIn_J46 a2 r23 m27)) else (f_X11_takesIn_J46 a2 r23 m)) else (f_X11_takesIn_J46 a2 r23 m))))
set_option maxHeartbeats 4000000 in
set_option maxRecDepth 20000 in
theorem C_X11_takesIn {G : mj_G} {β : Nat} {M : mj_M} {a1 : Int32} {a2 : Int32} {m : mj_m} {x0 : Int32} {m0 : mj_m} (hB : mj_isM G β) (h : f_X11_takesIn a1 a2 m = some (x0, m0)) : mj_S1 yX11_takesIn cX11_takesIn 4 (some .boolean) 3 G [mj_r (β, 0), .inl a1, .inl a2] (va_up M β m) (some (.inl x0)) (va_up M β m0) := by
  refine mj_intro (by decide) (Nat.le_of_ble_eq_true rfl) ?_
  intro κ C hG hR hT
  subst hG
  have C : mj_C κ cX11_takesIn 4 RX11 := C
  show mj_R κ (mj_F κ (fun r M' => r = (some (.inl x0)) ∧ M' = (va_up M β m0) ∧ mj_bb (some .boolean) (some (.inl x0)))) 0 [some (mj_r (β, 0)), some (.inl a1), some (.inl a2), none] [] (va_up M β m)
  unfold f_X11_takesIn at h
  refine mj_aload_n C dX11_takesIn_0 rfl ?_
  refine mj_getr (r := (β, 1)) C lF_X11_7 (sM0 hB) rfl dX11_takesIn_1 ?_
  refine mj_bipush (v := 14) C dX11_takesIn_4 (by decide) ?_
  refine mj_bald C (sM1 hB) (mj_okn 14 1897 (Nat.le_of_ble_eq_true rfl) (Nat.le_of_ble_eq_true rfl)) (mj_cln 14 (Nat.le_of_ble_eq_true rfl)) dX11_takesIn_6 ?_
  refine mj_iconst (v := 1) C dX11_takesIn_7 (by decide) ?_
  refine mj_icmp_ne (tgt := 13) C dX11_takesIn_8 (by decide) (fun c20 => ?_) (fun c20 => ?_)
  · replace h := mj_if_f c20 h
    refine mj_aload_n C dX11_takesIn_13 rfl ?_
    refine mj_aload_n C dX11_takesIn_14 rfl ?_
    refine mj_iload_n C dX11_takesIn_15 rfl ?_
    obtain ⟨r21, er21, h⟩ := mj_let_o h
    refine mj_callV1 (av := [.inl a1]) C lM_X11_173 lV_X11_far (sM0 hB) ⟨_, rfl, rfl⟩ rfl (C_X11_far hB er21) (mj_rmok hR (by decide) (by decide)) rfl (Nat.le_of_ble_eq_true rfl) dX11_takesIn_16 (fun hb22 => ?_)
    obtain ⟨r23, er23, h⟩ := mj_b1_o h
    refine mj_callV1 (av := [.inl r21]) C lM_X11_176 lV_X11_zoneOf (sM0 hB) ⟨_, rfl, rfl⟩ rfl (C_X11_zoneOf hB er23) (mj_rmok hR (by decide) (by decide)) rfl (Nat.le_of_ble_eq_true rfl) dX11_takesIn_19 (fun hb24 => ?_)
    refine mj_istore_n (L2 := [some (mj_r (β, 0)), some (.inl a1), some (.inl a2), some (.inl r23)]) C dX11_takesIn_22 (Nat.le_of_ble_eq_true rfl) rfl ?_
    refine mj_iload_n C dX11_takesIn_23 rfl ?_
    refine mj_iconst (v := 1) C dX11_takesIn_24 (by decide) ?_
    refine mj_icmp_ne (tgt := 46) C dX11_takesIn_25 (by decide) (fun c25 => ?_) (fun c25 => ?_)
    · replace h := mj_if_f c25 h
      refine mj_sub (L' := [some (mj_r (β, 0)), none, some (.inl a2), some (.inl r23)]) ⟨rfl, ⟨rfl, ⟨rfl, trivial⟩⟩⟩ ?_
      exact C_X11_takesIn_J46 C hB hR hT h
    · replace h := mj_if_t c25 h
      refine mj_aload_n C dX11_takesIn_28 rfl ?_
      refine mj_getr (r := (β, 1)) C lF_X11_7 (sM0 hB) rfl dX11_takesIn_29 ?_
      refine mj_bipush (v := 15) C dX11_takesIn_32 (by decide) ?_
      refine mj_bald C (sM1 hB) (mj_okn 15 1897 (Nat.le_of_ble_eq_true rfl) (Nat.le_of_ble_eq_true rfl)) (mj_cln 15 (Nat.le_of_ble_eq_true rfl)) dX11_takesIn_34 ?_
      refine mj_if_ne (tgt := 46) C dX11_takesIn_35 (by decide) (fun c26 => ?_) (fun c26 => ?_)
      · replace h := mj_if_f c26 h
        refine mj_sub (L' := [some (mj_r (β, 0)), none, some (.inl a2), some (.inl r23)]) ⟨rfl, ⟨rfl, ⟨rfl, trivial⟩⟩⟩ ?_
        exact C_X11_takesIn_J46 C hB hR hT h
      · replace h := mj_if_t c26 h
        refine mj_aload_n C dX11_takesIn_38 rfl ?_
        refine mj_getr (r := (β, 1)) C lF_X11_7 (sM0 hB) rfl dX11_takesIn_39 ?_
        refine mj_bipush (v := 16) C dX11_takesIn_42 (by decide) ?_
        refine mj_iconst (v := 1) C dX11_takesIn_44 (by decide) ?_
        obtain ⟨m27, hm27, h⟩ := mj_let_o h
        refine mj_bast C (sM1 hB) (mj_okn 16 1897 (Nat.le_of_ble_eq_true rfl) (Nat.le_of_ble_eq_true rfl)) (mj_cln 16 (Nat.le_of_ble_eq_true rfl)) dX11_takesIn_45 hm27 ?_
        refine mj_sub (L' := [some (mj_r (β, 0)), none, some (.inl a2), some (.inl r23)]) ⟨rfl, ⟨rfl, ⟨rfl, trivial⟩⟩⟩ ?_
        exact C_X11_takesIn_J46 C hB hR hT h
  · replace h := mj_if_t c20 h
    refine mj_iconst (v := 0) C dX11_takesIn_11 (by decide) ?_
    cases h
    exact mj_iret C hT (mj_nb mj_b0) dX11_takesIn_12 ⟨rfl, rfl, mj_b0⟩
def f_X11_isDirected_J16 (l1 : Int32) (l2 : Int32) (m : mj_m) : mj_m := if m 1 14 = 1 then (m) else (mj_let (mj_wrs m 1 15 0) (fun m2 => mj_let (mj_wrs m2 1 16 0) (fun m3 => if l1 = 1 then (mj_let (mj_wrs m3 1 13 l2) (fun m5 => m5)) else (m3))))
set_option maxHeartbeats 4000000 in
set_option maxRecDepth 20000 in
theorem C_X11_isDirected_J16 {κ : mj_K} {β : Nat} {M : mj_M} {l1 : Int32} {l2 : Int32} {m : mj_m} {m0 : mj_m} (C : mj_C κ cX11_isDirected 3 RX11) (hB : mj_isM (mj_g κ) β) (hR : mj_dp κ 1) (hT : mj_rt κ = none) (h : f_X11_isDirected_J16 l1 l2 m = m0) : mj_R κ (mj_F κ (fun r M' => r = none ∧ M' = (va_up M β m0) ∧ mj_bb none none)) 16 [some (mj_r (β, 0)), some (.inl l1), some (.inl l2)] [] (va_up M β m) := by
  unfold f_X11_isDirected_J16 at h
  refine mj_aload_n C dX11_isDirected_16 rfl ?_
  refine mj_getr (r := (β, 1)) C lF_X11_7 (sM0 hB) rfl dX11_isDirected_17 ?_
  refine mj_bipush (v := 14) C dX11_isDirected_20 (by decide) ?_
  refine mj_bald C (sM1 hB) (mj_okn 14 1897 (Nat.le_of_ble_eq_true rfl) (Nat.le_of_ble_eq_true rfl)) (mj_cln 14 (Nat.le_of_ble_eq_true rfl)) dX11_isDirected_22 ?_
  refine mj_iconst (v := 1) C dX11_isDirected_23 (by decide) ?_
  refine mj_icmp_ne (tgt := 28) C dX11_isDirected_24 (by decide) (fun c1 => ?_) (fun c1 => ?_)
  · replace h := mj_if_f c1 h
    refine mj_aload_n C dX11_isDirected_28 rfl ?_
    refine mj_getr (r := (β, 1)) C lF_X11_7 (sM0 hB) rfl dX11_isDirected_29 ?_
    refine mj_bipush (v := 15) C dX11_isDirected_32 (by decide) ?_
    refine mj_iconst (v := 0) C dX11_isDirected_34 (by decide) ?_
    obtain ⟨m2, hm2, h⟩ := mj_let_o h
    refine mj_bast C (sM1 hB) (mj_okn 15 1897 (Nat.le_of_ble_eq_true rfl) (Nat.le_of_ble_eq_true rfl)) (mj_cln 15 (Nat.le_of_ble_eq_true rfl)) dX11_isDirected_35 hm2 ?_
    refine mj_aload_n C dX11_isDirected_36 rfl ?_
    refine mj_getr (r := (β, 1)) C lF_X11_7 (sM0 hB) rfl dX11_isDirected_37 ?_
    refine mj_bipush (v := 16) C dX11_isDirected_40 (by decide) ?_
    refine mj_iconst (v := 0) C dX11_isDirected_42 (by decide) ?_
    obtain ⟨m3, hm3, h⟩ := mj_let_o h
    refine mj_bast C (sM1 hB) (mj_okn 16 1897 (Nat.le_of_ble_eq_true rfl) (Nat.le_of_ble_eq_true rfl)) (mj_cln 16 (Nat.le_of_ble_eq_true rfl)) dX11_isDirected_43 hm3 ?_
    refine mj_iload_n C dX11_isDirected_44 rfl ?_
    refine mj_iconst (v := 1) C dX11_isDirected_45 (by decide) ?_
    refine mj_icmp_ne (tgt := 57) C dX11_isDirected_46 (by decide) (fun c4 => ?_) (fun c4 => ?_)
    · replace h := mj_if_f c4 h
      cases h
      exact mj_vret C hT dX11_isDirected_57 ⟨rfl, rfl, mj_bv _⟩
    · replace h := mj_if_t c4 h
      refine mj_aload_n C dX11_isDirected_49 rfl ?_
      refine mj_getr (r := (β, 1)) C lF_X11_7 (sM0 hB) rfl dX11_isDirected_50 ?_
      refine mj_bipush (v := 13) C dX11_isDirected_53 (by decide) ?_
      refine mj_iload_n C dX11_isDirected_55 rfl ?_
      obtain ⟨m5, hm5, h⟩ := mj_let_o h
      refine mj_bast C (sM1 hB) (mj_okn 13 1897 (Nat.le_of_ble_eq_true rfl) (Nat.le_of_ble_eq_true rfl)) (mj_cln 13 (Nat.le_of_ble_eq_true rfl)) dX11_isDirected_56 hm5 ?_
      cases h
      exact mj_vret C hT dX11_isDirected_57 ⟨rfl, rfl, mj_bv _⟩
  · replace h := mj_if_t c1 h
    cases h
    exact mj_vret C hT dX11_isDirected_27 ⟨rfl, rfl, mj_bv _⟩
def f_X11_isDirected (a1 : Int32) (a2 : Int32) (m : mj_m) : mj_m := mj_let (f_X11_counts m) (fun m6 => if a1 = 0 then (mj_let (mj_wrs m6 1 14 0) (fun m9 => f_X11_isDirected_J16 a1 a2 m9)) else (f_X11_isDirected_J16 a1 a2 m6))
set_option maxHeartbeats 4000000 in
set_option maxRecDepth 20000 in
theorem C_X11_isDirected {G : mj_G} {β : Nat} {M : mj_M} {a1 : Int32} {a2 : Int32} {m : mj_m} {m0 : mj_m} (hB : mj_isM G β) (h : f_X11_isDirected a1 a2 m = m0) : mj_S1 yX11_isDirected cX11_isDirected 3 none 1 G [mj_r (β, 0), .inl a1, .inl a2] (va_up M β m) none (va_up M β m0) := by
  refine mj_intro (by decide) (Nat.le_of_ble_eq_true rfl) ?_
  intro κ C hG hR hT
  subst hG
  have C : mj_C κ cX11_isDirected 3 RX11 := C
  show mj_R κ (mj_F κ (fun r M' => r = none ∧ M' = (va_up M β m0) ∧ mj_bb none none)) 0 [some (mj_r (β, 0)), some (.inl a1), some (.inl a2)] [] (va_up M β m)
  unfold f_X11_isDirected at h
  refine mj_aload_n C dX11_isDirected_0 rfl ?_
  obtain ⟨m6, em6, h⟩ := mj_let_o h
  refine mj_callV0 (av := []) C lM_X11_185 lV_X11_counts (sM0 hB) ⟨_, rfl, rfl⟩ rfl (C_X11_counts hB em6) (mj_rmok hR (by decide) (by decide)) rfl (Nat.le_of_ble_eq_true rfl) dX11_isDirected_1 ?_
  refine mj_iload_n C dX11_isDirected_4 rfl ?_
  refine mj_if_ne (tgt := 16) C dX11_isDirected_5 (by decide) (fun c8 => ?_) (fun c8 => ?_)
  · replace h := mj_if_f c8 h
    refine mj_sub (L' := [some (mj_r (β, 0)), some (.inl a1), some (.inl a2)]) ⟨rfl, ⟨rfl, ⟨rfl, trivial⟩⟩⟩ ?_
    exact C_X11_isDirected_J16 C hB hR hT h
  · replace h := mj_if_t c8 h
    refine mj_aload_n C dX11_isDirected_8 rfl ?_
    refine mj_getr (r := (β, 1)) C lF_X11_7 (sM0 hB) rfl dX11_isDirected_9 ?_
    refine mj_bipush (v := 14) C dX11_isDirected_12 (by decide) ?_
    refine mj_iconst (v := 0) C dX11_isDirected_14 (by decide) ?_
    obtain ⟨m9, hm9, h⟩ := mj_let_o h
    refine mj_bast C (sM1 hB) (mj_okn 14 1897 (Nat.le_of_ble_eq_true rfl) (Nat.le_of_ble_eq_true rfl)) (mj_cln 14 (Nat.le_of_ble_eq_true rfl)) dX11_isDirected_15 hm9 ?_
    refine mj_sub (L' := [some (mj_r (β, 0)), some (.inl a1), some (.inl a2)]) ⟨rfl, ⟨rfl, ⟨rfl, trivial⟩⟩⟩ ?_
    exact C_X11_isDirected_J16 C hB hR hT h
def f_X11_comesFrame_J96 (l1 : Int32) (m : mj_m) : Option (mj_m) := if l1 = 0 then (if l1 = 0 then (mj_b1 (f_X11_more 38 m) (fun m3 => some m3)) else (some m)) else (mj_let (f_X11_isDirected (m 3 2) (m 3 3) m) (fun m5 => if l1 = 0 then (mj_b1 (f_X11_more 38 m5) (fun m8 => some m8)) else (some m5)))
set_option maxHeartbeats 4000000 in
set_option maxRecDepth 20000 in
theorem C_X11_comesFrame_J96 {κ : mj_K} {β : Nat} {M : mj_M} {l1 : Int32} {m : mj_m} {m0 : mj_m} (C : mj_C κ cX11_comesFrame 2 RX11) (hB : mj_isM (mj_g κ) β) (hR : mj_dp κ 4) (hT : mj_rt κ = none) (h : f_X11_comesFrame_J96 l1 m = some m0) : mj_R κ (mj_F κ (fun r M' => r = none ∧ M' = (va_up M β m0) ∧ mj_bb none none)) 96 [some (mj_r (β, 0)), some (.inl l1)] [] (va_up M β m) := by
  unfold f_X11_comesFrame_J96 at h
  refine mj_iload_n C dX11_comesFrame_96 rfl ?_
  refine mj_if_eq (tgt := 116) C dX11_comesFrame_97 (by decide) (fun c1 => ?_) (fun c1 => ?_)
  · replace h := mj_if_t c1 h
    refine mj_iload_n C dX11_comesFrame_116 rfl ?_
    refine mj_if_ne (tgt := 126) C dX11_comesFrame_117 (by decide) (fun c2 => ?_) (fun c2 => ?_)
    · replace h := mj_if_f c2 h
      cases h
      exact mj_vret C hT dX11_comesFrame_126 ⟨rfl, rfl, mj_bv _⟩
    · replace h := mj_if_t c2 h
      refine mj_aload_n C dX11_comesFrame_120 rfl ?_
      refine mj_bipush (v := 38) C dX11_comesFrame_121 (by decide) ?_
      obtain ⟨m3, em3, h⟩ := mj_b1_o h
      refine mj_callV0 (av := [.inl 38]) C lM_X11_58 lV_X11_more (sM0 hB) ⟨_, rfl, rfl⟩ rfl (C_X11_more hB em3) (mj_rmok hR (by decide) (by decide)) rfl (Nat.le_of_ble_eq_true rfl) dX11_comesFrame_123 ?_
      cases h
      exact mj_vret C hT dX11_comesFrame_126 ⟨rfl, rfl, mj_bv _⟩
  · replace h := mj_if_f c1 h
    refine mj_aload_n C dX11_comesFrame_100 rfl ?_
    refine mj_aload_n C dX11_comesFrame_101 rfl ?_
    refine mj_getr (r := (β, 3)) C lF_X11_16 (sM0 hB) rfl dX11_comesFrame_102 ?_
    refine mj_iconst (v := 2) C dX11_comesFrame_105 (by decide) ?_
    refine mj_bald C (sM3 hB) (mj_okn 2 5 (Nat.le_of_ble_eq_true rfl) (Nat.le_of_ble_eq_true rfl)) (mj_cln 2 (Nat.le_of_ble_eq_true rfl)) dX11_comesFrame_106 ?_
    refine mj_aload_n C dX11_comesFrame_107 rfl ?_
    refine mj_getr (r := (β, 3)) C lF_X11_16 (sM0 hB) rfl dX11_comesFrame_108 ?_
    refine mj_iconst (v := 3) C dX11_comesFrame_111 (by decide) ?_
    refine mj_bald C (sM3 hB) (mj_okn 3 5 (Nat.le_of_ble_eq_true rfl) (Nat.le_of_ble_eq_true rfl)) (mj_cln 3 (Nat.le_of_ble_eq_true rfl)) dX11_comesFrame_112 ?_
    obtain ⟨m5, em5, h⟩ := mj_let_o h
    refine mj_callV0 (av := [.inl (m 3 2), .inl (m 3 3)]) C lM_X11_194 lV_X11_isDirected (sM0 hB) ⟨_, rfl, rfl⟩ rfl (C_X11_isDirected hB em5) (mj_rmok hR (by decide) (by decide)) rfl (Nat.le_of_ble_eq_true rfl) dX11_comesFrame_113 ?_
    refine mj_iload_n C dX11_comesFrame_116 rfl ?_
    refine mj_if_ne (tgt := 126) C dX11_comesFrame_117 (by decide) (fun c7 => ?_) (fun c7 => ?_)
    · replace h := mj_if_f c7 h
      cases h
      exact mj_vret C hT dX11_comesFrame_126 ⟨rfl, rfl, mj_bv _⟩
    · replace h := mj_if_t c7 h
      refine mj_aload_n C dX11_comesFrame_120 rfl ?_
      refine mj_bipush (v := 38) C dX11_comesFrame_121 (by decide) ?_
      obtain ⟨m8, em8, h⟩ := mj_b1_o h
      refine mj_callV0 (av := [.inl 38]) C lM_X11_58 lV_X11_more (sM0 hB) ⟨_, rfl, rfl⟩ rfl (C_X11_more hB em8) (mj_rmok hR (by decide) (by decide)) rfl (Nat.le_of_ble_eq_true rfl) dX11_comesFrame_123 ?_
      cases h
      exact mj_vret C hT dX11_comesFrame_126 ⟨rfl, rfl, mj_bv _⟩
def f_X11_comesFrame_J49 (l1 : Int32) (m : mj_m) : Option (mj_m) := if l1 = 0 then (f_X11_comesFrame_J96 l1 m) else (if m 3 0 = 1 then (mj_b1 (f_X11_keeps 519 20 ((256 * (m 3 2)) + (m 3 3)) m) (fun m12 => mj_let (f_X11_counts m12) (fun m14 => if l1 = 0 then (mj_b1 (f_X11_more 38 m14) (fun m17 => some m17)) else (some m14)))) else (f_X11_comesFrame_J96 l1 m))
set_option maxHeartbeats 4000000 in
set_option maxRecDepth 20000 in
theorem C_X11_comesFrame_J49 {κ : mj_K} {β : Nat} {M : mj_M} {l1 : Int32} {m : mj_m} {m0 : mj_m} (C : mj_C κ cX11_comesFrame 2 RX11) (hB : mj_isM (mj_g κ) β) (hR : mj_dp κ 4) (hT : mj_rt κ = none) (h : f_X11_comesFrame_J49 l1 m = some m0) : mj_R κ (mj_F κ (fun r M' => r = none ∧ M' = (va_up M β m0) ∧ mj_bb none none)) 49 [some (mj_r (β, 0)), some (.inl l1)] [] (va_up M β m) := by
  unfold f_X11_comesFrame_J49 at h
  refine mj_iload_n C dX11_comesFrame_49 rfl ?_
  refine mj_if_eq (tgt := 96) C dX11_comesFrame_50 (by decide) (fun c10 => ?_) (fun c10 => ?_)
  · replace h := mj_if_t c10 h
    refine mj_sub (L' := [some (mj_r (β, 0)), some (.inl l1)]) ⟨rfl, ⟨rfl, trivial⟩⟩ ?_
    exact C_X11_comesFrame_J96 C hB hR hT h
  · replace h := mj_if_f c10 h
    refine mj_aload_n C dX11_comesFrame_53 rfl ?_
    refine mj_getr (r := (β, 3)) C lF_X11_16 (sM0 hB) rfl dX11_comesFrame_54 ?_
    refine mj_iconst (v := 0) C dX11_comesFrame_57 (by decide) ?_
    refine mj_bald C (sM3 hB) (mj_okn 0 5 (Nat.le_of_ble_eq_true rfl) (Nat.le_of_ble_eq_true rfl)) (mj_cln 0 (Nat.le_of_ble_eq_true rfl)) dX11_comesFrame_58 ?_
    refine mj_iconst (v := 1) C dX11_comesFrame_59 (by decide) ?_
    refine mj_icmp_ne (tgt := 96) C dX11_comesFrame_60 (by decide) (fun c11 => ?_) (fun c11 => ?_)
    · replace h := mj_if_f c11 h
      refine mj_sub (L' := [some (mj_r (β, 0)), some (.inl l1)]) ⟨rfl, ⟨rfl, trivial⟩⟩ ?_
      exact C_X11_comesFrame_J96 C hB hR hT h
    · replace h := mj_if_t c11 h
      refine mj_aload_n C dX11_comesFrame_63 rfl ?_
      refine mj_sipush (v := 519) C dX11_comesFrame_64 (by decide) ?_
      refine mj_bipush (v := 20) C dX11_comesFrame_67 (by decide) ?_
      refine mj_sipush (v := 256) C dX11_comesFrame_69 (by decide) ?_
      refine mj_aload_n C dX11_comesFrame_72 rfl ?_
      refine mj_getr (r := (β, 3)) C lF_X11_16 (sM0 hB) rfl dX11_comesFrame_73 ?_
      refine mj_iconst (v := 2) C dX11_comesFrame_76 (by decide) ?_
      refine mj_bald C (sM3 hB) (mj_okn 2 5 (Nat.le_of_ble_eq_true rfl) (Nat.le_of_ble_eq_true rfl)) (mj_cln 2 (Nat.le_of_ble_eq_true rfl)) dX11_comesFrame_77 ?_
      refine mj_imul C dX11_comesFrame_78 ?_
      refine mj_aload_n C dX11_comesFrame_79 rfl ?_
      refine mj_getr (r := (β, 3)) C lF_X11_16 (sM0 hB) rfl dX11_comesFrame_80 ?_
      refine mj_iconst (v := 3) C dX11_comesFrame_83 (by decide) ?_
      refine mj_bald C (sM3 hB) (mj_okn 3 5 (Nat.le_of_ble_eq_true rfl) (Nat.le_of_ble_eq_true rfl)) (mj_cln 3 (Nat.le_of_ble_eq_true rfl)) dX11_comesFrame_84 ?_
      refine mj_iadd C dX11_comesFrame_85 ?_
      obtain ⟨m12, em12, h⟩ := mj_b1_o h
      refine mj_callV0 (av := [.inl 519, .inl 20, .inl ((256 * (m 3 2)) + (m 3 3))]) C lM_X11_179 lV_X11_keeps (sM0 hB) ⟨_, rfl, rfl⟩ rfl (C_X11_keeps hB em12) (mj_rmok hR (by decide) (by decide)) rfl (Nat.le_of_ble_eq_true rfl) dX11_comesFrame_86 ?_
      refine mj_aload_n C dX11_comesFrame_89 rfl ?_
      obtain ⟨m14, em14, h⟩ := mj_let_o h
      refine mj_callV0 (av := []) C lM_X11_185 lV_X11_counts (sM0 hB) ⟨_, rfl, rfl⟩ rfl (C_X11_counts hB em14) (mj_rmok hR (by decide) (by decide)) rfl (Nat.le_of_ble_eq_true rfl) dX11_comesFrame_90 ?_
      refine mj_goto (tgt := 116) C dX11_comesFrame_93 (by decide) ?_
      refine mj_iload_n C dX11_comesFrame_116 rfl ?_
      refine mj_if_ne (tgt := 126) C dX11_comesFrame_117 (by decide) (fun c16 => ?_) (fun c16 => ?_)
      · replace h := mj_if_f c16 h
        cases h
        exact mj_vret C hT dX11_comesFrame_126 ⟨rfl, rfl, mj_bv _⟩
      · replace h := mj_if_t c16 h
        refine mj_aload_n C dX11_comesFrame_120 rfl ?_
        refine mj_bipush (v := 38) C dX11_comesFrame_121 (by decide) ?_
        obtain ⟨m17, em17, h⟩ := mj_b1_o h
        refine mj_callV0 (av := [.inl 38]) C lM_X11_58 lV_X11_more (sM0 hB) ⟨_, rfl, rfl⟩ rfl (C_X11_more hB em17) (mj_rmok hR (by decide) (by decide)) rfl (Nat.le_of_ble_eq_true rfl) dX11_comesFrame_123 ?_
        cases h
        exact mj_vret C hT dX11_comesFrame_126 ⟨rfl, rfl, mj_bv _⟩
def f_X11_comesFrame (m : mj_m) : Option (mj_m) := mj_let (f_X11_isGoodFrame m) (fun r19 => if r19 = 0 then (f_X11_comesFrame_J49 r19 m) else (if m 3 0 = 0 then (mj_b2 (f_X11_takesIn (m 3 1) ((256 * (m 3 2)) + (m 3 3)) m) (fun r23 m24 => if r23 = 0 then (mj_b1 (f_X11_more 38 m24) (fun m27 => some m27)) else (some m24))) else (f_X11_comesFrame_J49 r19 m)))
set_option maxHeartbeats 4000000 in
set_option maxRecDepth 20000 in
theorem C_X11_comesFrame {G : mj_G} {β : Nat} {M : mj_M} {m : mj_m} {m0 : mj_m} (hB : mj_isM G β) (h : f_X11_comesFrame m = some m0) : mj_S1 yX11_comesFrame cX11_comesFrame 2 none 4 G [mj_r (β, 0)] (va_up M β m) none (va_up M β m0) := by
  refine mj_intro (by decide) (Nat.le_of_ble_eq_true rfl) ?_
  intro κ C hG hR hT
  subst hG
  have C : mj_C κ cX11_comesFrame 2 RX11 := C
  show mj_R κ (mj_F κ (fun r M' => r = none ∧ M' = (va_up M β m0) ∧ mj_bb none none)) 0 [some (mj_r (β, 0)), none] [] (va_up M β m)
  unfold f_X11_comesFrame at h
  refine mj_aload_n C dX11_comesFrame_0 rfl ?_
  obtain ⟨r19, er19, h⟩ := mj_let_o h
  refine mj_callV1 (av := []) C lM_X11_188 lV_X11_isGoodFrame (sM0 hB) ⟨_, rfl, rfl⟩ rfl (C_X11_isGoodFrame hB er19) (mj_rmok hR (by decide) (by decide)) rfl (Nat.le_of_ble_eq_true rfl) dX11_comesFrame_1 (fun hb20 => ?_)
  refine mj_istore_n (L2 := [some (mj_r (β, 0)), some (.inl r19)]) C dX11_comesFrame_4 (Nat.le_of_ble_eq_true rfl) rfl ?_
  refine mj_iload_n C dX11_comesFrame_5 rfl ?_
  refine mj_if_eq (tgt := 49) C dX11_comesFrame_6 (by decide) (fun c21 => ?_) (fun c21 => ?_)
  · replace h := mj_if_t c21 h
    refine mj_sub (L' := [some (mj_r (β, 0)), some (.inl r19)]) ⟨rfl, ⟨rfl, trivial⟩⟩ ?_
    exact C_X11_comesFrame_J49 C hB hR hT h
  · replace h := mj_if_f c21 h
    refine mj_aload_n C dX11_comesFrame_9 rfl ?_
    refine mj_getr (r := (β, 3)) C lF_X11_16 (sM0 hB) rfl dX11_comesFrame_10 ?_
    refine mj_iconst (v := 0) C dX11_comesFrame_13 (by decide) ?_
    refine mj_bald C (sM3 hB) (mj_okn 0 5 (Nat.le_of_ble_eq_true rfl) (Nat.le_of_ble_eq_true rfl)) (mj_cln 0 (Nat.le_of_ble_eq_true rfl)) dX11_comesFrame_14 ?_
    refine mj_if_ne (tgt := 49) C dX11_comesFrame_15 (by decide) (fun c22 => ?_) (fun c22 => ?_)
    · replace h := mj_if_f c22 h
      refine mj_sub (L' := [some (mj_r (β, 0)), some (.inl r19)]) ⟨rfl, ⟨rfl, trivial⟩⟩ ?_
      exact C_X11_comesFrame_J49 C hB hR hT h
    · replace h := mj_if_t c22 h
      refine mj_aload_n C dX11_comesFrame_18 rfl ?_
      refine mj_aload_n C dX11_comesFrame_19 rfl ?_
      refine mj_getr (r := (β, 3)) C lF_X11_16 (sM0 hB) rfl dX11_comesFrame_20 ?_
      refine mj_iconst (v := 1) C dX11_comesFrame_23 (by decide) ?_
      refine mj_bald C (sM3 hB) (mj_okn 1 5 (Nat.le_of_ble_eq_true rfl) (Nat.le_of_ble_eq_true rfl)) (mj_cln 1 (Nat.le_of_ble_eq_true rfl)) dX11_comesFrame_24 ?_
      refine mj_sipush (v := 256) C dX11_comesFrame_25 (by decide) ?_
      refine mj_aload_n C dX11_comesFrame_28 rfl ?_
      refine mj_getr (r := (β, 3)) C lF_X11_16 (sM0 hB) rfl dX11_comesFrame_29 ?_
      refine mj_iconst (v := 2) C dX11_comesFrame_32 (by decide) ?_
      refine mj_bald C (sM3 hB) (mj_okn 2 5 (Nat.le_of_ble_eq_true rfl) (Nat.le_of_ble_eq_true rfl)) (mj_cln 2 (Nat.le_of_ble_eq_true rfl)) dX11_comesFrame_33 ?_
      refine mj_imul C dX11_comesFrame_34 ?_
      refine mj_aload_n C dX11_comesFrame_35 rfl ?_
      refine mj_getr (r := (β, 3)) C lF_X11_16 (sM0 hB) rfl dX11_comesFrame_36 ?_
      refine mj_iconst (v := 3) C dX11_comesFrame_39 (by decide) ?_
      refine mj_bald C (sM3 hB) (mj_okn 3 5 (Nat.le_of_ble_eq_true rfl) (Nat.le_of_ble_eq_true rfl)) (mj_cln 3 (Nat.le_of_ble_eq_true rfl)) dX11_comesFrame_40 ?_
      refine mj_iadd C dX11_comesFrame_41 ?_
      obtain ⟨r23, m24, em24, h⟩ := mj_b2_o h
      refine mj_callV1 (av := [.inl (m 3 1), .inl ((256 * (m 3 2)) + (m 3 3))]) C lM_X11_191 lV_X11_takesIn (sM0 hB) ⟨_, rfl, rfl⟩ rfl (C_X11_takesIn hB em24) (mj_rmok hR (by decide) (by decide)) rfl (Nat.le_of_ble_eq_true rfl) dX11_comesFrame_42 (fun hb25 => ?_)
      refine mj_istore_n (L2 := [some (mj_r (β, 0)), some (.inl r23)]) C dX11_comesFrame_45 (Nat.le_of_ble_eq_true rfl) rfl ?_
      refine mj_goto (tgt := 116) C dX11_comesFrame_46 (by decide) ?_
      refine mj_iload_n C dX11_comesFrame_116 rfl ?_
      refine mj_if_ne (tgt := 126) C dX11_comesFrame_117 (by decide) (fun c26 => ?_) (fun c26 => ?_)
      · replace h := mj_if_f c26 h
        cases h
        exact mj_vret C hT dX11_comesFrame_126 ⟨rfl, rfl, mj_bv _⟩
      · replace h := mj_if_t c26 h
        refine mj_aload_n C dX11_comesFrame_120 rfl ?_
        refine mj_bipush (v := 38) C dX11_comesFrame_121 (by decide) ?_
        obtain ⟨m27, em27, h⟩ := mj_b1_o h
        refine mj_callV0 (av := [.inl 38]) C lM_X11_58 lV_X11_more (sM0 hB) ⟨_, rfl, rfl⟩ rfl (C_X11_more hB em27) (mj_rmok hR (by decide) (by decide)) rfl (Nat.le_of_ble_eq_true rfl) dX11_comesFrame_123 ?_
        cases h
        exact mj_vret C hT dX11_comesFrame_126 ⟨rfl, rfl, mj_bv _⟩
