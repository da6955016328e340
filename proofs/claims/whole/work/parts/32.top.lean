def f_X5_hasRoom (m : mj_m) : Int32 := if 400 < (m 1 1) + 20 then (0) else (1)
set_option maxHeartbeats 4000000 in
set_option maxRecDepth 20000 in
theorem C_X5_hasRoom {G : mj_G} {β : Nat} {M : mj_M} {m : mj_m} {x0 : Int32} (hB : mj_isR G β) (h : f_X5_hasRoom m = x0) : mj_S1 yX5_hasRoom cX5_hasRoom 1 (some .boolean) 0 G [mj_r (β, 1)] (va_up M β m) (some (.inl x0)) (va_up M β m) := by
  refine mj_intro (by decide) (Nat.le_of_ble_eq_true rfl) ?_
  intro κ C hG hR hT
  subst hG
  have C : mj_C κ cX5_hasRoom 1 RX5 := C
  show mj_R κ (mj_F κ (fun r M' => r = (some (.inl x0)) ∧ M' = (va_up M β m) ∧ mj_bb (some .boolean) (some (.inl x0)))) 0 [some (mj_r (β, 1))] [] (va_up M β m)
  unfold f_X5_hasRoom at h
  refine mj_aload_n C dX5_hasRoom_0 rfl ?_
  refine mj_bget C lF_X5_15 (sR1 hB) rfl dX5_hasRoom_1 ?_
  refine mj_bipush (v := 20) C dX5_hasRoom_4 (by decide) ?_
  refine mj_iadd C dX5_hasRoom_6 ?_
  refine mj_sipush (v := 400) C dX5_hasRoom_7 (by decide) ?_
  refine mj_icmp_gt (tgt := 17) C dX5_hasRoom_10 (by decide) (fun c1 => ?_) (fun c1 => ?_)
  · replace h := mj_if_t c1 h
    refine mj_iconst (v := 0) C dX5_hasRoom_17 (by decide) ?_
    cases h
    exact mj_iret C hT (mj_nb mj_b0) dX5_hasRoom_18 ⟨rfl, rfl, mj_b0⟩
  · replace h := mj_if_f c1 h
    refine mj_iconst (v := 1) C dX5_hasRoom_13 (by decide) ?_
    refine mj_goto (tgt := 18) C dX5_hasRoom_14 (by decide) ?_
    cases h
    exact mj_iret C hT (mj_nb mj_b1') dX5_hasRoom_18 ⟨rfl, rfl, mj_b1'⟩
def f_X5_putFour_L3 (l1 : Int32) : Nat → Int32 → mj_m → Option (mj_m)
  | 0, _, _ => none
  | n + 1, l2, m => if l2 < 0 then (some m) else (if 400 ≤ m 1 1 then (some m) else (mj_chk (mj_ok (m 1 1) 400) (mj_let (mj_wrs m 2 (mj_cl (m 1 1)) ((mj_ush l1 l2) &&& 255)) (fun m4 => mj_let (mj_wrs m4 1 1 ((m4 1 1) + 1)) (fun m5 => mj_let (l2 + (-8)) (fun x6 => f_X5_putFour_L3 l1 n x6 m5))))))
set_option maxHeartbeats 4000000 in
set_option maxRecDepth 20000 in
theorem C_X5_putFour_L3 {κ : mj_K} {Q : State → Prop} {β : Nat} {M : mj_M} {l1 : Int32} (C : mj_C κ cX5_putFour 3 RX5) (hB : mj_isR (mj_g κ) β) (hR : mj_dp κ 0) : ∀ (n : Nat) (l2 : Int32) (m : mj_m) (mo : mj_m), f_X5_putFour_L3 l1 n l2 m = some mo → (mj_R κ Q 49 [none, none, none] [] (va_up M β mo)) → mj_R κ Q 3 [some (mj_r (β, 1)), some (.inl l1), some (.inl l2)] [] (va_up M β m) := by
  intro n
  induction n with
  | zero =>
    intro l2 m mo h
    cases h
  | succ n ih =>
    intro l2 m mo h hx49
    rw [f_X5_putFour_L3] at h
    refine mj_iload_n C dX5_putFour_3 rfl ?_
    refine mj_if_lt (tgt := 49) C dX5_putFour_4 (by decide) (fun c1 => ?_) (fun c1 => ?_)
    · replace h := mj_if_t c1 h
      cases h
      refine mj_sub ?_ (hx49)
      exact trivial
    · replace h := mj_if_f c1 h
      refine mj_aload_n C dX5_putFour_7 rfl ?_
      refine mj_bget C lF_X5_15 (sR1 hB) rfl dX5_putFour_8 ?_
      refine mj_sipush (v := 400) C dX5_putFour_11 (by decide) ?_
      refine mj_icmp_ge (tgt := 49) C dX5_putFour_14 (by decide) (fun c2 => ?_) (fun c2 => ?_)
      · replace h := mj_if_t c2 h
        cases h
        refine mj_sub ?_ (hx49)
        exact trivial
      · replace h := mj_if_f c2 h
        refine mj_aload_n C dX5_putFour_17 rfl ?_
        refine mj_getr (r := (β, 2)) C lF_X5_11 (sR1 hB) rfl dX5_putFour_18 ?_
        refine mj_aload_n C dX5_putFour_21 rfl ?_
        refine mj_bget C lF_X5_15 (sR1 hB) rfl dX5_putFour_22 ?_
        refine mj_iload_n C dX5_putFour_25 rfl ?_
        refine mj_iload_n C dX5_putFour_26 rfl ?_
        refine mj_iushr C dX5_putFour_27 ?_
        refine mj_sipush (v := 255) C dX5_putFour_28 (by decide) ?_
        refine mj_iand C dX5_putFour_31 ?_
        obtain ⟨k3, h⟩ := mj_chk_o h
        obtain ⟨m4, hm4, h⟩ := mj_let_o h
        refine mj_bast C (sR2 hB) k3 rfl dX5_putFour_32 hm4 ?_
        refine mj_aload_n C dX5_putFour_33 rfl ?_
        refine mj_dup C dX5_putFour_34 ?_
        refine mj_bget C lF_X5_15 (sR1 hB) rfl dX5_putFour_35 ?_
        refine mj_iconst (v := 1) C dX5_putFour_38 (by decide) ?_
        refine mj_iadd C dX5_putFour_39 ?_
        obtain ⟨m5, hm5, h⟩ := mj_let_o h
        refine mj_bput C lF_X5_15 fP_6_1 (vp_nar_int _) rfl (sR1 hB) rfl dX5_putFour_40 hm5 ?_
        obtain ⟨x6, hx6, h⟩ := mj_let_o h
        refine mj_iinc (L2 := [some (mj_r (β, 1)), some (.inl l1), some (.inl x6)]) C dX5_putFour_43 rfl hx6 rfl ?_
        refine mj_goto (tgt := 3) C dX5_putFour_46 (by decide) ?_
        refine mj_sub (L' := [some (mj_r (β, 1)), some (.inl l1), some (.inl x6)]) ⟨rfl, ⟨rfl, ⟨rfl, trivial⟩⟩⟩ ?_
        exact ih _ _ _ h hx49
def f_X5_putFour (a1 : Int32) (m : mj_m) : Option (mj_m) := mj_b1 (f_X5_putFour_L3 a1 mj_fu 24 m) (fun m7 => some m7)
set_option maxHeartbeats 4000000 in
set_option maxRecDepth 20000 in
theorem C_X5_putFour {G : mj_G} {β : Nat} {M : mj_M} {a1 : Int32} {m : mj_m} {m0 : mj_m} (hB : mj_isR G β) (h : f_X5_putFour a1 m = some m0) : mj_S1 yX5_putFour cX5_putFour 3 none 0 G [mj_r (β, 1), .inl a1] (va_up M β m) none (va_up M β m0) := by
  refine mj_intro (by decide) (Nat.le_of_ble_eq_true rfl) ?_
  intro κ C hG hR hT
  subst hG
  have C : mj_C κ cX5_putFour 3 RX5 := C
  show mj_R κ (mj_F κ (fun r M' => r = none ∧ M' = (va_up M β m0) ∧ mj_bb none none)) 0 [some (mj_r (β, 1)), some (.inl a1), none] [] (va_up M β m)
  unfold f_X5_putFour at h
  refine mj_bipush (v := 24) C dX5_putFour_0 (by decide) ?_
  refine mj_istore_n (L2 := [some (mj_r (β, 1)), some (.inl a1), some (.inl 24)]) C dX5_putFour_2 (Nat.le_of_ble_eq_true rfl) rfl ?_
  obtain ⟨m7, hl8, h⟩ := mj_b1_o h
  refine mj_sub (L' := [some (mj_r (β, 1)), some (.inl a1), some (.inl 24)]) ⟨rfl, ⟨rfl, ⟨rfl, trivial⟩⟩⟩ ?_
  refine C_X5_putFour_L3 C hB hR _ _ _ _ hl8 ?_
  cases h
  exact mj_vret C hT dX5_putFour_49 ⟨rfl, rfl, mj_bv _⟩
def f_X10_state (a1 : Int32) (M : mj_M) : Int32 × mj_M := mj_let (M 0 1 1) (fun x1 => mj_let (mj_twr M 0 1 1 a1) (fun M2 => (x1, M2)))
set_option maxHeartbeats 4000000 in
set_option maxRecDepth 20000 in
theorem C_X10_state {G : mj_G} {a1 : Int32} {M : mj_M} {x0 : Int32} {m0 : mj_M} (hB : mj_isT G) (h : f_X10_state a1 M = (x0, m0)) : mj_S1 yX10_state cX10_state 3 (some .int) 0 G [mj_r (3, 0), .inl a1] M (some (.inl x0)) m0 := by
  refine mj_intro (by decide) (Nat.le_of_ble_eq_true rfl) ?_
  intro κ C hG hR hT
  subst hG
  have C : mj_C κ cX10_state 3 RX10 := C
  show mj_R κ (mj_F κ (fun r M' => r = (some (.inl x0)) ∧ M' = m0 ∧ mj_bb (some .int) (some (.inl x0)))) 0 [some (mj_r (3, 0)), some (.inl a1), none] [] M
  unfold f_X10_state at h
  refine mj_aload_n C dX10_state_0 rfl ?_
  refine mj_getr (r := (0, 0)) C lF_X10_12 hB.2.2.2.2 rfl dX10_state_1 ?_
  refine mj_getr (r := (0, 1)) C lF_X10_40 (sL0 hB.1) rfl dX10_state_4 ?_
  refine mj_tget C lF_X10_44 (sL1 hB.1) rfl dX10_state_7 ?_
  obtain ⟨x1, hx1, h⟩ := mj_let_o h
  refine mj_nm hx1 ?_
  refine mj_istore_n (L2 := [some (mj_r (3, 0)), some (.inl a1), some (.inl x1)]) C dX10_state_10 (Nat.le_of_ble_eq_true rfl) rfl ?_
  refine mj_aload_n C dX10_state_11 rfl ?_
  refine mj_getr (r := (0, 0)) C lF_X10_12 hB.2.2.2.2 rfl dX10_state_12 ?_
  refine mj_getr (r := (0, 1)) C lF_X10_40 (sL0 hB.1) rfl dX10_state_15 ?_
  refine mj_iload_n C dX10_state_18 rfl ?_
  obtain ⟨M2, hM2, h⟩ := mj_let_o h
  refine mj_tput C lF_X10_44 fP_1_1 (vp_nar_int _) rfl (sL1 hB.1) rfl dX10_state_19 hM2 ?_
  refine mj_iload_n C dX10_state_22 rfl ?_
  cases h
  exact mj_iret C hT (vp_nar_int _) dX10_state_23 ⟨rfl, rfl, mj_bi _⟩
def f_X10_set (a1 : Int32) (a2 : Int32) (M : mj_M) : Option (Int32 × mj_M) := mj_b2 (f_X0_change a1 a2 (M 0)) (fun r1 m2 => mj_let (va_up M 0 m2) (fun M3 => some (r1, M3)))
set_option maxHeartbeats 4000000 in
set_option maxRecDepth 20000 in
theorem C_X10_set {G : mj_G} {a1 : Int32} {a2 : Int32} {M : mj_M} {x0 : Int32} {m0 : mj_M} (hB : mj_isT G) (h : f_X10_set a1 a2 M = some (x0, m0)) : mj_S1 yX10_set cX10_set 3 (some .boolean) 2 G [mj_r (3, 0), .inl a1, .inl a2] M (some (.inl x0)) m0 := by
  refine mj_intro (by decide) (Nat.le_of_ble_eq_true rfl) ?_
  intro κ C hG hR hT
  subst hG
  have C : mj_C κ cX10_set 3 RX10 := C
  show mj_R κ (mj_F κ (fun r M' => r = (some (.inl x0)) ∧ M' = m0 ∧ mj_bb (some .boolean) (some (.inl x0)))) 0 [some (mj_r (3, 0)), some (.inl a1), some (.inl a2)] [] M
  unfold f_X10_set at h
  refine mj_aload_n C dX10_set_0 rfl ?_
  refine mj_getr (r := (0, 0)) C lF_X10_12 hB.2.2.2.2 rfl dX10_set_1 ?_
  refine mj_getr (r := (0, 1)) C lF_X10_40 (sL0 hB.1) rfl dX10_set_4 ?_
  refine mj_iload_n C dX10_set_7 rfl ?_
  refine mj_iload_n C dX10_set_8 rfl ?_
  obtain ⟨r1, m2, em2, h⟩ := mj_b2_o h
  obtain ⟨M3, hM3, h⟩ := mj_let_o h
  refine mj_callV1 (av := [.inl a1, .inl a2]) C lM_X10_50 lV_X0_change (sL1 hB.1) ⟨_, rfl, rfl⟩ rfl (mj_S1_self (M := M) (β := 0) (C_X0_change (M := M) (m := M 0) hB.1 em2)) (mj_rmok hR (by decide) (by decide)) rfl (Nat.le_of_ble_eq_true rfl) dX10_set_9 (fun hb4 => ?_)
  refine mj_mm hM3 ?_
  cases h
  exact mj_iret C hT (mj_nb hb4) dX10_set_12 ⟨rfl, rfl, hb4⟩
def f_X10_send (a1 : Int32) (M : mj_M) : Option (Int32 × mj_M) := mj_b2 (f_X8_queue a1 (M 0)) (fun r1 m2 => mj_let (va_up M 0 m2) (fun M3 => some (r1, M3)))
set_option maxHeartbeats 4000000 in
set_option maxRecDepth 20000 in
theorem C_X10_send {G : mj_G} {a1 : Int32} {M : mj_M} {x0 : Int32} {m0 : mj_M} (hB : mj_isT G) (h : f_X10_send a1 M = some (x0, m0)) : mj_S1 yX10_send cX10_send 2 (some .int) 3 G [mj_r (3, 0), .inl a1] M (some (.inl x0)) m0 := by
  refine mj_intro (by decide) (Nat.le_of_ble_eq_true rfl) ?_
  intro κ C hG hR hT
  subst hG
  have C : mj_C κ cX10_send 2 RX10 := C
  show mj_R κ (mj_F κ (fun r M' => r = (some (.inl x0)) ∧ M' = m0 ∧ mj_bb (some .int) (some (.inl x0)))) 0 [some (mj_r (3, 0)), some (.inl a1)] [] M
  unfold f_X10_send at h
  refine mj_aload_n C dX10_send_0 rfl ?_
  refine mj_getr (r := (0, 0)) C lF_X10_12 hB.2.2.2.2 rfl dX10_send_1 ?_
  refine mj_getr (r := (0, 17)) C lF_X10_54 (sL0 hB.1) rfl dX10_send_4 ?_
  refine mj_iload_n C dX10_send_7 rfl ?_
  obtain ⟨r1, m2, em2, h⟩ := mj_b2_o h
  obtain ⟨M3, hM3, h⟩ := mj_let_o h
  refine mj_callV1 (av := [.inl a1]) C lM_X10_58 lV_X8_queue (sL17 hB.1) ⟨_, rfl, rfl⟩ rfl (mj_S1_self (M := M) (β := 0) (C_X8_queue (M := M) (m := M 0) hB.1 em2)) (mj_rmok hR (by decide) (by decide)) rfl (Nat.le_of_ble_eq_true rfl) dX10_send_8 (fun hb4 => ?_)
  refine mj_mm hM3 ?_
  cases h
  exact mj_iret C hT (vp_nar_int _) dX10_send_11 ⟨rfl, rfl, mj_bi _⟩
def f_X10_past (a1 : Int32) (M : mj_M) : Option (Int32 × mj_M) := mj_b2 (f_X8_queuePast a1 (M 0)) (fun r1 m2 => mj_let (va_up M 0 m2) (fun M3 => some (r1, M3)))
set_option maxHeartbeats 4000000 in
set_option maxRecDepth 20000 in
theorem C_X10_past {G : mj_G} {a1 : Int32} {M : mj_M} {x0 : Int32} {m0 : mj_M} (hB : mj_isT G) (h : f_X10_past a1 M = some (x0, m0)) : mj_S1 yX10_past cX10_past 2 (some .int) 3 G [mj_r (3, 0), .inl a1] M (some (.inl x0)) m0 := by
  refine mj_intro (by decide) (Nat.le_of_ble_eq_true rfl) ?_
  intro κ C hG hR hT
  subst hG
  have C : mj_C κ cX10_past 2 RX10 := C
  show mj_R κ (mj_F κ (fun r M' => r = (some (.inl x0)) ∧ M' = m0 ∧ mj_bb (some .int) (some (.inl x0)))) 0 [some (mj_r (3, 0)), some (.inl a1)] [] M
  unfold f_X10_past at h
  refine mj_aload_n C dX10_past_0 rfl ?_
  refine mj_getr (r := (0, 0)) C lF_X10_12 hB.2.2.2.2 rfl dX10_past_1 ?_
  refine mj_getr (r := (0, 17)) C lF_X10_54 (sL0 hB.1) rfl dX10_past_4 ?_
  refine mj_iload_n C dX10_past_7 rfl ?_
  obtain ⟨r1, m2, em2, h⟩ := mj_b2_o h
  obtain ⟨M3, hM3, h⟩ := mj_let_o h
  refine mj_callV1 (av := [.inl a1]) C lM_X10_64 lV_X8_queuePast (sL17 hB.1) ⟨_, rfl, rfl⟩ rfl (mj_S1_self (M := M) (β := 0) (C_X8_queuePast (M := M) (m := M 0) hB.1 em2)) (mj_rmok hR (by decide) (by decide)) rfl (Nat.le_of_ble_eq_true rfl) dX10_past_8 (fun hb4 => ?_)
  refine mj_mm hM3 ?_
  cases h
  exact mj_iret C hT (vp_nar_int _) dX10_past_11 ⟨rfl, rfl, mj_bi _⟩
def f_X10_start (a1 : Int32) (a2 : Int32) (M : mj_M) : Option (Int32 × mj_M) := mj_b2 (f_X8_begin a1 a2 (M 0)) (fun r1 m2 => mj_let (va_up M 0 m2) (fun M3 => some (r1, M3)))
set_option maxHeartbeats 4000000 in
set_option maxRecDepth 20000 in
theorem C_X10_start {G : mj_G} {a1 : Int32} {a2 : Int32} {M : mj_M} {x0 : Int32} {m0 : mj_M} (hB : mj_isT G) (h : f_X10_start a1 a2 M = some (x0, m0)) : mj_S1 yX10_start cX10_start 3 (some .boolean) 3 G [mj_r (3, 0), .inl a1, .inl a2] M (some (.inl x0)) m0 := by
  refine mj_intro (by decide) (Nat.le_of_ble_eq_true rfl) ?_
  intro κ C hG hR hT
  subst hG
  have C : mj_C κ cX10_start 3 RX10 := C
  show mj_R κ (mj_F κ (fun r M' => r = (some (.inl x0)) ∧ M' = m0 ∧ mj_bb (some .boolean) (some (.inl x0)))) 0 [some (mj_r (3, 0)), some (.inl a1), some (.inl a2)] [] M
  unfold f_X10_start at h
  refine mj_aload_n C dX10_start_0 rfl ?_
  refine mj_getr (r := (0, 0)) C lF_X10_12 hB.2.2.2.2 rfl dX10_start_1 ?_
  refine mj_getr (r := (0, 17)) C lF_X10_54 (sL0 hB.1) rfl dX10_start_4 ?_
  refine mj_iload_n C dX10_start_7 rfl ?_
  refine mj_iload_n C dX10_start_8 rfl ?_
  obtain ⟨r1, m2, em2, h⟩ := mj_b2_o h
  obtain ⟨M3, hM3, h⟩ := mj_let_o h
  refine mj_callV1 (av := [.inl a1, .inl a2]) C lM_X10_67 lV_X8_begin (sL17 hB.1) ⟨_, rfl, rfl⟩ rfl (mj_S1_self (M := M) (β := 0) (C_X8_begin (M := M) (m := M 0) hB.1 em2)) (mj_rmok hR (by decide) (by decide)) rfl (Nat.le_of_ble_eq_true rfl) dX10_start_9 (fun hb4 => ?_)
  refine mj_mm hM3 ?_
  cases h
  exact mj_iret C hT (mj_nb hb4) dX10_start_12 ⟨rfl, rfl, hb4⟩
def f_X10_direct (a1 : Int32) (M : mj_M) : Option (Int32 × mj_M) := if a1 = 0 then (mj_b2 (f_X8_halt (M 0)) (fun r8 m9 => mj_let (va_up M 0 m9) (fun M10 => some (r8, M10)))) else (if a1 = 1 then (mj_b2 (f_X8_goOn (M 0)) (fun r3 m4 => mj_let (va_up M 0 m4) (fun M5 => if r3 = 0 then (some (0, M5)) else (some (1, M5))))) else (some (0, M)))
set_option maxHeartbeats 4000000 in
set_option maxRecDepth 20000 in
theorem C_X10_direct {G : mj_G} {a1 : Int32} {M : mj_M} {x0 : Int32} {m0 : mj_M} (hB : mj_isT G) (h : f_X10_direct a1 M = some (x0, m0)) : mj_S1 yX10_direct cX10_direct 2 (some .boolean) 3 G [mj_r (3, 0), .inl a1] M (some (.inl x0)) m0 := by
  refine mj_intro (by decide) (Nat.le_of_ble_eq_true rfl) ?_
  intro κ C hG hR hT
  subst hG
  have C : mj_C κ cX10_direct 2 RX10 := C
  show mj_R κ (mj_F κ (fun r M' => r = (some (.inl x0)) ∧ M' = m0 ∧ mj_bb (some .boolean) (some (.inl x0)))) 0 [some (mj_r (3, 0)), some (.inl a1)] [] M
  unfold f_X10_direct at h
  refine mj_iload_n C dX10_direct_0 rfl ?_
  refine mj_if_ne (tgt := 15) C dX10_direct_1 (by decide) (fun c1 => ?_) (fun c1 => ?_)
  · replace h := mj_if_f c1 h
    refine mj_iload_n C dX10_direct_15 rfl ?_
    refine mj_iconst (v := 1) C dX10_direct_16 (by decide) ?_
    refine mj_icmp_ne (tgt := 37) C dX10_direct_17 (by decide) (fun c2 => ?_) (fun c2 => ?_)
    · replace h := mj_if_f c2 h
      refine mj_iconst (v := 0) C dX10_direct_37 (by decide) ?_
      cases h
      exact mj_iret C hT (mj_nb mj_b0) dX10_direct_38 ⟨rfl, rfl, mj_b0⟩
    · replace h := mj_if_t c2 h
      refine mj_aload_n C dX10_direct_20 rfl ?_
      refine mj_getr (r := (0, 0)) C lF_X10_12 hB.2.2.2.2 rfl dX10_direct_21 ?_
      refine mj_getr (r := (0, 17)) C lF_X10_54 (sL0 hB.1) rfl dX10_direct_24 ?_
      obtain ⟨r3, m4, em4, h⟩ := mj_b2_o h
      obtain ⟨M5, hM5, h⟩ := mj_let_o h
      refine mj_callV1 (av := []) C lM_X10_74 lV_X8_goOn (sL17 hB.1) ⟨_, rfl, rfl⟩ rfl (mj_S1_self (M := M) (β := 0) (C_X8_goOn (M := M) (m := M 0) hB.1 em4)) (mj_rmok hR (by decide) (by decide)) rfl (Nat.le_of_ble_eq_true rfl) dX10_direct_27 (fun hb6 => ?_)
      refine mj_mm hM5 ?_
      refine mj_if_eq (tgt := 37) C dX10_direct_30 (by decide) (fun c7 => ?_) (fun c7 => ?_)
      · replace h := mj_if_t c7 h
        refine mj_iconst (v := 0) C dX10_direct_37 (by decide) ?_
        cases h
        exact mj_iret C hT (mj_nb mj_b0) dX10_direct_38 ⟨rfl, rfl, mj_b0⟩
      · replace h := mj_if_f c7 h
        refine mj_iconst (v := 1) C dX10_direct_33 (by decide) ?_
        refine mj_goto (tgt := 38) C dX10_direct_34 (by decide) ?_
        cases h
        exact mj_iret C hT (mj_nb mj_b1') dX10_direct_38 ⟨rfl, rfl, mj_b1'⟩
  · replace h := mj_if_t c1 h
    refine mj_aload_n C dX10_direct_4 rfl ?_
    refine mj_getr (r := (0, 0)) C lF_X10_12 hB.2.2.2.2 rfl dX10_direct_5 ?_
    refine mj_getr (r := (0, 17)) C lF_X10_54 (sL0 hB.1) rfl dX10_direct_8 ?_
    obtain ⟨r8, m9, em9, h⟩ := mj_b2_o h
    obtain ⟨M10, hM10, h⟩ := mj_let_o h
    refine mj_callV1 (av := []) C lM_X10_70 lV_X8_halt (sL17 hB.1) ⟨_, rfl, rfl⟩ rfl (mj_S1_self (M := M) (β := 0) (C_X8_halt (M := M) (m := M 0) hB.1 em9)) (mj_rmok hR (by decide) (by decide)) rfl (Nat.le_of_ble_eq_true rfl) dX10_direct_11 (fun hb11 => ?_)
    refine mj_mm hM10 ?_
    cases h
    exact mj_iret C hT (mj_nb hb11) dX10_direct_14 ⟨rfl, rfl, hb11⟩
def f_X10_renumber (a1 : Int32) (M : mj_M) : Int32 × mj_M := mj_p2 (f_X8_countFrom a1 (M 0)) (fun r1 m2 => mj_let (va_up M 0 m2) (fun M3 => (r1, M3)))
set_option maxHeartbeats 4000000 in
set_option maxRecDepth 20000 in
theorem C_X10_renumber {G : mj_G} {a1 : Int32} {M : mj_M} {x0 : Int32} {m0 : mj_M} (hB : mj_isT G) (h : f_X10_renumber a1 M = (x0, m0)) : mj_S1 yX10_renumber cX10_renumber 2 (some .boolean) 3 G [mj_r (3, 0), .inl a1] M (some (.inl x0)) m0 := by
  refine mj_intro (by decide) (Nat.le_of_ble_eq_true rfl) ?_
  intro κ C hG hR hT
  subst hG
  have C : mj_C κ cX10_renumber 2 RX10 := C
  show mj_R κ (mj_F κ (fun r M' => r = (some (.inl x0)) ∧ M' = m0 ∧ mj_bb (some .boolean) (some (.inl x0)))) 0 [some (mj_r (3, 0)), some (.inl a1)] [] M
  unfold f_X10_renumber at h
  refine mj_aload_n C dX10_renumber_0 rfl ?_
  refine mj_getr (r := (0, 0)) C lF_X10_12 hB.2.2.2.2 rfl dX10_renumber_1 ?_
  refine mj_getr (r := (0, 17)) C lF_X10_54 (sL0 hB.1) rfl dX10_renumber_4 ?_
  refine mj_iload_n C dX10_renumber_7 rfl ?_
  obtain ⟨r1, m2, em2, h⟩ := mj_p2_o h
  obtain ⟨M3, hM3, h⟩ := mj_let_o h
  refine mj_callV1 (av := [.inl a1]) C lM_X10_77 lV_X8_countFrom (sL17 hB.1) ⟨_, rfl, rfl⟩ rfl (mj_S1_self (M := M) (β := 0) (C_X8_countFrom (M := M) (m := M 0) hB.1 em2)) (mj_rmok hR (by decide) (by decide)) rfl (Nat.le_of_ble_eq_true rfl) dX10_renumber_8 (fun hb4 => ?_)
  refine mj_mm hM3 ?_
  cases h
  exact mj_iret C hT (mj_nb hb4) dX10_renumber_11 ⟨rfl, rfl, hb4⟩
def f_X10_take (M : mj_M) : Option (Int32 × mj_M) := mj_b2 (f_X6_handOver (M 0)) (fun r1 m2 => mj_let (va_up M 0 m2) (fun M3 => some (r1, M3)))
set_option maxHeartbeats 4000000 in
set_option maxRecDepth 20000 in
theorem C_X10_take {G : mj_G} {M : mj_M} {x0 : Int32} {m0 : mj_M} (hB : mj_isT G) (h : f_X10_take M = some (x0, m0)) : mj_S1 yX10_take cX10_take 1 (some .int) 3 G [mj_r (3, 0)] M (some (.inl x0)) m0 := by
  refine mj_intro (by decide) (Nat.le_of_ble_eq_true rfl) ?_
  intro κ C hG hR hT
  subst hG
  have C : mj_C κ cX10_take 1 RX10 := C
  show mj_R κ (mj_F κ (fun r M' => r = (some (.inl x0)) ∧ M' = m0 ∧ mj_bb (some .int) (some (.inl x0)))) 0 [some (mj_r (3, 0))] [] M
  unfold f_X10_take at h
  refine mj_aload_n C dX10_take_0 rfl ?_
  refine mj_getr (r := (0, 0)) C lF_X10_12 hB.2.2.2.2 rfl dX10_take_1 ?_
  refine mj_getr (r := (0, 9)) C lF_X10_81 (sL0 hB.1) rfl dX10_take_4 ?_
  obtain ⟨r1, m2, em2, h⟩ := mj_b2_o h
  obtain ⟨M3, hM3, h⟩ := mj_let_o h
  refine mj_callV1 (av := []) C lM_X10_85 lV_X6_handOver (sL9 hB.1) ⟨_, rfl, rfl⟩ rfl (mj_S1_self (M := M) (β := 0) (C_X6_handOver (M := M) (m := M 0) hB.1 em2)) (mj_rmok hR (by decide) (by decide)) rfl (Nat.le_of_ble_eq_true rfl) dX10_take_7 (fun hb4 => ?_)
  refine mj_mm hM3 ?_
  cases h
  exact mj_iret C hT (vp_nar_int _) dX10_take_10 ⟨rfl, rfl, mj_bi _⟩
def f_X10_tick (a1 : Int32) (M : mj_M) : Option (Int32 × mj_M) := mj_let (f_X3_hasTimeFor a1 (M 0)) (fun r1 => if r1 = 0 then (some ((-1), M)) else (mj_b1 (f_X3_passTicks a1 0 (M 0)) (fun m4 => mj_let (va_up M 0 m4) (fun M5 => some (M5 0 1 0, M5)))))
set_option maxHeartbeats 4000000 in
set_option maxRecDepth 20000 in
theorem C_X10_tick {G : mj_G} {a1 : Int32} {M : mj_M} {x0 : Int32} {m0 : mj_M} (hB : mj_isT G) (h : f_X10_tick a1 M = some (x0, m0)) : mj_S1 yX10_tick cX10_tick 2 (some .int) 6 G [mj_r (3, 0), .inl a1] M (some (.inl x0)) m0 := by
  refine mj_intro (by decide) (Nat.le_of_ble_eq_true rfl) ?_
  intro κ C hG hR hT
  subst hG
  have C : mj_C κ cX10_tick 2 RX10 := C
  show mj_R κ (mj_F κ (fun r M' => r = (some (.inl x0)) ∧ M' = m0 ∧ mj_bb (some .int) (some (.inl x0)))) 0 [some (mj_r (3, 0)), some (.inl a1)] [] M
  unfold f_X10_tick at h
  refine mj_aload_n C dX10_tick_0 rfl ?_
  refine mj_getr (r := (0, 0)) C lF_X10_12 hB.2.2.2.2 rfl dX10_tick_1 ?_
  refine mj_iload_n C dX10_tick_4 rfl ?_
  obtain ⟨r1, er1, h⟩ := mj_let_o h
  refine mj_callV1 (av := [.inl a1]) C lM_X10_91 lV_X3_hasTimeFor (sL0 hB.1) ⟨_, rfl, rfl⟩ rfl (mj_S1_selfR (M := M) (β := 0) (C_X3_hasTimeFor (M := M) (m := M 0) hB.1 er1)) (mj_rmok hR (by decide) (by decide)) rfl (Nat.le_of_ble_eq_true rfl) dX10_tick_5 (fun hb2 => ?_)
  refine mj_if_ne (tgt := 13) C dX10_tick_8 (by decide) (fun c3 => ?_) (fun c3 => ?_)
  · replace h := mj_if_f c3 h
    refine mj_aload_n C dX10_tick_13 rfl ?_
    refine mj_getr (r := (0, 0)) C lF_X10_12 hB.2.2.2.2 rfl dX10_tick_14 ?_
    refine mj_iload_n C dX10_tick_17 rfl ?_
    refine mj_iconst (v := 0) C dX10_tick_18 (by decide) ?_
    obtain ⟨m4, em4, h⟩ := mj_b1_o h
    obtain ⟨M5, hM5, h⟩ := mj_let_o h
    refine mj_callV0 (av := [.inl a1, .inl 0]) C lM_X10_94 lV_X3_passTicks (sL0 hB.1) ⟨_, rfl, rfl⟩ rfl (mj_S1_self (M := M) (β := 0) (C_X3_passTicks (M := M) (m := M 0) hB.1 em4)) (mj_rmok hR (by decide) (by decide)) rfl (Nat.le_of_ble_eq_true rfl) dX10_tick_19 ?_
    refine mj_mm hM5 ?_
    refine mj_aload_n C dX10_tick_22 rfl ?_
    refine mj_getr (r := (0, 0)) C lF_X10_12 hB.2.2.2.2 rfl dX10_tick_23 ?_
    refine mj_getr (r := (0, 1)) C lF_X10_40 (sL0 hB.1) rfl dX10_tick_26 ?_
    refine mj_tget C lF_X10_98 (sL1 hB.1) rfl dX10_tick_29 ?_
    cases h
    exact mj_iret C hT (vp_nar_int _) dX10_tick_32 ⟨rfl, rfl, mj_bi _⟩
  · replace h := mj_if_t c3 h
    refine mj_iconst (v := (-1)) C dX10_tick_11 (by decide) ?_
    cases h
    exact mj_iret C hT (vp_nar_int _) dX10_tick_12 ⟨rfl, rfl, mj_bi _⟩
def f_X10_drop (a1 : Int32) (a2 : Int32) (M : mj_M) : Option (Int32 × mj_M) := mj_let (f_X3_wayOf a1) (fun r1 => mj_b2 (f_X9_takeOff r1 a2 (M 0)) (fun r3 m4 => mj_let (va_up M 0 m4) (fun M5 => some (r3, M5))))
set_option maxHeartbeats 4000000 in
set_option maxRecDepth 20000 in
theorem C_X10_drop {G : mj_G} {a1 : Int32} {a2 : Int32} {M : mj_M} {x0 : Int32} {m0 : mj_M} (hB : mj_isT G) (h : f_X10_drop a1 a2 M = some (x0, m0)) : mj_S1 yX10_drop cX10_drop 3 (some .boolean) 2 G [mj_r (3, 0), .inl a1, .inl a2] M (some (.inl x0)) m0 := by
  refine mj_intro (by decide) (Nat.le_of_ble_eq_true rfl) ?_
  intro κ C hG hR hT
  subst hG
  have C : mj_C κ cX10_drop 3 RX10 := C
  show mj_R κ (mj_F κ (fun r M' => r = (some (.inl x0)) ∧ M' = m0 ∧ mj_bb (some .boolean) (some (.inl x0)))) 0 [some (mj_r (3, 0)), some (.inl a1), some (.inl a2)] [] M
  unfold f_X10_drop at h
  refine mj_aload_n C dX10_drop_0 rfl ?_
  refine mj_getr (r := (0, 0)) C lF_X10_12 hB.2.2.2.2 rfl dX10_drop_1 ?_
  refine mj_iload_n C dX10_drop_4 rfl ?_
  obtain ⟨r1, er1, h⟩ := mj_let_o h
  refine mj_callV1 (av := [.inl a1]) C lM_X10_101 lV_X3_wayOf (sL0 hB.1) ⟨_, rfl, rfl⟩ rfl (mj_S1_selfR (M := M) (β := 0) (C_X3_wayOf (M := M) (m := M 0) hB.1 er1)) (mj_rmok hR (by decide) (by decide)) rfl (Nat.le_of_ble_eq_true rfl) dX10_drop_5 (fun hb2 => ?_)
  have hwr1 := sLwv hB.1 er1
  refine mj_iload_n C dX10_drop_8 rfl ?_
  obtain ⟨r3, m4, em4, h⟩ := mj_b2_o h
  obtain ⟨M5, hM5, h⟩ := mj_let_o h
  refine mj_callV1 (av := [.inl a2]) C lM_X10_105 lV_X9_takeOff hwr1.2.1 ⟨_, rfl, rfl⟩ rfl (mj_S1_self (M := M) (β := 0) (C_X9_takeOff (M := M) (m := M 0) hwr1 em4)) (mj_rmok hR (by decide) (by decide)) rfl (Nat.le_of_ble_eq_true rfl) dX10_drop_9 (fun hb6 => ?_)
  refine mj_mm hM5 ?_
  cases h
  exact mj_iret C hT (mj_nb hb6) dX10_drop_12 ⟨rfl, rfl, hb6⟩
def f_X10_spoil (a1 : Int32) (a2 : Int32) (a3 : Int32) (a4 : Int32) (M : mj_M) : Option (Int32 × mj_M) := mj_let (f_X3_wayOf a1) (fun r1 => mj_b2 (f_X9_putByte r1 a2 a3 a4 (M 0)) (fun r3 m4 => mj_let (va_up M 0 m4) (fun M5 => some (r3, M5))))
set_option maxHeartbeats 4000000 in
set_option maxRecDepth 20000 in
theorem C_X10_spoil {G : mj_G} {a1 : Int32} {a2 : Int32} {a3 : Int32} {a4 : Int32} {M : mj_M} {x0 : Int32} {m0 : mj_M} (hB : mj_isT G) (h : f_X10_spoil a1 a2 a3 a4 M = some (x0, m0)) : mj_S1 yX10_spoil cX10_spoil 5 (some .boolean) 2 G [mj_r (3, 0), .inl a1, .inl a2, .inl a3, .inl a4] M (some (.inl x0)) m0 := by
  refine mj_intro (by decide) (Nat.le_of_ble_eq_true rfl) ?_
  intro κ C hG hR hT
  subst hG
  have C : mj_C κ cX10_spoil 5 RX10 := C
  show mj_R κ (mj_F κ (fun r M' => r = (some (.inl x0)) ∧ M' = m0 ∧ mj_bb (some .boolean) (some (.inl x0)))) 0 [some (mj_r (3, 0)), some (.inl a1), some (.inl a2), some (.inl a3), some (.inl a4)] [] M
  unfold f_X10_spoil at h
  refine mj_aload_n C dX10_spoil_0 rfl ?_
  refine mj_getr (r := (0, 0)) C lF_X10_12 hB.2.2.2.2 rfl dX10_spoil_1 ?_
  refine mj_iload_n C dX10_spoil_4 rfl ?_
  obtain ⟨r1, er1, h⟩ := mj_let_o h
  refine mj_callV1 (av := [.inl a1]) C lM_X10_101 lV_X3_wayOf (sL0 hB.1) ⟨_, rfl, rfl⟩ rfl (mj_S1_selfR (M := M) (β := 0) (C_X3_wayOf (M := M) (m := M 0) hB.1 er1)) (mj_rmok hR (by decide) (by decide)) rfl (Nat.le_of_ble_eq_true rfl) dX10_spoil_5 (fun hb2 => ?_)
  have hwr1 := sLwv hB.1 er1
  refine mj_iload_n C dX10_spoil_8 rfl ?_
  refine mj_iload_n C dX10_spoil_9 rfl ?_
  refine mj_iload C dX10_spoil_10 rfl ?_
  obtain ⟨r3, m4, em4, h⟩ := mj_b2_o h
  obtain ⟨M5, hM5, h⟩ := mj_let_o h
  refine mj_callV1 (av := [.inl a2, .inl a3, .inl a4]) C lM_X10_110 lV_X9_putByte hwr1.2.1 ⟨_, rfl, rfl⟩ rfl (mj_S1_self (M := M) (β := 0) (C_X9_putByte (M := M) (m := M 0) hwr1 em4)) (mj_rmok hR (by decide) (by decide)) rfl (Nat.le_of_ble_eq_true rfl) dX10_spoil_12 (fun hb6 => ?_)
  refine mj_mm hM5 ?_
  cases h
  exact mj_iret C hT (mj_nb hb6) dX10_spoil_15 ⟨rfl, rfl, hb6⟩
def f_X10_feed (a1 : Int32) (a2 : Int32) (a3 : Int32) (a4 : Int32) (a5 : Int32) (M : mj_M) : Option (Int32 × mj_M) := mj_let (f_X5_hasRoom (M 3)) (fun r1 => if r1 = 0 then (some ((-1), M)) else (mj_b1 (f_X5_putFour a1 (M 3)) (fun m4 => mj_let (va_up M 3 m4) (fun M5 => mj_b1 (f_X5_putFour a2 (M5 3)) (fun m7 => mj_let (va_up M5 3 m7) (fun M8 => mj_b1 (f_X5_putFour a3 (M8 3)) (fun m10 => mj_let (va_up M8 3 m10) (fun M11 => mj_b1 (f_X5_putFour a4 (M11 3)) (fun m13 => mj_let (va_up M11 3 m13) (fun M14 => mj_b1 (f_X5_putFour a5 (M14 3)) (fun m16 => mj_let (va_up M14 3 m16) (fun M17 => some (M17 3 1 1, M17)))))))))))))
set_option maxHeartbeats 4000000 in
set_option maxRecDepth 20000 in
theorem C_X10_feed {G : mj_G} {a1 : Int32} {a2 : Int32} {a3 : Int32} {a4 : Int32} {a5 : Int32} {M : mj_M} {x0 : Int32} {m0 : mj_M} (hB : mj_isT G) (h : f_X10_feed a1 a2 a3 a4 a5 M = some (x0, m0)) : mj_S1 yX10_feed cX10_feed 6 (some .int) 1 G [mj_r (3, 0), .inl a1, .inl a2, .inl a3, .inl a4, .inl a5] M (some (.inl x0)) m0 := by
  refine mj_intro (by decide) (Nat.le_of_ble_eq_true rfl) ?_
  intro κ C hG hR hT
  subst hG
  have C : mj_C κ cX10_feed 6 RX10 := C
  show mj_R κ (mj_F κ (fun r M' => r = (some (.inl x0)) ∧ M' = m0 ∧ mj_bb (some .int) (some (.inl x0)))) 0 [some (mj_r (3, 0)), some (.inl a1), some (.inl a2), some (.inl a3), some (.inl a4), some (.inl a5)] [] M
  unfold f_X10_feed at h
  refine mj_aload_n C dX10_feed_0 rfl ?_
  refine mj_getr (r := (3, 1)) C lF_X10_29 hB.2.2.2.2 rfl dX10_feed_1 ?_
  obtain ⟨r1, er1, h⟩ := mj_let_o h
  refine mj_callV1 (av := []) C lM_X10_114 lV_X5_hasRoom (sR1 hB.2.2.2.1) ⟨_, rfl, rfl⟩ rfl (mj_S1_selfR (M := M) (β := 3) (C_X5_hasRoom (M := M) (m := M 3) hB.2.2.2.1 er1)) (mj_rmok hR (by decide) (by decide)) rfl (Nat.le_of_ble_eq_true rfl) dX10_feed_4 (fun hb2 => ?_)
  refine mj_if_ne (tgt := 12) C dX10_feed_7 (by decide) (fun c3 => ?_) (fun c3 => ?_)
  · replace h := mj_if_f c3 h
    refine mj_aload_n C dX10_feed_12 rfl ?_
    refine mj_getr (r := (3, 1)) C lF_X10_29 hB.2.2.2.2 rfl dX10_feed_13 ?_
    refine mj_iload_n C dX10_feed_16 rfl ?_
    obtain ⟨m4, em4, h⟩ := mj_b1_o h
    obtain ⟨M5, hM5, h⟩ := mj_let_o h
    refine mj_callV0 (av := [.inl a1]) C lM_X10_117 lV_X5_putFour (sR1 hB.2.2.2.1) ⟨_, rfl, rfl⟩ rfl (mj_S1_self (M := M) (β := 3) (C_X5_putFour (M := M) (m := M 3) hB.2.2.2.1 em4)) (mj_rmok hR (by decide) (by decide)) rfl (Nat.le_of_ble_eq_true rfl) dX10_feed_17 ?_
    refine mj_mm hM5 ?_
    refine mj_aload_n C dX10_feed_20 rfl ?_
    refine mj_getr (r := (3, 1)) C lF_X10_29 hB.2.2.2.2 rfl dX10_feed_21 ?_
    refine mj_iload_n C dX10_feed_24 rfl ?_
    obtain ⟨m7, em7, h⟩ := mj_b1_o h
    obtain ⟨M8, hM8, h⟩ := mj_let_o h
    refine mj_callV0 (av := [.inl a2]) C lM_X10_117 lV_X5_putFour (sR1 hB.2.2.2.1) ⟨_, rfl, rfl⟩ rfl (mj_S1_self (M := M5) (β := 3) (C_X5_putFour (M := M5) (m := M5 3) hB.2.2.2.1 em7)) (mj_rmok hR (by decide) (by decide)) rfl (Nat.le_of_ble_eq_true rfl) dX10_feed_25 ?_
    refine mj_mm hM8 ?_
    refine mj_aload_n C dX10_feed_28 rfl ?_
    refine mj_getr (r := (3, 1)) C lF_X10_29 hB.2.2.2.2 rfl dX10_feed_29 ?_
    refine mj_iload_n C dX10_feed_32 rfl ?_
    obtain ⟨m10, em10, h⟩ := mj_b1_o h
    obtain ⟨M11, hM11, h⟩ := mj_let_o h
    refine mj_callV0 (av := [.inl a3]) C lM_X10_117 lV_X5_putFour (sR1 hB.2.2.2.1) ⟨_, rfl, rfl⟩ rfl (mj_S1_self (M := M8) (β := 3) (C_X5_putFour (M := M8) (m := M8 3) hB.2.2.2.1 em10)) (mj_rmok hR (by decide) (by decide)) rfl (Nat.le_of_ble_eq_true rfl) dX10_feed_33 ?_
    refine mj_mm hM11 ?_
    refine mj_aload_n C dX10_feed_36 rfl ?_
    refine mj_getr (r := (3, 1)) C lF_X10_29 hB.2.2.2.2 rfl dX10_feed_37 ?_
    refine mj_iload C dX10_feed_40 rfl ?_
    obtain ⟨m13, em13, h⟩ := mj_b1_o h
    obtain ⟨M14, hM14, h⟩ := mj_let_o h
    refine mj_callV0 (av := [.inl a4]) C lM_X10_117 lV_X5_putFour (sR1 hB.2.2.2.1) ⟨_, rfl, rfl⟩ rfl (mj_S1_self (M := M11) (β := 3) (C_X5_putFour (M := M11) (m := M11 3) hB.2.2.2.1 em13)) (mj_rmok hR (by decide) (by decide)) rfl (Nat.le_of_ble_eq_true rfl) dX10_feed_42 ?_
    refine mj_mm hM14 ?_
    refine mj_aload_n C dX10_feed_45 rfl ?_
    refine mj_getr (r := (3, 1)) C lF_X10_29 hB.2.2.2.2 rfl dX10_feed_46 ?_
    refine mj_iload C dX10_feed_49 rfl ?_
    obtain ⟨m16, em16, h⟩ := mj_b1_o h
    obtain ⟨M17, hM17, h⟩ := mj_let_o h
    refine mj_callV0 (av := [.inl a5]) C lM_X10_117 lV_X5_putFour (sR1 hB.2.2.2.1) ⟨_, rfl, rfl⟩ rfl (mj_S1_self (M := M14) (β := 3) (C_X5_putFour (M := M14) (m := M14 3) hB.2.2.2.1 em16)) (mj_rmok hR (by decide) (by decide)) rfl (Nat.le_of_ble_eq_true rfl) dX10_feed_51 ?_
    refine mj_mm hM17 ?_
    refine mj_aload_n C dX10_feed_54 rfl ?_
    refine mj_getr (r := (3, 1)) C lF_X10_29 hB.2.2.2.2 rfl dX10_feed_55 ?_
    refine mj_tget C lF_X10_121 (sR1 hB.2.2.2.1) rfl dX10_feed_58 ?_
    cases h
    exact mj_iret C hT (vp_nar_int _) dX10_feed_61 ⟨rfl, rfl, mj_bi _⟩
  · replace h := mj_if_t c3 h
    refine mj_iconst (v := (-1)) C dX10_feed_10 (by decide) ?_
    cases h
    exact mj_iret C hT (vp_nar_int _) dX10_feed_11 ⟨rfl, rfl, mj_bi _⟩
def f_X10_end (a1 : Int32) (M : mj_M) : Int32 × mj_M := if a1 < 0 then ((0, M)) else (if a1 ≤ M 3 1 1 then (mj_let (mj_twr M 3 1 1 a1) (fun M3 => (1, M3))) else ((0, M)))
set_option maxHeartbeats 4000000 in
set_option maxRecDepth 20000 in
theorem C_X10_end {G : mj_G} {a1 : Int32} {M : mj_M} {x0 : Int32} {m0 : mj_M} (hB : mj_isT G) (h : f_X10_end a1 M = (x0, m0)) : mj_S1 yX10_end cX10_end 2 (some .boolean) 0 G [mj_r (3, 0), .inl a1] M (some (.inl x0)) m0 := by
  refine mj_intro (by decide) (Nat.le_of_ble_eq_true rfl) ?_
  intro κ C hG hR hT
  subst hG
  have C : mj_C κ cX10_end 2 RX10 := C
  show mj_R κ (mj_F κ (fun r M' => r = (some (.inl x0)) ∧ M' = m0 ∧ mj_bb (some .boolean) (some (.inl x0)))) 0 [some (mj_r (3, 0)), some (.inl a1)] [] M
  unfold f_X10_end at h
  refine mj_iload_n C dX10_end_0 rfl ?_
  refine mj_if_lt (tgt := 15) C dX10_end_1 (by decide) (fun c1 => ?_) (fun c1 => ?_)
  · replace h := mj_if_t c1 h
    refine mj_iconst (v := 0) C dX10_end_15 (by decide) ?_
    cases h
    exact mj_iret C hT (mj_nb mj_b0) dX10_end_16 ⟨rfl, rfl, mj_b0⟩
  · replace h := mj_if_f c1 h
    refine mj_iload_n C dX10_end_4 rfl ?_
    refine mj_aload_n C dX10_end_5 rfl ?_
    refine mj_getr (r := (3, 1)) C lF_X10_29 hB.2.2.2.2 rfl dX10_end_6 ?_
    refine mj_tget C lF_X10_121 (sR1 hB.2.2.2.1) rfl dX10_end_9 ?_
    refine mj_icmp_le (tgt := 17) C dX10_end_12 (by decide) (fun c2 => ?_) (fun c2 => ?_)
    · replace h := mj_if_t c2 h
      refine mj_aload_n C dX10_end_17 rfl ?_
      refine mj_getr (r := (3, 1)) C lF_X10_29 hB.2.2.2.2 rfl dX10_end_18 ?_
      refine mj_iload_n C dX10_end_21 rfl ?_
      obtain ⟨M3, hM3, h⟩ := mj_let_o h
      refine mj_tput C lF_X10_121 fP_6_1 (vp_nar_int _) rfl (sR1 hB.2.2.2.1) rfl dX10_end_22 hM3 ?_
      refine mj_iconst (v := 1) C dX10_end_25 (by decide) ?_
      cases h
      exact mj_iret C hT (mj_nb mj_b1') dX10_end_26 ⟨rfl, rfl, mj_b1'⟩
    · replace h := mj_if_f c2 h
      refine mj_iconst (v := 0) C dX10_end_15 (by decide) ?_
      cases h
      exact mj_iret C hT (mj_nb mj_b0) dX10_end_16 ⟨rfl, rfl, mj_b0⟩
def f_X10_fault (a1 : Int32) (M : mj_M) : Int32 := if a1 = 0 then ((M 3 1 3)) else if a1 = 1 then ((M 3 1 4)) else ((-1))
set_option maxHeartbeats 4000000 in
set_option maxRecDepth 20000 in
theorem C_X10_fault {G : mj_G} {a1 : Int32} {M : mj_M} {x0 : Int32} (hB : mj_isT G) (h : f_X10_fault a1 M = x0) : mj_S1 yX10_fault cX10_fault 2 (some .int) 0 G [mj_r (3, 0), .inl a1] M (some (.inl x0)) M := by
  refine mj_intro (by decide) (Nat.le_of_ble_eq_true rfl) ?_
  intro κ C hG hR hT
  subst hG
  have C : mj_C κ cX10_fault 2 RX10 := C
  show mj_R κ (mj_F κ (fun r M' => r = (some (.inl x0)) ∧ M' = M ∧ mj_bb (some .int) (some (.inl x0)))) 0 [some (mj_r (3, 0)), some (.inl a1)] [] M
  unfold f_X10_fault at h
  refine mj_iload_n C dX10_fault_0 rfl ?_
  by_cases c1 : a1 = 0
  · replace h := mj_if_t c1 h
    refine mj_lsw (off := 27) (tgt := 28) C dX10_fault_1 (by decide) (by rw [c1]; decide) (by decide) ?_
    refine mj_aload_n C dX10_fault_28 rfl ?_
    refine mj_getr (r := (3, 1)) C lF_X10_29 hB.2.2.2.2 rfl dX10_fault_29 ?_
    refine mj_tget C lF_X10_143 (sR1 hB.2.2.2.1) rfl dX10_fault_32 ?_
    cases h
    exact mj_iret C hT (vp_nar_int _) dX10_fault_35 ⟨rfl, rfl, mj_bi _⟩
  replace h := mj_if_f c1 h
  by_cases c2 : a1 = 1
  · replace h := mj_if_t c2 h
    refine mj_lsw (off := 35) (tgt := 36) C dX10_fault_1 (by decide) (by rw [c2]; decide) (by decide) ?_
    refine mj_aload_n C dX10_fault_36 rfl ?_
    refine mj_getr (r := (3, 1)) C lF_X10_29 hB.2.2.2.2 rfl dX10_fault_37 ?_
    refine mj_tget C lF_X10_146 (sR1 hB.2.2.2.1) rfl dX10_fault_40 ?_
    cases h
    exact mj_iret C hT (vp_nar_int _) dX10_fault_43 ⟨rfl, rfl, mj_bi _⟩
  replace h := mj_if_f c2 h
  refine mj_lsw (off := 43) (tgt := 44) C dX10_fault_1 (by decide) (by have ec1 := mj_neL 0 (by decide) c1; have ec2 := mj_neL 1 (by decide) c2; simp [Op.lookupswitch.offset, ec1, Ne.symm ec1, ec2, Ne.symm ec2]) (by decide) ?_
  refine mj_iconst (v := (-1)) C dX10_fault_44 (by decide) ?_
  cases h
  exact mj_iret C hT (vp_nar_int _) dX10_fault_45 ⟨rfl, rfl, mj_bi _⟩
def f_X10_run_L17 (l1 : Int32) : Nat → Int32 → Int32 → mj_M → Option (Int32 × mj_M)
  | 0, _, _, _ => none
  | n + 1, l2, l3, M => if l1 ≤ l3 then (some (l2, M)) else (if M 0 43 2 ≤ M 0 43 3 then (some (l2, M)) else (mj_b2 (f_X3_runNextLine (M 0)) (fun r3 m4 => mj_let (va_up M 0 m4) (fun M5 => if r3 = 0 then (mj_let (l3 + 1) (fun x8 => f_X10_run_L17 l1 n l2 x8 M5)) else (mj_let (l2 + 1) (fun x9 => mj_let (l3 + 1) (fun x10 => f_X10_run_L17 l1 n x9 x10 M5)))))))
set_option maxHeartbeats 4000000 in
set_option maxRecDepth 20000 in
theorem C_X10_run_L17 {κ : mj_K} {Q : State → Prop} {l1 : Int32} (C : mj_C κ cX10_run 4 RX10) (hB : mj_isT (mj_g κ)) (hR : mj_dp κ 7) : ∀ (n : Nat) (l2 : Int32) (l3 : Int32) (M : mj_M) (o2 : Int32) (mo : mj_M), f_X10_run_L17 l1 n l2 l3 M = some (o2, mo) → (mj_R κ Q 64 [none, none, some (.inl o2), none] [] mo) → mj_R κ Q 17 [some (mj_r (3, 0)), some (.inl l1), some (.inl l2), some (.inl l3)] [] M := by
  intro n
  induction n with
  | zero =>
    intro l2 l3 M o2 mo h
    cases h
  | succ n ih =>
    intro l2 l3 M o2 mo h hx64
    rw [f_X10_run_L17] at h
    refine mj_iload_n C dX10_run_17 rfl ?_
    refine mj_iload_n C dX10_run_18 rfl ?_
    refine mj_icmp_ge (tgt := 64) C dX10_run_19 (by decide) (fun c1 => ?_) (fun c1 => ?_)
    · replace h := mj_if_t c1 h
      cases h
      refine mj_sub ?_ (hx64)
      exact ⟨rfl, trivial⟩
    · replace h := mj_if_f c1 h
      refine mj_aload_n C dX10_run_22 rfl ?_
      refine mj_getr (r := (0, 0)) C lF_X10_12 hB.2.2.2.2 rfl dX10_run_23 ?_
      refine mj_getr (r := (0, 43)) C lF_X10_127 (sL0 hB.1) rfl dX10_run_26 ?_
      refine mj_tget C lF_X10_149 (sL43 hB.1) rfl dX10_run_29 ?_
      refine mj_aload_n C dX10_run_32 rfl ?_
      refine mj_getr (r := (0, 0)) C lF_X10_12 hB.2.2.2.2 rfl dX10_run_33 ?_
      refine mj_getr (r := (0, 43)) C lF_X10_127 (sL0 hB.1) rfl dX10_run_36 ?_
      refine mj_tget C lF_X10_140 (sL43 hB.1) rfl dX10_run_39 ?_
      refine mj_icmp_ge (tgt := 64) C dX10_run_42 (by decide) (fun c2 => ?_) (fun c2 => ?_)
      · replace h := mj_if_t c2 h
        cases h
        refine mj_sub ?_ (hx64)
        exact ⟨rfl, trivial⟩
      · replace h := mj_if_f c2 h
        refine mj_aload_n C dX10_run_45 rfl ?_
        refine mj_getr (r := (0, 0)) C lF_X10_12 hB.2.2.2.2 rfl dX10_run_46 ?_
        obtain ⟨r3, m4, em4, h⟩ := mj_b2_o h
        obtain ⟨M5, hM5, h⟩ := mj_let_o h
        refine mj_callV1 (av := []) C lM_X10_152 lV_X3_runNextLine (sL0 hB.1) ⟨_, rfl, rfl⟩ rfl (mj_S1_self (M := M) (β := 0) (C_X3_runNextLine (M := M) (m := M 0) hB.1 em4)) (mj_rmok hR (by decide) (by decide)) rfl (Nat.le_of_ble_eq_true rfl) dX10_run_49 (fun hb6 => ?_)
        refine mj_mm hM5 ?_
        refine mj_if_eq (tgt := 58) C dX10_run_52 (by decide) (fun c7 => ?_) (fun c7 => ?_)
        · replace h := mj_if_t c7 h
          obtain ⟨x8, hx8, h⟩ := mj_let_o h
          refine mj_iinc (L2 := [some (mj_r (3, 0)), some (.inl l1), some (.inl l2), some (.inl x8)]) C dX10_run_58 rfl hx8 rfl ?_
          refine mj_goto (tgt := 17) C dX10_run_61 (by decide) ?_
          refine mj_sub (L' := [some (mj_r (3, 0)), some (.inl l1), some (.inl l2), some (.inl x8)]) ⟨rfl, ⟨rfl, ⟨rfl, ⟨rfl, trivial⟩⟩⟩⟩ ?_
          exact ih _ _ _ _ _ h hx64
        · replace h := mj_if_f c7 h
          obtain ⟨x9, hx9, h⟩ := mj_let_o h
          refine mj_iinc (L2 := [some (mj_r (3, 0)), some (.inl l1), some (.inl x9), some (.inl l3)]) C dX10_run_55 rfl hx9 rfl ?_
          obtain ⟨x10, hx10, h⟩ := mj_let_o h
          refine mj_iinc (L2 := [some (mj_r (3, 0)), some (.inl l1), some (.inl x9), some (.inl x10)]) C dX10_run_58 rfl hx10 rfl ?_
          refine mj_goto (tgt := 17) C dX10_run_61 (by decide) ?_
          refine mj_sub (L' := [some (mj_r (3, 0)), some (.inl l1), some (.inl x9), some (.inl x10)]) ⟨rfl, ⟨rfl, ⟨rfl, ⟨rfl, trivial⟩⟩⟩⟩ ?_
          exact ih _ _ _ _ _ h hx64
def f_X10_run (a1 : Int32) (M : mj_M) : Option (Int32 × mj_M) := if a1 < 1 then (some ((-1), M)) else (if a1 ≤ 24 then (mj_b2 (f_X10_run_L17 a1 mj_fu 0 0 M) (fun x13 M14 => some (x13, M14))) else (some ((-1), M)))
set_option maxHeartbeats 4000000 in
set_option maxRecDepth 20000 in
theorem C_X10_run {G : mj_G} {a1 : Int32} {M : mj_M} {x0 : Int32} {m0 : mj_M} (hB : mj_isT G) (h : f_X10_run a1 M = some (x0, m0)) : mj_S1 yX10_run cX10_run 4 (some .int) 7 G [mj_r (3, 0), .inl a1] M (some (.inl x0)) m0 := by
  refine mj_intro (by decide) (Nat.le_of_ble_eq_true rfl) ?_
  intro κ C hG hR hT
  subst hG
  have C : mj_C κ cX10_run 4 RX10 := C
  show mj_R κ (mj_F κ (fun r M' => r = (some (.inl x0)) ∧ M' = m0 ∧ mj_bb (some .int) (some (.inl x0)))) 0 [some (mj_r (3, 0)), some (.inl a1), none, none] [] M
  unfold f_X10_run at h
  refine mj_iload_n C dX10_run_0 rfl ?_
  refine mj_iconst (v := 1) C dX10_run_1 (by decide) ?_
  refine mj_icmp_lt (tgt := 11) C dX10_run_2 (by decide) (fun c11 => ?_) (fun c11 => ?_)
  · replace h := mj_if_t c11 h
    refine mj_iconst (v := (-1)) C dX10_run_11 (by decide) ?_
    cases h
    exact mj_iret C hT (vp_nar_int _) dX10_run_12 ⟨rfl, rfl, mj_bi _⟩
  · replace h := mj_if_f c11 h
    refine mj_iload_n C dX10_run_5 rfl ?_
    refine mj_bipush (v := 24) C dX10_run_6 (by decide) ?_
    refine mj_icmp_le (tgt := 13) C dX10_run_8 (by decide) (fun c12 => ?_) (fun c12 => ?_)
    · replace h := mj_if_t c12 h
      refine mj_iconst (v := 0) C dX10_run_13 (by decide) ?_
      refine mj_istore_n (L2 := [some (mj_r (3, 0)), some (.inl a1), some (.inl 0), none]) C dX10_run_14 (Nat.le_of_ble_eq_true rfl) rfl ?_
      refine mj_iconst (v := 0) C dX10_run_15 (by decide) ?_
      refine mj_istore_n (L2 := [some (mj_r (3, 0)), some (.inl a1), some (.inl 0), some (.inl 0)]) C dX10_run_16 (Nat.le_of_ble_eq_true rfl) rfl ?_
      obtain ⟨x13, M14, hl15, h⟩ := mj_b2_o h
      refine mj_sub (L' := [some (mj_r (3, 0)), some (.inl a1), some (.inl 0), some (.inl 0)]) ⟨rfl, ⟨rfl, ⟨rfl, ⟨rfl, trivial⟩⟩⟩⟩ ?_
      refine C_X10_run_L17 C hB hR _ _ _ _ _ _ hl15 ?_
      refine mj_iload_n C dX10_run_64 rfl ?_
      cases h
      exact mj_iret C hT (vp_nar_int _) dX10_run_65 ⟨rfl, rfl, mj_bi _⟩
    · replace h := mj_if_f c12 h
      refine mj_iconst (v := (-1)) C dX10_run_11 (by decide) ?_
      cases h
      exact mj_iret C hT (vp_nar_int _) dX10_run_12 ⟨rfl, rfl, mj_bi _⟩
def f_X10_sentFrame_J27 (l1 : Int32) (M : mj_M) : Option (Int32) := if l1 < 200 then (some (-2)) else (if 200 + (M 0 23 4) ≤ l1 then (some (-2)) else (mj_chk (mj_ok (l1 - 200) 20) (some (M 0 25 (mj_cl (l1 - 200))))))
set_option maxHeartbeats 4000000 in
set_option maxRecDepth 20000 in
theorem C_X10_sentFrame_J27 {κ : mj_K} {l1 : Int32} {M : mj_M} {x0 : Int32} (C : mj_C κ cX10_sentFrame 2 RX10) (hB : mj_isT (mj_g κ)) (hR : mj_dp κ 0) (hT : mj_rt κ = (some .int)) (h : f_X10_sentFrame_J27 l1 M = some x0) : mj_R κ (mj_F κ (fun r M' => r = (some (.inl x0)) ∧ M' = M ∧ mj_bb (some .int) (some (.inl x0)))) 27 [some (mj_r (0, 23)), some (.inl l1)] [] M := by
  unfold f_X10_sentFrame_J27 at h
  refine mj_iload_n C dX10_sentFrame_27 rfl ?_
  refine mj_sipush (v := 200) C dX10_sentFrame_28 (by decide) ?_
  refine mj_icmp_lt (tgt := 57) C dX10_sentFrame_31 (by decide) (fun c1 => ?_) (fun c1 => ?_)
  · replace h := mj_if_t c1 h
    refine mj_bipush (v := (-2)) C dX10_sentFrame_57 (by decide) ?_
    cases h
    exact mj_iret C hT (vp_nar_int _) dX10_sentFrame_59 ⟨rfl, rfl, mj_bi _⟩
  · replace h := mj_if_f c1 h
    refine mj_iload_n C dX10_sentFrame_34 rfl ?_
    refine mj_sipush (v := 200) C dX10_sentFrame_35 (by decide) ?_
    refine mj_aload_n C dX10_sentFrame_38 rfl ?_
    refine mj_tget C lF_X10_168 (sL23 hB.1) rfl dX10_sentFrame_39 ?_
    refine mj_iadd C dX10_sentFrame_42 ?_
    refine mj_icmp_ge (tgt := 57) C dX10_sentFrame_43 (by decide) (fun c2 => ?_) (fun c2 => ?_)
    · replace h := mj_if_t c2 h
      refine mj_bipush (v := (-2)) C dX10_sentFrame_57 (by decide) ?_
      cases h
      exact mj_iret C hT (vp_nar_int _) dX10_sentFrame_59 ⟨rfl, rfl, mj_bi _⟩
    · replace h := mj_if_f c2 h
      refine mj_aload_n C dX10_sentFrame_46 rfl ?_
      refine mj_getr (r := (0, 25)) C lF_X10_200 (sL23 hB.1) rfl dX10_sentFrame_47 ?_
      refine mj_iload_n C dX10_sentFrame_50 rfl ?_
      refine mj_sipush (v := 200) C dX10_sentFrame_51 (by decide) ?_
      refine mj_isub C dX10_sentFrame_54 ?_
      obtain ⟨k3, h⟩ := mj_chk_o h
      refine mj_tald C (sL25 hB.1) k3 rfl dX10_sentFrame_55 ?_
      cases h
      exact mj_iret C hT (vp_nar_int _) dX10_sentFrame_56 ⟨rfl, rfl, mj_bi _⟩
def f_X10_sentFrame (a1 : Int32) (M : mj_M) : Option (Int32) := if a1 < 100 then (f_X10_sentFrame_J27 a1 M) else (if 100 + (M 0 23 4) ≤ a1 then (f_X10_sentFrame_J27 a1 M) else (mj_chk (mj_ok (a1 - 100) 20) (some (M 0 24 (mj_cl (a1 - 100))))))
set_option maxHeartbeats 4000000 in
set_option maxRecDepth 20000 in
theorem C_X10_sentFrame {G : mj_G} {a1 : Int32} {M : mj_M} {x0 : Int32} (hB : mj_isT G) (h : f_X10_sentFrame a1 M = some x0) : mj_S1 yX10_sentFrame cX10_sentFrame 2 (some .int) 0 G [mj_r (0, 23), .inl a1] M (some (.inl x0)) M := by
  refine mj_intro (by decide) (Nat.le_of_ble_eq_true rfl) ?_
  intro κ C hG hR hT
  subst hG
  have C : mj_C κ cX10_sentFrame 2 RX10 := C
  show mj_R κ (mj_F κ (fun r M' => r = (some (.inl x0)) ∧ M' = M ∧ mj_bb (some .int) (some (.inl x0)))) 0 [some (mj_r (0, 23)), some (.inl a1)] [] M
  unfold f_X10_sentFrame at h
  refine mj_iload_n C dX10_sentFrame_0 rfl ?_
  refine mj_bipush (v := 100) C dX10_sentFrame_1 (by decide) ?_
  refine mj_icmp_lt (tgt := 27) C dX10_sentFrame_3 (by decide) (fun c4 => ?_) (fun c4 => ?_)
  · replace h := mj_if_t c4 h
    refine mj_sub (L' := [some (mj_r (0, 23)), some (.inl a1)]) ⟨rfl, ⟨rfl, trivial⟩⟩ ?_
    exact C_X10_sentFrame_J27 C hB hR hT h
  · replace h := mj_if_f c4 h
    refine mj_iload_n C dX10_sentFrame_6 rfl ?_
    refine mj_bipush (v := 100) C dX10_sentFrame_7 (by decide) ?_
    refine mj_aload_n C dX10_sentFrame_9 rfl ?_
    refine mj_tget C lF_X10_168 (sL23 hB.1) rfl dX10_sentFrame_10 ?_
    refine mj_iadd C dX10_sentFrame_13 ?_
    refine mj_icmp_ge (tgt := 27) C dX10_sentFrame_14 (by decide) (fun c5 => ?_) (fun c5 => ?_)
    · replace h := mj_if_t c5 h
      refine mj_sub (L' := [some (mj_r (0, 23)), some (.inl a1)]) ⟨rfl, ⟨rfl, trivial⟩⟩ ?_
      exact C_X10_sentFrame_J27 C hB hR hT h
    · replace h := mj_if_f c5 h
      refine mj_aload_n C dX10_sentFrame_17 rfl ?_
      refine mj_getr (r := (0, 24)) C lF_X10_196 (sL23 hB.1) rfl dX10_sentFrame_18 ?_
      refine mj_iload_n C dX10_sentFrame_21 rfl ?_
      refine mj_bipush (v := 100) C dX10_sentFrame_22 (by decide) ?_
      refine mj_isub C dX10_sentFrame_24 ?_
      obtain ⟨k6, h⟩ := mj_chk_o h
      refine mj_tald C (sL24 hB.1) k6 rfl dX10_sentFrame_25 ?_
      cases h
      exact mj_iret C hT (vp_nar_int _) dX10_sentFrame_26 ⟨rfl, rfl, mj_bi _⟩
def f_X10_sender (a1 : Int32) (M : mj_M) : Option (Int32) := if a1 = 0 then (some (M 0 17 6)) else if a1 = 1 then (some (M 0 17 7)) else if a1 = 2 then (some (M 0 17 8)) else if a1 = 3 then (some (M 0 18 4)) else if a1 = 4 then (some (M 0 23 4)) else if a1 = 5 then (mj_b1 (f_X7_marked 23 (M 0)) (fun r7 => some r7)) else if a1 = 6 then (some (M 0 28 4)) else if a1 = 7 then (some (M 0 17 9)) else if a1 = 8 then (some (M 0 17 10)) else if a1 = 9 then (some (M 0 17 11)) else if a1 = 10 then (mj_let (f_X8_directiveKind (M 0)) (fun r14 => some r14)) else (mj_b1 (f_X10_sentFrame a1 M) (fun r16 => some r16))
set_option maxHeartbeats 4000000 in
set_option maxRecDepth 20000 in
theorem C_X10_sender {G : mj_G} {a1 : Int32} {M : mj_M} {x0 : Int32} (hB : mj_isT G) (h : f_X10_sender a1 M = some x0) : mj_S1 yX10_sender cX10_sender 3 (some .int) 1 G [mj_r (3, 0), .inl a1] M (some (.inl x0)) M := by
  refine mj_intro (by decide) (Nat.le_of_ble_eq_true rfl) ?_
  intro κ C hG hR hT
  subst hG
  have C : mj_C κ cX10_sender 3 RX10 := C
  show mj_R κ (mj_F κ (fun r M' => r = (some (.inl x0)) ∧ M' = M ∧ mj_bb (some .int) (some (.inl x0)))) 0 [some (mj_r (3, 0)), some (.inl a1), none] [] M
  unfold f_X10_sender at h
  refine mj_aload_n C dX10_sender_0 rfl ?_
  refine mj_getr (r := (0, 0)) C lF_X10_12 hB.2.2.2.2 rfl dX10_sender_1 ?_
  refine mj_getr (r := (0, 17)) C lF_X10_54 (sL0 hB.1) rfl dX10_sender_4 ?_
  refine mj_astore_n (L2 := [some (mj_r (3, 0)), some (.inl a1), some (mj_r (0, 17))]) C dX10_sender_7 (Nat.le_of_ble_eq_true rfl) rfl ?_
  refine mj_iload_n C dX10_sender_8 rfl ?_
  by_cases c1 : a1 = 0
  · replace h := mj_if_t c1 h
    refine mj_tin (off := 59) (tgt := 68) C dX10_sender_9 (by rw [c1]; decide) (by rw [c1]; decide) (by rw [c1]; decide) (by decide) ?_
    refine mj_aload_n C dX10_sender_68 rfl ?_
    refine mj_tget C lF_X10_155 (sL17 hB.1) rfl dX10_sender_69 ?_
    cases h
    exact mj_iret C hT (vp_nar_int _) dX10_sender_72 ⟨rfl, rfl, mj_bi _⟩
  replace h := mj_if_f c1 h
  by_cases c2 : a1 = 1
  · replace h := mj_if_t c2 h
    refine mj_tin (off := 64) (tgt := 73) C dX10_sender_9 (by rw [c2]; decide) (by rw [c2]; decide) (by rw [c2]; decide) (by decide) ?_
    refine mj_aload_n C dX10_sender_73 rfl ?_
    refine mj_tget C lF_X10_158 (sL17 hB.1) rfl dX10_sender_74 ?_
    cases h
    exact mj_iret C hT (vp_nar_int _) dX10_sender_77 ⟨rfl, rfl, mj_bi _⟩
  replace h := mj_if_f c2 h
  by_cases c3 : a1 = 2
  · replace h := mj_if_t c3 h
    refine mj_tin (off := 69) (tgt := 78) C dX10_sender_9 (by rw [c3]; decide) (by rw [c3]; decide) (by rw [c3]; decide) (by decide) ?_
    refine mj_aload_n C dX10_sender_78 rfl ?_
    refine mj_tget C lF_X10_161 (sL17 hB.1) rfl dX10_sender_79 ?_
    cases h
    exact mj_iret C hT (vp_nar_int _) dX10_sender_82 ⟨rfl, rfl, mj_bi _⟩
  replace h := mj_if_f c3 h
  by_cases c4 : a1 = 3
  · replace h := mj_if_t c4 h
    refine mj_tin (off := 74) (tgt := 83) C dX10_sender_9 (by rw [c4]; decide) (by rw [c4]; decide) (by rw [c4]; decide) (by decide) ?_
    refine mj_aload_n C dX10_sender_83 rfl ?_
    refine mj_getr (r := (0, 18)) C lF_X10_164 (sL17 hB.1) rfl dX10_sender_84 ?_
    refine mj_tget C lF_X10_168 (sL18 hB.1) rfl dX10_sender_87 ?_
    cases h
    exact mj_iret C hT (vp_nar_int _) dX10_sender_90 ⟨rfl, rfl, mj_bi _⟩
  replace h := mj_if_f c4 h
  by_cases c5 : a1 = 4
  · replace h := mj_if_t c5 h
    refine mj_tin (off := 82) (tgt := 91) C dX10_sender_9 (by rw [c5]; decide) (by rw [c5]; decide) (by rw [c5]; decide) (by decide) ?_
    refine mj_aload_n C dX10_sender_91 rfl ?_
    refine mj_getr (r := (0, 23)) C lF_X10_171 (sL17 hB.1) rfl dX10_sender_92 ?_
    refine mj_tget C lF_X10_168 (sL23 hB.1) rfl dX10_sender_95 ?_
    cases h
    exact mj_iret C hT (vp_nar_int _) dX10_sender_98 ⟨rfl, rfl, mj_bi _⟩
  replace h := mj_if_f c5 h
  by_cases c6 : a1 = 5
  · replace h := mj_if_t c6 h
    refine mj_tin (off := 90) (tgt := 99) C dX10_sender_9 (by rw [c6]; decide) (by rw [c6]; decide) (by rw [c6]; decide) (by decide) ?_
    refine mj_aload_n C dX10_sender_99 rfl ?_
    refine mj_getr (r := (0, 23)) C lF_X10_171 (sL17 hB.1) rfl dX10_sender_100 ?_
    obtain ⟨r7, er7, h⟩ := mj_b1_o h
    refine mj_callV1 (av := []) C lM_X10_174 lV_X7_marked (sL23 hB.1) ⟨_, rfl, rfl⟩ rfl (mj_S1_selfR (M := M) (β := 0) (C_X7_marked (M := M) (m := M 0) (sLr23 hB.1) er7)) (mj_rmok hR (by decide) (by decide)) rfl (Nat.le_of_ble_eq_true rfl) dX10_sender_103 (fun hb8 => ?_)
    cases h
    exact mj_iret C hT (vp_nar_int _) dX10_sender_106 ⟨rfl, rfl, mj_bi _⟩
  replace h := mj_if_f c6 h
  by_cases c9 : a1 = 6
  · replace h := mj_if_t c9 h
    refine mj_tin (off := 98) (tgt := 107) C dX10_sender_9 (by rw [c9]; decide) (by rw [c9]; decide) (by rw [c9]; decide) (by decide) ?_
    refine mj_aload_n C dX10_sender_107 rfl ?_
    refine mj_getr (r := (0, 28)) C lF_X10_177 (sL17 hB.1) rfl dX10_sender_108 ?_
    refine mj_tget C lF_X10_168 (sL28 hB.1) rfl dX10_sender_111 ?_
    cases h
    exact mj_iret C hT (vp_nar_int _) dX10_sender_114 ⟨rfl, rfl, mj_bi _⟩
  replace h := mj_if_f c9 h
  by_cases c10 : a1 = 7
  · replace h := mj_if_t c10 h
    refine mj_tin (off := 106) (tgt := 115) C dX10_sender_9 (by rw [c10]; decide) (by rw [c10]; decide) (by rw [c10]; decide) (by decide) ?_
    refine mj_aload_n C dX10_sender_115 rfl ?_
    refine mj_tget C lF_X10_180 (sL17 hB.1) rfl dX10_sender_116 ?_
    cases h
    exact mj_iret C hT (vp_nar_int _) dX10_sender_119 ⟨rfl, rfl, mj_bi _⟩
  replace h := mj_if_f c10 h
  by_cases c11 : a1 = 8
  · replace h := mj_if_t c11 h
    refine mj_tin (off := 111) (tgt := 120) C dX10_sender_9 (by rw [c11]; decide) (by rw [c11]; decide) (by rw [c11]; decide) (by decide) ?_
    refine mj_aload_n C dX10_sender_120 rfl ?_
    refine mj_tget C lF_X10_183 (sL17 hB.1) rfl dX10_sender_121 ?_
    cases h
    exact mj_iret C hT (vp_nar_int _) dX10_sender_124 ⟨rfl, rfl, mj_bi _⟩
  replace h := mj_if_f c11 h
  by_cases c12 : a1 = 9
  · replace h := mj_if_t c12 h
    refine mj_tin (off := 116) (tgt := 125) C dX10_sender_9 (by rw [c12]; decide) (by rw [c12]; decide) (by rw [c12]; decide) (by decide) ?_
    refine mj_aload_n C dX10_sender_125 rfl ?_
    refine mj_tget C lF_X10_186 (sL17 hB.1) rfl dX10_sender_126 ?_
    cases h
    exact mj_iret C hT (vp_nar_int _) dX10_sender_129 ⟨rfl, rfl, mj_bi _⟩
  replace h := mj_if_f c12 h
  by_cases c13 : a1 = 10
  · replace h := mj_if_t c13 h
    refine mj_tin (off := 121) (tgt := 130) C dX10_sender_9 (by rw [c13]; decide) (by rw [c13]; decide) (by rw [c13]; decide) (by decide) ?_
    refine mj_aload_n C dX10_sender_130 rfl ?_
    obtain ⟨r14, er14, h⟩ := mj_let_o h
    refine mj_callV1 (av := []) C lM_X10_189 lV_X8_directiveKind (sL17 hB.1) ⟨_, rfl, rfl⟩ rfl (mj_S1_selfR (M := M) (β := 0) (C_X8_directiveKind (M := M) (m := M 0) hB.1 er14)) (mj_rmok hR (by decide) (by decide)) rfl (Nat.le_of_ble_eq_true rfl) dX10_sender_131 (fun hb15 => ?_)
    cases h
    exact mj_iret C hT (vp_nar_int _) dX10_sender_134 ⟨rfl, rfl, mj_bi _⟩
  replace h := mj_if_f c13 h
  refine mj_tout (tgt := 135) C dX10_sender_9 (by have := mj_neL 0 (by decide) c1; have := mj_neL 1 (by decide) c2; have := mj_neL 2 (by decide) c3; have := mj_neL 3 (by decide) c4; have := mj_neL 4 (by decide) c5; have := mj_neL 5 (by decide) c6; have := mj_neL 6 (by decide) c9; have := mj_neL 7 (by decide) c10; have := mj_neL 8 (by decide) c11; have := mj_neL 9 (by decide) c12; have := mj_neL 10 (by decide) c13; omega) (by decide) ?_
  refine mj_aload_n C dX10_sender_135 rfl ?_
  refine mj_getr (r := (0, 23)) C lF_X10_171 (sL17 hB.1) rfl dX10_sender_136 ?_
  refine mj_iload_n C dX10_sender_139 rfl ?_
  obtain ⟨r16, er16, h⟩ := mj_b1_o h
  refine mj_callS1 (av := [mj_r (0, 23), .inl a1]) C lM_X10_192 lS_X10_sentFrame rfl (C_X10_sentFrame hB er16) (mj_rmok hR (by decide) (by decide)) rfl (Nat.le_of_ble_eq_true rfl) dX10_sender_140 (fun hb17 => ?_)
  cases h
  exact mj_iret C hT (vp_nar_int _) dX10_sender_143 ⟨rfl, rfl, mj_bi _⟩
def f_X10_commandKept_J34 (l1 : Int32) (M : mj_M) : Option (Int32) := mj_let (if 100 < M 0 9 11 then 100 else M 0 9 11) (fun x1 => if l1 < 200 then (some (-2)) else (if 200 + x1 ≤ l1 then (some (-2)) else (mj_chk (mj_ok (l1 - 200) 100) (some (M 0 16 (mj_cl (l1 - 200)))))))
set_option maxHeartbeats 4000000 in
set_option maxRecDepth 20000 in
theorem C_X10_commandKept_J34 {κ : mj_K} {l1 : Int32} {M : mj_M} {x0 : Int32} (C : mj_C κ cX10_commandKept 4 RX10) (hB : mj_isT (mj_g κ)) (hR : mj_dp κ 1) (hT : mj_rt κ = (some .int)) (h : f_X10_commandKept_J34 l1 M = some x0) : mj_R κ (mj_F κ (fun r M' => r = (some (.inl x0)) ∧ M' = M ∧ mj_bb (some .int) (some (.inl x0)))) 34 [some (mj_r (0, 9)), some (.inl l1), none, none] [] M := by
  unfold f_X10_commandKept_J34 at h
  refine mj_aload_n C dX10_commandKept_34 rfl ?_
  refine mj_tget C lF_X10_222 (sL9 hB.1) rfl dX10_commandKept_35 ?_
  refine mj_bipush (v := 100) C dX10_commandKept_38 (by decide) ?_
  refine mj_imin C lM_X10_229 rfl (mj_rmc hR (by decide)) (Nat.le_of_ble_eq_true rfl) dX10_commandKept_40 ?_
  obtain ⟨x1, hx1, h⟩ := mj_let_o h
  refine mj_nm hx1 ?_
  refine mj_istore_n (L2 := [some (mj_r (0, 9)), some (.inl l1), none, some (.inl x1)]) C dX10_commandKept_43 (Nat.le_of_ble_eq_true rfl) rfl ?_
  refine mj_iload_n C dX10_commandKept_44 rfl ?_
  refine mj_sipush (v := 200) C dX10_commandKept_45 (by decide) ?_
  refine mj_icmp_lt (tgt := 71) C dX10_commandKept_48 (by decide) (fun c2 => ?_) (fun c2 => ?_)
  · replace h := mj_if_t c2 h
    refine mj_bipush (v := (-2)) C dX10_commandKept_71 (by decide) ?_
    cases h
    exact mj_iret C hT (vp_nar_int _) dX10_commandKept_73 ⟨rfl, rfl, mj_bi _⟩
  · replace h := mj_if_f c2 h
    refine mj_iload_n C dX10_commandKept_51 rfl ?_
    refine mj_sipush (v := 200) C dX10_commandKept_52 (by decide) ?_
    refine mj_iload_n C dX10_commandKept_55 rfl ?_
    refine mj_iadd C dX10_commandKept_56 ?_
    refine mj_icmp_ge (tgt := 71) C dX10_commandKept_57 (by decide) (fun c3 => ?_) (fun c3 => ?_)
    · replace h := mj_if_t c3 h
      refine mj_bipush (v := (-2)) C dX10_commandKept_71 (by decide) ?_
      cases h
      exact mj_iret C hT (vp_nar_int _) dX10_commandKept_73 ⟨rfl, rfl, mj_bi _⟩
    · replace h := mj_if_f c3 h
      refine mj_aload_n C dX10_commandKept_60 rfl ?_
      refine mj_getr (r := (0, 16)) C lF_X10_238 (sL9 hB.1) rfl dX10_commandKept_61 ?_
      refine mj_iload_n C dX10_commandKept_64 rfl ?_
      refine mj_sipush (v := 200) C dX10_commandKept_65 (by decide) ?_
      refine mj_isub C dX10_commandKept_68 ?_
      obtain ⟨k4, h⟩ := mj_chk_o h
      refine mj_tald C (sL16 hB.1) k4 rfl dX10_commandKept_69 ?_
      cases h
      exact mj_iret C hT (vp_nar_int _) dX10_commandKept_70 ⟨rfl, rfl, mj_bi _⟩
def f_X10_commandKept (a1 : Int32) (M : mj_M) : Option (Int32) := mj_let (if 100 < M 0 9 9 then 100 else M 0 9 9) (fun x5 => if a1 < 100 then (f_X10_commandKept_J34 a1 M) else (if 100 + x5 ≤ a1 then (f_X10_commandKept_J34 a1 M) else (mj_chk (mj_ok (a1 - 100) 100) (some (M 0 15 (mj_cl (a1 - 100)))))))
set_option maxHeartbeats 4000000 in
set_option maxRecDepth 20000 in
theorem C_X10_commandKept {G : mj_G} {a1 : Int32} {M : mj_M} {x0 : Int32} (hB : mj_isT G) (h : f_X10_commandKept a1 M = some x0) : mj_S1 yX10_commandKept cX10_commandKept 4 (some .int) 1 G [mj_r (0, 9), .inl a1] M (some (.inl x0)) M := by
  refine mj_intro (by decide) (Nat.le_of_ble_eq_true rfl) ?_
  intro κ C hG hR hT
  subst hG
  have C : mj_C κ cX10_commandKept 4 RX10 := C
  show mj_R κ (mj_F κ (fun r M' => r = (some (.inl x0)) ∧ M' = M ∧ mj_bb (some .int) (some (.inl x0)))) 0 [some (mj_r (0, 9)), some (.inl a1), none, none] [] M
  unfold f_X10_commandKept at h
  refine mj_aload_n C dX10_commandKept_0 rfl ?_
  refine mj_tget C lF_X10_219 (sL9 hB.1) rfl dX10_commandKept_1 ?_
  refine mj_bipush (v := 100) C dX10_commandKept_4 (by decide) ?_
  refine mj_imin C lM_X10_229 rfl (mj_rmc hR (by decide)) (Nat.le_of_ble_eq_true rfl) dX10_commandKept_6 ?_
  obtain ⟨x5, hx5, h⟩ := mj_let_o h
  refine mj_nm hx5 ?_
  refine mj_istore_n (L2 := [some (mj_r (0, 9)), some (.inl a1), some (.inl x5), none]) C dX10_commandKept_9 (Nat.le_of_ble_eq_true rfl) rfl ?_
  refine mj_iload_n C dX10_commandKept_10 rfl ?_
  refine mj_bipush (v := 100) C dX10_commandKept_11 (by decide) ?_
  refine mj_icmp_lt (tgt := 34) C dX10_commandKept_13 (by decide) (fun c6 => ?_) (fun c6 => ?_)
  · replace h := mj_if_t c6 h
    refine mj_sub (L' := [some (mj_r (0, 9)), some (.inl a1), none, none]) ⟨rfl, ⟨rfl, trivial⟩⟩ ?_
    exact C_X10_commandKept_J34 C hB hR hT h
  · replace h := mj_if_f c6 h
    refine mj_iload_n C dX10_commandKept_16 rfl ?_
    refine mj_bipush (v := 100) C dX10_commandKept_17 (by decide) ?_
    refine mj_iload_n C dX10_commandKept_19 rfl ?_
    refine mj_iadd C dX10_commandKept_20 ?_
    refine mj_icmp_ge (tgt := 34) C dX10_commandKept_21 (by decide) (fun c7 => ?_) (fun c7 => ?_)
    · replace h := mj_if_t c7 h
      refine mj_sub (L' := [some (mj_r (0, 9)), some (.inl a1), none, none]) ⟨rfl, ⟨rfl, trivial⟩⟩ ?_
      exact C_X10_commandKept_J34 C hB hR hT h
    · replace h := mj_if_f c7 h
      refine mj_aload_n C dX10_commandKept_24 rfl ?_
      refine mj_getr (r := (0, 15)) C lF_X10_235 (sL9 hB.1) rfl dX10_commandKept_25 ?_
      refine mj_iload_n C dX10_commandKept_28 rfl ?_
      refine mj_bipush (v := 100) C dX10_commandKept_29 (by decide) ?_
      refine mj_isub C dX10_commandKept_31 ?_
      obtain ⟨k8, h⟩ := mj_chk_o h
      refine mj_tald C (sL15 hB.1) k8 rfl dX10_commandKept_32 ?_
      cases h
      exact mj_iret C hT (vp_nar_int _) dX10_commandKept_33 ⟨rfl, rfl, mj_bi _⟩
def f_X10_receiver (a1 : Int32) (M : mj_M) : Option (Int32) := if a1 = 0 then (some (M 0 9 2)) else if a1 = 1 then (if M 0 9 3 = 0 then (some 0) else (some 1)) else if a1 = 2 then (if M 0 9 4 = 0 then (some 0) else (some 1)) else if a1 = 3 then (if M 0 9 5 = 0 then (some 0) else (some 1)) else if a1 = 4 then (some (M 0 9 6)) else if a1 = 5 then (some (M 0 10 4)) else if a1 = 6 then (some (M 0 9 9)) else if a1 = 7 then (some (M 0 9 11)) else (mj_b1 (f_X10_commandKept a1 M) (fun r12 => some r12))
set_option maxHeartbeats 4000000 in
set_option maxRecDepth 20000 in
theorem C_X10_receiver {G : mj_G} {a1 : Int32} {M : mj_M} {x0 : Int32} (hB : mj_isT G) (h : f_X10_receiver a1 M = some x0) : mj_S1 yX10_receiver cX10_receiver 3 (some .int) 2 G [mj_r (3, 0), .inl a1] M (some (.inl x0)) M := by
  refine mj_intro (by decide) (Nat.le_of_ble_eq_true rfl) ?_
  intro κ C hG hR hT
  subst hG
  have C : mj_C κ cX10_receiver 3 RX10 := C
  show mj_R κ (mj_F κ (fun r M' => r = (some (.inl x0)) ∧ M' = M ∧ mj_bb (some .int) (some (.inl x0)))) 0 [some (mj_r (3, 0)), some (.inl a1), none] [] M
  unfold f_X10_receiver at h
  refine mj_aload_n C dX10_receiver_0 rfl ?_
  refine mj_getr (r := (0, 0)) C lF_X10_12 hB.2.2.2.2 rfl dX10_receiver_1 ?_
  refine mj_getr (r := (0, 9)) C lF_X10_81 (sL0 hB.1) rfl dX10_receiver_4 ?_
  refine mj_astore_n (L2 := [some (mj_r (3, 0)), some (.inl a1), some (mj_r (0, 9))]) C dX10_receiver_7 (Nat.le_of_ble_eq_true rfl) rfl ?_
  refine mj_iload_n C dX10_receiver_8 rfl ?_
  by_cases c1 : a1 = 0
  · replace h := mj_if_t c1 h
    refine mj_tin (off := 47) (tgt := 56) C dX10_receiver_9 (by rw [c1]; decide) (by rw [c1]; decide) (by rw [c1]; decide) (by decide) ?_
    refine mj_aload_n C dX10_receiver_56 rfl ?_
    refine mj_tget C lF_X10_203 (sL9 hB.1) rfl dX10_receiver_57 ?_
    cases h
    exact mj_iret C hT (vp_nar_int _) dX10_receiver_60 ⟨rfl, rfl, mj_bi _⟩
  replace h := mj_if_f c1 h
  by_cases c2 : a1 = 1
  · replace h := mj_if_t c2 h
    refine mj_tin (off := 52) (tgt := 61) C dX10_receiver_9 (by rw [c2]; decide) (by rw [c2]; decide) (by rw [c2]; decide) (by decide) ?_
    refine mj_aload_n C dX10_receiver_61 rfl ?_
    refine mj_tget C lF_X10_206 (sL9 hB.1) rfl dX10_receiver_62 ?_
    refine mj_if_eq (tgt := 72) C dX10_receiver_65 (by decide) (fun c3 => ?_) (fun c3 => ?_)
    · replace h := mj_if_t c3 h
      refine mj_iconst (v := 0) C dX10_receiver_72 (by decide) ?_
      cases h
      exact mj_iret C hT (vp_nar_int _) dX10_receiver_73 ⟨rfl, rfl, mj_bi _⟩
    · replace h := mj_if_f c3 h
      refine mj_iconst (v := 1) C dX10_receiver_68 (by decide) ?_
      refine mj_goto (tgt := 73) C dX10_receiver_69 (by decide) ?_
      cases h
      exact mj_iret C hT (vp_nar_int _) dX10_receiver_73 ⟨rfl, rfl, mj_bi _⟩
  replace h := mj_if_f c2 h
  by_cases c4 : a1 = 2
  · replace h := mj_if_t c4 h
    refine mj_tin (off := 65) (tgt := 74) C dX10_receiver_9 (by rw [c4]; decide) (by rw [c4]; decide) (by rw [c4]; decide) (by decide) ?_
    refine mj_aload_n C dX10_receiver_74 rfl ?_
    refine mj_tget C lF_X10_209 (sL9 hB.1) rfl dX10_receiver_75 ?_
    refine mj_if_eq (tgt := 85) C dX10_receiver_78 (by decide) (fun c5 => ?_) (fun c5 => ?_)
    · replace h := mj_if_t c5 h
      refine mj_iconst (v := 0) C dX10_receiver_85 (by decide) ?_
      cases h
      exact mj_iret C hT (vp_nar_int _) dX10_receiver_86 ⟨rfl, rfl, mj_bi _⟩
    · replace h := mj_if_f c5 h
      refine mj_iconst (v := 1) C dX10_receiver_81 (by decide) ?_
      refine mj_goto (tgt := 86) C dX10_receiver_82 (by decide) ?_
      cases h
      exact mj_iret C hT (vp_nar_int _) dX10_receiver_86 ⟨rfl, rfl, mj_bi _⟩
  replace h := mj_if_f c4 h
  by_cases c6 : a1 = 3
  · replace h := mj_if_t c6 h
    refine mj_tin (off := 78) (tgt := 87) C dX10_receiver_9 (by rw [c6]; decide) (by rw [c6]; decide) (by rw [c6]; decide) (by decide) ?_
    refine mj_aload_n C dX10_receiver_87 rfl ?_
    refine mj_tget C lF_X10_212 (sL9 hB.1) rfl dX10_receiver_88 ?_
    refine mj_if_eq (tgt := 98) C dX10_receiver_91 (by decide) (fun c7 => ?_) (fun c7 => ?_)
    · replace h := mj_if_t c7 h
      refine mj_iconst (v := 0) C dX10_receiver_98 (by decide) ?_
      cases h
      exact mj_iret C hT (vp_nar_int _) dX10_receiver_99 ⟨rfl, rfl, mj_bi _⟩
    · replace h := mj_if_f c7 h
      refine mj_iconst (v := 1) C dX10_receiver_94 (by decide) ?_
      refine mj_goto (tgt := 99) C dX10_receiver_95 (by decide) ?_
      cases h
      exact mj_iret C hT (vp_nar_int _) dX10_receiver_99 ⟨rfl, rfl, mj_bi _⟩
  replace h := mj_if_f c6 h
  by_cases c8 : a1 = 4
  · replace h := mj_if_t c8 h
    refine mj_tin (off := 91) (tgt := 100) C dX10_receiver_9 (by rw [c8]; decide) (by rw [c8]; decide) (by rw [c8]; decide) (by decide) ?_
    refine mj_aload_n C dX10_receiver_100 rfl ?_
    refine mj_tget C lF_X10_215 (sL9 hB.1) rfl dX10_receiver_101 ?_
    cases h
    exact mj_iret C hT (vp_nar_int _) dX10_receiver_104 ⟨rfl, rfl, mj_bi _⟩
  replace h := mj_if_f c8 h
  by_cases c9 : a1 = 5
  · replace h := mj_if_t c9 h
    refine mj_tin (off := 96) (tgt := 105) C dX10_receiver_9 (by rw [c9]; decide) (by rw [c9]; decide) (by rw [c9]; decide) (by decide) ?_
    refine mj_aload_n C dX10_receiver_105 rfl ?_
    refine mj_getr (r := (0, 10)) C lF_X10_216 (sL9 hB.1) rfl dX10_receiver_106 ?_
    refine mj_tget C lF_X10_168 (sL10 hB.1) rfl dX10_receiver_109 ?_
    cases h
    exact mj_iret C hT (vp_nar_int _) dX10_receiver_112 ⟨rfl, rfl, mj_bi _⟩
  replace h := mj_if_f c9 h
  by_cases c10 : a1 = 6
  · replace h := mj_if_t c10 h
    refine mj_tin (off := 104) (tgt := 113) C dX10_receiver_9 (by rw [c10]; decide) (by rw [c10]; decide) (by rw [c10]; decide) (by decide) ?_
    refine mj_aload_n C dX10_receiver_113 rfl ?_
    refine mj_tget C lF_X10_219 (sL9 hB.1) rfl dX10_receiver_114 ?_
    cases h
    exact mj_iret C hT (vp_nar_int _) dX10_receiver_117 ⟨rfl, rfl, mj_bi _⟩
  replace h := mj_if_f c10 h
  by_cases c11 : a1 = 7
  · replace h := mj_if_t c11 h
    refine mj_tin (off := 109) (tgt := 118) C dX10_receiver_9 (by rw [c11]; decide) (by rw [c11]; decide) (by rw [c11]; decide) (by decide) ?_
    refine mj_aload_n C dX10_receiver_118 rfl ?_
    refine mj_tget C lF_X10_222 (sL9 hB.1) rfl dX10_receiver_119 ?_
    cases h
    exact mj_iret C hT (vp_nar_int _) dX10_receiver_122 ⟨rfl, rfl, mj_bi _⟩
  replace h := mj_if_f c11 h
  refine mj_tout (tgt := 123) C dX10_receiver_9 (by have := mj_neL 0 (by decide) c1; have := mj_neL 1 (by decide) c2; have := mj_neL 2 (by decide) c4; have := mj_neL 3 (by decide) c6; have := mj_neL 4 (by decide) c8; have := mj_neL 5 (by decide) c9; have := mj_neL 6 (by decide) c10; have := mj_neL 7 (by decide) c11; omega) (by decide) ?_
  refine mj_aload_n C dX10_receiver_123 rfl ?_
  refine mj_iload_n C dX10_receiver_124 rfl ?_
  obtain ⟨r12, er12, h⟩ := mj_b1_o h
  refine mj_callS1 (av := [mj_r (0, 9), .inl a1]) C lM_X10_225 lS_X10_commandKept rfl (C_X10_commandKept hB er12) (mj_rmok hR (by decide) (by decide)) rfl (Nat.le_of_ble_eq_true rfl) dX10_receiver_125 (fun hb13 => ?_)
  cases h
  exact mj_iret C hT (vp_nar_int _) dX10_receiver_128 ⟨rfl, rfl, mj_bi _⟩
def f_X10_way (a1 : Int32) (a2 : Int32) (a3 : Int32) (M : mj_M) : Option (Int32) := mj_let (f_X3_wayOf a1) (fun r1 => if a2 = (-1) then (some (M 0 r1 7)) else (if a3 = (-1) then (mj_b1 (f_X9_tickOf r1 a2 (M 0)) (fun r7 => some r7)) else (mj_b1 (f_X9_byteOf r1 a2 a3 (M 0)) (fun r5 => some r5))))
set_option maxHeartbeats 4000000 in
set_option maxRecDepth 20000 in
theorem C_X10_way {G : mj_G} {a1 : Int32} {a2 : Int32} {a3 : Int32} {M : mj_M} {x0 : Int32} (hB : mj_isT G) (h : f_X10_way a1 a2 a3 M = some x0) : mj_S1 yX10_way cX10_way 5 (some .int) 2 G [mj_r (3, 0), .inl a1, .inl a2, .inl a3] M (some (.inl x0)) M := by
  refine mj_intro (by decide) (Nat.le_of_ble_eq_true rfl) ?_
  intro κ C hG hR hT
  subst hG
  have C : mj_C κ cX10_way 5 RX10 := C
  show mj_R κ (mj_F κ (fun r M' => r = (some (.inl x0)) ∧ M' = M ∧ mj_bb (some .int) (some (.inl x0)))) 0 [some (mj_r (3, 0)), some (.inl a1), some (.inl a2), some (.inl a3), none] [] M
  unfold f_X10_way at h
  refine mj_aload_n C dX10_way_0 rfl ?_
  refine mj_getr (r := (0, 0)) C lF_X10_12 hB.2.2.2.2 rfl dX10_way_1 ?_
  refine mj_iload_n C dX10_way_4 rfl ?_
  obtain ⟨r1, er1, h⟩ := mj_let_o h
  refine mj_callV1 (av := [.inl a1]) C lM_X10_101 lV_X3_wayOf (sL0 hB.1) ⟨_, rfl, rfl⟩ rfl (mj_S1_selfR (M := M) (β := 0) (C_X3_wayOf (M := M) (m := M 0) hB.1 er1)) (mj_rmok hR (by decide) (by decide)) rfl (Nat.le_of_ble_eq_true rfl) dX10_way_5 (fun hb2 => ?_)
  have hwr1 := sLwv hB.1 er1
  refine mj_astore (L2 := [some (mj_r (3, 0)), some (.inl a1), some (.inl a2), some (.inl a3), some (mj_r (0, r1))]) C dX10_way_8 (Nat.le_of_ble_eq_true rfl) rfl ?_
  refine mj_iload_n C dX10_way_10 rfl ?_
  refine mj_iconst (v := (-1)) C dX10_way_11 (by decide) ?_
  refine mj_icmp_ne (tgt := 21) C dX10_way_12 (by decide) (fun c3 => ?_) (fun c3 => ?_)
  · replace h := mj_if_f c3 h
    refine mj_iload_n C dX10_way_21 rfl ?_
    refine mj_iconst (v := (-1)) C dX10_way_22 (by decide) ?_
    refine mj_icmp_ne (tgt := 35) C dX10_way_23 (by decide) (fun c4 => ?_) (fun c4 => ?_)
    · replace h := mj_if_f c4 h
      refine mj_aload C dX10_way_35 rfl ?_
      refine mj_iload_n C dX10_way_37 rfl ?_
      refine mj_iload_n C dX10_way_38 rfl ?_
      obtain ⟨r5, er5, h⟩ := mj_b1_o h
      refine mj_callV1 (av := [.inl a2, .inl a3]) C lM_X10_245 lV_X9_byteOf hwr1.2.1 ⟨_, rfl, rfl⟩ rfl (mj_S1_selfR (M := M) (β := 0) (C_X9_byteOf (M := M) (m := M 0) hwr1 er5)) (mj_rmok hR (by decide) (by decide)) rfl (Nat.le_of_ble_eq_true rfl) dX10_way_39 (fun hb6 => ?_)
      cases h
      exact mj_iret C hT (vp_nar_int _) dX10_way_42 ⟨rfl, rfl, mj_bi _⟩
    · replace h := mj_if_t c4 h
      refine mj_aload C dX10_way_26 rfl ?_
      refine mj_iload_n C dX10_way_28 rfl ?_
      obtain ⟨r7, er7, h⟩ := mj_b1_o h
      refine mj_callV1 (av := [.inl a2]) C lM_X10_242 lV_X9_tickOf hwr1.2.1 ⟨_, rfl, rfl⟩ rfl (mj_S1_selfR (M := M) (β := 0) (C_X9_tickOf (M := M) (m := M 0) hwr1 er7)) (mj_rmok hR (by decide) (by decide)) rfl (Nat.le_of_ble_eq_true rfl) dX10_way_29 (fun hb8 => ?_)
      refine mj_goto (tgt := 42) C dX10_way_32 (by decide) ?_
      cases h
      exact mj_iret C hT (vp_nar_int _) dX10_way_42 ⟨rfl, rfl, mj_bi _⟩
  · replace h := mj_if_t c3 h
    refine mj_aload C dX10_way_15 rfl ?_
    refine mj_tget C lF_X10_241 hwr1.2.1 rfl dX10_way_17 ?_
    cases h
    exact mj_iret C hT (vp_nar_int _) dX10_way_20 ⟨rfl, rfl, mj_bi _⟩
def f_X10_alarm (a1 : Int32) (M : mj_M) : Option (Int32) := if a1 = (-1) then (some (M 0 5 4)) else (mj_b1 (f_X1_alarmAt a1 (M 0)) (fun r2 => some r2))
set_option maxHeartbeats 4000000 in
set_option maxRecDepth 20000 in
theorem C_X10_alarm {G : mj_G} {a1 : Int32} {M : mj_M} {x0 : Int32} (hB : mj_isT G) (h : f_X10_alarm a1 M = some x0) : mj_S1 yX10_alarm cX10_alarm 2 (some .int) 1 G [mj_r (3, 0), .inl a1] M (some (.inl x0)) M := by
  refine mj_intro (by decide) (Nat.le_of_ble_eq_true rfl) ?_
  intro κ C hG hR hT
  subst hG
  have C : mj_C κ cX10_alarm 2 RX10 := C
  show mj_R κ (mj_F κ (fun r M' => r = (some (.inl x0)) ∧ M' = M ∧ mj_bb (some .int) (some (.inl x0)))) 0 [some (mj_r (3, 0)), some (.inl a1)] [] M
  unfold f_X10_alarm at h
  refine mj_iload_n C dX10_alarm_0 rfl ?_
  refine mj_iconst (v := (-1)) C dX10_alarm_1 (by decide) ?_
  refine mj_icmp_ne (tgt := 16) C dX10_alarm_2 (by decide) (fun c1 => ?_) (fun c1 => ?_)
  · replace h := mj_if_f c1 h
    refine mj_aload_n C dX10_alarm_16 rfl ?_
    refine mj_getr (r := (0, 0)) C lF_X10_12 hB.2.2.2.2 rfl dX10_alarm_17 ?_
    refine mj_getr (r := (0, 5)) C lF_X10_248 (sL0 hB.1) rfl dX10_alarm_20 ?_
    refine mj_iload_n C dX10_alarm_23 rfl ?_
    obtain ⟨r2, er2, h⟩ := mj_b1_o h
    refine mj_callV1 (av := [.inl a1]) C lM_X10_257 lV_X1_alarmAt (sL5 hB.1) ⟨_, rfl, rfl⟩ rfl (mj_S1_selfR (M := M) (β := 0) (C_X1_alarmAt (M := M) (m := M 0) hB.1 er2)) (mj_rmok hR (by decide) (by decide)) rfl (Nat.le_of_ble_eq_true rfl) dX10_alarm_24 (fun hb3 => ?_)
    cases h
    exact mj_iret C hT (vp_nar_int _) dX10_alarm_27 ⟨rfl, rfl, mj_bi _⟩
  · replace h := mj_if_t c1 h
    refine mj_aload_n C dX10_alarm_5 rfl ?_
    refine mj_getr (r := (0, 0)) C lF_X10_12 hB.2.2.2.2 rfl dX10_alarm_6 ?_
    refine mj_getr (r := (0, 5)) C lF_X10_248 (sL0 hB.1) rfl dX10_alarm_9 ?_
    refine mj_tget C lF_X10_252 (sL5 hB.1) rfl dX10_alarm_12 ?_
    cases h
    exact mj_iret C hT (vp_nar_int _) dX10_alarm_15 ⟨rfl, rfl, mj_bi _⟩
def f_X10_judge_J54 (l1 : Int32) (l2 : Int32) (l3 : Int32) (l4 : Int32) (l5 : Int32) (s0 : Int32) : Int32 := if s0 = 0 then ((-1)) else (mj_let (f_X8_verdictOf l1 l2 l3 l4 l5) (fun r2 => r2))
set_option maxHeartbeats 4000000 in
set_option maxRecDepth 20000 in
theorem C_X10_judge_J54 {κ : mj_K} {l1 : Int32} {l2 : Int32} {l3 : Int32} {l4 : Int32} {l5 : Int32} {s0 : Int32} {M : mj_M} {x0 : Int32} (C : mj_C κ cX10_judge 7 RX10) (hB : mj_isT (mj_g κ)) (hR : mj_dp κ 1) (hT : mj_rt κ = (some .int)) (h : f_X10_judge_J54 l1 l2 l3 l4 l5 s0 = x0) : mj_R κ (mj_F κ (fun r M' => r = (some (.inl x0)) ∧ M' = M ∧ mj_bb (some .int) (some (.inl x0)))) 54 [none, some (.inl l1), some (.inl l2), some (.inl l3), some (.inl l4), some (.inl l5), none] [.inl s0] M := by
  unfold f_X10_judge_J54 at h
  refine mj_istore (L2 := [none, some (.inl l1), some (.inl l2), some (.inl l3), some (.inl l4), some (.inl l5), some (.inl s0)]) C dX10_judge_54 (Nat.le_of_ble_eq_true rfl) rfl ?_
  refine mj_iload C dX10_judge_56 rfl ?_
  refine mj_if_eq (tgt := 74) C dX10_judge_58 (by decide) (fun c1 => ?_) (fun c1 => ?_)
  · replace h := mj_if_t c1 h
    refine mj_iconst (v := (-1)) C dX10_judge_74 (by decide) ?_
    cases h
    exact mj_iret C hT (vp_nar_int _) dX10_judge_75 ⟨rfl, rfl, mj_bi _⟩
  · replace h := mj_if_f c1 h
    refine mj_iload_n C dX10_judge_61 rfl ?_
    refine mj_iload_n C dX10_judge_62 rfl ?_
    refine mj_iload_n C dX10_judge_63 rfl ?_
    refine mj_iload C dX10_judge_64 rfl ?_
    refine mj_iload C dX10_judge_66 rfl ?_
    obtain ⟨r2, er2, h⟩ := mj_let_o h
    refine mj_callS1 (av := [.inl l1, .inl l2, .inl l3, .inl l4, .inl l5]) C lM_X10_292 lS_X8_verdictOf rfl (C_X8_verdictOf  er2) (mj_rmok hR (by decide) (by decide)) rfl (Nat.le_of_ble_eq_true rfl) dX10_judge_68 (fun hb3 => ?_)
    refine mj_goto (tgt := 75) C dX10_judge_71 (by decide) ?_
    cases h
    exact mj_iret C hT (vp_nar_int _) dX10_judge_75 ⟨rfl, rfl, mj_bi _⟩
def f_X10_judge_J53 (l1 : Int32) (l2 : Int32) (l3 : Int32) (l4 : Int32) (l5 : Int32) : Int32 := f_X10_judge_J54 l1 l2 l3 l4 l5 0
set_option maxHeartbeats 4000000 in
set_option maxRecDepth 20000 in
theorem C_X10_judge_J53 {κ : mj_K} {l1 : Int32} {l2 : Int32} {l3 : Int32} {l4 : Int32} {l5 : Int32} {M : mj_M} {x0 : Int32} (C : mj_C κ cX10_judge 7 RX10) (hB : mj_isT (mj_g κ)) (hR : mj_dp κ 1) (hT : mj_rt κ = (some .int)) (h : f_X10_judge_J53 l1 l2 l3 l4 l5 = x0) : mj_R κ (mj_F κ (fun r M' => r = (some (.inl x0)) ∧ M' = M ∧ mj_bb (some .int) (some (.inl x0)))) 53 [none, some (.inl l1), some (.inl l2), some (.inl l3), some (.inl l4), some (.inl l5), none] [] M := by
  unfold f_X10_judge_J53 at h
  refine mj_iconst (v := 0) C dX10_judge_53 (by decide) ?_
  refine mj_sub (L' := [none, some (.inl l1), some (.inl l2), some (.inl l3), some (.inl l4), some (.inl l5), none]) ⟨rfl, ⟨rfl, ⟨rfl, ⟨rfl, ⟨rfl, trivial⟩⟩⟩⟩⟩ ?_
  exact C_X10_judge_J54 C hB hR hT h
def f_X10_judge (a1 : Int32) (a2 : Int32) (a3 : Int32) (a4 : Int32) (a5 : Int32) : Int32 := mj_let (f_X10_isWithin a1 1 3) (fun r4 => if r4 = 0 then (f_X10_judge_J53 a1 a2 a3 a4 a5) else (mj_let (f_X10_isWithin a2 0 2) (fun r7 => if r7 = 0 then (f_X10_judge_J53 a1 a2 a3 a4 a5) else (mj_let (f_X10_isWithin a3 0 3) (fun r10 => if r10 = 0 then (f_X10_judge_J53 a1 a2 a3 a4 a5) else (mj_let (f_X10_isWithin a4 0 9) (fun r13 => if r13 = 0 then (f_X10_judge_J53 a1 a2 a3 a4 a5) else (mj_let (f_X10_isWithin a5 1 9) (fun r16 => if r16 = 0 then (f_X10_judge_J53 a1 a2 a3 a4 a5) else (f_X10_judge_J54 a1 a2 a3 a4 a5 1))))))))))
set_option maxHeartbeats 4000000 in
set_option maxRecDepth 20000 in
theorem C_X10_judge {G : mj_G} {a1 : Int32} {a2 : Int32} {a3 : Int32} {a4 : Int32} {a5 : Int32} {M : mj_M} {x0 : Int32} (hB : mj_isT G) (h : f_X10_judge a1 a2 a3 a4 a5 = x0) : mj_S1 yX10_judge cX10_judge 7 (some .int) 1 G [mj_r (3, 0), .inl a1, .inl a2, .inl a3, .inl a4, .inl a5] M (some (.inl x0)) M := by
  refine mj_intro (by decide) (Nat.le_of_ble_eq_true rfl) ?_
  intro κ C hG hR hT
  subst hG
  have C : mj_C κ cX10_judge 7 RX10 := C
  show mj_R κ (mj_F κ (fun r M' => r = (some (.inl x0)) ∧ M' = M ∧ mj_bb (some .int) (some (.inl x0)))) 0 [some (mj_r (3, 0)), some (.inl a1), some (.inl a2), some (.inl a3), some (.inl a4), some (.inl a5), none] [] M
  unfold f_X10_judge at h
  refine mj_iload_n C dX10_judge_0 rfl ?_
  refine mj_iconst (v := 1) C dX10_judge_1 (by decide) ?_
  refine mj_iconst (v := 3) C dX10_judge_2 (by decide) ?_
  obtain ⟨r4, er4, h⟩ := mj_let_o h
  refine mj_callS1 (av := [.inl a1, .inl 1, .inl 3]) C lM_X10_289 lS_X10_isWithin rfl (C_X10_isWithin  er4) (mj_rmok hR (by decide) (by decide)) rfl (Nat.le_of_ble_eq_true rfl) dX10_judge_3 (fun hb5 => ?_)
  refine mj_if_eq (tgt := 53) C dX10_judge_6 (by decide) (fun c6 => ?_) (fun c6 => ?_)
  · replace h := mj_if_t c6 h
    refine mj_sub (L' := [none, some (.inl a1), some (.inl a2), some (.inl a3), some (.inl a4), some (.inl a5), none]) ⟨rfl, ⟨rfl, ⟨rfl, ⟨rfl, ⟨rfl, trivial⟩⟩⟩⟩⟩ ?_
    exact C_X10_judge_J53 C hB hR hT h
  · replace h := mj_if_f c6 h
    refine mj_iload_n C dX10_judge_9 rfl ?_
    refine mj_iconst (v := 0) C dX10_judge_10 (by decide) ?_
    refine mj_iconst (v := 2) C dX10_judge_11 (by decide) ?_
    obtain ⟨r7, er7, h⟩ := mj_let_o h
    refine mj_callS1 (av := [.inl a2, .inl 0, .inl 2]) C lM_X10_289 lS_X10_isWithin rfl (C_X10_isWithin  er7) (mj_rmok hR (by decide) (by decide)) rfl (Nat.le_of_ble_eq_true rfl) dX10_judge_12 (fun hb8 => ?_)
    refine mj_if_eq (tgt := 53) C dX10_judge_15 (by decide) (fun c9 => ?_) (fun c9 => ?_)
    · replace h := mj_if_t c9 h
      refine mj_sub (L' := [none, some (.inl a1), some (.inl a2), some (.inl a3), some (.inl a4), some (.inl a5), none]) ⟨rfl, ⟨rfl, ⟨rfl, ⟨rfl, ⟨rfl, trivial⟩⟩⟩⟩⟩ ?_
      exact C_X10_judge_J53 C hB hR hT h
    · replace h := mj_if_f c9 h
      refine mj_iload_n C dX10_judge_18 rfl ?_
      refine mj_iconst (v := 0) C dX10_judge_19 (by decide) ?_
      refine mj_iconst (v := 3) C dX10_judge_20 (by decide) ?_
      obtain ⟨r10, er10, h⟩ := mj_let_o h
      refine mj_callS1 (av := [.inl a3, .inl 0, .inl 3]) C lM_X10_289 lS_X10_isWithin rfl (C_X10_isWithin  er10) (mj_rmok hR (by decide) (by decide)) rfl (Nat.le_of_ble_eq_true rfl) dX10_judge_21 (fun hb11 => ?_)
      refine mj_if_eq (tgt := 53) C dX10_judge_24 (by decide) (fun c12 => ?_) (fun c12 => ?_)
      · replace h := mj_if_t c12 h
        refine mj_sub (L' := [none, some (.inl a1), some (.inl a2), some (.inl a3), some (.inl a4), some (.inl a5), none]) ⟨rfl, ⟨rfl, ⟨rfl, ⟨rfl, ⟨rfl, trivial⟩⟩⟩⟩⟩ ?_
        exact C_X10_judge_J53 C hB hR hT h
      · replace h := mj_if_f c12 h
        refine mj_iload C dX10_judge_27 rfl ?_
        refine mj_iconst (v := 0) C dX10_judge_29 (by decide) ?_
        refine mj_bipush (v := 9) C dX10_judge_30 (by decide) ?_
        obtain ⟨r13, er13, h⟩ := mj_let_o h
        refine mj_callS1 (av := [.inl a4, .inl 0, .inl 9]) C lM_X10_289 lS_X10_isWithin rfl (C_X10_isWithin  er13) (mj_rmok hR (by decide) (by decide)) rfl (Nat.le_of_ble_eq_true rfl) dX10_judge_32 (fun hb14 => ?_)
        refine mj_if_eq (tgt := 53) C dX10_judge_35 (by decide) (fun c15 => ?_) (fun c15 => ?_)
        · replace h := mj_if_t c15 h
          refine mj_sub (L' := [none, some (.inl a1), some (.inl a2), some (.inl a3), some (.inl a4), some (.inl a5), none]) ⟨rfl, ⟨rfl, ⟨rfl, ⟨rfl, ⟨rfl, trivial⟩⟩⟩⟩⟩ ?_
          exact C_X10_judge_J53 C hB hR hT h
        · replace h := mj_if_f c15 h
          refine mj_iload C dX10_judge_38 rfl ?_
          refine mj_iconst (v := 1) C dX10_judge_40 (by decide) ?_
          refine mj_bipush (v := 9) C dX10_judge_41 (by decide) ?_
          obtain ⟨r16, er16, h⟩ := mj_let_o h
          refine mj_callS1 (av := [.inl a5, .inl 1, .inl 9]) C lM_X10_289 lS_X10_isWithin rfl (C_X10_isWithin  er16) (mj_rmok hR (by decide) (by decide)) rfl (Nat.le_of_ble_eq_true rfl) dX10_judge_43 (fun hb17 => ?_)
          refine mj_if_eq (tgt := 53) C dX10_judge_46 (by decide) (fun c18 => ?_) (fun c18 => ?_)
          · replace h := mj_if_t c18 h
            refine mj_sub (L' := [none, some (.inl a1), some (.inl a2), some (.inl a3), some (.inl a4), some (.inl a5), none]) ⟨rfl, ⟨rfl, ⟨rfl, ⟨rfl, ⟨rfl, trivial⟩⟩⟩⟩⟩ ?_
            exact C_X10_judge_J53 C hB hR hT h
          · replace h := mj_if_f c18 h
            refine mj_iconst (v := 1) C dX10_judge_49 (by decide) ?_
            refine mj_goto (tgt := 54) C dX10_judge_50 (by decide) ?_
            refine mj_sub (L' := [none, some (.inl a1), some (.inl a2), some (.inl a3), some (.inl a4), some (.inl a5), none]) ⟨rfl, ⟨rfl, ⟨rfl, ⟨rfl, ⟨rfl, trivial⟩⟩⟩⟩⟩ ?_
            exact C_X10_judge_J54 C hB hR hT h
def f_X10_verdicts (a1 : Int32) (M : mj_M) : Option (Int32) := if a1 < 0 then (some (-1)) else (if 9 ≤ a1 then (some (-1)) else (mj_chk (mj_ok a1 9) (some (M 0 8 (mj_cl a1)))))
set_option maxHeartbeats 4000000 in
set_option maxRecDepth 20000 in
theorem C_X10_verdicts {G : mj_G} {a1 : Int32} {M : mj_M} {x0 : Int32} (hB : mj_isT G) (h : f_X10_verdicts a1 M = some x0) : mj_S1 yX10_verdicts cX10_verdicts 2 (some .int) 0 G [mj_r (3, 0), .inl a1] M (some (.inl x0)) M := by
  refine mj_intro (by decide) (Nat.le_of_ble_eq_true rfl) ?_
  intro κ C hG hR hT
  subst hG
  have C : mj_C κ cX10_verdicts 2 RX10 := C
  show mj_R κ (mj_F κ (fun r M' => r = (some (.inl x0)) ∧ M' = M ∧ mj_bb (some .int) (some (.inl x0)))) 0 [some (mj_r (3, 0)), some (.inl a1)] [] M
  unfold f_X10_verdicts at h
  refine mj_iload_n C dX10_verdicts_0 rfl ?_
  refine mj_if_lt (tgt := 25) C dX10_verdicts_1 (by decide) (fun c1 => ?_) (fun c1 => ?_)
  · replace h := mj_if_t c1 h
    refine mj_iconst (v := (-1)) C dX10_verdicts_25 (by decide) ?_
    cases h
    exact mj_iret C hT (vp_nar_int _) dX10_verdicts_26 ⟨rfl, rfl, mj_bi _⟩
  · replace h := mj_if_f c1 h
    refine mj_iload_n C dX10_verdicts_4 rfl ?_
    refine mj_bipush (v := 9) C dX10_verdicts_5 (by decide) ?_
    refine mj_icmp_ge (tgt := 25) C dX10_verdicts_7 (by decide) (fun c2 => ?_) (fun c2 => ?_)
    · replace h := mj_if_t c2 h
      refine mj_iconst (v := (-1)) C dX10_verdicts_25 (by decide) ?_
      cases h
      exact mj_iret C hT (vp_nar_int _) dX10_verdicts_26 ⟨rfl, rfl, mj_bi _⟩
    · replace h := mj_if_f c2 h
      refine mj_aload_n C dX10_verdicts_10 rfl ?_
      refine mj_getr (r := (0, 0)) C lF_X10_12 hB.2.2.2.2 rfl dX10_verdicts_11 ?_
      refine mj_getr (r := (0, 5)) C lF_X10_248 (sL0 hB.1) rfl dX10_verdicts_14 ?_
      refine mj_getr (r := (0, 8)) C lF_X10_296 (sL5 hB.1) rfl dX10_verdicts_17 ?_
      refine mj_iload_n C dX10_verdicts_20 rfl ?_
      obtain ⟨k3, h⟩ := mj_chk_o h
      refine mj_tald C (sL8 hB.1) k3 rfl dX10_verdicts_21 ?_
      refine mj_goto (tgt := 26) C dX10_verdicts_22 (by decide) ?_
      cases h
      exact mj_iret C hT (vp_nar_int _) dX10_verdicts_26 ⟨rfl, rfl, mj_bi _⟩
def f_X10_diary (a1 : Int32) (a2 : Int32) (M : mj_M) : Option (Int32) := if a1 = (-1) then (some (M 0 5 2)) else (mj_b1 (f_X1_cell a1 a2 (M 0)) (fun r2 => some r2))
set_option maxHeartbeats 4000000 in
set_option maxRecDepth 20000 in
theorem C_X10_diary {G : mj_G} {a1 : Int32} {a2 : Int32} {M : mj_M} {x0 : Int32} (hB : mj_isT G) (h : f_X10_diary a1 a2 M = some x0) : mj_S1 yX10_diary cX10_diary 3 (some .int) 1 G [mj_r (3, 0), .inl a1, .inl a2] M (some (.inl x0)) M := by
  refine mj_intro (by decide) (Nat.le_of_ble_eq_true rfl) ?_
  intro κ C hG hR hT
  subst hG
  have C : mj_C κ cX10_diary 3 RX10 := C
  show mj_R κ (mj_F κ (fun r M' => r = (some (.inl x0)) ∧ M' = M ∧ mj_bb (some .int) (some (.inl x0)))) 0 [some (mj_r (3, 0)), some (.inl a1), some (.inl a2)] [] M
  unfold f_X10_diary at h
  refine mj_iload_n C dX10_diary_0 rfl ?_
  refine mj_iconst (v := (-1)) C dX10_diary_1 (by decide) ?_
  refine mj_icmp_ne (tgt := 18) C dX10_diary_2 (by decide) (fun c1 => ?_) (fun c1 => ?_)
  · replace h := mj_if_f c1 h
    refine mj_aload_n C dX10_diary_18 rfl ?_
    refine mj_getr (r := (0, 0)) C lF_X10_12 hB.2.2.2.2 rfl dX10_diary_19 ?_
    refine mj_getr (r := (0, 5)) C lF_X10_248 (sL0 hB.1) rfl dX10_diary_22 ?_
    refine mj_iload_n C dX10_diary_25 rfl ?_
    refine mj_iload_n C dX10_diary_26 rfl ?_
    obtain ⟨r2, er2, h⟩ := mj_b1_o h
    refine mj_callV1 (av := [.inl a1, .inl a2]) C lM_X10_300 lV_X1_cell (sL5 hB.1) ⟨_, rfl, rfl⟩ rfl (mj_S1_selfR (M := M) (β := 0) (C_X1_cell (M := M) (m := M 0) hB.1 er2)) (mj_rmok hR (by decide) (by decide)) rfl (Nat.le_of_ble_eq_true rfl) dX10_diary_27 (fun hb3 => ?_)
    cases h
    exact mj_iret C hT (vp_nar_int _) dX10_diary_30 ⟨rfl, rfl, mj_bi _⟩
  · replace h := mj_if_t c1 h
    refine mj_aload_n C dX10_diary_5 rfl ?_
    refine mj_getr (r := (0, 0)) C lF_X10_12 hB.2.2.2.2 rfl dX10_diary_6 ?_
    refine mj_getr (r := (0, 5)) C lF_X10_248 (sL0 hB.1) rfl dX10_diary_9 ?_
    refine mj_tget C lF_X10_299 (sL5 hB.1) rfl dX10_diary_12 ?_
    refine mj_goto (tgt := 30) C dX10_diary_15 (by decide) ?_
    cases h
    exact mj_iret C hT (vp_nar_int _) dX10_diary_30 ⟨rfl, rfl, mj_bi _⟩
def f_X10_ledger (a1 : Int32) (a2 : Int32) (M : mj_M) : Option (Int32) := if a1 = (-1) then (some (M 0 3 2)) else (mj_b1 (f_X2_cell a1 a2 (M 0)) (fun r2 => some r2))
set_option maxHeartbeats 4000000 in
set_option maxRecDepth 20000 in
theorem C_X10_ledger {G : mj_G} {a1 : Int32} {a2 : Int32} {M : mj_M} {x0 : Int32} (hB : mj_isT G) (h : f_X10_ledger a1 a2 M = some x0) : mj_S1 yX10_ledger cX10_ledger 3 (some .int) 2 G [mj_r (3, 0), .inl a1, .inl a2] M (some (.inl x0)) M := by
  refine mj_intro (by decide) (Nat.le_of_ble_eq_true rfl) ?_
  intro κ C hG hR hT
  subst hG
  have C : mj_C κ cX10_ledger 3 RX10 := C
  show mj_R κ (mj_F κ (fun r M' => r = (some (.inl x0)) ∧ M' = M ∧ mj_bb (some .int) (some (.inl x0)))) 0 [some (mj_r (3, 0)), some (.inl a1), some (.inl a2)] [] M
  unfold f_X10_ledger at h
  refine mj_iload_n C dX10_ledger_0 rfl ?_
  refine mj_iconst (v := (-1)) C dX10_ledger_1 (by decide) ?_
  refine mj_icmp_ne (tgt := 18) C dX10_ledger_2 (by decide) (fun c1 => ?_) (fun c1 => ?_)
  · replace h := mj_if_f c1 h
    refine mj_aload_n C dX10_ledger_18 rfl ?_
    refine mj_getr (r := (0, 0)) C lF_X10_12 hB.2.2.2.2 rfl dX10_ledger_19 ?_
    refine mj_getr (r := (0, 3)) C lF_X10_303 (sL0 hB.1) rfl dX10_ledger_22 ?_
    refine mj_iload_n C dX10_ledger_25 rfl ?_
    refine mj_iload_n C dX10_ledger_26 rfl ?_
    obtain ⟨r2, er2, h⟩ := mj_b1_o h
    refine mj_callV1 (av := [.inl a1, .inl a2]) C lM_X10_310 lV_X2_cell (sL3 hB.1) ⟨_, rfl, rfl⟩ rfl (mj_S1_selfR (M := M) (β := 0) (C_X2_cell (M := M) (m := M 0) hB.1 er2)) (mj_rmok hR (by decide) (by decide)) rfl (Nat.le_of_ble_eq_true rfl) dX10_ledger_27 (fun hb3 => ?_)
    cases h
    exact mj_iret C hT (vp_nar_int _) dX10_ledger_30 ⟨rfl, rfl, mj_bi _⟩
  · replace h := mj_if_t c1 h
    refine mj_aload_n C dX10_ledger_5 rfl ?_
    refine mj_getr (r := (0, 0)) C lF_X10_12 hB.2.2.2.2 rfl dX10_ledger_6 ?_
    refine mj_getr (r := (0, 3)) C lF_X10_303 (sL0 hB.1) rfl dX10_ledger_9 ?_
    refine mj_tget C lF_X10_307 (sL3 hB.1) rfl dX10_ledger_12 ?_
    refine mj_goto (tgt := 30) C dX10_ledger_15 (by decide) ?_
    cases h
    exact mj_iret C hT (vp_nar_int _) dX10_ledger_30 ⟨rfl, rfl, mj_bi _⟩
def f_X10_delays (a1 : Int32) (M : mj_M) : Option (Int32) := if a1 = 0 then (mj_b1 (f_X2_howManyReach 4 1 (M 0)) (fun r2 => some r2)) else if a1 = 1 then (mj_b1 (f_X2_longestWait (M 0)) (fun r5 => some r5)) else if a1 = 2 then (mj_b1 (f_X2_allWaits (M 0)) (fun r8 => some r8)) else if a1 = 3 then (mj_b1 (f_X2_howManyReach 4 2 (M 0)) (fun r11 => some r11)) else if a1 = 4 then (mj_b1 (f_X2_howManyVanished (M 0)) (fun r14 => some r14)) else if a1 = 5 then (mj_b1 (f_X2_howManyOvertaken (M 0)) (fun r17 => some r17)) else if a1 = 6 then (mj_b1 (f_X2_howManyReach 2 2 (M 0)) (fun r20 => some r20)) else (some (-1))
set_option maxHeartbeats 4000000 in
set_option maxRecDepth 20000 in
theorem C_X10_delays {G : mj_G} {a1 : Int32} {M : mj_M} {x0 : Int32} (hB : mj_isT G) (h : f_X10_delays a1 M = some x0) : mj_S1 yX10_delays cX10_delays 3 (some .int) 4 G [mj_r (3, 0), .inl a1] M (some (.inl x0)) M := by
  refine mj_intro (by decide) (Nat.le_of_ble_eq_true rfl) ?_
  intro κ C hG hR hT
  subst hG
  have C : mj_C κ cX10_delays 3 RX10 := C
  show mj_R κ (mj_F κ (fun r M' => r = (some (.inl x0)) ∧ M' = M ∧ mj_bb (some .int) (some (.inl x0)))) 0 [some (mj_r (3, 0)), some (.inl a1), none] [] M
  unfold f_X10_delays at h
  refine mj_aload_n C dX10_delays_0 rfl ?_
  refine mj_getr (r := (0, 0)) C lF_X10_12 hB.2.2.2.2 rfl dX10_delays_1 ?_
  refine mj_getr (r := (0, 3)) C lF_X10_303 (sL0 hB.1) rfl dX10_delays_4 ?_
  refine mj_astore_n (L2 := [some (mj_r (3, 0)), some (.inl a1), some (mj_r (0, 3))]) C dX10_delays_7 (Nat.le_of_ble_eq_true rfl) rfl ?_
  refine mj_iload_n C dX10_delays_8 rfl ?_
  by_cases c1 : a1 = 0
  · replace h := mj_if_t c1 h
    refine mj_tin (off := 43) (tgt := 52) C dX10_delays_9 (by rw [c1]; decide) (by rw [c1]; decide) (by rw [c1]; decide) (by decide) ?_
    refine mj_aload_n C dX10_delays_52 rfl ?_
    refine mj_iconst (v := 4) C dX10_delays_53 (by decide) ?_
    refine mj_iconst (v := 1) C dX10_delays_54 (by decide) ?_
    obtain ⟨r2, er2, h⟩ := mj_b1_o h
    refine mj_callV1 (av := [.inl 4, .inl 1]) C lM_X10_311 lV_X2_howManyReach (sL3 hB.1) ⟨_, rfl, rfl⟩ rfl (mj_S1_selfR (M := M) (β := 0) (C_X2_howManyReach (M := M) (m := M 0) hB.1 er2)) (mj_rmok hR (by decide) (by decide)) rfl (Nat.le_of_ble_eq_true rfl) dX10_delays_55 (fun hb3 => ?_)
    cases h
    exact mj_iret C hT (vp_nar_int _) dX10_delays_58 ⟨rfl, rfl, mj_bi _⟩
  replace h := mj_if_f c1 h
  by_cases c4 : a1 = 1
  · replace h := mj_if_t c4 h
    refine mj_tin (off := 50) (tgt := 59) C dX10_delays_9 (by rw [c4]; decide) (by rw [c4]; decide) (by rw [c4]; decide) (by decide) ?_
    refine mj_aload_n C dX10_delays_59 rfl ?_
    obtain ⟨r5, er5, h⟩ := mj_b1_o h
    refine mj_callV1 (av := []) C lM_X10_314 lV_X2_longestWait (sL3 hB.1) ⟨_, rfl, rfl⟩ rfl (mj_S1_selfR (M := M) (β := 0) (C_X2_longestWait (M := M) (m := M 0) hB.1 er5)) (mj_rmok hR (by decide) (by decide)) rfl (Nat.le_of_ble_eq_true rfl) dX10_delays_60 (fun hb6 => ?_)
    cases h
    exact mj_iret C hT (vp_nar_int _) dX10_delays_63 ⟨rfl, rfl, mj_bi _⟩
  replace h := mj_if_f c4 h
  by_cases c7 : a1 = 2
  · replace h := mj_if_t c7 h
    refine mj_tin (off := 55) (tgt := 64) C dX10_delays_9 (by rw [c7]; decide) (by rw [c7]; decide) (by rw [c7]; decide) (by decide) ?_
    refine mj_aload_n C dX10_delays_64 rfl ?_
    obtain ⟨r8, er8, h⟩ := mj_b1_o h
    refine mj_callV1 (av := []) C lM_X10_317 lV_X2_allWaits (sL3 hB.1) ⟨_, rfl, rfl⟩ rfl (mj_S1_selfR (M := M) (β := 0) (C_X2_allWaits (M := M) (m := M 0) hB.1 er8)) (mj_rmok hR (by decide) (by decide)) rfl (Nat.le_of_ble_eq_true rfl) dX10_delays_65 (fun hb9 => ?_)
    cases h
    exact mj_iret C hT (vp_nar_int _) dX10_delays_68 ⟨rfl, rfl, mj_bi _⟩
  replace h := mj_if_f c7 h
  by_cases c10 : a1 = 3
  · replace h := mj_if_t c10 h
    refine mj_tin (off := 60) (tgt := 69) C dX10_delays_9 (by rw [c10]; decide) (by rw [c10]; decide) (by rw [c10]; decide) (by decide) ?_
    refine mj_aload_n C dX10_delays_69 rfl ?_
    refine mj_iconst (v := 4) C dX10_delays_70 (by decide) ?_
    refine mj_iconst (v := 2) C dX10_delays_71 (by decide) ?_
    obtain ⟨r11, er11, h⟩ := mj_b1_o h
    refine mj_callV1 (av := [.inl 4, .inl 2]) C lM_X10_311 lV_X2_howManyReach (sL3 hB.1) ⟨_, rfl, rfl⟩ rfl (mj_S1_selfR (M := M) (β := 0) (C_X2_howManyReach (M := M) (m := M 0) hB.1 er11)) (mj_rmok hR (by decide) (by decide)) rfl (Nat.le_of_ble_eq_true rfl) dX10_delays_72 (fun hb12 => ?_)
    cases h
    exact mj_iret C hT (vp_nar_int _) dX10_delays_75 ⟨rfl, rfl, mj_bi _⟩
  replace h := mj_if_f c10 h
  by_cases c13 : a1 = 4
  · replace h := mj_if_t c13 h
    refine mj_tin (off := 67) (tgt := 76) C dX10_delays_9 (by rw [c13]; decide) (by rw [c13]; decide) (by rw [c13]; decide) (by decide) ?_
    refine mj_aload_n C dX10_delays_76 rfl ?_
    obtain ⟨r14, er14, h⟩ := mj_b1_o h
    refine mj_callV1 (av := []) C lM_X10_320 lV_X2_howManyVanished (sL3 hB.1) ⟨_, rfl, rfl⟩ rfl (mj_S1_selfR (M := M) (β := 0) (C_X2_howManyVanished (M := M) (m := M 0) hB.1 er14)) (mj_rmok hR (by decide) (by decide)) rfl (Nat.le_of_ble_eq_true rfl) dX10_delays_77 (fun hb15 => ?_)
    cases h
    exact mj_iret C hT (vp_nar_int _) dX10_delays_80 ⟨rfl, rfl, mj_bi _⟩
  replace h := mj_if_f c13 h
  by_cases c16 : a1 = 5
  · replace h := mj_if_t c16 h
    refine mj_tin (off := 72) (tgt := 81) C dX10_delays_9 (by rw [c16]; decide) (by rw [c16]; decide) (by rw [c16]; decide) (by decide) ?_
    refine mj_aload_n C dX10_delays_81 rfl ?_
    obtain ⟨r17, er17, h⟩ := mj_b1_o h
    refine mj_callV1 (av := []) C lM_X10_323 lV_X2_howManyOvertaken (sL3 hB.1) ⟨_, rfl, rfl⟩ rfl (mj_S1_selfR (M := M) (β := 0) (C_X2_howManyOvertaken (M := M) (m := M 0) hB.1 er17)) (mj_rmok hR (by decide) (by decide)) rfl (Nat.le_of_ble_eq_true rfl) dX10_delays_82 (fun hb18 => ?_)
    cases h
    exact mj_iret C hT (vp_nar_int _) dX10_delays_85 ⟨rfl, rfl, mj_bi _⟩
  replace h := mj_if_f c16 h
  by_cases c19 : a1 = 6
  · replace h := mj_if_t c19 h
    refine mj_tin (off := 77) (tgt := 86) C dX10_delays_9 (by rw [c19]; decide) (by rw [c19]; decide) (by rw [c19]; decide) (by decide) ?_
    refine mj_aload_n C dX10_delays_86 rfl ?_
    refine mj_iconst (v := 2) C dX10_delays_87 (by decide) ?_
    refine mj_iconst (v := 2) C dX10_delays_88 (by decide) ?_
    obtain ⟨r20, er20, h⟩ := mj_b1_o h
    refine mj_callV1 (av := [.inl 2, .inl 2]) C lM_X10_311 lV_X2_howManyReach (sL3 hB.1) ⟨_, rfl, rfl⟩ rfl (mj_S1_selfR (M := M) (β := 0) (C_X2_howManyReach (M := M) (m := M 0) hB.1 er20)) (mj_rmok hR (by decide) (by decide)) rfl (Nat.le_of_ble_eq_true rfl) dX10_delays_89 (fun hb21 => ?_)
    cases h
    exact mj_iret C hT (vp_nar_int _) dX10_delays_92 ⟨rfl, rfl, mj_bi _⟩
  replace h := mj_if_f c19 h
  refine mj_tout (tgt := 93) C dX10_delays_9 (by have := mj_neL 0 (by decide) c1; have := mj_neL 1 (by decide) c4; have := mj_neL 2 (by decide) c7; have := mj_neL 3 (by decide) c10; have := mj_neL 4 (by decide) c13; have := mj_neL 5 (by decide) c16; have := mj_neL 6 (by decide) c19; omega) (by decide) ?_
  refine mj_iconst (v := (-1)) C dX10_delays_93 (by decide) ?_
  cases h
  exact mj_iret C hT (vp_nar_int _) dX10_delays_94 ⟨rfl, rfl, mj_bi _⟩
def f_X10_zone (a1 : Int32) (M : mj_M) : Int32 := mj_let (f_X10_isNumber a1) (fun r1 => if r1 = 0 then ((-1)) else (mj_let (f_X6_zoneOf a1 (M 0)) (fun r4 => r4)))
set_option maxHeartbeats 4000000 in
set_option maxRecDepth 20000 in
theorem C_X10_zone {G : mj_G} {a1 : Int32} {M : mj_M} {x0 : Int32} (hB : mj_isT G) (h : f_X10_zone a1 M = x0) : mj_S1 yX10_zone cX10_zone 2 (some .int) 2 G [mj_r (3, 0), .inl a1] M (some (.inl x0)) M := by
  refine mj_intro (by decide) (Nat.le_of_ble_eq_true rfl) ?_
  intro κ C hG hR hT
  subst hG
  have C : mj_C κ cX10_zone 2 RX10 := C
  show mj_R κ (mj_F κ (fun r M' => r = (some (.inl x0)) ∧ M' = M ∧ mj_bb (some .int) (some (.inl x0)))) 0 [some (mj_r (3, 0)), some (.inl a1)] [] M
  unfold f_X10_zone at h
  refine mj_iload_n C dX10_zone_0 rfl ?_
  obtain ⟨r1, er1, h⟩ := mj_let_o h
  refine mj_callS1 (av := [.inl a1]) C lM_X10_326 lS_X10_isNumber rfl (C_X10_isNumber  er1) (mj_rmok hR (by decide) (by decide)) rfl (Nat.le_of_ble_eq_true rfl) dX10_zone_1 (fun hb2 => ?_)
  refine mj_if_eq (tgt := 21) C dX10_zone_4 (by decide) (fun c3 => ?_) (fun c3 => ?_)
  · replace h := mj_if_t c3 h
    refine mj_iconst (v := (-1)) C dX10_zone_21 (by decide) ?_
    cases h
    exact mj_iret C hT (vp_nar_int _) dX10_zone_22 ⟨rfl, rfl, mj_bi _⟩
  · replace h := mj_if_f c3 h
    refine mj_aload_n C dX10_zone_7 rfl ?_
    refine mj_getr (r := (0, 0)) C lF_X10_12 hB.2.2.2.2 rfl dX10_zone_8 ?_
    refine mj_getr (r := (0, 9)) C lF_X10_81 (sL0 hB.1) rfl dX10_zone_11 ?_
    refine mj_iload_n C dX10_zone_14 rfl ?_
    obtain ⟨r4, er4, h⟩ := mj_let_o h
    refine mj_callV1 (av := [.inl a1]) C lM_X10_329 lV_X6_zoneOf (sL9 hB.1) ⟨_, rfl, rfl⟩ rfl (mj_S1_selfR (M := M) (β := 0) (C_X6_zoneOf (M := M) (m := M 0) hB.1 er4)) (mj_rmok hR (by decide) (by decide)) rfl (Nat.le_of_ble_eq_true rfl) dX10_zone_15 (fun hb5 => ?_)
    refine mj_goto (tgt := 22) C dX10_zone_18 (by decide) ?_
    cases h
    exact mj_iret C hT (vp_nar_int _) dX10_zone_22 ⟨rfl, rfl, mj_bi _⟩
def f_X10_fate (a1 : Int32) (a2 : Int32) (M : mj_M) : Option (Int32 × mj_M) := mj_let (f_X3_wayOf a1) (fun r1 => mj_b2 (f_X9_doom r1 a2 (M 0)) (fun r3 m4 => mj_let (va_up M 0 m4) (fun M5 => some (r3, M5))))
set_option maxHeartbeats 4000000 in
set_option maxRecDepth 20000 in
theorem C_X10_fate {G : mj_G} {a1 : Int32} {a2 : Int32} {M : mj_M} {x0 : Int32} {m0 : mj_M} (hB : mj_isT G) (h : f_X10_fate a1 a2 M = some (x0, m0)) : mj_S1 yX10_fate cX10_fate 3 (some .int) 2 G [mj_r (3, 0), .inl a1, .inl a2] M (some (.inl x0)) m0 := by
  refine mj_intro (by decide) (Nat.le_of_ble_eq_true rfl) ?_
  intro κ C hG hR hT
  subst hG
  have C : mj_C κ cX10_fate 3 RX10 := C
  show mj_R κ (mj_F κ (fun r M' => r = (some (.inl x0)) ∧ M' = m0 ∧ mj_bb (some .int) (some (.inl x0)))) 0 [some (mj_r (3, 0)), some (.inl a1), some (.inl a2)] [] M
  unfold f_X10_fate at h
  refine mj_aload_n C dX10_fate_0 rfl ?_
  refine mj_getr (r := (0, 0)) C lF_X10_12 hB.2.2.2.2 rfl dX10_fate_1 ?_
  refine mj_iload_n C dX10_fate_4 rfl ?_
  obtain ⟨r1, er1, h⟩ := mj_let_o h
  refine mj_callV1 (av := [.inl a1]) C lM_X10_101 lV_X3_wayOf (sL0 hB.1) ⟨_, rfl, rfl⟩ rfl (mj_S1_selfR (M := M) (β := 0) (C_X3_wayOf (M := M) (m := M 0) hB.1 er1)) (mj_rmok hR (by decide) (by decide)) rfl (Nat.le_of_ble_eq_true rfl) dX10_fate_5 (fun hb2 => ?_)
  have hwr1 := sLwv hB.1 er1
  refine mj_iload_n C dX10_fate_8 rfl ?_
  obtain ⟨r3, m4, em4, h⟩ := mj_b2_o h
  obtain ⟨M5, hM5, h⟩ := mj_let_o h
  refine mj_callV1 (av := [.inl a2]) C lM_X10_332 lV_X9_doom hwr1.2.1 ⟨_, rfl, rfl⟩ rfl (mj_S1_self (M := M) (β := 0) (C_X9_doom (M := M) (m := M 0) hwr1 em4)) (mj_rmok hR (by decide) (by decide)) rfl (Nat.le_of_ble_eq_true rfl) dX10_fate_9 (fun hb6 => ?_)
  refine mj_mm hM5 ?_
  cases h
  exact mj_iret C hT (vp_nar_int _) dX10_fate_12 ⟨rfl, rfl, mj_bi _⟩
def f_X10_truth (a1 : Int32) (M : mj_M) : Option (Int32) := mj_let (M 0 9 2) (fun x1 => if a1 = 0 then (mj_let (f_X10_far x1 (M 0 17 8)) (fun r3 => mj_b1 (f_X7_nearer 23 (M 0 17 8) r3 (M 0)) (fun r5 => some r5))) else if a1 = 1 then (mj_let (f_X10_far x1 (M 0 17 8)) (fun r8 => some r8)) else if a1 = 2 then (mj_let (f_X10_far (M 0 17 7) x1) (fun r11 => some r11)) else if a1 = 3 then (some (((M 0 3 5) - (M 0 18 4)) - (M 0 23 4))) else if a1 = 4 then (some (M 0 3 5)) else (some (-1)))
set_option maxHeartbeats 4000000 in
set_option maxRecDepth 20000 in
theorem C_X10_truth {G : mj_G} {a1 : Int32} {M : mj_M} {x0 : Int32} (hB : mj_isT G) (h : f_X10_truth a1 M = some x0) : mj_S1 yX10_truth cX10_truth 4 (some .int) 2 G [mj_r (3, 0), .inl a1] M (some (.inl x0)) M := by
  refine mj_intro (by decide) (Nat.le_of_ble_eq_true rfl) ?_
  intro κ C hG hR hT
  subst hG
  have C : mj_C κ cX10_truth 4 RX10 := C
  show mj_R κ (mj_F κ (fun r M' => r = (some (.inl x0)) ∧ M' = M ∧ mj_bb (some .int) (some (.inl x0)))) 0 [some (mj_r (3, 0)), some (.inl a1), none, none] [] M
  unfold f_X10_truth at h
  refine mj_aload_n C dX10_truth_0 rfl ?_
  refine mj_getr (r := (0, 0)) C lF_X10_12 hB.2.2.2.2 rfl dX10_truth_1 ?_
  refine mj_getr (r := (0, 17)) C lF_X10_54 (sL0 hB.1) rfl dX10_truth_4 ?_
  refine mj_astore_n (L2 := [some (mj_r (3, 0)), some (.inl a1), some (mj_r (0, 17)), none]) C dX10_truth_7 (Nat.le_of_ble_eq_true rfl) rfl ?_
  refine mj_aload_n C dX10_truth_8 rfl ?_
  refine mj_getr (r := (0, 0)) C lF_X10_12 hB.2.2.2.2 rfl dX10_truth_9 ?_
  refine mj_getr (r := (0, 9)) C lF_X10_81 (sL0 hB.1) rfl dX10_truth_12 ?_
  refine mj_tget C lF_X10_203 (sL9 hB.1) rfl dX10_truth_15 ?_
  obtain ⟨x1, hx1, h⟩ := mj_let_o h
  refine mj_nm hx1 ?_
  refine mj_istore_n (L2 := [some (mj_r (3, 0)), some (.inl a1), some (mj_r (0, 17)), some (.inl x1)]) C dX10_truth_18 (Nat.le_of_ble_eq_true rfl) rfl ?_
  refine mj_iload_n C dX10_truth_19 rfl ?_
  by_cases c2 : a1 = 0
  · replace h := mj_if_t c2 h
    refine mj_tin (off := 36) (tgt := 56) C dX10_truth_20 (by rw [c2]; decide) (by rw [c2]; decide) (by rw [c2]; decide) (by decide) ?_
    refine mj_aload_n C dX10_truth_56 rfl ?_
    refine mj_getr (r := (0, 23)) C lF_X10_171 (sL17 hB.1) rfl dX10_truth_57 ?_
    refine mj_aload_n C dX10_truth_60 rfl ?_
    refine mj_tget C lF_X10_161 (sL17 hB.1) rfl dX10_truth_61 ?_
    refine mj_iload_n C dX10_truth_64 rfl ?_
    refine mj_aload_n C dX10_truth_65 rfl ?_
    refine mj_tget C lF_X10_161 (sL17 hB.1) rfl dX10_truth_66 ?_
    obtain ⟨r3, er3, h⟩ := mj_let_o h
    refine mj_callS1 (av := [.inl x1, .inl (M 0 17 8)]) C lM_X10_335 lS_X10_far rfl (C_X10_far  er3) (mj_rmok hR (by decide) (by decide)) rfl (Nat.le_of_ble_eq_true rfl) dX10_truth_69 (fun hb4 => ?_)
    obtain ⟨r5, er5, h⟩ := mj_b1_o h
    refine mj_callV1 (av := [.inl (M 0 17 8), .inl r3]) C lM_X10_338 lV_X7_nearer (sL23 hB.1) ⟨_, rfl, rfl⟩ rfl (mj_S1_selfR (M := M) (β := 0) (C_X7_nearer (M := M) (m := M 0) (sLr23 hB.1) er5)) (mj_rmok hR (by decide) (by decide)) rfl (Nat.le_of_ble_eq_true rfl) dX10_truth_72 (fun hb6 => ?_)
    cases h
    exact mj_iret C hT (vp_nar_int _) dX10_truth_75 ⟨rfl, rfl, mj_bi _⟩
  replace h := mj_if_f c2 h
  by_cases c7 : a1 = 1
  · replace h := mj_if_t c7 h
    refine mj_tin (off := 56) (tgt := 76) C dX10_truth_20 (by rw [c7]; decide) (by rw [c7]; decide) (by rw [c7]; decide) (by decide) ?_
    refine mj_iload_n C dX10_truth_76 rfl ?_
    refine mj_aload_n C dX10_truth_77 rfl ?_
    refine mj_tget C lF_X10_161 (sL17 hB.1) rfl dX10_truth_78 ?_
    obtain ⟨r8, er8, h⟩ := mj_let_o h
    refine mj_callS1 (av := [.inl x1, .inl (M 0 17 8)]) C lM_X10_335 lS_X10_far rfl (C_X10_far  er8) (mj_rmok hR (by decide) (by decide)) rfl (Nat.le_of_ble_eq_true rfl) dX10_truth_81 (fun hb9 => ?_)
    cases h
    exact mj_iret C hT (vp_nar_int _) dX10_truth_84 ⟨rfl, rfl, mj_bi _⟩
  replace h := mj_if_f c7 h
  by_cases c10 : a1 = 2
  · replace h := mj_if_t c10 h
    refine mj_tin (off := 65) (tgt := 85) C dX10_truth_20 (by rw [c10]; decide) (by rw [c10]; decide) (by rw [c10]; decide) (by decide) ?_
    refine mj_aload_n C dX10_truth_85 rfl ?_
    refine mj_tget C lF_X10_158 (sL17 hB.1) rfl dX10_truth_86 ?_
    refine mj_iload_n C dX10_truth_89 rfl ?_
    obtain ⟨r11, er11, h⟩ := mj_let_o h
    refine mj_callS1 (av := [.inl (M 0 17 7), .inl x1]) C lM_X10_335 lS_X10_far rfl (C_X10_far  er11) (mj_rmok hR (by decide) (by decide)) rfl (Nat.le_of_ble_eq_true rfl) dX10_truth_90 (fun hb12 => ?_)
    cases h
    exact mj_iret C hT (vp_nar_int _) dX10_truth_93 ⟨rfl, rfl, mj_bi _⟩
  replace h := mj_if_f c10 h
  by_cases c13 : a1 = 3
  · replace h := mj_if_t c13 h
    refine mj_tin (off := 74) (tgt := 94) C dX10_truth_20 (by rw [c13]; decide) (by rw [c13]; decide) (by rw [c13]; decide) (by decide) ?_
    refine mj_aload_n C dX10_truth_94 rfl ?_
    refine mj_getr (r := (0, 0)) C lF_X10_12 hB.2.2.2.2 rfl dX10_truth_95 ?_
    refine mj_getr (r := (0, 3)) C lF_X10_303 (sL0 hB.1) rfl dX10_truth_98 ?_
    refine mj_tget C lF_X10_341 (sL3 hB.1) rfl dX10_truth_101 ?_
    refine mj_aload_n C dX10_truth_104 rfl ?_
    refine mj_getr (r := (0, 18)) C lF_X10_164 (sL17 hB.1) rfl dX10_truth_105 ?_
    refine mj_tget C lF_X10_168 (sL18 hB.1) rfl dX10_truth_108 ?_
    refine mj_isub C dX10_truth_111 ?_
    refine mj_aload_n C dX10_truth_112 rfl ?_
    refine mj_getr (r := (0, 23)) C lF_X10_171 (sL17 hB.1) rfl dX10_truth_113 ?_
    refine mj_tget C lF_X10_168 (sL23 hB.1) rfl dX10_truth_116 ?_
    refine mj_isub C dX10_truth_119 ?_
    cases h
    exact mj_iret C hT (vp_nar_int _) dX10_truth_120 ⟨rfl, rfl, mj_bi _⟩
  replace h := mj_if_f c13 h
  by_cases c14 : a1 = 4
  · replace h := mj_if_t c14 h
    refine mj_tin (off := 101) (tgt := 121) C dX10_truth_20 (by rw [c14]; decide) (by rw [c14]; decide) (by rw [c14]; decide) (by decide) ?_
    refine mj_aload_n C dX10_truth_121 rfl ?_
    refine mj_getr (r := (0, 0)) C lF_X10_12 hB.2.2.2.2 rfl dX10_truth_122 ?_
    refine mj_getr (r := (0, 3)) C lF_X10_303 (sL0 hB.1) rfl dX10_truth_125 ?_
    refine mj_tget C lF_X10_341 (sL3 hB.1) rfl dX10_truth_128 ?_
    cases h
    exact mj_iret C hT (vp_nar_int _) dX10_truth_131 ⟨rfl, rfl, mj_bi _⟩
  replace h := mj_if_f c14 h
  refine mj_tout (tgt := 132) C dX10_truth_20 (by have := mj_neL 0 (by decide) c2; have := mj_neL 1 (by decide) c7; have := mj_neL 2 (by decide) c10; have := mj_neL 3 (by decide) c13; have := mj_neL 4 (by decide) c14; omega) (by decide) ?_
  refine mj_iconst (v := (-1)) C dX10_truth_132 (by decide) ?_
  cases h
  exact mj_iret C hT (vp_nar_int _) dX10_truth_133 ⟨rfl, rfl, mj_bi _⟩
def f_X10_soon_L23 : Nat → Int32 → mj_M → Option (Nat × Int32 × mj_M)
  | 0, _, _ => none
  | n + 1, l1, M => if 400 < l1 then (some (77, 0, M)) else (mj_let (f_X8_isIdle (M 2)) (fun r2 => if r2 = 0 then (if M 2 17 6 = 6 then (some (60, 0, M)) else (mj_b1 (f_X3_passTicks 1 1 (M 2)) (fun m6 => mj_let (va_up M 2 m6) (fun M7 => mj_let (l1 + 1) (fun x9 => f_X10_soon_L23 n x9 M7))))) else (some (43, l1, M))))
set_option maxHeartbeats 4000000 in
set_option maxRecDepth 20000 in
theorem C_X10_soon_L23 {κ : mj_K} {Q : State → Prop} (C : mj_C κ cX10_soon 2 RX10) (hB : mj_isT (mj_g κ)) (hR : mj_dp κ 6) : ∀ (n : Nat) (l1 : Int32) (M : mj_M) (tg : Nat) (o1 : Int32) (mo : mj_M), f_X10_soon_L23 n l1 M = some (tg, o1, mo) → (tg = 43 → mj_R κ Q 43 [none, some (.inl o1)] [] mo) → (tg = 60 → mj_R κ Q 60 [none, none] [] mo) → (tg = 77 → mj_R κ Q 77 [none, none] [] mo) → mj_R κ Q 23 [some (mj_r (3, 0)), some (.inl l1)] [] M := by
  intro n
  induction n with
  | zero =>
    intro l1 M tg o1 mo h
    cases h
  | succ n ih =>
    intro l1 M tg o1 mo h hx43 hx60 hx77
    rw [f_X10_soon_L23] at h
    refine mj_iload_n C dX10_soon_23 rfl ?_
    refine mj_sipush (v := 400) C dX10_soon_24 (by decide) ?_
    refine mj_icmp_gt (tgt := 77) C dX10_soon_27 (by decide) (fun c1 => ?_) (fun c1 => ?_)
    · replace h := mj_if_t c1 h
      cases h
      refine mj_sub ?_ (hx77 rfl)
      exact trivial
    · replace h := mj_if_f c1 h
      refine mj_aload_n C dX10_soon_30 rfl ?_
      refine mj_getr (r := (2, 0)) C lF_X10_19 hB.2.2.2.2 rfl dX10_soon_31 ?_
      refine mj_getr (r := (2, 17)) C lF_X10_54 (sL0 hB.2.2.1) rfl dX10_soon_34 ?_
      obtain ⟨r2, er2, h⟩ := mj_let_o h
      refine mj_callV1 (av := []) C lM_X10_350 lV_X8_isIdle (sL17 hB.2.2.1) ⟨_, rfl, rfl⟩ rfl (mj_S1_selfR (M := M) (β := 2) (C_X8_isIdle (M := M) (m := M 2) hB.2.2.1 er2)) (mj_rmok hR (by decide) (by decide)) rfl (Nat.le_of_ble_eq_true rfl) dX10_soon_37 (fun hb3 => ?_)
      refine mj_if_eq (tgt := 45) C dX10_soon_40 (by decide) (fun c4 => ?_) (fun c4 => ?_)
      · replace h := mj_if_t c4 h
        refine mj_aload_n C dX10_soon_45 rfl ?_
        refine mj_getr (r := (2, 0)) C lF_X10_19 hB.2.2.2.2 rfl dX10_soon_46 ?_
        refine mj_getr (r := (2, 17)) C lF_X10_54 (sL0 hB.2.2.1) rfl dX10_soon_49 ?_
        refine mj_tget C lF_X10_155 (sL17 hB.2.2.1) rfl dX10_soon_52 ?_
        refine mj_bipush (v := 6) C dX10_soon_55 (by decide) ?_
        refine mj_icmp_ne (tgt := 62) C dX10_soon_57 (by decide) (fun c5 => ?_) (fun c5 => ?_)
        · replace h := mj_if_f c5 h
          refine mj_aload_n C dX10_soon_62 rfl ?_
          refine mj_getr (r := (2, 0)) C lF_X10_19 hB.2.2.2.2 rfl dX10_soon_63 ?_
          refine mj_iconst (v := 1) C dX10_soon_66 (by decide) ?_
          refine mj_iconst (v := 1) C dX10_soon_67 (by decide) ?_
          obtain ⟨m6, em6, h⟩ := mj_b1_o h
          obtain ⟨M7, hM7, h⟩ := mj_let_o h
          refine mj_callV0 (av := [.inl 1, .inl 1]) C lM_X10_94 lV_X3_passTicks (sL0 hB.2.2.1) ⟨_, rfl, rfl⟩ rfl (mj_S1_self (M := M) (β := 2) (C_X3_passTicks (M := M) (m := M 2) hB.2.2.1 em6)) (mj_rmok hR (by decide) (by decide)) rfl (Nat.le_of_ble_eq_true rfl) dX10_soon_68 ?_
          refine mj_mm hM7 ?_
          obtain ⟨x9, hx9, h⟩ := mj_let_o h
          refine mj_iinc (L2 := [some (mj_r (3, 0)), some (.inl x9)]) C dX10_soon_71 rfl hx9 rfl ?_
          refine mj_goto (tgt := 23) C dX10_soon_74 (by decide) ?_
          refine mj_sub (L' := [some (mj_r (3, 0)), some (.inl x9)]) ⟨rfl, ⟨rfl, trivial⟩⟩ ?_
          exact ih _ _ _ _ _ h hx43 hx60 hx77
        · replace h := mj_if_t c5 h
          cases h
          refine mj_sub ?_ (hx60 rfl)
          exact trivial
      · replace h := mj_if_f c4 h
        cases h
        refine mj_sub ?_ (hx43 rfl)
        exact ⟨rfl, trivial⟩
def f_X10_soon (M : mj_M) : Option (Int32 × mj_M) := mj_b1 (f_X3_copyFrom (M 0) (M 2)) (fun m10 => mj_let (va_up M 2 m10) (fun M11 => mj_let (f_X0_freeOfHurt (M11 2)) (fun m13 => mj_let (va_up M11 2 m13) (fun M14 => mj_b3 (f_X10_soon_L23 mj_fu 0 M14) (fun t16 x17 M18 => if t16 = 43 then (some (x17, M18)) else if t16 = 60 then (some ((-1), M18)) else (some ((-1), M18)))))))
set_option maxHeartbeats 4000000 in
set_option maxRecDepth 20000 in
theorem C_X10_soon {G : mj_G} {M : mj_M} {x0 : Int32} {m0 : mj_M} (hB : mj_isT G) (h : f_X10_soon M = some (x0, m0)) : mj_S1 yX10_soon cX10_soon 2 (some .int) 6 G [mj_r (3, 0)] M (some (.inl x0)) m0 := by
  refine mj_intro (by decide) (Nat.le_of_ble_eq_true rfl) ?_
  intro κ C hG hR hT
  subst hG
  have C : mj_C κ cX10_soon 2 RX10 := C
  show mj_R κ (mj_F κ (fun r M' => r = (some (.inl x0)) ∧ M' = m0 ∧ mj_bb (some .int) (some (.inl x0)))) 0 [some (mj_r (3, 0)), none] [] M
  unfold f_X10_soon at h
  refine mj_aload_n C dX10_soon_0 rfl ?_
  refine mj_getr (r := (2, 0)) C lF_X10_19 hB.2.2.2.2 rfl dX10_soon_1 ?_
  refine mj_aload_n C dX10_soon_4 rfl ?_
  refine mj_getr (r := (0, 0)) C lF_X10_12 hB.2.2.2.2 rfl dX10_soon_5 ?_
  obtain ⟨m10, em10, h⟩ := mj_b1_o h
  obtain ⟨M11, hM11, h⟩ := mj_let_o h
  refine mj_callV0 (av := [mj_r (0, 0)]) C lM_X10_344 lV_X3_copyFrom (sL0 hB.2.2.1) ⟨_, rfl, rfl⟩ rfl (mj_S1_self (M := M) (β := 2) (C_X3_copyFrom (M := M) (m := M 2) hB.2.2.1 hB.1 (by decide) rfl em10)) (mj_rmok hR (by decide) (by decide)) rfl (Nat.le_of_ble_eq_true rfl) dX10_soon_8 ?_
  refine mj_mm hM11 ?_
  refine mj_aload_n C dX10_soon_11 rfl ?_
  refine mj_getr (r := (2, 0)) C lF_X10_19 hB.2.2.2.2 rfl dX10_soon_12 ?_
  refine mj_getr (r := (2, 1)) C lF_X10_40 (sL0 hB.2.2.1) rfl dX10_soon_15 ?_
  obtain ⟨m13, em13, h⟩ := mj_let_o h
  obtain ⟨M14, hM14, h⟩ := mj_let_o h
  refine mj_callV0 (av := []) C lM_X10_347 lV_X0_freeOfHurt (sL1 hB.2.2.1) ⟨_, rfl, rfl⟩ rfl (mj_S1_self (M := M11) (β := 2) (C_X0_freeOfHurt (M := M11) (m := M11 2) hB.2.2.1 em13)) (mj_rmok hR (by decide) (by decide)) rfl (Nat.le_of_ble_eq_true rfl) dX10_soon_18 ?_
  refine mj_mm hM14 ?_
  refine mj_iconst (v := 0) C dX10_soon_21 (by decide) ?_
  refine mj_istore_n (L2 := [some (mj_r (3, 0)), some (.inl 0)]) C dX10_soon_22 (Nat.le_of_ble_eq_true rfl) rfl ?_
  obtain ⟨t16, x17, M18, hl19, h⟩ := mj_b3_o h
  refine mj_sub (L' := [some (mj_r (3, 0)), some (.inl 0)]) ⟨rfl, ⟨rfl, trivial⟩⟩ ?_
  refine C_X10_soon_L23 C hB hR _ _ _ _ _ _ hl19 (fun te => ?_) (fun te => ?_) (fun te => ?_)
  · subst te
    replace h := mj_if_t rfl h
    refine mj_iload_n C dX10_soon_43 rfl ?_
    cases h
    exact mj_iret C hT (vp_nar_int _) dX10_soon_44 ⟨rfl, rfl, mj_bi _⟩
  · subst te
    replace h := mj_if_f (by decide) h
    replace h := mj_if_t rfl h
    refine mj_iconst (v := (-1)) C dX10_soon_60 (by decide) ?_
    cases h
    exact mj_iret C hT (vp_nar_int _) dX10_soon_61 ⟨rfl, rfl, mj_bi _⟩
  · subst te
    replace h := mj_if_f (by decide) h
    replace h := mj_if_f (by decide) h
    refine mj_iconst (v := (-1)) C dX10_soon_77 (by decide) ?_
    cases h
    exact mj_iret C hT (vp_nar_int _) dX10_soon_78 ⟨rfl, rfl, mj_bi _⟩
def f_X10_leadsOut (a1 : Int32) (M : mj_M) : Option (Int32 × mj_M) := mj_b1 (f_X3_copyFrom (M 0) (M 2)) (fun m1 => mj_let (va_up M 2 m1) (fun M2 => mj_let (f_X0_freeOfHurt (M2 2)) (fun m4 => mj_let (va_up M2 2 m4) (fun M5 => mj_b2 (f_X3_directed a1 (M5 2)) (fun r7 m8 => mj_let (va_up M5 2 m8) (fun M9 => if r7 = 0 then (some (0, M9)) else (mj_b1 (f_X3_passTicks 100 1 (M9 2)) (fun m12 => mj_let (va_up M9 2 m12) (fun M13 => mj_let (f_X3_isInStep (M13 2)) (fun r15 => some (r15, M13)))))))))))
set_option maxHeartbeats 4000000 in
set_option maxRecDepth 20000 in
theorem C_X10_leadsOut {G : mj_G} {a1 : Int32} {M : mj_M} {x0 : Int32} {m0 : mj_M} (hB : mj_isT G) (h : f_X10_leadsOut a1 M = some (x0, m0)) : mj_S1 yX10_leadsOut cX10_leadsOut 2 (some .boolean) 6 G [mj_r (3, 0), .inl a1] M (some (.inl x0)) m0 := by
  refine mj_intro (by decide) (Nat.le_of_ble_eq_true rfl) ?_
  intro κ C hG hR hT
  subst hG
  have C : mj_C κ cX10_leadsOut 2 RX10 := C
  show mj_R κ (mj_F κ (fun r M' => r = (some (.inl x0)) ∧ M' = m0 ∧ mj_bb (some .boolean) (some (.inl x0)))) 0 [some (mj_r (3, 0)), some (.inl a1)] [] M
  unfold f_X10_leadsOut at h
  refine mj_aload_n C dX10_leadsOut_0 rfl ?_
  refine mj_getr (r := (2, 0)) C lF_X10_19 hB.2.2.2.2 rfl dX10_leadsOut_1 ?_
  refine mj_aload_n C dX10_leadsOut_4 rfl ?_
  refine mj_getr (r := (0, 0)) C lF_X10_12 hB.2.2.2.2 rfl dX10_leadsOut_5 ?_
  obtain ⟨m1, em1, h⟩ := mj_b1_o h
  obtain ⟨M2, hM2, h⟩ := mj_let_o h
  refine mj_callV0 (av := [mj_r (0, 0)]) C lM_X10_344 lV_X3_copyFrom (sL0 hB.2.2.1) ⟨_, rfl, rfl⟩ rfl (mj_S1_self (M := M) (β := 2) (C_X3_copyFrom (M := M) (m := M 2) hB.2.2.1 hB.1 (by decide) rfl em1)) (mj_rmok hR (by decide) (by decide)) rfl (Nat.le_of_ble_eq_true rfl) dX10_leadsOut_8 ?_
  refine mj_mm hM2 ?_
  refine mj_aload_n C dX10_leadsOut_11 rfl ?_
  refine mj_getr (r := (2, 0)) C lF_X10_19 hB.2.2.2.2 rfl dX10_leadsOut_12 ?_
  refine mj_getr (r := (2, 1)) C lF_X10_40 (sL0 hB.2.2.1) rfl dX10_leadsOut_15 ?_
  obtain ⟨m4, em4, h⟩ := mj_let_o h
  obtain ⟨M5, hM5, h⟩ := mj_let_o h
  refine mj_callV0 (av := []) C lM_X10_347 lV_X0_freeOfHurt (sL1 hB.2.2.1) ⟨_, rfl, rfl⟩ rfl (mj_S1_self (M := M2) (β := 2) (C_X0_freeOfHurt (M := M2) (m := M2 2) hB.2.2.1 em4)) (mj_rmok hR (by decide) (by decide)) rfl (Nat.le_of_ble_eq_true rfl) dX10_leadsOut_18 ?_
  refine mj_mm hM5 ?_
  refine mj_aload_n C dX10_leadsOut_21 rfl ?_
  refine mj_getr (r := (2, 0)) C lF_X10_19 hB.2.2.2.2 rfl dX10_leadsOut_22 ?_
  refine mj_iload_n C dX10_leadsOut_25 rfl ?_
  obtain ⟨r7, m8, em8, h⟩ := mj_b2_o h
  obtain ⟨M9, hM9, h⟩ := mj_let_o h
  refine mj_callV1 (av := [.inl a1]) C lM_X10_356 lV_X3_directed (sL0 hB.2.2.1) ⟨_, rfl, rfl⟩ rfl (mj_S1_self (M := M5) (β := 2) (C_X3_directed (M := M5) (m := M5 2) hB.2.2.1 em8)) (mj_rmok hR (by decide) (by decide)) rfl (Nat.le_of_ble_eq_true rfl) dX10_leadsOut_26 (fun hb10 => ?_)
  refine mj_mm hM9 ?_
  refine mj_if_ne (tgt := 34) C dX10_leadsOut_29 (by decide) (fun c11 => ?_) (fun c11 => ?_)
  · replace h := mj_if_f c11 h
    refine mj_aload_n C dX10_leadsOut_34 rfl ?_
    refine mj_getr (r := (2, 0)) C lF_X10_19 hB.2.2.2.2 rfl dX10_leadsOut_35 ?_
    refine mj_bipush (v := 100) C dX10_leadsOut_38 (by decide) ?_
    refine mj_iconst (v := 1) C dX10_leadsOut_40 (by decide) ?_
    obtain ⟨m12, em12, h⟩ := mj_b1_o h
    obtain ⟨M13, hM13, h⟩ := mj_let_o h
    refine mj_callV0 (av := [.inl 100, .inl 1]) C lM_X10_94 lV_X3_passTicks (sL0 hB.2.2.1) ⟨_, rfl, rfl⟩ rfl (mj_S1_self (M := M9) (β := 2) (C_X3_passTicks (M := M9) (m := M9 2) hB.2.2.1 em12)) (mj_rmok hR (by decide) (by decide)) rfl (Nat.le_of_ble_eq_true rfl) dX10_leadsOut_41 ?_
    refine mj_mm hM13 ?_
    refine mj_aload_n C dX10_leadsOut_44 rfl ?_
    refine mj_getr (r := (2, 0)) C lF_X10_19 hB.2.2.2.2 rfl dX10_leadsOut_45 ?_
    obtain ⟨r15, er15, h⟩ := mj_let_o h
    refine mj_callV1 (av := []) C lM_X10_359 lV_X3_isInStep (sL0 hB.2.2.1) ⟨_, rfl, rfl⟩ rfl (mj_S1_selfR (M := M13) (β := 2) (C_X3_isInStep (M := M13) (m := M13 2) hB.2.2.1 er15)) (mj_rmok hR (by decide) (by decide)) rfl (Nat.le_of_ble_eq_true rfl) dX10_leadsOut_48 (fun hb16 => ?_)
    cases h
    exact mj_iret C hT (mj_nb hb16) dX10_leadsOut_51 ⟨rfl, rfl, hb16⟩
  · replace h := mj_if_t c11 h
    refine mj_iconst (v := 0) C dX10_leadsOut_32 (by decide) ?_
    cases h
    exact mj_iret C hT (mj_nb mj_b0) dX10_leadsOut_33 ⟨rfl, rfl, mj_b0⟩
def f_X10_ways_L4 : Nat → Int32 → Int32 → mj_M → Option (Int32 × mj_M)
  | 0, _, _, _ => none
  | n + 1, l1, l2, M => if 5 ≤ l2 then (some (l1, M)) else (mj_b2 (f_X10_leadsOut l2 M) (fun r2 m3 => if r2 = 0 then (mj_let (l2 + 1) (fun x6 => f_X10_ways_L4 n l1 x6 m3)) else (mj_let (l1 ||| (mj_shl 1 l2)) (fun x7 => mj_let (l2 + 1) (fun x8 => f_X10_ways_L4 n x7 x8 m3)))))
set_option maxHeartbeats 4000000 in
set_option maxRecDepth 20000 in
theorem C_X10_ways_L4 {κ : mj_K} {Q : State → Prop} (C : mj_C κ cX10_ways 3 RX10) (hB : mj_isT (mj_g κ)) (hR : mj_dp κ 7) : ∀ (n : Nat) (l1 : Int32) (l2 : Int32) (M : mj_M) (o1 : Int32) (mo : mj_M), f_X10_ways_L4 n l1 l2 M = some (o1, mo) → (mj_R κ Q 29 [none, some (.inl o1), none] [] mo) → mj_R κ Q 4 [some (mj_r (3, 0)), some (.inl l1), some (.inl l2)] [] M := by
  intro n
  induction n with
  | zero =>
    intro l1 l2 M o1 mo h
    cases h
  | succ n ih =>
    intro l1 l2 M o1 mo h hx29
    rw [f_X10_ways_L4] at h
    refine mj_iload_n C dX10_ways_4 rfl ?_
    refine mj_iconst (v := 5) C dX10_ways_5 (by decide) ?_
    refine mj_icmp_ge (tgt := 29) C dX10_ways_6 (by decide) (fun c1 => ?_) (fun c1 => ?_)
    · replace h := mj_if_t c1 h
      cases h
      refine mj_sub ?_ (hx29)
      exact ⟨rfl, trivial⟩
    · replace h := mj_if_f c1 h
      refine mj_aload_n C dX10_ways_9 rfl ?_
      refine mj_iload_n C dX10_ways_10 rfl ?_
      obtain ⟨r2, m3, em3, h⟩ := mj_b2_o h
      refine mj_callV1 (av := [.inl l2]) C lM_X10_353 lV_X10_leadsOut hB.2.2.2.2 ⟨_, rfl, rfl⟩ rfl (C_X10_leadsOut hB em3) (mj_rmok hR (by decide) (by decide)) rfl (Nat.le_of_ble_eq_true rfl) dX10_ways_11 (fun hb4 => ?_)
      refine mj_if_eq (tgt := 23) C dX10_ways_14 (by decide) (fun c5 => ?_) (fun c5 => ?_)
      · replace h := mj_if_t c5 h
        obtain ⟨x6, hx6, h⟩ := mj_let_o h
        refine mj_iinc (L2 := [some (mj_r (3, 0)), some (.inl l1), some (.inl x6)]) C dX10_ways_23 rfl hx6 rfl ?_
        refine mj_goto (tgt := 4) C dX10_ways_26 (by decide) ?_
        refine mj_sub (L' := [some (mj_r (3, 0)), some (.inl l1), some (.inl x6)]) ⟨rfl, ⟨rfl, ⟨rfl, trivial⟩⟩⟩ ?_
        exact ih _ _ _ _ _ h hx29
      · replace h := mj_if_f c5 h
        refine mj_iload_n C dX10_ways_17 rfl ?_
        refine mj_iconst (v := 1) C dX10_ways_18 (by decide) ?_
        refine mj_iload_n C dX10_ways_19 rfl ?_
        refine mj_ishl C dX10_ways_20 ?_
        refine mj_ior C dX10_ways_21 ?_
        obtain ⟨x7, hx7, h⟩ := mj_let_o h
        refine mj_nm hx7 ?_
        refine mj_istore_n (L2 := [some (mj_r (3, 0)), some (.inl x7), some (.inl l2)]) C dX10_ways_22 (Nat.le_of_ble_eq_true rfl) rfl ?_
        obtain ⟨x8, hx8, h⟩ := mj_let_o h
        refine mj_iinc (L2 := [some (mj_r (3, 0)), some (.inl x7), some (.inl x8)]) C dX10_ways_23 rfl hx8 rfl ?_
        refine mj_goto (tgt := 4) C dX10_ways_26 (by decide) ?_
        refine mj_sub (L' := [some (mj_r (3, 0)), some (.inl x7), some (.inl x8)]) ⟨rfl, ⟨rfl, ⟨rfl, trivial⟩⟩⟩ ?_
        exact ih _ _ _ _ _ h hx29
def f_X10_ways (M : mj_M) : Option (Int32 × mj_M) := mj_b2 (f_X10_ways_L4 mj_fu 0 0 M) (fun x9 M10 => some (x9, M10))
set_option maxHeartbeats 4000000 in
set_option maxRecDepth 20000 in
theorem C_X10_ways {G : mj_G} {M : mj_M} {x0 : Int32} {m0 : mj_M} (hB : mj_isT G) (h : f_X10_ways M = some (x0, m0)) : mj_S1 yX10_ways cX10_ways 3 (some .int) 7 G [mj_r (3, 0)] M (some (.inl x0)) m0 := by
  refine mj_intro (by decide) (Nat.le_of_ble_eq_true rfl) ?_
  intro κ C hG hR hT
  subst hG
  have C : mj_C κ cX10_ways 3 RX10 := C
  show mj_R κ (mj_F κ (fun r M' => r = (some (.inl x0)) ∧ M' = m0 ∧ mj_bb (some .int) (some (.inl x0)))) 0 [some (mj_r (3, 0)), none, none] [] M
  unfold f_X10_ways at h
  refine mj_iconst (v := 0) C dX10_ways_0 (by decide) ?_
  refine mj_istore_n (L2 := [some (mj_r (3, 0)), some (.inl 0), none]) C dX10_ways_1 (Nat.le_of_ble_eq_true rfl) rfl ?_
  refine mj_iconst (v := 0) C dX10_ways_2 (by decide) ?_
  refine mj_istore_n (L2 := [some (mj_r (3, 0)), some (.inl 0), some (.inl 0)]) C dX10_ways_3 (Nat.le_of_ble_eq_true rfl) rfl ?_
  obtain ⟨x9, M10, hl11, h⟩ := mj_b2_o h
  refine mj_sub (L' := [some (mj_r (3, 0)), some (.inl 0), some (.inl 0)]) ⟨rfl, ⟨rfl, ⟨rfl, trivial⟩⟩⟩ ?_
  refine C_X10_ways_L4 C hB hR _ _ _ _ _ _ hl11 ?_
  refine mj_iload_n C dX10_ways_29 rfl ?_
  cases h
  exact mj_iret C hT (vp_nar_int _) dX10_ways_30 ⟨rfl, rfl, mj_bi _⟩
def f_X10_image (a1 : Int32) (M : mj_M) : Option (Int32 × mj_M) := if a1 = 0 then (if M 3 0 3 = 0 then (mj_chk (mj_isb (M 3 0 3)) (some (M 3 0 3, M))) else (mj_b1 (f_X3_copyFrom (M 1) (M 0)) (fun m4 => mj_let (va_up M 0 m4) (fun M5 => mj_chk (mj_isb (M5 3 0 3)) (some (M5 3 0 3, M5)))))) else (mj_b1 (f_X3_copyFrom (M 0) (M 1)) (fun m8 => mj_let (va_up M 1 m8) (fun M9 => mj_let (mj_twr M9 3 0 3 1) (fun M11 => some (1, M11)))))
set_option maxHeartbeats 4000000 in
set_option maxRecDepth 20000 in
theorem C_X10_image {G : mj_G} {a1 : Int32} {M : mj_M} {x0 : Int32} {m0 : mj_M} (hB : mj_isT G) (h : f_X10_image a1 M = some (x0, m0)) : mj_S1 yX10_image cX10_image 2 (some .boolean) 4 G [mj_r (3, 0), .inl a1] M (some (.inl x0)) m0 := by
  refine mj_intro (by decide) (Nat.le_of_ble_eq_true rfl) ?_
  intro κ C hG hR hT
  subst hG
  have C : mj_C κ cX10_image 2 RX10 := C
  show mj_R κ (mj_F κ (fun r M' => r = (some (.inl x0)) ∧ M' = m0 ∧ mj_bb (some .boolean) (some (.inl x0)))) 0 [some (mj_r (3, 0)), some (.inl a1)] [] M
  unfold f_X10_image at h
  refine mj_iload_n C dX10_image_0 rfl ?_
  refine mj_if_eq (tgt := 22) C dX10_image_1 (by decide) (fun c1 => ?_) (fun c1 => ?_)
  · replace h := mj_if_t c1 h
    refine mj_aload_n C dX10_image_22 rfl ?_
    refine mj_tget C lF_X10_22 hB.2.2.2.2 rfl dX10_image_23 ?_
    refine mj_if_eq (tgt := 40) C dX10_image_26 (by decide) (fun c2 => ?_) (fun c2 => ?_)
    · replace h := mj_if_t c2 h
      refine mj_aload_n C dX10_image_40 rfl ?_
      refine mj_tget C lF_X10_22 hB.2.2.2.2 rfl dX10_image_41 ?_
      obtain ⟨k3, h⟩ := mj_chk_o h
      cases h
      exact mj_iret C hT (mj_nb (mj_isb_b k3)) dX10_image_44 ⟨rfl, rfl, mj_isb_b k3⟩
    · replace h := mj_if_f c2 h
      refine mj_aload_n C dX10_image_29 rfl ?_
      refine mj_getr (r := (0, 0)) C lF_X10_12 hB.2.2.2.2 rfl dX10_image_30 ?_
      refine mj_aload_n C dX10_image_33 rfl ?_
      refine mj_getr (r := (1, 0)) C lF_X10_16 hB.2.2.2.2 rfl dX10_image_34 ?_
      obtain ⟨m4, em4, h⟩ := mj_b1_o h
      obtain ⟨M5, hM5, h⟩ := mj_let_o h
      refine mj_callV0 (av := [mj_r (1, 0)]) C lM_X10_344 lV_X3_copyFrom (sL0 hB.1) ⟨_, rfl, rfl⟩ rfl (mj_S1_self (M := M) (β := 0) (C_X3_copyFrom (M := M) (m := M 0) hB.1 hB.2.1 (by decide) rfl em4)) (mj_rmok hR (by decide) (by decide)) rfl (Nat.le_of_ble_eq_true rfl) dX10_image_37 ?_
      refine mj_mm hM5 ?_
      refine mj_aload_n C dX10_image_40 rfl ?_
      refine mj_tget C lF_X10_22 hB.2.2.2.2 rfl dX10_image_41 ?_
      obtain ⟨k7, h⟩ := mj_chk_o h
      cases h
      exact mj_iret C hT (mj_nb (mj_isb_b k7)) dX10_image_44 ⟨rfl, rfl, mj_isb_b k7⟩
  · replace h := mj_if_f c1 h
    refine mj_aload_n C dX10_image_4 rfl ?_
    refine mj_getr (r := (1, 0)) C lF_X10_16 hB.2.2.2.2 rfl dX10_image_5 ?_
    refine mj_aload_n C dX10_image_8 rfl ?_
    refine mj_getr (r := (0, 0)) C lF_X10_12 hB.2.2.2.2 rfl dX10_image_9 ?_
    obtain ⟨m8, em8, h⟩ := mj_b1_o h
    obtain ⟨M9, hM9, h⟩ := mj_let_o h
    refine mj_callV0 (av := [mj_r (0, 0)]) C lM_X10_344 lV_X3_copyFrom (sL0 hB.2.1) ⟨_, rfl, rfl⟩ rfl (mj_S1_self (M := M) (β := 1) (C_X3_copyFrom (M := M) (m := M 1) hB.2.1 hB.1 (by decide) rfl em8)) (mj_rmok hR (by decide) (by decide)) rfl (Nat.le_of_ble_eq_true rfl) dX10_image_12 ?_
    refine mj_mm hM9 ?_
    refine mj_aload_n C dX10_image_15 rfl ?_
    refine mj_iconst (v := 1) C dX10_image_16 (by decide) ?_
    obtain ⟨M11, hM11, h⟩ := mj_let_o h
    refine mj_tput C lF_X10_22 fP_11_3 rfl rfl hB.2.2.2.2 rfl dX10_image_17 hM11 ?_
    refine mj_iconst (v := 1) C dX10_image_20 (by decide) ?_
    cases h
    exact mj_iret C hT (mj_nb mj_b1') dX10_image_21 ⟨rfl, rfl, mj_b1'⟩
def f_X10_look_J26 (l1 : Int32) (M : mj_M) : Option (Int32) := if l1 = 0 then (some (M 0 1 0)) else if l1 = 1 then (some (-100000)) else if l1 = 2 then (some (-100000)) else if l1 = 3 then (some (-100000)) else if l1 = 4 then (some (-100000)) else if l1 = 5 then (some (-100000)) else if l1 = 6 then (some (-100000)) else if l1 = 7 then (some (-100000)) else if l1 = 8 then (some (-100000)) else if l1 = 9 then (some (-100000)) else if l1 = 10 then (some (-100000)) else if l1 = 11 then (some (-100000)) else if l1 = 12 then (some (M 0 1 1)) else if l1 = 13 then (some (M 0 33 9)) else if l1 = 14 then (some (M 0 38 9)) else if l1 = 15 then (some (M 0 33 10)) else if l1 = 16 then (some (M 0 9 12)) else if l1 = 17 then (some (M 0 17 15)) else if l1 = 18 then (some (M 0 43 2)) else if l1 = 19 then (some (M 0 43 3)) else (some (-100000))
set_option maxHeartbeats 4000000 in
set_option maxRecDepth 20000 in
theorem C_X10_look_J26 {κ : mj_K} {l1 : Int32} {M : mj_M} {x0 : Int32} (C : mj_C κ cX10_look 2 RX10) (hB : mj_isT (mj_g κ)) (hR : mj_dp κ 0) (hT : mj_rt κ = (some .int)) (h : f_X10_look_J26 l1 M = some x0) : mj_R κ (mj_F κ (fun r M' => r = (some (.inl x0)) ∧ M' = M ∧ mj_bb (some .int) (some (.inl x0)))) 26 [some (mj_r (3, 0)), some (.inl l1)] [] M := by
  unfold f_X10_look_J26 at h
  refine mj_iload_n C dX10_look_26 rfl ?_
  by_cases c1 : l1 = 0
  · replace h := mj_if_t c1 h
    refine mj_tin (off := 93) (tgt := 120) C dX10_look_27 (by rw [c1]; decide) (by rw [c1]; decide) (by rw [c1]; decide) (by decide) ?_
    refine mj_aload_n C dX10_look_120 rfl ?_
    refine mj_getr (r := (0, 0)) C lF_X10_12 hB.2.2.2.2 rfl dX10_look_121 ?_
    refine mj_getr (r := (0, 1)) C lF_X10_40 (sL0 hB.1) rfl dX10_look_124 ?_
    refine mj_tget C lF_X10_98 (sL1 hB.1) rfl dX10_look_127 ?_
    cases h
    exact mj_iret C hT (vp_nar_int _) dX10_look_130 ⟨rfl, rfl, mj_bi _⟩
  replace h := mj_if_f c1 h
  by_cases c2 : l1 = 1
  · replace h := mj_if_t c2 h
    refine mj_tin (off := 192) (tgt := 219) C dX10_look_27 (by rw [c2]; decide) (by rw [c2]; decide) (by rw [c2]; decide) (by decide) ?_
    refine mj_ldcw (v := (-100000)) C lC_X10_384 dX10_look_219 ?_
    cases h
    exact mj_iret C hT (vp_nar_int _) dX10_look_222 ⟨rfl, rfl, mj_bi _⟩
  replace h := mj_if_f c2 h
  by_cases c3 : l1 = 2
  · replace h := mj_if_t c3 h
    refine mj_tin (off := 192) (tgt := 219) C dX10_look_27 (by rw [c3]; decide) (by rw [c3]; decide) (by rw [c3]; decide) (by decide) ?_
    refine mj_ldcw (v := (-100000)) C lC_X10_384 dX10_look_219 ?_
    cases h
    exact mj_iret C hT (vp_nar_int _) dX10_look_222 ⟨rfl, rfl, mj_bi _⟩
  replace h := mj_if_f c3 h
  by_cases c4 : l1 = 3
  · replace h := mj_if_t c4 h
    refine mj_tin (off := 192) (tgt := 219) C dX10_look_27 (by rw [c4]; decide) (by rw [c4]; decide) (by rw [c4]; decide) (by decide) ?_
    refine mj_ldcw (v := (-100000)) C lC_X10_384 dX10_look_219 ?_
    cases h
    exact mj_iret C hT (vp_nar_int _) dX10_look_222 ⟨rfl, rfl, mj_bi _⟩
  replace h := mj_if_f c4 h
  by_cases c5 : l1 = 4
  · replace h := mj_if_t c5 h
    refine mj_tin (off := 192) (tgt := 219) C dX10_look_27 (by rw [c5]; decide) (by rw [c5]; decide) (by rw [c5]; decide) (by decide) ?_
    refine mj_ldcw (v := (-100000)) C lC_X10_384 dX10_look_219 ?_
    cases h
    exact mj_iret C hT (vp_nar_int _) dX10_look_222 ⟨rfl, rfl, mj_bi _⟩
  replace h := mj_if_f c5 h
  by_cases c6 : l1 = 5
  · replace h := mj_if_t c6 h
    refine mj_tin (off := 192) (tgt := 219) C dX10_look_27 (by rw [c6]; decide) (by rw [c6]; decide) (by rw [c6]; decide) (by decide) ?_
    refine mj_ldcw (v := (-100000)) C lC_X10_384 dX10_look_219 ?_
    cases h
    exact mj_iret C hT (vp_nar_int _) dX10_look_222 ⟨rfl, rfl, mj_bi _⟩
  replace h := mj_if_f c6 h
  by_cases c7 : l1 = 6
  · replace h := mj_if_t c7 h
    refine mj_tin (off := 192) (tgt := 219) C dX10_look_27 (by rw [c7]; decide) (by rw [c7]; decide) (by rw [c7]; decide) (by decide) ?_
    refine mj_ldcw (v := (-100000)) C lC_X10_384 dX10_look_219 ?_
    cases h
    exact mj_iret C hT (vp_nar_int _) dX10_look_222 ⟨rfl, rfl, mj_bi _⟩
  replace h := mj_if_f c7 h
  by_cases c8 : l1 = 7
  · replace h := mj_if_t c8 h
    refine mj_tin (off := 192) (tgt := 219) C dX10_look_27 (by rw [c8]; decide) (by rw [c8]; decide) (by rw [c8]; decide) (by decide) ?_
    refine mj_ldcw (v := (-100000)) C lC_X10_384 dX10_look_219 ?_
    cases h
    exact mj_iret C hT (vp_nar_int _) dX10_look_222 ⟨rfl, rfl, mj_bi _⟩
  replace h := mj_if_f c8 h
  by_cases c9 : l1 = 8
  · replace h := mj_if_t c9 h
    refine mj_tin (off := 192) (tgt := 219) C dX10_look_27 (by rw [c9]; decide) (by rw [c9]; decide) (by rw [c9]; decide) (by decide) ?_
    refine mj_ldcw (v := (-100000)) C lC_X10_384 dX10_look_219 ?_
    cases h
    exact mj_iret C hT (vp_nar_int _) dX10_look_222 ⟨rfl, rfl, mj_bi _⟩
  replace h := mj_if_f c9 h
  by_cases c10 : l1 = 9
  · replace h := mj_if_t c10 h
    refine mj_tin (off := 192) (tgt := 219) C dX10_look_27 (by rw [c10]; decide) (by rw [c10]; decide) (by rw [c10]; decide) (by decide) ?_
    refine mj_ldcw (v := (-100000)) C lC_X10_384 dX10_look_219 ?_
    cases h
    exact mj_iret C hT (vp_nar_int _) dX10_look_222 ⟨rfl, rfl, mj_bi _⟩
  replace h := mj_if_f c10 h
  by_cases c11 : l1 = 10
  · replace h := mj_if_t c11 h
    refine mj_tin (off := 192) (tgt := 219) C dX10_look_27 (by rw [c11]; decide) (by rw [c11]; decide) (by rw [c11]; decide) (by decide) ?_
    refine mj_ldcw (v := (-100000)) C lC_X10_384 dX10_look_219 ?_
    cases h
    exact mj_iret C hT (vp_nar_int _) dX10_look_222 ⟨rfl, rfl, mj_bi _⟩
  replace h := mj_if_f c11 h
  by_cases c12 : l1 = 11
  · replace h := mj_if_t c12 h
    refine mj_tin (off := 192) (tgt := 219) C dX10_look_27 (by rw [c12]; decide) (by rw [c12]; decide) (by rw [c12]; decide) (by decide) ?_
    refine mj_ldcw (v := (-100000)) C lC_X10_384 dX10_look_219 ?_
    cases h
    exact mj_iret C hT (vp_nar_int _) dX10_look_222 ⟨rfl, rfl, mj_bi _⟩
  replace h := mj_if_f c12 h
  by_cases c13 : l1 = 12
  · replace h := mj_if_t c13 h
    refine mj_tin (off := 104) (tgt := 131) C dX10_look_27 (by rw [c13]; decide) (by rw [c13]; decide) (by rw [c13]; decide) (by decide) ?_
    refine mj_aload_n C dX10_look_131 rfl ?_
    refine mj_getr (r := (0, 0)) C lF_X10_12 hB.2.2.2.2 rfl dX10_look_132 ?_
    refine mj_getr (r := (0, 1)) C lF_X10_40 (sL0 hB.1) rfl dX10_look_135 ?_
    refine mj_tget C lF_X10_44 (sL1 hB.1) rfl dX10_look_138 ?_
    cases h
    exact mj_iret C hT (vp_nar_int _) dX10_look_141 ⟨rfl, rfl, mj_bi _⟩
  replace h := mj_if_f c13 h
  by_cases c14 : l1 = 13
  · replace h := mj_if_t c14 h
    refine mj_tin (off := 115) (tgt := 142) C dX10_look_27 (by rw [c14]; decide) (by rw [c14]; decide) (by rw [c14]; decide) (by decide) ?_
    refine mj_aload_n C dX10_look_142 rfl ?_
    refine mj_getr (r := (0, 0)) C lF_X10_12 hB.2.2.2.2 rfl dX10_look_143 ?_
    refine mj_getr (r := (0, 33)) C lF_X10_365 (sL0 hB.1) rfl dX10_look_146 ?_
    refine mj_tget C lF_X10_369 (sL33 hB.1) rfl dX10_look_149 ?_
    cases h
    exact mj_iret C hT (vp_nar_int _) dX10_look_152 ⟨rfl, rfl, mj_bi _⟩
  replace h := mj_if_f c14 h
  by_cases c15 : l1 = 14
  · replace h := mj_if_t c15 h
    refine mj_tin (off := 126) (tgt := 153) C dX10_look_27 (by rw [c15]; decide) (by rw [c15]; decide) (by rw [c15]; decide) (by decide) ?_
    refine mj_aload_n C dX10_look_153 rfl ?_
    refine mj_getr (r := (0, 0)) C lF_X10_12 hB.2.2.2.2 rfl dX10_look_154 ?_
    refine mj_getr (r := (0, 38)) C lF_X10_372 (sL0 hB.1) rfl dX10_look_157 ?_
    refine mj_tget C lF_X10_369 (sL38 hB.1) rfl dX10_look_160 ?_
    cases h
    exact mj_iret C hT (vp_nar_int _) dX10_look_163 ⟨rfl, rfl, mj_bi _⟩
  replace h := mj_if_f c15 h
  by_cases c16 : l1 = 15
  · replace h := mj_if_t c16 h
    refine mj_tin (off := 137) (tgt := 164) C dX10_look_27 (by rw [c16]; decide) (by rw [c16]; decide) (by rw [c16]; decide) (by decide) ?_
    refine mj_aload_n C dX10_look_164 rfl ?_
    refine mj_getr (r := (0, 0)) C lF_X10_12 hB.2.2.2.2 rfl dX10_look_165 ?_
    refine mj_getr (r := (0, 33)) C lF_X10_365 (sL0 hB.1) rfl dX10_look_168 ?_
    refine mj_tget C lF_X10_375 (sL33 hB.1) rfl dX10_look_171 ?_
    cases h
    exact mj_iret C hT (vp_nar_int _) dX10_look_174 ⟨rfl, rfl, mj_bi _⟩
  replace h := mj_if_f c16 h
  by_cases c17 : l1 = 16
  · replace h := mj_if_t c17 h
    refine mj_tin (off := 148) (tgt := 175) C dX10_look_27 (by rw [c17]; decide) (by rw [c17]; decide) (by rw [c17]; decide) (by decide) ?_
    refine mj_aload_n C dX10_look_175 rfl ?_
    refine mj_getr (r := (0, 0)) C lF_X10_12 hB.2.2.2.2 rfl dX10_look_176 ?_
    refine mj_getr (r := (0, 9)) C lF_X10_81 (sL0 hB.1) rfl dX10_look_179 ?_
    refine mj_tget C lF_X10_378 (sL9 hB.1) rfl dX10_look_182 ?_
    cases h
    exact mj_iret C hT (vp_nar_int _) dX10_look_185 ⟨rfl, rfl, mj_bi _⟩
  replace h := mj_if_f c17 h
  by_cases c18 : l1 = 17
  · replace h := mj_if_t c18 h
    refine mj_tin (off := 159) (tgt := 186) C dX10_look_27 (by rw [c18]; decide) (by rw [c18]; decide) (by rw [c18]; decide) (by decide) ?_
    refine mj_aload_n C dX10_look_186 rfl ?_
    refine mj_getr (r := (0, 0)) C lF_X10_12 hB.2.2.2.2 rfl dX10_look_187 ?_
    refine mj_getr (r := (0, 17)) C lF_X10_54 (sL0 hB.1) rfl dX10_look_190 ?_
    refine mj_tget C lF_X10_381 (sL17 hB.1) rfl dX10_look_193 ?_
    cases h
    exact mj_iret C hT (vp_nar_int _) dX10_look_196 ⟨rfl, rfl, mj_bi _⟩
  replace h := mj_if_f c18 h
  by_cases c19 : l1 = 18
  · replace h := mj_if_t c19 h
    refine mj_tin (off := 170) (tgt := 197) C dX10_look_27 (by rw [c19]; decide) (by rw [c19]; decide) (by rw [c19]; decide) (by decide) ?_
    refine mj_aload_n C dX10_look_197 rfl ?_
    refine mj_getr (r := (0, 0)) C lF_X10_12 hB.2.2.2.2 rfl dX10_look_198 ?_
    refine mj_getr (r := (0, 43)) C lF_X10_127 (sL0 hB.1) rfl dX10_look_201 ?_
    refine mj_tget C lF_X10_140 (sL43 hB.1) rfl dX10_look_204 ?_
    cases h
    exact mj_iret C hT (vp_nar_int _) dX10_look_207 ⟨rfl, rfl, mj_bi _⟩
  replace h := mj_if_f c19 h
  by_cases c20 : l1 = 19
  · replace h := mj_if_t c20 h
    refine mj_tin (off := 181) (tgt := 208) C dX10_look_27 (by rw [c20]; decide) (by rw [c20]; decide) (by rw [c20]; decide) (by decide) ?_
    refine mj_aload_n C dX10_look_208 rfl ?_
    refine mj_getr (r := (0, 0)) C lF_X10_12 hB.2.2.2.2 rfl dX10_look_209 ?_
    refine mj_getr (r := (0, 43)) C lF_X10_127 (sL0 hB.1) rfl dX10_look_212 ?_
    refine mj_tget C lF_X10_149 (sL43 hB.1) rfl dX10_look_215 ?_
    cases h
    exact mj_iret C hT (vp_nar_int _) dX10_look_218 ⟨rfl, rfl, mj_bi _⟩
  replace h := mj_if_f c20 h
  refine mj_tout (tgt := 219) C dX10_look_27 (by have := mj_neL 0 (by decide) c1; have := mj_neL 1 (by decide) c2; have := mj_neL 2 (by decide) c3; have := mj_neL 3 (by decide) c4; have := mj_neL 4 (by decide) c5; have := mj_neL 5 (by decide) c6; have := mj_neL 6 (by decide) c7; have := mj_neL 7 (by decide) c8; have := mj_neL 8 (by decide) c9; have := mj_neL 9 (by decide) c10; have := mj_neL 10 (by decide) c11; have := mj_neL 11 (by decide) c12; have := mj_neL 12 (by decide) c13; have := mj_neL 13 (by decide) c14; have := mj_neL 14 (by decide) c15; have := mj_neL 15 (by decide) c16; have := mj_neL 16 (by decide) c17; have := mj_neL 17 (by decide) c18; have := mj_neL 18 (by decide) c19; have := mj_neL 19 (by decide) c20; omega) (by decide) ?_
  refine mj_ldcw (v := (-100000)) C lC_X10_384 dX10_look_219 ?_
  cases h
  exact mj_iret C hT (vp_nar_int _) dX10_look_222 ⟨rfl, rfl, mj_bi _⟩
def f_X10_look (a1 : Int32) (M : mj_M) : Option (Int32) := if a1 < 1 then (f_X10_look_J26 a1 M) else (if 11 < a1 then (f_X10_look_J26 a1 M) else (mj_chk (mj_ok (a1 - 1) 11) (some (M 0 2 (mj_cl (a1 - 1))))))
set_option maxHeartbeats 4000000 in
set_option maxRecDepth 20000 in
theorem C_X10_look {G : mj_G} {a1 : Int32} {M : mj_M} {x0 : Int32} (hB : mj_isT G) (h : f_X10_look a1 M = some x0) : mj_S1 yX10_look cX10_look 2 (some .int) 0 G [mj_r (3, 0), .inl a1] M (some (.inl x0)) M := by
  refine mj_intro (by decide) (Nat.le_of_ble_eq_true rfl) ?_
  intro κ C hG hR hT
  subst hG
  have C : mj_C κ cX10_look 2 RX10 := C
  show mj_R κ (mj_F κ (fun r M' => r = (some (.inl x0)) ∧ M' = M ∧ mj_bb (some .int) (some (.inl x0)))) 0 [some (mj_r (3, 0)), some (.inl a1)] [] M
  unfold f_X10_look at h
  refine mj_iload_n C dX10_look_0 rfl ?_
  refine mj_iconst (v := 1) C dX10_look_1 (by decide) ?_
  refine mj_icmp_lt (tgt := 26) C dX10_look_2 (by decide) (fun c21 => ?_) (fun c21 => ?_)
  · replace h := mj_if_t c21 h
    refine mj_sub (L' := [some (mj_r (3, 0)), some (.inl a1)]) ⟨rfl, ⟨rfl, trivial⟩⟩ ?_
    exact C_X10_look_J26 C hB hR hT h
  · replace h := mj_if_f c21 h
    refine mj_iload_n C dX10_look_5 rfl ?_
    refine mj_bipush (v := 11) C dX10_look_6 (by decide) ?_
    refine mj_icmp_gt (tgt := 26) C dX10_look_8 (by decide) (fun c22 => ?_) (fun c22 => ?_)
    · replace h := mj_if_t c22 h
      refine mj_sub (L' := [some (mj_r (3, 0)), some (.inl a1)]) ⟨rfl, ⟨rfl, trivial⟩⟩ ?_
      exact C_X10_look_J26 C hB hR hT h
    · replace h := mj_if_f c22 h
      refine mj_aload_n C dX10_look_11 rfl ?_
      refine mj_getr (r := (0, 0)) C lF_X10_12 hB.2.2.2.2 rfl dX10_look_12 ?_
      refine mj_getr (r := (0, 1)) C lF_X10_40 (sL0 hB.1) rfl dX10_look_15 ?_
      refine mj_getr (r := (0, 2)) C lF_X10_362 (sL1 hB.1) rfl dX10_look_18 ?_
      refine mj_iload_n C dX10_look_21 rfl ?_
      refine mj_iconst (v := 1) C dX10_look_22 (by decide) ?_
      refine mj_isub C dX10_look_23 ?_
      obtain ⟨k23, h⟩ := mj_chk_o h
      refine mj_tald C (sL2 hB.1) k23 rfl dX10_look_24 ?_
      cases h
      exact mj_iret C hT (vp_nar_int _) dX10_look_25 ⟨rfl, rfl, mj_bi _⟩
