def f_X5_isBlank (a1 : Int32) : Int32 := if a1 = 32 then (1) else (if a1 = 10 then (1) else (0))
set_option maxHeartbeats 4000000 in
set_option maxRecDepth 20000 in
theorem C_X5_isBlank {G : mj_G} {M : mj_M} {a1 : Int32} {x0 : Int32} (h : f_X5_isBlank a1 = x0) : mj_S1 yX5_isBlank cX5_isBlank 1 (some .boolean) 0 G [.inl a1] M (some (.inl x0)) M := by
  refine mj_intro (by decide) (Nat.le_of_ble_eq_true rfl) ?_
  intro κ C hG hR hT
  subst hG
  have C : mj_C κ cX5_isBlank 1 RX5 := C
  show mj_R κ (mj_F κ (fun r M' => r = (some (.inl x0)) ∧ M' = M ∧ mj_bb (some .boolean) (some (.inl x0)))) 0 [some (.inl a1)] [] M
  unfold f_X5_isBlank at h
  refine mj_iload_n C dX5_isBlank_0 rfl ?_
  refine mj_bipush (v := 32) C dX5_isBlank_1 (by decide) ?_
  refine mj_icmp_eq (tgt := 12) C dX5_isBlank_3 (by decide) (fun c1 => ?_) (fun c1 => ?_)
  · replace h := mj_if_t c1 h
    refine mj_iconst (v := 1) C dX5_isBlank_12 (by decide) ?_
    refine mj_goto (tgt := 17) C dX5_isBlank_13 (by decide) ?_
    cases h
    exact mj_iret C hT (mj_nb mj_b1') dX5_isBlank_17 ⟨rfl, rfl, mj_b1'⟩
  · replace h := mj_if_f c1 h
    refine mj_iload_n C dX5_isBlank_6 rfl ?_
    refine mj_bipush (v := 10) C dX5_isBlank_7 (by decide) ?_
    refine mj_icmp_ne (tgt := 16) C dX5_isBlank_9 (by decide) (fun c2 => ?_) (fun c2 => ?_)
    · replace h := mj_if_f c2 h
      refine mj_iconst (v := 0) C dX5_isBlank_16 (by decide) ?_
      cases h
      exact mj_iret C hT (mj_nb mj_b0) dX5_isBlank_17 ⟨rfl, rfl, mj_b0⟩
    · replace h := mj_if_t c2 h
      refine mj_iconst (v := 1) C dX5_isBlank_12 (by decide) ?_
      refine mj_goto (tgt := 17) C dX5_isBlank_13 (by decide) ?_
      cases h
      exact mj_iret C hT (mj_nb mj_b1') dX5_isBlank_17 ⟨rfl, rfl, mj_b1'⟩
def f_X5_isLetter (a1 : Int32) : Int32 := mj_let (f_X10_isWithin a1 97 122) (fun r1 => if r1 = 0 then (mj_let (f_X10_isWithin a1 65 90) (fun r4 => if r4 = 0 then (0) else (1))) else (1))
set_option maxHeartbeats 4000000 in
set_option maxRecDepth 20000 in
theorem C_X5_isLetter {G : mj_G} {M : mj_M} {a1 : Int32} {x0 : Int32} (h : f_X5_isLetter a1 = x0) : mj_S1 yX5_isLetter cX5_isLetter 1 (some .boolean) 1 G [.inl a1] M (some (.inl x0)) M := by
  refine mj_intro (by decide) (Nat.le_of_ble_eq_true rfl) ?_
  intro κ C hG hR hT
  subst hG
  have C : mj_C κ cX5_isLetter 1 RX5 := C
  show mj_R κ (mj_F κ (fun r M' => r = (some (.inl x0)) ∧ M' = M ∧ mj_bb (some .boolean) (some (.inl x0)))) 0 [some (.inl a1)] [] M
  unfold f_X5_isLetter at h
  refine mj_iload_n C dX5_isLetter_0 rfl ?_
  refine mj_bipush (v := 97) C dX5_isLetter_1 (by decide) ?_
  refine mj_bipush (v := 122) C dX5_isLetter_3 (by decide) ?_
  obtain ⟨r1, er1, h⟩ := mj_let_o h
  refine mj_callN1 (av := [.inl a1, .inl 97, .inl 122]) C lN_X5_67 lS_X10_isWithin rfl (C_X10_isWithin  er1) (mj_rmok hR (by decide) (by decide)) rfl (Nat.le_of_ble_eq_true rfl) dX5_isLetter_5 (fun hb2 => ?_)
  refine mj_if_ne (tgt := 22) C dX5_isLetter_8 (by decide) (fun c3 => ?_) (fun c3 => ?_)
  · replace h := mj_if_f c3 h
    refine mj_iconst (v := 1) C dX5_isLetter_22 (by decide) ?_
    refine mj_goto (tgt := 27) C dX5_isLetter_23 (by decide) ?_
    cases h
    exact mj_iret C hT (mj_nb mj_b1') dX5_isLetter_27 ⟨rfl, rfl, mj_b1'⟩
  · replace h := mj_if_t c3 h
    refine mj_iload_n C dX5_isLetter_11 rfl ?_
    refine mj_bipush (v := 65) C dX5_isLetter_12 (by decide) ?_
    refine mj_bipush (v := 90) C dX5_isLetter_14 (by decide) ?_
    obtain ⟨r4, er4, h⟩ := mj_let_o h
    refine mj_callN1 (av := [.inl a1, .inl 65, .inl 90]) C lN_X5_67 lS_X10_isWithin rfl (C_X10_isWithin  er4) (mj_rmok hR (by decide) (by decide)) rfl (Nat.le_of_ble_eq_true rfl) dX5_isLetter_16 (fun hb5 => ?_)
    refine mj_if_eq (tgt := 26) C dX5_isLetter_19 (by decide) (fun c6 => ?_) (fun c6 => ?_)
    · replace h := mj_if_t c6 h
      refine mj_iconst (v := 0) C dX5_isLetter_26 (by decide) ?_
      cases h
      exact mj_iret C hT (mj_nb mj_b0) dX5_isLetter_27 ⟨rfl, rfl, mj_b0⟩
    · replace h := mj_if_f c6 h
      refine mj_iconst (v := 1) C dX5_isLetter_22 (by decide) ?_
      refine mj_goto (tgt := 27) C dX5_isLetter_23 (by decide) ?_
      cases h
      exact mj_iret C hT (mj_nb mj_b1') dX5_isLetter_27 ⟨rfl, rfl, mj_b1'⟩
def f_X5_planWord (a1 : Int32) : Nat := if a1 = 0 then (0) else if a1 = 1 then (1) else if a1 = 2 then (2) else if a1 = 3 then (3) else if a1 = 4 then (4) else if a1 = 5 then (5) else if a1 = 6 then (6) else if a1 = 7 then (7) else if a1 = 8 then (8) else if a1 = 9 then (9) else if a1 = 10 then (10) else if a1 = 11 then (11) else (12)
set_option maxHeartbeats 4000000 in
set_option maxRecDepth 20000 in
theorem C_X5_planWord {G : mj_G} {M : mj_M} {a1 : Int32} {x0 : Nat} (h : f_X5_planWord a1 = x0) : mj_S1 yX5_planWord cX5_planWord 1 (some (.object "java/lang/String")) 0 G [.inl a1] M (some (mj_r (98, x0))) M := by
  refine mj_intro (by decide) (Nat.le_of_ble_eq_true rfl) ?_
  intro κ C hG hR hT
  subst hG
  have C : mj_C κ cX5_planWord 1 RX5 := C
  show mj_R κ (mj_F κ (fun r M' => r = (some (mj_r (98, x0))) ∧ M' = M ∧ mj_bb (some (.object "java/lang/String")) (some (mj_r (98, x0))))) 0 [some (.inl a1)] [] M
  unfold f_X5_planWord at h
  refine mj_iload_n C dX5_planWord_0 rfl ?_
  by_cases c1 : a1 = 0
  · replace h := mj_if_t c1 h
    refine mj_tin (off := 63) (tgt := 64) C dX5_planWord_1 (by rw [c1]; decide) (by rw [c1]; decide) (by rw [c1]; decide) (by decide) ?_
    refine mj_ldcS (i := 0) C rfl dX5_planWord_64 ?_
    cases h
    exact mj_aret C hT dX5_planWord_66 ⟨rfl, rfl, fun h => by cases h⟩
  replace h := mj_if_f c1 h
  by_cases c2 : a1 = 1
  · replace h := mj_if_t c2 h
    refine mj_tin (off := 66) (tgt := 67) C dX5_planWord_1 (by rw [c2]; decide) (by rw [c2]; decide) (by rw [c2]; decide) (by decide) ?_
    refine mj_ldcS (i := 1) C rfl dX5_planWord_67 ?_
    cases h
    exact mj_aret C hT dX5_planWord_69 ⟨rfl, rfl, fun h => by cases h⟩
  replace h := mj_if_f c2 h
  by_cases c3 : a1 = 2
  · replace h := mj_if_t c3 h
    refine mj_tin (off := 69) (tgt := 70) C dX5_planWord_1 (by rw [c3]; decide) (by rw [c3]; decide) (by rw [c3]; decide) (by decide) ?_
    refine mj_ldcS (i := 2) C rfl dX5_planWord_70 ?_
    cases h
    exact mj_aret C hT dX5_planWord_72 ⟨rfl, rfl, fun h => by cases h⟩
  replace h := mj_if_f c3 h
  by_cases c4 : a1 = 3
  · replace h := mj_if_t c4 h
    refine mj_tin (off := 72) (tgt := 73) C dX5_planWord_1 (by rw [c4]; decide) (by rw [c4]; decide) (by rw [c4]; decide) (by decide) ?_
    refine mj_ldcS (i := 3) C rfl dX5_planWord_73 ?_
    cases h
    exact mj_aret C hT dX5_planWord_75 ⟨rfl, rfl, fun h => by cases h⟩
  replace h := mj_if_f c4 h
  by_cases c5 : a1 = 4
  · replace h := mj_if_t c5 h
    refine mj_tin (off := 75) (tgt := 76) C dX5_planWord_1 (by rw [c5]; decide) (by rw [c5]; decide) (by rw [c5]; decide) (by decide) ?_
    refine mj_ldcS (i := 4) C rfl dX5_planWord_76 ?_
    cases h
    exact mj_aret C hT dX5_planWord_78 ⟨rfl, rfl, fun h => by cases h⟩
  replace h := mj_if_f c5 h
  by_cases c6 : a1 = 5
  · replace h := mj_if_t c6 h
    refine mj_tin (off := 78) (tgt := 79) C dX5_planWord_1 (by rw [c6]; decide) (by rw [c6]; decide) (by rw [c6]; decide) (by decide) ?_
    refine mj_ldcS (i := 5) C rfl dX5_planWord_79 ?_
    cases h
    exact mj_aret C hT dX5_planWord_81 ⟨rfl, rfl, fun h => by cases h⟩
  replace h := mj_if_f c6 h
  by_cases c7 : a1 = 6
  · replace h := mj_if_t c7 h
    refine mj_tin (off := 81) (tgt := 82) C dX5_planWord_1 (by rw [c7]; decide) (by rw [c7]; decide) (by rw [c7]; decide) (by decide) ?_
    refine mj_ldcS (i := 6) C rfl dX5_planWord_82 ?_
    cases h
    exact mj_aret C hT dX5_planWord_84 ⟨rfl, rfl, fun h => by cases h⟩
  replace h := mj_if_f c7 h
  by_cases c8 : a1 = 7
  · replace h := mj_if_t c8 h
    refine mj_tin (off := 84) (tgt := 85) C dX5_planWord_1 (by rw [c8]; decide) (by rw [c8]; decide) (by rw [c8]; decide) (by decide) ?_
    refine mj_ldcS (i := 7) C rfl dX5_planWord_85 ?_
    cases h
    exact mj_aret C hT dX5_planWord_87 ⟨rfl, rfl, fun h => by cases h⟩
  replace h := mj_if_f c8 h
  by_cases c9 : a1 = 8
  · replace h := mj_if_t c9 h
    refine mj_tin (off := 87) (tgt := 88) C dX5_planWord_1 (by rw [c9]; decide) (by rw [c9]; decide) (by rw [c9]; decide) (by decide) ?_
    refine mj_ldcS (i := 8) C rfl dX5_planWord_88 ?_
    cases h
    exact mj_aret C hT dX5_planWord_90 ⟨rfl, rfl, fun h => by cases h⟩
  replace h := mj_if_f c9 h
  by_cases c10 : a1 = 9
  · replace h := mj_if_t c10 h
    refine mj_tin (off := 90) (tgt := 91) C dX5_planWord_1 (by rw [c10]; decide) (by rw [c10]; decide) (by rw [c10]; decide) (by decide) ?_
    refine mj_ldcS (i := 9) C rfl dX5_planWord_91 ?_
    cases h
    exact mj_aret C hT dX5_planWord_93 ⟨rfl, rfl, fun h => by cases h⟩
  replace h := mj_if_f c10 h
  by_cases c11 : a1 = 10
  · replace h := mj_if_t c11 h
    refine mj_tin (off := 93) (tgt := 94) C dX5_planWord_1 (by rw [c11]; decide) (by rw [c11]; decide) (by rw [c11]; decide) (by decide) ?_
    refine mj_ldcS (i := 10) C rfl dX5_planWord_94 ?_
    cases h
    exact mj_aret C hT dX5_planWord_96 ⟨rfl, rfl, fun h => by cases h⟩
  replace h := mj_if_f c11 h
  by_cases c12 : a1 = 11
  · replace h := mj_if_t c12 h
    refine mj_tin (off := 96) (tgt := 97) C dX5_planWord_1 (by rw [c12]; decide) (by rw [c12]; decide) (by rw [c12]; decide) (by decide) ?_
    refine mj_ldcS (i := 11) C rfl dX5_planWord_97 ?_
    cases h
    exact mj_aret C hT dX5_planWord_99 ⟨rfl, rfl, fun h => by cases h⟩
  replace h := mj_if_f c12 h
  refine mj_tout (tgt := 100) C dX5_planWord_1 (by have := mj_neL 0 (by decide) c1; have := mj_neL 1 (by decide) c2; have := mj_neL 2 (by decide) c3; have := mj_neL 3 (by decide) c4; have := mj_neL 4 (by decide) c5; have := mj_neL 5 (by decide) c6; have := mj_neL 6 (by decide) c7; have := mj_neL 7 (by decide) c8; have := mj_neL 8 (by decide) c9; have := mj_neL 9 (by decide) c10; have := mj_neL 10 (by decide) c11; have := mj_neL 11 (by decide) c12; omega) (by decide) ?_
  refine mj_ldcS (i := 12) C rfl dX5_planWord_100 ?_
  cases h
  exact mj_aret C hT dX5_planWord_102 ⟨rfl, rfl, fun h => by cases h⟩
def f_X5_isTokenText_L20 (sw : Nat) : Nat → Int32 → mj_m → Option (Nat)
  | 0, _, _ => none
  | n + 1, l2, m => mj_chk (decide (sw < 31)) (if mj_sln sw ≤ l2 then (some 55) else (mj_chk (mj_ok ((m 1 6) + l2) 400) (mj_chk (decide (sw < 31)) (mj_chk (mj_ok l2 (mj_ss sw).2.2.2.length) (if m 2 (mj_cl ((m 1 6) + l2)) = mj_sch sw l2 then (mj_let (l2 + 1) (fun x7 => f_X5_isTokenText_L20 sw n x7 m)) else (some 47))))))
set_option maxHeartbeats 4000000 in
set_option maxRecDepth 20000 in
theorem C_X5_isTokenText_L20 {κ : mj_K} {Q : State → Prop} {β : Nat} {M : mj_M} {sw : Nat} (C : mj_C κ cX5_isTokenText 3 RX5) (hB : mj_isR (mj_g κ) β) (hR : mj_dp κ 4) : ∀ (n : Nat) (l2 : Int32) (m : mj_m) (tg : Nat), f_X5_isTokenText_L20 sw n l2 m = some tg → (tg = 47 → mj_R κ Q 47 [none, none, none] [] (va_up M β m)) → (tg = 55 → mj_R κ Q 55 [none, none, none] [] (va_up M β m)) → mj_R κ Q 20 [some (mj_r (β, 1)), some (mj_r (98, sw)), some (.inl l2)] [] (va_up M β m) := by
  intro n
  induction n with
  | zero =>
    intro l2 m tg h
    cases h
  | succ n ih =>
    intro l2 m tg h hx47 hx55
    rw [f_X5_isTokenText_L20] at h
    refine mj_iload_n C dX5_isTokenText_20 rfl ?_
    refine mj_aload_n C dX5_isTokenText_21 rfl ?_
    obtain ⟨k1, h⟩ := mj_chk_o h
    refine mj_callVs (av := []) C lM_X5_99 lV_J0_length_8abf5 (of_decide_eq_true k1) rfl rfl (C_sLen (of_decide_eq_true k1)) (mj_rmok hR (by decide) (by decide)) rfl (Nat.le_of_ble_eq_true rfl) dX5_isTokenText_22 (fun _ => ?_)
    refine mj_icmp_ge (tgt := 55) C dX5_isTokenText_25 (by decide) (fun c2 => ?_) (fun c2 => ?_)
    · replace h := mj_if_t c2 h
      cases h
      refine mj_sub ?_ (hx55 rfl)
      exact trivial
    · replace h := mj_if_f c2 h
      refine mj_aload_n C dX5_isTokenText_28 rfl ?_
      refine mj_getr (r := (β, 2)) C lF_X5_11 (sR1 hB) rfl dX5_isTokenText_29 ?_
      refine mj_aload_n C dX5_isTokenText_32 rfl ?_
      refine mj_bget C lF_X5_35 (sR1 hB) rfl dX5_isTokenText_33 ?_
      refine mj_iload_n C dX5_isTokenText_36 rfl ?_
      refine mj_iadd C dX5_isTokenText_37 ?_
      obtain ⟨k3, h⟩ := mj_chk_o h
      refine mj_bald C (sR2 hB) k3 rfl dX5_isTokenText_38 ?_
      refine mj_aload_n C dX5_isTokenText_39 rfl ?_
      refine mj_iload_n C dX5_isTokenText_40 rfl ?_
      obtain ⟨k4, h⟩ := mj_chk_o h
      obtain ⟨k5, h⟩ := mj_chk_o h
      refine mj_callVs (av := [.inl l2]) C lM_X5_105 lV_J0_charAt_5068e (of_decide_eq_true k4) rfl rfl (C_sAt (of_decide_eq_true k4) k5) (mj_rmok hR (by decide) (by decide)) rfl (Nat.le_of_ble_eq_true rfl) dX5_isTokenText_41 (fun _ => ?_)
      refine mj_icmp_eq (tgt := 49) C dX5_isTokenText_44 (by decide) (fun c6 => ?_) (fun c6 => ?_)
      · replace h := mj_if_t c6 h
        obtain ⟨x7, hx7, h⟩ := mj_let_o h
        refine mj_iinc (L2 := [some (mj_r (β, 1)), some (mj_r (98, sw)), some (.inl x7)]) C dX5_isTokenText_49 rfl hx7 rfl ?_
        refine mj_goto (tgt := 20) C dX5_isTokenText_52 (by decide) ?_
        refine mj_sub (L' := [some (mj_r (β, 1)), some (mj_r (98, sw)), some (.inl x7)]) ⟨rfl, ⟨rfl, ⟨rfl, trivial⟩⟩⟩ ?_
        exact ih _ _ _ h hx47 hx55
      · replace h := mj_if_f c6 h
        cases h
        refine mj_sub ?_ (hx47 rfl)
        exact trivial
def f_X5_isTokenText (sw : Nat) (m : mj_m) : Option (Int32) := mj_chk (decide (sw < 31)) (if mj_sln sw = (m 1 7) - (m 1 6) then (mj_b1 (f_X5_isTokenText_L20 sw mj_fu 0 m) (fun t10 => if t10 = 47 then (some 0) else (some 1))) else (some 0))
set_option maxHeartbeats 4000000 in
set_option maxRecDepth 20000 in
theorem C_X5_isTokenText {G : mj_G} {β : Nat} {M : mj_M} {sw : Nat} {m : mj_m} {x0 : Int32} (hB : mj_isR G β) (h : f_X5_isTokenText sw m = some x0) : mj_S1 yX5_isTokenText cX5_isTokenText 3 (some .boolean) 4 G [mj_r (β, 1), mj_r (98, sw)] (va_up M β m) (some (.inl x0)) (va_up M β m) := by
  refine mj_intro (by decide) (Nat.le_of_ble_eq_true rfl) ?_
  intro κ C hG hR hT
  subst hG
  have C : mj_C κ cX5_isTokenText 3 RX5 := C
  show mj_R κ (mj_F κ (fun r M' => r = (some (.inl x0)) ∧ M' = (va_up M β m) ∧ mj_bb (some .boolean) (some (.inl x0)))) 0 [some (mj_r (β, 1)), some (mj_r (98, sw)), none] [] (va_up M β m)
  unfold f_X5_isTokenText at h
  refine mj_aload_n C dX5_isTokenText_0 rfl ?_
  obtain ⟨k8, h⟩ := mj_chk_o h
  refine mj_callVs (av := []) C lM_X5_99 lV_J0_length_8abf5 (of_decide_eq_true k8) rfl rfl (C_sLen (of_decide_eq_true k8)) (mj_rmok hR (by decide) (by decide)) rfl (Nat.le_of_ble_eq_true rfl) dX5_isTokenText_1 (fun _ => ?_)
  refine mj_aload_n C dX5_isTokenText_4 rfl ?_
  refine mj_bget C lF_X5_38 (sR1 hB) rfl dX5_isTokenText_5 ?_
  refine mj_aload_n C dX5_isTokenText_8 rfl ?_
  refine mj_bget C lF_X5_35 (sR1 hB) rfl dX5_isTokenText_9 ?_
  refine mj_isub C dX5_isTokenText_12 ?_
  refine mj_icmp_eq (tgt := 18) C dX5_isTokenText_13 (by decide) (fun c9 => ?_) (fun c9 => ?_)
  · replace h := mj_if_t c9 h
    refine mj_iconst (v := 0) C dX5_isTokenText_18 (by decide) ?_
    refine mj_istore_n (L2 := [some (mj_r (β, 1)), some (mj_r (98, sw)), some (.inl 0)]) C dX5_isTokenText_19 (Nat.le_of_ble_eq_true rfl) rfl ?_
    obtain ⟨t10, hl11, h⟩ := mj_b1_o h
    refine mj_sub (L' := [some (mj_r (β, 1)), some (mj_r (98, sw)), some (.inl 0)]) ⟨rfl, ⟨rfl, ⟨rfl, trivial⟩⟩⟩ ?_
    refine C_X5_isTokenText_L20 C hB hR _ _ _ _ hl11 (fun te => ?_) (fun te => ?_)
    · subst te
      replace h := mj_if_t rfl h
      refine mj_iconst (v := 0) C dX5_isTokenText_47 (by decide) ?_
      cases h
      exact mj_iret C hT (mj_nb mj_b0) dX5_isTokenText_48 ⟨rfl, rfl, mj_b0⟩
    · subst te
      replace h := mj_if_f (by decide) h
      refine mj_iconst (v := 1) C dX5_isTokenText_55 (by decide) ?_
      cases h
      exact mj_iret C hT (mj_nb mj_b1') dX5_isTokenText_56 ⟨rfl, rfl, mj_b1'⟩
  · replace h := mj_if_f c9 h
    refine mj_iconst (v := 0) C dX5_isTokenText_16 (by decide) ?_
    cases h
    exact mj_iret C hT (mj_nb mj_b0) dX5_isTokenText_17 ⟨rfl, rfl, mj_b0⟩
def f_X5_readWord_L46 : Nat → Int32 → mj_m → Option (mj_m)
  | 0, _, _ => none
  | n + 1, l1, m => if 13 ≤ l1 then (some m) else (mj_let (f_X5_planWord l1) (fun r2 => mj_b1 (f_X5_isTokenText r2 m) (fun r4 => if r4 = 0 then (mj_let (l1 + 1) (fun x7 => f_X5_readWord_L46 n x7 m)) else (mj_let (mj_wrs m 1 5 1) (fun m8 => mj_let (mj_wrs m8 1 8 l1) (fun m9 => mj_let (l1 + 1) (fun x10 => f_X5_readWord_L46 n x10 m9)))))))
set_option maxHeartbeats 4000000 in
set_option maxRecDepth 20000 in
theorem C_X5_readWord_L46 {κ : mj_K} {Q : State → Prop} {β : Nat} {M : mj_M} (C : mj_C κ cX5_readWord 2 RX5) (hB : mj_isR (mj_g κ) β) (hR : mj_dp κ 5) : ∀ (n : Nat) (l1 : Int32) (m : mj_m) (mo : mj_m), f_X5_readWord_L46 n l1 m = some mo → (mj_R κ Q 79 [none, none] [] (va_up M β mo)) → mj_R κ Q 46 [some (mj_r (β, 1)), some (.inl l1)] [] (va_up M β m) := by
  intro n
  induction n with
  | zero =>
    intro l1 m mo h
    cases h
  | succ n ih =>
    intro l1 m mo h hx79
    rw [f_X5_readWord_L46] at h
    refine mj_iload_n C dX5_readWord_46 rfl ?_
    refine mj_bipush (v := 13) C dX5_readWord_47 (by decide) ?_
    refine mj_icmp_ge (tgt := 79) C dX5_readWord_49 (by decide) (fun c1 => ?_) (fun c1 => ?_)
    · replace h := mj_if_t c1 h
      cases h
      refine mj_sub ?_ (hx79)
      exact trivial
    · replace h := mj_if_f c1 h
      refine mj_aload_n C dX5_readWord_52 rfl ?_
      refine mj_iload_n C dX5_readWord_53 rfl ?_
      obtain ⟨r2, er2, h⟩ := mj_let_o h
      refine mj_callS1 (av := [.inl l1]) C lM_X5_91 lS_X5_planWord rfl (C_X5_planWord  er2) (mj_rmok hR (by decide) (by decide)) rfl (Nat.le_of_ble_eq_true rfl) dX5_readWord_54 (fun hb3 => ?_)
      obtain ⟨r4, er4, h⟩ := mj_b1_o h
      refine mj_callV1 (av := [mj_r (98, r2)]) C lM_X5_95 lV_X5_isTokenText (sR1 hB) ⟨_, rfl, rfl⟩ rfl (C_X5_isTokenText hB er4) (mj_rmok hR (by decide) (by decide)) rfl (Nat.le_of_ble_eq_true rfl) dX5_readWord_57 (fun hb5 => ?_)
      refine mj_if_eq (tgt := 73) C dX5_readWord_60 (by decide) (fun c6 => ?_) (fun c6 => ?_)
      · replace h := mj_if_t c6 h
        obtain ⟨x7, hx7, h⟩ := mj_let_o h
        refine mj_iinc (L2 := [some (mj_r (β, 1)), some (.inl x7)]) C dX5_readWord_73 rfl hx7 rfl ?_
        refine mj_goto (tgt := 46) C dX5_readWord_76 (by decide) ?_
        refine mj_sub (L' := [some (mj_r (β, 1)), some (.inl x7)]) ⟨rfl, ⟨rfl, trivial⟩⟩ ?_
        exact ih _ _ _ h hx79
      · replace h := mj_if_f c6 h
        refine mj_aload_n C dX5_readWord_63 rfl ?_
        refine mj_iconst (v := 1) C dX5_readWord_64 (by decide) ?_
        obtain ⟨m8, hm8, h⟩ := mj_let_o h
        refine mj_bput C lF_X5_32 fP_6_5 (vp_nar_int _) rfl (sR1 hB) rfl dX5_readWord_65 hm8 ?_
        refine mj_aload_n C dX5_readWord_68 rfl ?_
        refine mj_iload_n C dX5_readWord_69 rfl ?_
        obtain ⟨m9, hm9, h⟩ := mj_let_o h
        refine mj_bput C lF_X5_41 fP_6_8 (vp_nar_int _) rfl (sR1 hB) rfl dX5_readWord_70 hm9 ?_
        obtain ⟨x10, hx10, h⟩ := mj_let_o h
        refine mj_iinc (L2 := [some (mj_r (β, 1)), some (.inl x10)]) C dX5_readWord_73 rfl hx10 rfl ?_
        refine mj_goto (tgt := 46) C dX5_readWord_76 (by decide) ?_
        refine mj_sub (L' := [some (mj_r (β, 1)), some (.inl x10)]) ⟨rfl, ⟨rfl, trivial⟩⟩ ?_
        exact ih _ _ _ h hx79
def f_X5_readWord_L0 : Nat → mj_m → Option (mj_m)
  | 0, _ => none
  | n + 1, m => if m 1 1 ≤ m 1 7 then (some m) else (mj_chk (mj_ok (m 1 7) 400) (mj_let (f_X5_isLetter (m 2 (mj_cl (m 1 7)))) (fun r13 => if r13 = 0 then (some m) else (mj_let (mj_wrs m 1 7 ((m 1 7) + 1)) (fun m16 => f_X5_readWord_L0 n m16)))))
set_option maxHeartbeats 4000000 in
set_option maxRecDepth 20000 in
theorem C_X5_readWord_L0 {κ : mj_K} {Q : State → Prop} {β : Nat} {M : mj_M} (C : mj_C κ cX5_readWord 2 RX5) (hB : mj_isR (mj_g κ) β) (hR : mj_dp κ 5) : ∀ (n : Nat) (m : mj_m) (mo : mj_m), f_X5_readWord_L0 n m = some mo → (mj_R κ Q 39 [some (mj_r (β, 1)), none] [] (va_up M β mo)) → mj_R κ Q 0 [some (mj_r (β, 1)), none] [] (va_up M β m) := by
  intro n
  induction n with
  | zero =>
    intro m mo h
    cases h
  | succ n ih =>
    intro m mo h hx39
    rw [f_X5_readWord_L0] at h
    refine mj_aload_n C dX5_readWord_0 rfl ?_
    refine mj_bget C lF_X5_38 (sR1 hB) rfl dX5_readWord_1 ?_
    refine mj_aload_n C dX5_readWord_4 rfl ?_
    refine mj_bget C lF_X5_15 (sR1 hB) rfl dX5_readWord_5 ?_
    refine mj_icmp_ge (tgt := 39) C dX5_readWord_8 (by decide) (fun c11 => ?_) (fun c11 => ?_)
    · replace h := mj_if_t c11 h
      cases h
      refine mj_sub ?_ (hx39)
      exact ⟨rfl, trivial⟩
    · replace h := mj_if_f c11 h
      refine mj_aload_n C dX5_readWord_11 rfl ?_
      refine mj_getr (r := (β, 2)) C lF_X5_11 (sR1 hB) rfl dX5_readWord_12 ?_
      refine mj_aload_n C dX5_readWord_15 rfl ?_
      refine mj_bget C lF_X5_38 (sR1 hB) rfl dX5_readWord_16 ?_
      obtain ⟨k12, h⟩ := mj_chk_o h
      refine mj_bald C (sR2 hB) k12 rfl dX5_readWord_19 ?_
      obtain ⟨r13, er13, h⟩ := mj_let_o h
      refine mj_callS1 (av := [.inl (m 2 (mj_cl (m 1 7)))]) C lM_X5_79 lS_X5_isLetter rfl (C_X5_isLetter  er13) (mj_rmok hR (by decide) (by decide)) rfl (Nat.le_of_ble_eq_true rfl) dX5_readWord_20 (fun hb14 => ?_)
      refine mj_if_eq (tgt := 39) C dX5_readWord_23 (by decide) (fun c15 => ?_) (fun c15 => ?_)
      · replace h := mj_if_t c15 h
        cases h
        refine mj_sub ?_ (hx39)
        exact ⟨rfl, trivial⟩
      · replace h := mj_if_f c15 h
        refine mj_aload_n C dX5_readWord_26 rfl ?_
        refine mj_dup C dX5_readWord_27 ?_
        refine mj_bget C lF_X5_38 (sR1 hB) rfl dX5_readWord_28 ?_
        refine mj_iconst (v := 1) C dX5_readWord_31 (by decide) ?_
        refine mj_iadd C dX5_readWord_32 ?_
        obtain ⟨m16, hm16, h⟩ := mj_let_o h
        refine mj_bput C lF_X5_38 fP_6_7 (vp_nar_int _) rfl (sR1 hB) rfl dX5_readWord_33 hm16 ?_
        refine mj_goto (tgt := 0) C dX5_readWord_36 (by decide) ?_
        refine mj_sub (L' := [some (mj_r (β, 1)), none]) ⟨rfl, trivial⟩ ?_
        exact ih _ _ h hx39
def f_X5_readWord_J39 (m : mj_m) : Option (mj_m) := mj_let (mj_wrs m 1 5 4) (fun m17 => mj_b1 (f_X5_readWord_L46 mj_fu 0 m17) (fun m18 => some m18))
set_option maxHeartbeats 4000000 in
set_option maxRecDepth 20000 in
theorem C_X5_readWord_J39 {κ : mj_K} {β : Nat} {M : mj_M} {m : mj_m} {m0 : mj_m} (C : mj_C κ cX5_readWord 2 RX5) (hB : mj_isR (mj_g κ) β) (hR : mj_dp κ 5) (hT : mj_rt κ = none) (h : f_X5_readWord_J39 m = some m0) : mj_R κ (mj_F κ (fun r M' => r = none ∧ M' = (va_up M β m0) ∧ mj_bb none none)) 39 [some (mj_r (β, 1)), none] [] (va_up M β m) := by
  unfold f_X5_readWord_J39 at h
  refine mj_aload_n C dX5_readWord_39 rfl ?_
  refine mj_iconst (v := 4) C dX5_readWord_40 (by decide) ?_
  obtain ⟨m17, hm17, h⟩ := mj_let_o h
  refine mj_bput C lF_X5_32 fP_6_5 (vp_nar_int _) rfl (sR1 hB) rfl dX5_readWord_41 hm17 ?_
  refine mj_iconst (v := 0) C dX5_readWord_44 (by decide) ?_
  refine mj_istore_n (L2 := [some (mj_r (β, 1)), some (.inl 0)]) C dX5_readWord_45 (Nat.le_of_ble_eq_true rfl) rfl ?_
  obtain ⟨m18, hl19, h⟩ := mj_b1_o h
  refine mj_sub (L' := [some (mj_r (β, 1)), some (.inl 0)]) ⟨rfl, ⟨rfl, trivial⟩⟩ ?_
  refine C_X5_readWord_L46 C hB hR _ _ _ _ hl19 ?_
  cases h
  exact mj_vret C hT dX5_readWord_79 ⟨rfl, rfl, mj_bv _⟩
def f_X5_readWord (m : mj_m) : Option (mj_m) := mj_b1 (f_X5_readWord_L0 mj_fu m) (fun m20 => f_X5_readWord_J39 m20)
set_option maxHeartbeats 4000000 in
set_option maxRecDepth 20000 in
theorem C_X5_readWord {G : mj_G} {β : Nat} {M : mj_M} {m : mj_m} {m0 : mj_m} (hB : mj_isR G β) (h : f_X5_readWord m = some m0) : mj_S1 yX5_readWord cX5_readWord 2 none 5 G [mj_r (β, 1)] (va_up M β m) none (va_up M β m0) := by
  refine mj_intro (by decide) (Nat.le_of_ble_eq_true rfl) ?_
  intro κ C hG hR hT
  subst hG
  have C : mj_C κ cX5_readWord 2 RX5 := C
  show mj_R κ (mj_F κ (fun r M' => r = none ∧ M' = (va_up M β m0) ∧ mj_bb none none)) 0 [some (mj_r (β, 1)), none] [] (va_up M β m)
  unfold f_X5_readWord at h
  obtain ⟨m20, hl21, h⟩ := mj_b1_o h
  refine mj_sub (L' := [some (mj_r (β, 1)), none]) ⟨rfl, trivial⟩ ?_
  refine C_X5_readWord_L0 C hB hR _ _ _ hl21 ?_
  refine mj_sub (L' := [some (mj_r (β, 1)), none]) ⟨rfl, trivial⟩ ?_
  exact C_X5_readWord_J39 C hB hR hT h
def f_X5_isDigit (a1 : Int32) : Int32 := mj_let (f_X10_isWithin a1 48 57) (fun r1 => r1)
set_option maxHeartbeats 4000000 in
set_option maxRecDepth 20000 in
theorem C_X5_isDigit {G : mj_G} {M : mj_M} {a1 : Int32} {x0 : Int32} (h : f_X5_isDigit a1 = x0) : mj_S1 yX5_isDigit cX5_isDigit 1 (some .boolean) 1 G [.inl a1] M (some (.inl x0)) M := by
  refine mj_intro (by decide) (Nat.le_of_ble_eq_true rfl) ?_
  intro κ C hG hR hT
  subst hG
  have C : mj_C κ cX5_isDigit 1 RX5 := C
  show mj_R κ (mj_F κ (fun r M' => r = (some (.inl x0)) ∧ M' = M ∧ mj_bb (some .boolean) (some (.inl x0)))) 0 [some (.inl a1)] [] M
  unfold f_X5_isDigit at h
  refine mj_iload_n C dX5_isDigit_0 rfl ?_
  refine mj_bipush (v := 48) C dX5_isDigit_1 (by decide) ?_
  refine mj_bipush (v := 57) C dX5_isDigit_3 (by decide) ?_
  obtain ⟨r1, er1, h⟩ := mj_let_o h
  refine mj_callN1 (av := [.inl a1, .inl 48, .inl 57]) C lN_X5_67 lS_X10_isWithin rfl (C_X10_isWithin  er1) (mj_rmok hR (by decide) (by decide)) rfl (Nat.le_of_ble_eq_true rfl) dX5_isDigit_5 (fun hb2 => ?_)
  cases h
  exact mj_iret C hT (mj_nb hb2) dX5_isDigit_8 ⟨rfl, rfl, hb2⟩
def f_X5_readNumber_L5 : Nat → mj_m → Option (mj_m)
  | 0, _ => none
  | n + 1, m => if m 1 1 ≤ m 1 7 then (some m) else (mj_chk (mj_ok (m 1 7) 400) (mj_let (f_X5_isDigit (m 2 (mj_cl (m 1 7)))) (fun r3 => if r3 = 0 then (some m) else (mj_chk (mj_ok (m 1 7) 400) (mj_let (mj_wrs m 1 8 (((((m 1 8) * 10) + (m 2 (mj_cl (m 1 7)))) - 48) &&& 65535)) (fun m7 => mj_let (mj_wrs m7 1 7 ((m7 1 7) + 1)) (fun m8 => f_X5_readNumber_L5 n m8)))))))
set_option maxHeartbeats 4000000 in
set_option maxRecDepth 20000 in
theorem C_X5_readNumber_L5 {κ : mj_K} {Q : State → Prop} {β : Nat} {M : mj_M} (C : mj_C κ cX5_readNumber 1 RX5) (hB : mj_isR (mj_g κ) β) (hR : mj_dp κ 2) : ∀ (n : Nat) (m : mj_m) (mo : mj_m), f_X5_readNumber_L5 n m = some mo → (mj_R κ Q 71 [some (mj_r (β, 1))] [] (va_up M β mo)) → mj_R κ Q 5 [some (mj_r (β, 1))] [] (va_up M β m) := by
  intro n
  induction n with
  | zero =>
    intro m mo h
    cases h
  | succ n ih =>
    intro m mo h hx71
    rw [f_X5_readNumber_L5] at h
    refine mj_aload_n C dX5_readNumber_5 rfl ?_
    refine mj_bget C lF_X5_38 (sR1 hB) rfl dX5_readNumber_6 ?_
    refine mj_aload_n C dX5_readNumber_9 rfl ?_
    refine mj_bget C lF_X5_15 (sR1 hB) rfl dX5_readNumber_10 ?_
    refine mj_icmp_ge (tgt := 71) C dX5_readNumber_13 (by decide) (fun c1 => ?_) (fun c1 => ?_)
    · replace h := mj_if_t c1 h
      cases h
      refine mj_sub ?_ (hx71)
      exact ⟨rfl, trivial⟩
    · replace h := mj_if_f c1 h
      refine mj_aload_n C dX5_readNumber_16 rfl ?_
      refine mj_getr (r := (β, 2)) C lF_X5_11 (sR1 hB) rfl dX5_readNumber_17 ?_
      refine mj_aload_n C dX5_readNumber_20 rfl ?_
      refine mj_bget C lF_X5_38 (sR1 hB) rfl dX5_readNumber_21 ?_
      obtain ⟨k2, h⟩ := mj_chk_o h
      refine mj_bald C (sR2 hB) k2 rfl dX5_readNumber_24 ?_
      obtain ⟨r3, er3, h⟩ := mj_let_o h
      refine mj_callS1 (av := [.inl (m 2 (mj_cl (m 1 7)))]) C lM_X5_85 lS_X5_isDigit rfl (C_X5_isDigit  er3) (mj_rmok hR (by decide) (by decide)) rfl (Nat.le_of_ble_eq_true rfl) dX5_readNumber_25 (fun hb4 => ?_)
      refine mj_if_eq (tgt := 71) C dX5_readNumber_28 (by decide) (fun c5 => ?_) (fun c5 => ?_)
      · replace h := mj_if_t c5 h
        cases h
        refine mj_sub ?_ (hx71)
        exact ⟨rfl, trivial⟩
      · replace h := mj_if_f c5 h
        refine mj_aload_n C dX5_readNumber_31 rfl ?_
        refine mj_aload_n C dX5_readNumber_32 rfl ?_
        refine mj_bget C lF_X5_41 (sR1 hB) rfl dX5_readNumber_33 ?_
        refine mj_bipush (v := 10) C dX5_readNumber_36 (by decide) ?_
        refine mj_imul C dX5_readNumber_38 ?_
        refine mj_aload_n C dX5_readNumber_39 rfl ?_
        refine mj_getr (r := (β, 2)) C lF_X5_11 (sR1 hB) rfl dX5_readNumber_40 ?_
        refine mj_aload_n C dX5_readNumber_43 rfl ?_
        refine mj_bget C lF_X5_38 (sR1 hB) rfl dX5_readNumber_44 ?_
        obtain ⟨k6, h⟩ := mj_chk_o h
        refine mj_bald C (sR2 hB) k6 rfl dX5_readNumber_47 ?_
        refine mj_iadd C dX5_readNumber_48 ?_
        refine mj_bipush (v := 48) C dX5_readNumber_49 (by decide) ?_
        refine mj_isub C dX5_readNumber_51 ?_
        refine mj_ldc (v := 65535) C lC_X5_109 dX5_readNumber_52 ?_
        refine mj_iand C dX5_readNumber_54 ?_
        obtain ⟨m7, hm7, h⟩ := mj_let_o h
        refine mj_bput C lF_X5_41 fP_6_8 (vp_nar_int _) rfl (sR1 hB) rfl dX5_readNumber_55 hm7 ?_
        refine mj_aload_n C dX5_readNumber_58 rfl ?_
        refine mj_dup C dX5_readNumber_59 ?_
        refine mj_bget C lF_X5_38 (sR1 hB) rfl dX5_readNumber_60 ?_
        refine mj_iconst (v := 1) C dX5_readNumber_63 (by decide) ?_
        refine mj_iadd C dX5_readNumber_64 ?_
        obtain ⟨m8, hm8, h⟩ := mj_let_o h
        refine mj_bput C lF_X5_38 fP_6_7 (vp_nar_int _) rfl (sR1 hB) rfl dX5_readNumber_65 hm8 ?_
        refine mj_goto (tgt := 5) C dX5_readNumber_68 (by decide) ?_
        refine mj_sub (L' := [some (mj_r (β, 1))]) ⟨rfl, trivial⟩ ?_
        exact ih _ _ h hx71
def f_X5_readNumber_J71 (m : mj_m) : Option (mj_m) := if 4 < (m 1 7) - (m 1 6) then (mj_let (mj_wrs m 1 5 4) (fun m10 => some m10)) else (mj_let (mj_wrs m 1 5 2) (fun m11 => some m11))
set_option maxHeartbeats 4000000 in
set_option maxRecDepth 20000 in
theorem C_X5_readNumber_J71 {κ : mj_K} {β : Nat} {M : mj_M} {m : mj_m} {m0 : mj_m} (C : mj_C κ cX5_readNumber 1 RX5) (hB : mj_isR (mj_g κ) β) (hR : mj_dp κ 2) (hT : mj_rt κ = none) (h : f_X5_readNumber_J71 m = some m0) : mj_R κ (mj_F κ (fun r M' => r = none ∧ M' = (va_up M β m0) ∧ mj_bb none none)) 71 [some (mj_r (β, 1))] [] (va_up M β m) := by
  unfold f_X5_readNumber_J71 at h
  refine mj_aload_n C dX5_readNumber_71 rfl ?_
  refine mj_aload_n C dX5_readNumber_72 rfl ?_
  refine mj_bget C lF_X5_38 (sR1 hB) rfl dX5_readNumber_73 ?_
  refine mj_aload_n C dX5_readNumber_76 rfl ?_
  refine mj_bget C lF_X5_35 (sR1 hB) rfl dX5_readNumber_77 ?_
  refine mj_isub C dX5_readNumber_80 ?_
  refine mj_iconst (v := 4) C dX5_readNumber_81 (by decide) ?_
  refine mj_icmp_gt (tgt := 89) C dX5_readNumber_82 (by decide) (fun c9 => ?_) (fun c9 => ?_)
  · replace h := mj_if_t c9 h
    refine mj_iconst (v := 4) C dX5_readNumber_89 (by decide) ?_
    obtain ⟨m10, hm10, h⟩ := mj_let_o h
    refine mj_bput C lF_X5_32 fP_6_5 (vp_nar_int _) rfl (sR1 hB) rfl dX5_readNumber_90 hm10 ?_
    cases h
    exact mj_vret C hT dX5_readNumber_93 ⟨rfl, rfl, mj_bv _⟩
  · replace h := mj_if_f c9 h
    refine mj_iconst (v := 2) C dX5_readNumber_85 (by decide) ?_
    refine mj_goto (tgt := 90) C dX5_readNumber_86 (by decide) ?_
    obtain ⟨m11, hm11, h⟩ := mj_let_o h
    refine mj_bput C lF_X5_32 fP_6_5 (vp_nar_int _) rfl (sR1 hB) rfl dX5_readNumber_90 hm11 ?_
    cases h
    exact mj_vret C hT dX5_readNumber_93 ⟨rfl, rfl, mj_bv _⟩
def f_X5_readNumber (m : mj_m) : Option (mj_m) := mj_let (mj_wrs m 1 8 0) (fun m12 => mj_b1 (f_X5_readNumber_L5 mj_fu m12) (fun m13 => f_X5_readNumber_J71 m13))
set_option maxHeartbeats 4000000 in
set_option maxRecDepth 20000 in
theorem C_X5_readNumber {G : mj_G} {β : Nat} {M : mj_M} {m : mj_m} {m0 : mj_m} (hB : mj_isR G β) (h : f_X5_readNumber m = some m0) : mj_S1 yX5_readNumber cX5_readNumber 1 none 2 G [mj_r (β, 1)] (va_up M β m) none (va_up M β m0) := by
  refine mj_intro (by decide) (Nat.le_of_ble_eq_true rfl) ?_
  intro κ C hG hR hT
  subst hG
  have C : mj_C κ cX5_readNumber 1 RX5 := C
  show mj_R κ (mj_F κ (fun r M' => r = none ∧ M' = (va_up M β m0) ∧ mj_bb none none)) 0 [some (mj_r (β, 1))] [] (va_up M β m)
  unfold f_X5_readNumber at h
  refine mj_aload_n C dX5_readNumber_0 rfl ?_
  refine mj_iconst (v := 0) C dX5_readNumber_1 (by decide) ?_
  obtain ⟨m12, hm12, h⟩ := mj_let_o h
  refine mj_bput C lF_X5_41 fP_6_8 (vp_nar_int _) rfl (sR1 hB) rfl dX5_readNumber_2 hm12 ?_
  obtain ⟨m13, hl14, h⟩ := mj_b1_o h
  refine mj_sub (L' := [some (mj_r (β, 1))]) ⟨rfl, trivial⟩ ?_
  refine C_X5_readNumber_L5 C hB hR _ _ _ hl14 ?_
  refine mj_sub (L' := [some (mj_r (β, 1))]) ⟨rfl, trivial⟩ ?_
  exact C_X5_readNumber_J71 C hB hR hT h
def f_X5_nextToken_L8 : Nat → mj_m → Option (mj_m)
  | 0, _ => none
  | n + 1, m => if m 1 1 ≤ m 1 6 then (some m) else (mj_chk (mj_ok (m 1 6) 400) (mj_let (f_X5_isBlank (m 2 (mj_cl (m 1 6)))) (fun r3 => if r3 = 0 then (some m) else (mj_let (mj_wrs m 1 6 ((m 1 6) + 1)) (fun m6 => f_X5_nextToken_L8 n m6)))))
set_option maxHeartbeats 4000000 in
set_option maxRecDepth 20000 in
theorem C_X5_nextToken_L8 {κ : mj_K} {Q : State → Prop} {β : Nat} {M : mj_M} (C : mj_C κ cX5_nextToken 1 RX5) (hB : mj_isR (mj_g κ) β) (hR : mj_dp κ 6) : ∀ (n : Nat) (m : mj_m) (mo : mj_m), f_X5_nextToken_L8 n m = some mo → (mj_R κ Q 47 [some (mj_r (β, 1))] [] (va_up M β mo)) → mj_R κ Q 8 [some (mj_r (β, 1))] [] (va_up M β m) := by
  intro n
  induction n with
  | zero =>
    intro m mo h
    cases h
  | succ n ih =>
    intro m mo h hx47
    rw [f_X5_nextToken_L8] at h
    refine mj_aload_n C dX5_nextToken_8 rfl ?_
    refine mj_bget C lF_X5_35 (sR1 hB) rfl dX5_nextToken_9 ?_
    refine mj_aload_n C dX5_nextToken_12 rfl ?_
    refine mj_bget C lF_X5_15 (sR1 hB) rfl dX5_nextToken_13 ?_
    refine mj_icmp_ge (tgt := 47) C dX5_nextToken_16 (by decide) (fun c1 => ?_) (fun c1 => ?_)
    · replace h := mj_if_t c1 h
      cases h
      refine mj_sub ?_ (hx47)
      exact ⟨rfl, trivial⟩
    · replace h := mj_if_f c1 h
      refine mj_aload_n C dX5_nextToken_19 rfl ?_
      refine mj_getr (r := (β, 2)) C lF_X5_11 (sR1 hB) rfl dX5_nextToken_20 ?_
      refine mj_aload_n C dX5_nextToken_23 rfl ?_
      refine mj_bget C lF_X5_35 (sR1 hB) rfl dX5_nextToken_24 ?_
      obtain ⟨k2, h⟩ := mj_chk_o h
      refine mj_bald C (sR2 hB) k2 rfl dX5_nextToken_27 ?_
      obtain ⟨r3, er3, h⟩ := mj_let_o h
      refine mj_callS1 (av := [.inl (m 2 (mj_cl (m 1 6)))]) C lM_X5_75 lS_X5_isBlank rfl (C_X5_isBlank  er3) (mj_rmok hR (by decide) (by decide)) rfl (Nat.le_of_ble_eq_true rfl) dX5_nextToken_28 (fun hb4 => ?_)
      refine mj_if_eq (tgt := 47) C dX5_nextToken_31 (by decide) (fun c5 => ?_) (fun c5 => ?_)
      · replace h := mj_if_t c5 h
        cases h
        refine mj_sub ?_ (hx47)
        exact ⟨rfl, trivial⟩
      · replace h := mj_if_f c5 h
        refine mj_aload_n C dX5_nextToken_34 rfl ?_
        refine mj_dup C dX5_nextToken_35 ?_
        refine mj_bget C lF_X5_35 (sR1 hB) rfl dX5_nextToken_36 ?_
        refine mj_iconst (v := 1) C dX5_nextToken_39 (by decide) ?_
        refine mj_iadd C dX5_nextToken_40 ?_
        obtain ⟨m6, hm6, h⟩ := mj_let_o h
        refine mj_bput C lF_X5_35 fP_6_6 (vp_nar_int _) rfl (sR1 hB) rfl dX5_nextToken_41 hm6 ?_
        refine mj_goto (tgt := 8) C dX5_nextToken_44 (by decide) ?_
        refine mj_sub (L' := [some (mj_r (β, 1))]) ⟨rfl, trivial⟩ ?_
        exact ih _ _ h hx47
def f_X5_nextToken_J138 (s0 : Int32) (m : mj_m) : Option (mj_m) := mj_let (mj_wrs m 1 5 s0) (fun m7 => mj_let (mj_wrs m7 1 7 ((m7 1 7) + 1)) (fun m8 => some m8))
set_option maxHeartbeats 4000000 in
set_option maxRecDepth 20000 in
theorem C_X5_nextToken_J138 {κ : mj_K} {β : Nat} {M : mj_M} {s0 : Int32} {m : mj_m} {m0 : mj_m} (C : mj_C κ cX5_nextToken 1 RX5) (hB : mj_isR (mj_g κ) β) (hR : mj_dp κ 6) (hT : mj_rt κ = none) (h : f_X5_nextToken_J138 s0 m = some m0) : mj_R κ (mj_F κ (fun r M' => r = none ∧ M' = (va_up M β m0) ∧ mj_bb none none)) 138 [some (mj_r (β, 1))] [.inl s0, mj_r (β, 1)] (va_up M β m) := by
  unfold f_X5_nextToken_J138 at h
  obtain ⟨m7, hm7, h⟩ := mj_let_o h
  refine mj_bput C lF_X5_32 fP_6_5 (vp_nar_int _) rfl (sR1 hB) rfl dX5_nextToken_138 hm7 ?_
  refine mj_aload_n C dX5_nextToken_141 rfl ?_
  refine mj_dup C dX5_nextToken_142 ?_
  refine mj_bget C lF_X5_38 (sR1 hB) rfl dX5_nextToken_143 ?_
  refine mj_iconst (v := 1) C dX5_nextToken_146 (by decide) ?_
  refine mj_iadd C dX5_nextToken_147 ?_
  obtain ⟨m8, hm8, h⟩ := mj_let_o h
  refine mj_bput C lF_X5_38 fP_6_7 (vp_nar_int _) rfl (sR1 hB) rfl dX5_nextToken_148 hm8 ?_
  cases h
  exact mj_vret C hT dX5_nextToken_151 ⟨rfl, rfl, mj_bv _⟩
def f_X5_nextToken_J47 (m : mj_m) : Option (mj_m) := mj_let (mj_wrs m 1 7 (m 1 6)) (fun m9 => if m9 1 6 < m9 1 1 then (mj_chk (mj_ok (m9 1 6) 400) (mj_let (f_X5_isLetter (m9 2 (mj_cl (m9 1 6)))) (fun r12 => if r12 = 0 then (mj_chk (mj_ok (m9 1 6) 400) (mj_let (f_X5_isDigit (m9 2 (mj_cl (m9 1 6)))) (fun r16 => if r16 = 0 then (mj_chk (mj_ok (m9 1 6) 400) (if m9 2 (mj_cl (m9 1 6)) = 59 then (f_X5_nextToken_J138 3 m9) else (f_X5_nextToken_J138 4 m9))) else (mj_b1 (f_X5_readNumber m9) (fun m21 => some m21))))) else (mj_b1 (f_X5_readWord m9) (fun m23 => some m23))))) else (mj_let (mj_wrs m9 1 5 0) (fun m25 => some m25)))
set_option maxHeartbeats 4000000 in
set_option maxRecDepth 20000 in
theorem C_X5_nextToken_J47 {κ : mj_K} {β : Nat} {M : mj_M} {m : mj_m} {m0 : mj_m} (C : mj_C κ cX5_nextToken 1 RX5) (hB : mj_isR (mj_g κ) β) (hR : mj_dp κ 6) (hT : mj_rt κ = none) (h : f_X5_nextToken_J47 m = some m0) : mj_R κ (mj_F κ (fun r M' => r = none ∧ M' = (va_up M β m0) ∧ mj_bb none none)) 47 [some (mj_r (β, 1))] [] (va_up M β m) := by
  unfold f_X5_nextToken_J47 at h
  refine mj_aload_n C dX5_nextToken_47 rfl ?_
  refine mj_aload_n C dX5_nextToken_48 rfl ?_
  refine mj_bget C lF_X5_35 (sR1 hB) rfl dX5_nextToken_49 ?_
  obtain ⟨m9, hm9, h⟩ := mj_let_o h
  refine mj_bput C lF_X5_38 fP_6_7 (vp_nar_int _) rfl (sR1 hB) rfl dX5_nextToken_52 hm9 ?_
  refine mj_aload_n C dX5_nextToken_55 rfl ?_
  refine mj_bget C lF_X5_35 (sR1 hB) rfl dX5_nextToken_56 ?_
  refine mj_aload_n C dX5_nextToken_59 rfl ?_
  refine mj_bget C lF_X5_15 (sR1 hB) rfl dX5_nextToken_60 ?_
  refine mj_icmp_lt (tgt := 74) C dX5_nextToken_63 (by decide) (fun c10 => ?_) (fun c10 => ?_)
  · replace h := mj_if_t c10 h
    refine mj_aload_n C dX5_nextToken_74 rfl ?_
    refine mj_getr (r := (β, 2)) C lF_X5_11 (sR1 hB) rfl dX5_nextToken_75 ?_
    refine mj_aload_n C dX5_nextToken_78 rfl ?_
    refine mj_bget C lF_X5_35 (sR1 hB) rfl dX5_nextToken_79 ?_
    obtain ⟨k11, h⟩ := mj_chk_o h
    refine mj_bald C (sR2 hB) k11 rfl dX5_nextToken_82 ?_
    obtain ⟨r12, er12, h⟩ := mj_let_o h
    refine mj_callS1 (av := [.inl (m9 2 (mj_cl (m9 1 6)))]) C lM_X5_79 lS_X5_isLetter rfl (C_X5_isLetter  er12) (mj_rmok hR (by decide) (by decide)) rfl (Nat.le_of_ble_eq_true rfl) dX5_nextToken_83 (fun hb13 => ?_)
    refine mj_if_eq (tgt := 96) C dX5_nextToken_86 (by decide) (fun c14 => ?_) (fun c14 => ?_)
    · replace h := mj_if_t c14 h
      refine mj_aload_n C dX5_nextToken_96 rfl ?_
      refine mj_getr (r := (β, 2)) C lF_X5_11 (sR1 hB) rfl dX5_nextToken_97 ?_
      refine mj_aload_n C dX5_nextToken_100 rfl ?_
      refine mj_bget C lF_X5_35 (sR1 hB) rfl dX5_nextToken_101 ?_
      obtain ⟨k15, h⟩ := mj_chk_o h
      refine mj_bald C (sR2 hB) k15 rfl dX5_nextToken_104 ?_
      obtain ⟨r16, er16, h⟩ := mj_let_o h
      refine mj_callS1 (av := [.inl (m9 2 (mj_cl (m9 1 6)))]) C lM_X5_85 lS_X5_isDigit rfl (C_X5_isDigit  er16) (mj_rmok hR (by decide) (by decide)) rfl (Nat.le_of_ble_eq_true rfl) dX5_nextToken_105 (fun hb17 => ?_)
      refine mj_if_eq (tgt := 118) C dX5_nextToken_108 (by decide) (fun c18 => ?_) (fun c18 => ?_)
      · replace h := mj_if_t c18 h
        refine mj_aload_n C dX5_nextToken_118 rfl ?_
        refine mj_aload_n C dX5_nextToken_119 rfl ?_
        refine mj_getr (r := (β, 2)) C lF_X5_11 (sR1 hB) rfl dX5_nextToken_120 ?_
        refine mj_aload_n C dX5_nextToken_123 rfl ?_
        refine mj_bget C lF_X5_35 (sR1 hB) rfl dX5_nextToken_124 ?_
        obtain ⟨k19, h⟩ := mj_chk_o h
        refine mj_bald C (sR2 hB) k19 rfl dX5_nextToken_127 ?_
        refine mj_bipush (v := 59) C dX5_nextToken_128 (by decide) ?_
        refine mj_icmp_ne (tgt := 137) C dX5_nextToken_130 (by decide) (fun c20 => ?_) (fun c20 => ?_)
        · replace h := mj_if_f c20 h
          refine mj_iconst (v := 4) C dX5_nextToken_137 (by decide) ?_
          refine mj_sub (L' := [some (mj_r (β, 1))]) ⟨rfl, trivial⟩ ?_
          exact C_X5_nextToken_J138 C hB hR hT h
        · replace h := mj_if_t c20 h
          refine mj_iconst (v := 3) C dX5_nextToken_133 (by decide) ?_
          refine mj_goto (tgt := 138) C dX5_nextToken_134 (by decide) ?_
          refine mj_sub (L' := [some (mj_r (β, 1))]) ⟨rfl, trivial⟩ ?_
          exact C_X5_nextToken_J138 C hB hR hT h
      · replace h := mj_if_f c18 h
        refine mj_aload_n C dX5_nextToken_111 rfl ?_
        obtain ⟨m21, em21, h⟩ := mj_b1_o h
        refine mj_callV0 (av := []) C lM_X5_88 lV_X5_readNumber (sR1 hB) ⟨_, rfl, rfl⟩ rfl (C_X5_readNumber hB em21) (mj_rmok hR (by decide) (by decide)) rfl (Nat.le_of_ble_eq_true rfl) dX5_nextToken_112 ?_
        refine mj_goto (tgt := 151) C dX5_nextToken_115 (by decide) ?_
        cases h
        exact mj_vret C hT dX5_nextToken_151 ⟨rfl, rfl, mj_bv _⟩
    · replace h := mj_if_f c14 h
      refine mj_aload_n C dX5_nextToken_89 rfl ?_
      obtain ⟨m23, em23, h⟩ := mj_b1_o h
      refine mj_callV0 (av := []) C lM_X5_82 lV_X5_readWord (sR1 hB) ⟨_, rfl, rfl⟩ rfl (C_X5_readWord hB em23) (mj_rmok hR (by decide) (by decide)) rfl (Nat.le_of_ble_eq_true rfl) dX5_nextToken_90 ?_
      refine mj_goto (tgt := 151) C dX5_nextToken_93 (by decide) ?_
      cases h
      exact mj_vret C hT dX5_nextToken_151 ⟨rfl, rfl, mj_bv _⟩
  · replace h := mj_if_f c10 h
    refine mj_aload_n C dX5_nextToken_66 rfl ?_
    refine mj_iconst (v := 0) C dX5_nextToken_67 (by decide) ?_
    obtain ⟨m25, hm25, h⟩ := mj_let_o h
    refine mj_bput C lF_X5_32 fP_6_5 (vp_nar_int _) rfl (sR1 hB) rfl dX5_nextToken_68 hm25 ?_
    refine mj_goto (tgt := 151) C dX5_nextToken_71 (by decide) ?_
    cases h
    exact mj_vret C hT dX5_nextToken_151 ⟨rfl, rfl, mj_bv _⟩
def f_X5_nextToken (m : mj_m) : Option (mj_m) := mj_let (mj_wrs m 1 6 (m 1 7)) (fun m26 => mj_b1 (f_X5_nextToken_L8 mj_fu m26) (fun m27 => f_X5_nextToken_J47 m27))
set_option maxHeartbeats 4000000 in
set_option maxRecDepth 20000 in
theorem C_X5_nextToken {G : mj_G} {β : Nat} {M : mj_M} {m : mj_m} {m0 : mj_m} (hB : mj_isR G β) (h : f_X5_nextToken m = some m0) : mj_S1 yX5_nextToken cX5_nextToken 1 none 6 G [mj_r (β, 1)] (va_up M β m) none (va_up M β m0) := by
  refine mj_intro (by decide) (Nat.le_of_ble_eq_true rfl) ?_
  intro κ C hG hR hT
  subst hG
  have C : mj_C κ cX5_nextToken 1 RX5 := C
  show mj_R κ (mj_F κ (fun r M' => r = none ∧ M' = (va_up M β m0) ∧ mj_bb none none)) 0 [some (mj_r (β, 1))] [] (va_up M β m)
  unfold f_X5_nextToken at h
  refine mj_aload_n C dX5_nextToken_0 rfl ?_
  refine mj_aload_n C dX5_nextToken_1 rfl ?_
  refine mj_bget C lF_X5_38 (sR1 hB) rfl dX5_nextToken_2 ?_
  obtain ⟨m26, hm26, h⟩ := mj_let_o h
  refine mj_bput C lF_X5_35 fP_6_6 (vp_nar_int _) rfl (sR1 hB) rfl dX5_nextToken_5 hm26 ?_
  obtain ⟨m27, hl28, h⟩ := mj_b1_o h
  refine mj_sub (L' := [some (mj_r (β, 1))]) ⟨rfl, trivial⟩ ?_
  refine C_X5_nextToken_L8 C hB hR _ _ _ hl28 ?_
  refine mj_sub (L' := [some (mj_r (β, 1))]) ⟨rfl, trivial⟩ ?_
  exact C_X5_nextToken_J47 C hB hR hT h
def f_X5_noteFault (a1 : Int32) (m : mj_m) : mj_m := mj_let (mj_wrs m 1 3 a1) (fun m1 => mj_let (mj_wrs m1 1 4 (m1 1 6)) (fun m2 => m2))
set_option maxHeartbeats 4000000 in
set_option maxRecDepth 20000 in
theorem C_X5_noteFault {G : mj_G} {β : Nat} {M : mj_M} {a1 : Int32} {m : mj_m} {m0 : mj_m} (hB : mj_isR G β) (h : f_X5_noteFault a1 m = m0) : mj_S1 yX5_noteFault cX5_noteFault 2 none 0 G [mj_r (β, 1), .inl a1] (va_up M β m) none (va_up M β m0) := by
  refine mj_intro (by decide) (Nat.le_of_ble_eq_true rfl) ?_
  intro κ C hG hR hT
  subst hG
  have C : mj_C κ cX5_noteFault 2 RX5 := C
  show mj_R κ (mj_F κ (fun r M' => r = none ∧ M' = (va_up M β m0) ∧ mj_bb none none)) 0 [some (mj_r (β, 1)), some (.inl a1)] [] (va_up M β m)
  unfold f_X5_noteFault at h
  refine mj_aload_n C dX5_noteFault_0 rfl ?_
  refine mj_iload_n C dX5_noteFault_1 rfl ?_
  obtain ⟨m1, hm1, h⟩ := mj_let_o h
  refine mj_bput C lF_X5_26 fP_6_3 (vp_nar_int _) rfl (sR1 hB) rfl dX5_noteFault_2 hm1 ?_
  refine mj_aload_n C dX5_noteFault_5 rfl ?_
  refine mj_aload_n C dX5_noteFault_6 rfl ?_
  refine mj_bget C lF_X5_35 (sR1 hB) rfl dX5_noteFault_7 ?_
  obtain ⟨m2, hm2, h⟩ := mj_let_o h
  refine mj_bput C lF_X5_29 fP_6_4 (vp_nar_int _) rfl (sR1 hB) rfl dX5_noteFault_10 hm2 ?_
  cases h
  exact mj_vret C hT dX5_noteFault_13 ⟨rfl, rfl, mj_bv _⟩
def f_X5_mostOf (a1 : Int32) : Int32 := if a1 = 0 then (9999) else if a1 = 1 then (9999) else if a1 = 2 then ((-1)) else if a1 = 3 then ((-1)) else if a1 = 4 then ((-1)) else if a1 = 5 then (255) else if a1 = 6 then ((-1)) else if a1 = 7 then ((-1)) else if a1 = 8 then (255) else if a1 = 9 then ((-1)) else if a1 = 10 then (60) else if a1 = 11 then ((-1)) else if a1 = 12 then (60) else ((-1))
set_option maxHeartbeats 4000000 in
set_option maxRecDepth 20000 in
theorem C_X5_mostOf {G : mj_G} {M : mj_M} {a1 : Int32} {x0 : Int32} (h : f_X5_mostOf a1 = x0) : mj_S1 yX5_mostOf cX5_mostOf 1 (some .int) 0 G [.inl a1] M (some (.inl x0)) M := by
  refine mj_intro (by decide) (Nat.le_of_ble_eq_true rfl) ?_
  intro κ C hG hR hT
  subst hG
  have C : mj_C κ cX5_mostOf 1 RX5 := C
  show mj_R κ (mj_F κ (fun r M' => r = (some (.inl x0)) ∧ M' = M ∧ mj_bb (some .int) (some (.inl x0)))) 0 [some (.inl a1)] [] M
  unfold f_X5_mostOf at h
  refine mj_iload_n C dX5_mostOf_0 rfl ?_
  by_cases c1 : a1 = 0
  · replace h := mj_if_t c1 h
    refine mj_tin (off := 67) (tgt := 68) C dX5_mostOf_1 (by rw [c1]; decide) (by rw [c1]; decide) (by rw [c1]; decide) (by decide) ?_
    refine mj_sipush (v := 9999) C dX5_mostOf_68 (by decide) ?_
    cases h
    exact mj_iret C hT (vp_nar_int _) dX5_mostOf_71 ⟨rfl, rfl, mj_bi _⟩
  replace h := mj_if_f c1 h
  by_cases c2 : a1 = 1
  · replace h := mj_if_t c2 h
    refine mj_tin (off := 71) (tgt := 72) C dX5_mostOf_1 (by rw [c2]; decide) (by rw [c2]; decide) (by rw [c2]; decide) (by decide) ?_
    refine mj_sipush (v := 9999) C dX5_mostOf_72 (by decide) ?_
    cases h
    exact mj_iret C hT (vp_nar_int _) dX5_mostOf_75 ⟨rfl, rfl, mj_bi _⟩
  replace h := mj_if_f c2 h
  by_cases c3 : a1 = 2
  · replace h := mj_if_t c3 h
    refine mj_tin (off := 89) (tgt := 90) C dX5_mostOf_1 (by rw [c3]; decide) (by rw [c3]; decide) (by rw [c3]; decide) (by decide) ?_
    refine mj_iconst (v := (-1)) C dX5_mostOf_90 (by decide) ?_
    cases h
    exact mj_iret C hT (vp_nar_int _) dX5_mostOf_91 ⟨rfl, rfl, mj_bi _⟩
  replace h := mj_if_f c3 h
  by_cases c4 : a1 = 3
  · replace h := mj_if_t c4 h
    refine mj_tin (off := 89) (tgt := 90) C dX5_mostOf_1 (by rw [c4]; decide) (by rw [c4]; decide) (by rw [c4]; decide) (by decide) ?_
    refine mj_iconst (v := (-1)) C dX5_mostOf_90 (by decide) ?_
    cases h
    exact mj_iret C hT (vp_nar_int _) dX5_mostOf_91 ⟨rfl, rfl, mj_bi _⟩
  replace h := mj_if_f c4 h
  by_cases c5 : a1 = 4
  · replace h := mj_if_t c5 h
    refine mj_tin (off := 89) (tgt := 90) C dX5_mostOf_1 (by rw [c5]; decide) (by rw [c5]; decide) (by rw [c5]; decide) (by decide) ?_
    refine mj_iconst (v := (-1)) C dX5_mostOf_90 (by decide) ?_
    cases h
    exact mj_iret C hT (vp_nar_int _) dX5_mostOf_91 ⟨rfl, rfl, mj_bi _⟩
  replace h := mj_if_f c5 h
  by_cases c6 : a1 = 5
  · replace h := mj_if_t c6 h
    refine mj_tin (off := 75) (tgt := 76) C dX5_mostOf_1 (by rw [c6]; decide) (by rw [c6]; decide) (by rw [c6]; decide) (by decide) ?_
    refine mj_sipush (v := 255) C dX5_mostOf_76 (by decide) ?_
    cases h
    exact mj_iret C hT (vp_nar_int _) dX5_mostOf_79 ⟨rfl, rfl, mj_bi _⟩
  replace h := mj_if_f c6 h
  by_cases c7 : a1 = 6
  · replace h := mj_if_t c7 h
    refine mj_tin (off := 89) (tgt := 90) C dX5_mostOf_1 (by rw [c7]; decide) (by rw [c7]; decide) (by rw [c7]; decide) (by decide) ?_
    refine mj_iconst (v := (-1)) C dX5_mostOf_90 (by decide) ?_
    cases h
    exact mj_iret C hT (vp_nar_int _) dX5_mostOf_91 ⟨rfl, rfl, mj_bi _⟩
  replace h := mj_if_f c7 h
  by_cases c8 : a1 = 7
  · replace h := mj_if_t c8 h
    refine mj_tin (off := 89) (tgt := 90) C dX5_mostOf_1 (by rw [c8]; decide) (by rw [c8]; decide) (by rw [c8]; decide) (by decide) ?_
    refine mj_iconst (v := (-1)) C dX5_mostOf_90 (by decide) ?_
    cases h
    exact mj_iret C hT (vp_nar_int _) dX5_mostOf_91 ⟨rfl, rfl, mj_bi _⟩
  replace h := mj_if_f c8 h
  by_cases c9 : a1 = 8
  · replace h := mj_if_t c9 h
    refine mj_tin (off := 79) (tgt := 80) C dX5_mostOf_1 (by rw [c9]; decide) (by rw [c9]; decide) (by rw [c9]; decide) (by decide) ?_
    refine mj_sipush (v := 255) C dX5_mostOf_80 (by decide) ?_
    cases h
    exact mj_iret C hT (vp_nar_int _) dX5_mostOf_83 ⟨rfl, rfl, mj_bi _⟩
  replace h := mj_if_f c9 h
  by_cases c10 : a1 = 9
  · replace h := mj_if_t c10 h
    refine mj_tin (off := 89) (tgt := 90) C dX5_mostOf_1 (by rw [c10]; decide) (by rw [c10]; decide) (by rw [c10]; decide) (by decide) ?_
    refine mj_iconst (v := (-1)) C dX5_mostOf_90 (by decide) ?_
    cases h
    exact mj_iret C hT (vp_nar_int _) dX5_mostOf_91 ⟨rfl, rfl, mj_bi _⟩
  replace h := mj_if_f c10 h
  by_cases c11 : a1 = 10
  · replace h := mj_if_t c11 h
    refine mj_tin (off := 83) (tgt := 84) C dX5_mostOf_1 (by rw [c11]; decide) (by rw [c11]; decide) (by rw [c11]; decide) (by decide) ?_
    refine mj_bipush (v := 60) C dX5_mostOf_84 (by decide) ?_
    cases h
    exact mj_iret C hT (vp_nar_int _) dX5_mostOf_86 ⟨rfl, rfl, mj_bi _⟩
  replace h := mj_if_f c11 h
  by_cases c12 : a1 = 11
  · replace h := mj_if_t c12 h
    refine mj_tin (off := 89) (tgt := 90) C dX5_mostOf_1 (by rw [c12]; decide) (by rw [c12]; decide) (by rw [c12]; decide) (by decide) ?_
    refine mj_iconst (v := (-1)) C dX5_mostOf_90 (by decide) ?_
    cases h
    exact mj_iret C hT (vp_nar_int _) dX5_mostOf_91 ⟨rfl, rfl, mj_bi _⟩
  replace h := mj_if_f c12 h
  by_cases c13 : a1 = 12
  · replace h := mj_if_t c13 h
    refine mj_tin (off := 86) (tgt := 87) C dX5_mostOf_1 (by rw [c13]; decide) (by rw [c13]; decide) (by rw [c13]; decide) (by decide) ?_
    refine mj_bipush (v := 60) C dX5_mostOf_87 (by decide) ?_
    cases h
    exact mj_iret C hT (vp_nar_int _) dX5_mostOf_89 ⟨rfl, rfl, mj_bi _⟩
  replace h := mj_if_f c13 h
  refine mj_tout (tgt := 90) C dX5_mostOf_1 (by have := mj_neL 0 (by decide) c1; have := mj_neL 1 (by decide) c2; have := mj_neL 2 (by decide) c3; have := mj_neL 3 (by decide) c4; have := mj_neL 4 (by decide) c5; have := mj_neL 5 (by decide) c6; have := mj_neL 6 (by decide) c7; have := mj_neL 7 (by decide) c8; have := mj_neL 8 (by decide) c9; have := mj_neL 9 (by decide) c10; have := mj_neL 10 (by decide) c11; have := mj_neL 11 (by decide) c12; have := mj_neL 12 (by decide) c13; omega) (by decide) ?_
  refine mj_iconst (v := (-1)) C dX5_mostOf_90 (by decide) ?_
  cases h
  exact mj_iret C hT (vp_nar_int _) dX5_mostOf_91 ⟨rfl, rfl, mj_bi _⟩
def f_X5_leastOf (a1 : Int32) : Int32 := if a1 = 10 then (1) else (if a1 = 12 then (1) else (0))
set_option maxHeartbeats 4000000 in
set_option maxRecDepth 20000 in
theorem C_X5_leastOf {G : mj_G} {M : mj_M} {a1 : Int32} {x0 : Int32} (h : f_X5_leastOf a1 = x0) : mj_S1 yX5_leastOf cX5_leastOf 1 (some .int) 0 G [.inl a1] M (some (.inl x0)) M := by
  refine mj_intro (by decide) (Nat.le_of_ble_eq_true rfl) ?_
  intro κ C hG hR hT
  subst hG
  have C : mj_C κ cX5_leastOf 1 RX5 := C
  show mj_R κ (mj_F κ (fun r M' => r = (some (.inl x0)) ∧ M' = M ∧ mj_bb (some .int) (some (.inl x0)))) 0 [some (.inl a1)] [] M
  unfold f_X5_leastOf at h
  refine mj_iload_n C dX5_leastOf_0 rfl ?_
  refine mj_bipush (v := 10) C dX5_leastOf_1 (by decide) ?_
  refine mj_icmp_eq (tgt := 12) C dX5_leastOf_3 (by decide) (fun c1 => ?_) (fun c1 => ?_)
  · replace h := mj_if_t c1 h
    refine mj_iconst (v := 1) C dX5_leastOf_12 (by decide) ?_
    refine mj_goto (tgt := 17) C dX5_leastOf_13 (by decide) ?_
    cases h
    exact mj_iret C hT (vp_nar_int _) dX5_leastOf_17 ⟨rfl, rfl, mj_bi _⟩
  · replace h := mj_if_f c1 h
    refine mj_iload_n C dX5_leastOf_6 rfl ?_
    refine mj_bipush (v := 12) C dX5_leastOf_7 (by decide) ?_
    refine mj_icmp_ne (tgt := 16) C dX5_leastOf_9 (by decide) (fun c2 => ?_) (fun c2 => ?_)
    · replace h := mj_if_f c2 h
      refine mj_iconst (v := 0) C dX5_leastOf_16 (by decide) ?_
      cases h
      exact mj_iret C hT (vp_nar_int _) dX5_leastOf_17 ⟨rfl, rfl, mj_bi _⟩
    · replace h := mj_if_t c2 h
      refine mj_iconst (v := 1) C dX5_leastOf_12 (by decide) ?_
      refine mj_goto (tgt := 17) C dX5_leastOf_13 (by decide) ?_
      cases h
      exact mj_iret C hT (vp_nar_int _) dX5_leastOf_17 ⟨rfl, rfl, mj_bi _⟩
def f_X5_readLine_J98 (l1 : Int32) (l2 : Int32) (m : mj_m) : Option (mj_m) := if m 1 5 = 3 then (mj_b1 (f_X4_add 3 l1 l2 m) (fun m2 => some m2)) else (mj_let (f_X5_noteFault 1 m) (fun m4 => some m4))
set_option maxHeartbeats 4000000 in
set_option maxRecDepth 20000 in
theorem C_X5_readLine_J98 {κ : mj_K} {β : Nat} {M : mj_M} {l1 : Int32} {l2 : Int32} {m : mj_m} {m0 : mj_m} (C : mj_C κ cX5_readLine 3 RX5) (hB : mj_isR (mj_g κ) β) (hR : mj_dp κ 7) (hT : mj_rt κ = none) (h : f_X5_readLine_J98 l1 l2 m = some m0) : mj_R κ (mj_F κ (fun r M' => r = none ∧ M' = (va_up M β m0) ∧ mj_bb none none)) 98 [some (mj_r (β, 1)), some (.inl l1), some (.inl l2)] [] (va_up M β m) := by
  unfold f_X5_readLine_J98 at h
  refine mj_aload_n C dX5_readLine_98 rfl ?_
  refine mj_bget C lF_X5_32 (sR1 hB) rfl dX5_readLine_99 ?_
  refine mj_iconst (v := 3) C dX5_readLine_102 (by decide) ?_
  refine mj_icmp_eq (tgt := 112) C dX5_readLine_103 (by decide) (fun c1 => ?_) (fun c1 => ?_)
  · replace h := mj_if_t c1 h
    refine mj_aload_n C dX5_readLine_112 rfl ?_
    refine mj_getr (r := (β, 3)) C lF_X5_22 (sR1 hB) rfl dX5_readLine_113 ?_
    refine mj_iload_n C dX5_readLine_116 rfl ?_
    refine mj_iload_n C dX5_readLine_117 rfl ?_
    obtain ⟨m2, em2, h⟩ := mj_b1_o h
    refine mj_callV0 (av := [.inl l1, .inl l2]) C lM_X5_71 lV_X4_add (sR3 hB) ⟨_, rfl, rfl⟩ rfl (C_X4_add (sRp3 hB) em2) (mj_rmok hR (by decide) (by decide)) rfl (Nat.le_of_ble_eq_true rfl) dX5_readLine_118 ?_
    cases h
    exact mj_vret C hT dX5_readLine_121 ⟨rfl, rfl, mj_bv _⟩
  · replace h := mj_if_f c1 h
    refine mj_aload_n C dX5_readLine_106 rfl ?_
    refine mj_iconst (v := 1) C dX5_readLine_107 (by decide) ?_
    obtain ⟨m4, em4, h⟩ := mj_let_o h
    refine mj_callV0 (av := [.inl 1]) C lM_X5_53 lV_X5_noteFault (sR1 hB) ⟨_, rfl, rfl⟩ rfl (C_X5_noteFault hB em4) (mj_rmok hR (by decide) (by decide)) rfl (Nat.le_of_ble_eq_true rfl) dX5_readLine_108 ?_
    cases h
    exact mj_vret C hT dX5_readLine_111 ⟨rfl, rfl, mj_bv _⟩
def f_X5_readLine (m : mj_m) : Option (mj_m) := if m 1 5 = 1 then (if m 3 2 < 24 then (mj_let (m 1 8) (fun x8 => mj_b1 (f_X5_nextToken m) (fun m9 => mj_let (f_X5_mostOf x8) (fun r11 => if r11 = (-1) then (f_X5_readLine_J98 x8 0 m9) else (if m9 1 5 = 2 then (mj_let (f_X5_leastOf x8) (fun r15 => mj_let (f_X5_mostOf x8) (fun r17 => mj_let (f_X10_isWithin (m9 1 8) r15 r17) (fun r19 => if r19 = 0 then (mj_let (f_X5_noteFault 2 m9) (fun m25 => some m25)) else (mj_let (m9 1 8) (fun x22 => mj_b1 (f_X5_nextToken m9) (fun m23 => f_X5_readLine_J98 x8 x22 m23))))))) else (mj_let (f_X5_noteFault 1 m9) (fun m27 => some m27))))))) else (mj_let (f_X5_noteFault 3 m) (fun m29 => some m29))) else (mj_let (f_X5_noteFault 1 m) (fun m31 => some m31))
set_option maxHeartbeats 4000000 in
set_option maxRecDepth 20000 in
theorem C_X5_readLine {G : mj_G} {β : Nat} {M : mj_M} {m : mj_m} {m0 : mj_m} (hB : mj_isR G β) (h : f_X5_readLine m = some m0) : mj_S1 yX5_readLine cX5_readLine 3 none 7 G [mj_r (β, 1)] (va_up M β m) none (va_up M β m0) := by
  refine mj_intro (by decide) (Nat.le_of_ble_eq_true rfl) ?_
  intro κ C hG hR hT
  subst hG
  have C : mj_C κ cX5_readLine 3 RX5 := C
  show mj_R κ (mj_F κ (fun r M' => r = none ∧ M' = (va_up M β m0) ∧ mj_bb none none)) 0 [some (mj_r (β, 1)), none, none] [] (va_up M β m)
  unfold f_X5_readLine at h
  refine mj_aload_n C dX5_readLine_0 rfl ?_
  refine mj_bget C lF_X5_32 (sR1 hB) rfl dX5_readLine_1 ?_
  refine mj_iconst (v := 1) C dX5_readLine_4 (by decide) ?_
  refine mj_icmp_eq (tgt := 14) C dX5_readLine_5 (by decide) (fun c6 => ?_) (fun c6 => ?_)
  · replace h := mj_if_t c6 h
    refine mj_aload_n C dX5_readLine_14 rfl ?_
    refine mj_getr (r := (β, 3)) C lF_X5_22 (sR1 hB) rfl dX5_readLine_15 ?_
    refine mj_bget C lF_X5_57 (sR3 hB) rfl dX5_readLine_18 ?_
    refine mj_bipush (v := 24) C dX5_readLine_21 (by decide) ?_
    refine mj_icmp_lt (tgt := 32) C dX5_readLine_23 (by decide) (fun c7 => ?_) (fun c7 => ?_)
    · replace h := mj_if_t c7 h
      refine mj_aload_n C dX5_readLine_32 rfl ?_
      refine mj_bget C lF_X5_41 (sR1 hB) rfl dX5_readLine_33 ?_
      obtain ⟨x8, hx8, h⟩ := mj_let_o h
      refine mj_nm hx8 ?_
      refine mj_istore_n (L2 := [some (mj_r (β, 1)), some (.inl x8), none]) C dX5_readLine_36 (Nat.le_of_ble_eq_true rfl) rfl ?_
      refine mj_iconst (v := 0) C dX5_readLine_37 (by decide) ?_
      refine mj_istore_n (L2 := [some (mj_r (β, 1)), some (.inl x8), some (.inl 0)]) C dX5_readLine_38 (Nat.le_of_ble_eq_true rfl) rfl ?_
      refine mj_aload_n C dX5_readLine_39 rfl ?_
      obtain ⟨m9, em9, h⟩ := mj_b1_o h
      refine mj_callV0 (av := []) C lM_X5_47 lV_X5_nextToken (sR1 hB) ⟨_, rfl, rfl⟩ rfl (C_X5_nextToken hB em9) (mj_rmok hR (by decide) (by decide)) rfl (Nat.le_of_ble_eq_true rfl) dX5_readLine_40 ?_
      refine mj_iload_n C dX5_readLine_43 rfl ?_
      obtain ⟨r11, er11, h⟩ := mj_let_o h
      refine mj_callS1 (av := [.inl x8]) C lM_X5_60 lS_X5_mostOf rfl (C_X5_mostOf  er11) (mj_rmok hR (by decide) (by decide)) rfl (Nat.le_of_ble_eq_true rfl) dX5_readLine_44 (fun hb12 => ?_)
      refine mj_iconst (v := (-1)) C dX5_readLine_47 (by decide) ?_
      refine mj_icmp_eq (tgt := 98) C dX5_readLine_48 (by decide) (fun c13 => ?_) (fun c13 => ?_)
      · replace h := mj_if_t c13 h
        refine mj_sub (L' := [some (mj_r (β, 1)), some (.inl x8), some (.inl 0)]) ⟨rfl, ⟨rfl, ⟨rfl, trivial⟩⟩⟩ ?_
        exact C_X5_readLine_J98 C hB hR hT h
      · replace h := mj_if_f c13 h
        refine mj_aload_n C dX5_readLine_51 rfl ?_
        refine mj_bget C lF_X5_32 (sR1 hB) rfl dX5_readLine_52 ?_
        refine mj_iconst (v := 2) C dX5_readLine_55 (by decide) ?_
        refine mj_icmp_eq (tgt := 65) C dX5_readLine_56 (by decide) (fun c14 => ?_) (fun c14 => ?_)
        · replace h := mj_if_t c14 h
          refine mj_aload_n C dX5_readLine_65 rfl ?_
          refine mj_bget C lF_X5_41 (sR1 hB) rfl dX5_readLine_66 ?_
          refine mj_iload_n C dX5_readLine_69 rfl ?_
          obtain ⟨r15, er15, h⟩ := mj_let_o h
          refine mj_callS1 (av := [.inl x8]) C lM_X5_64 lS_X5_leastOf rfl (C_X5_leastOf  er15) (mj_rmok hR (by decide) (by decide)) rfl (Nat.le_of_ble_eq_true rfl) dX5_readLine_70 (fun hb16 => ?_)
          refine mj_iload_n C dX5_readLine_73 rfl ?_
          obtain ⟨r17, er17, h⟩ := mj_let_o h
          refine mj_callS1 (av := [.inl x8]) C lM_X5_60 lS_X5_mostOf rfl (C_X5_mostOf  er17) (mj_rmok hR (by decide) (by decide)) rfl (Nat.le_of_ble_eq_true rfl) dX5_readLine_74 (fun hb18 => ?_)
          obtain ⟨r19, er19, h⟩ := mj_let_o h
          refine mj_callN1 (av := [.inl (m9 1 8), .inl r15, .inl r17]) C lN_X5_67 lS_X10_isWithin rfl (C_X10_isWithin  er19) (mj_rmok hR (by decide) (by decide)) rfl (Nat.le_of_ble_eq_true rfl) dX5_readLine_77 (fun hb20 => ?_)
          refine mj_if_ne (tgt := 89) C dX5_readLine_80 (by decide) (fun c21 => ?_) (fun c21 => ?_)
          · replace h := mj_if_f c21 h
            refine mj_aload_n C dX5_readLine_89 rfl ?_
            refine mj_bget C lF_X5_41 (sR1 hB) rfl dX5_readLine_90 ?_
            obtain ⟨x22, hx22, h⟩ := mj_let_o h
            refine mj_nm hx22 ?_
            refine mj_istore_n (L2 := [some (mj_r (β, 1)), some (.inl x8), some (.inl x22)]) C dX5_readLine_93 (Nat.le_of_ble_eq_true rfl) rfl ?_
            refine mj_aload_n C dX5_readLine_94 rfl ?_
            obtain ⟨m23, em23, h⟩ := mj_b1_o h
            refine mj_callV0 (av := []) C lM_X5_47 lV_X5_nextToken (sR1 hB) ⟨_, rfl, rfl⟩ rfl (C_X5_nextToken hB em23) (mj_rmok hR (by decide) (by decide)) rfl (Nat.le_of_ble_eq_true rfl) dX5_readLine_95 ?_
            refine mj_sub (L' := [some (mj_r (β, 1)), some (.inl x8), some (.inl x22)]) ⟨rfl, ⟨rfl, ⟨rfl, trivial⟩⟩⟩ ?_
            exact C_X5_readLine_J98 C hB hR hT h
          · replace h := mj_if_t c21 h
            refine mj_aload_n C dX5_readLine_83 rfl ?_
            refine mj_iconst (v := 2) C dX5_readLine_84 (by decide) ?_
            obtain ⟨m25, em25, h⟩ := mj_let_o h
            refine mj_callV0 (av := [.inl 2]) C lM_X5_53 lV_X5_noteFault (sR1 hB) ⟨_, rfl, rfl⟩ rfl (C_X5_noteFault hB em25) (mj_rmok hR (by decide) (by decide)) rfl (Nat.le_of_ble_eq_true rfl) dX5_readLine_85 ?_
            cases h
            exact mj_vret C hT dX5_readLine_88 ⟨rfl, rfl, mj_bv _⟩
        · replace h := mj_if_f c14 h
          refine mj_aload_n C dX5_readLine_59 rfl ?_
          refine mj_iconst (v := 1) C dX5_readLine_60 (by decide) ?_
          obtain ⟨m27, em27, h⟩ := mj_let_o h
          refine mj_callV0 (av := [.inl 1]) C lM_X5_53 lV_X5_noteFault (sR1 hB) ⟨_, rfl, rfl⟩ rfl (C_X5_noteFault hB em27) (mj_rmok hR (by decide) (by decide)) rfl (Nat.le_of_ble_eq_true rfl) dX5_readLine_61 ?_
          cases h
          exact mj_vret C hT dX5_readLine_64 ⟨rfl, rfl, mj_bv _⟩
    · replace h := mj_if_f c7 h
      refine mj_aload_n C dX5_readLine_26 rfl ?_
      refine mj_iconst (v := 3) C dX5_readLine_27 (by decide) ?_
      obtain ⟨m29, em29, h⟩ := mj_let_o h
      refine mj_callV0 (av := [.inl 3]) C lM_X5_53 lV_X5_noteFault (sR1 hB) ⟨_, rfl, rfl⟩ rfl (C_X5_noteFault hB em29) (mj_rmok hR (by decide) (by decide)) rfl (Nat.le_of_ble_eq_true rfl) dX5_readLine_28 ?_
      cases h
      exact mj_vret C hT dX5_readLine_31 ⟨rfl, rfl, mj_bv _⟩
  · replace h := mj_if_f c6 h
    refine mj_aload_n C dX5_readLine_8 rfl ?_
    refine mj_iconst (v := 1) C dX5_readLine_9 (by decide) ?_
    obtain ⟨m31, em31, h⟩ := mj_let_o h
    refine mj_callV0 (av := [.inl 1]) C lM_X5_53 lV_X5_noteFault (sR1 hB) ⟨_, rfl, rfl⟩ rfl (C_X5_noteFault hB em31) (mj_rmok hR (by decide) (by decide)) rfl (Nat.le_of_ble_eq_true rfl) dX5_readLine_10 ?_
    cases h
    exact mj_vret C hT dX5_readLine_13 ⟨rfl, rfl, mj_bv _⟩
def f_X5_readAll_L24 : Nat → Int32 → mj_m → Option (Nat × mj_m)
  | 0, _, _ => none
  | n + 1, l1, m => if 24 < l1 then (some (64, m)) else (mj_b1 (f_X5_nextToken m) (fun m2 => if m2 1 5 = 0 then (some (41, m2)) else (mj_b1 (f_X5_readLine m2) (fun m5 => if m5 1 3 = 0 then (mj_let (l1 + 1) (fun x8 => f_X5_readAll_L24 n x8 m5)) else (some (55, m5))))))
set_option maxHeartbeats 4000000 in
set_option maxRecDepth 20000 in
theorem C_X5_readAll_L24 {κ : mj_K} {Q : State → Prop} {β : Nat} {M : mj_M} (C : mj_C κ cX5_readAll 2 RX5) (hB : mj_isR (mj_g κ) β) (hR : mj_dp κ 8) : ∀ (n : Nat) (l1 : Int32) (m : mj_m) (tg : Nat) (mo : mj_m), f_X5_readAll_L24 n l1 m = some (tg, mo) → (tg = 41 → mj_R κ Q 41 [some (mj_r (β, 1)), none] [] (va_up M β mo)) → (tg = 55 → mj_R κ Q 55 [some (mj_r (β, 1)), none] [] (va_up M β mo)) → (tg = 64 → mj_R κ Q 64 [some (mj_r (β, 1)), none] [] (va_up M β mo)) → mj_R κ Q 24 [some (mj_r (β, 1)), some (.inl l1)] [] (va_up M β m) := by
  intro n
  induction n with
  | zero =>
    intro l1 m tg mo h
    cases h
  | succ n ih =>
    intro l1 m tg mo h hx41 hx55 hx64
    rw [f_X5_readAll_L24] at h
    refine mj_iload_n C dX5_readAll_24 rfl ?_
    refine mj_bipush (v := 24) C dX5_readAll_25 (by decide) ?_
    refine mj_icmp_gt (tgt := 64) C dX5_readAll_27 (by decide) (fun c1 => ?_) (fun c1 => ?_)
    · replace h := mj_if_t c1 h
      cases h
      refine mj_sub ?_ (hx64 rfl)
      exact ⟨rfl, trivial⟩
    · replace h := mj_if_f c1 h
      refine mj_aload_n C dX5_readAll_30 rfl ?_
      obtain ⟨m2, em2, h⟩ := mj_b1_o h
      refine mj_callV0 (av := []) C lM_X5_47 lV_X5_nextToken (sR1 hB) ⟨_, rfl, rfl⟩ rfl (C_X5_nextToken hB em2) (mj_rmok hR (by decide) (by decide)) rfl (Nat.le_of_ble_eq_true rfl) dX5_readAll_31 ?_
      refine mj_aload_n C dX5_readAll_34 rfl ?_
      refine mj_bget C lF_X5_32 (sR1 hB) rfl dX5_readAll_35 ?_
      refine mj_if_ne (tgt := 44) C dX5_readAll_38 (by decide) (fun c4 => ?_) (fun c4 => ?_)
      · replace h := mj_if_f c4 h
        refine mj_aload_n C dX5_readAll_44 rfl ?_
        obtain ⟨m5, em5, h⟩ := mj_b1_o h
        refine mj_callV0 (av := []) C lM_X5_50 lV_X5_readLine (sR1 hB) ⟨_, rfl, rfl⟩ rfl (C_X5_readLine hB em5) (mj_rmok hR (by decide) (by decide)) rfl (Nat.le_of_ble_eq_true rfl) dX5_readAll_45 ?_
        refine mj_aload_n C dX5_readAll_48 rfl ?_
        refine mj_bget C lF_X5_26 (sR1 hB) rfl dX5_readAll_49 ?_
        refine mj_if_eq (tgt := 58) C dX5_readAll_52 (by decide) (fun c7 => ?_) (fun c7 => ?_)
        · replace h := mj_if_t c7 h
          obtain ⟨x8, hx8, h⟩ := mj_let_o h
          refine mj_iinc (L2 := [some (mj_r (β, 1)), some (.inl x8)]) C dX5_readAll_58 rfl hx8 rfl ?_
          refine mj_goto (tgt := 24) C dX5_readAll_61 (by decide) ?_
          refine mj_sub (L' := [some (mj_r (β, 1)), some (.inl x8)]) ⟨rfl, ⟨rfl, trivial⟩⟩ ?_
          exact ih _ _ _ _ h hx41 hx55 hx64
        · replace h := mj_if_f c7 h
          cases h
          refine mj_sub ?_ (hx55 rfl)
          exact ⟨rfl, trivial⟩
      · replace h := mj_if_t c4 h
        cases h
        refine mj_sub ?_ (hx41 rfl)
        exact ⟨rfl, trivial⟩
def f_X5_readAll_J64 (m : mj_m) : Option (Int32 × mj_m) := mj_let (mj_wrs m 1 1 0) (fun m9 => if m9 1 3 = 0 then (some (1, m9)) else (some (0, m9)))
set_option maxHeartbeats 4000000 in
set_option maxRecDepth 20000 in
theorem C_X5_readAll_J64 {κ : mj_K} {β : Nat} {M : mj_M} {m : mj_m} {x0 : Int32} {m0 : mj_m} (C : mj_C κ cX5_readAll 2 RX5) (hB : mj_isR (mj_g κ) β) (hR : mj_dp κ 8) (hT : mj_rt κ = (some .boolean)) (h : f_X5_readAll_J64 m = some (x0, m0)) : mj_R κ (mj_F κ (fun r M' => r = (some (.inl x0)) ∧ M' = (va_up M β m0) ∧ mj_bb (some .boolean) (some (.inl x0)))) 64 [some (mj_r (β, 1)), none] [] (va_up M β m) := by
  unfold f_X5_readAll_J64 at h
  refine mj_aload_n C dX5_readAll_64 rfl ?_
  refine mj_iconst (v := 0) C dX5_readAll_65 (by decide) ?_
  obtain ⟨m9, hm9, h⟩ := mj_let_o h
  refine mj_bput C lF_X5_15 fP_6_1 (vp_nar_int _) rfl (sR1 hB) rfl dX5_readAll_66 hm9 ?_
  refine mj_aload_n C dX5_readAll_69 rfl ?_
  refine mj_bget C lF_X5_26 (sR1 hB) rfl dX5_readAll_70 ?_
  refine mj_if_ne (tgt := 80) C dX5_readAll_73 (by decide) (fun c10 => ?_) (fun c10 => ?_)
  · replace h := mj_if_f c10 h
    refine mj_iconst (v := 0) C dX5_readAll_80 (by decide) ?_
    cases h
    exact mj_iret C hT (mj_nb mj_b0) dX5_readAll_81 ⟨rfl, rfl, mj_b0⟩
  · replace h := mj_if_t c10 h
    refine mj_iconst (v := 1) C dX5_readAll_76 (by decide) ?_
    refine mj_goto (tgt := 81) C dX5_readAll_77 (by decide) ?_
    cases h
    exact mj_iret C hT (mj_nb mj_b1') dX5_readAll_81 ⟨rfl, rfl, mj_b1'⟩
def f_X5_readAll (m : mj_m) : Option (Int32 × mj_m) := mj_let (f_X4_clear 3 m) (fun m11 => mj_let (mj_wrs m11 1 3 0) (fun m13 => mj_let (mj_wrs m13 1 4 (-1)) (fun m14 => mj_let (mj_wrs m14 1 7 0) (fun m15 => mj_b2 (f_X5_readAll_L24 mj_fu 0 m15) (fun t16 m17 => if t16 = 41 then (f_X5_readAll_J64 m17) else if t16 = 55 then (f_X5_readAll_J64 m17) else (f_X5_readAll_J64 m17))))))
set_option maxHeartbeats 4000000 in
set_option maxRecDepth 20000 in
theorem C_X5_readAll {G : mj_G} {β : Nat} {M : mj_M} {m : mj_m} {x0 : Int32} {m0 : mj_m} (hB : mj_isR G β) (h : f_X5_readAll m = some (x0, m0)) : mj_S1 yX5_readAll cX5_readAll 2 (some .boolean) 8 G [mj_r (β, 1)] (va_up M β m) (some (.inl x0)) (va_up M β m0) := by
  refine mj_intro (by decide) (Nat.le_of_ble_eq_true rfl) ?_
  intro κ C hG hR hT
  subst hG
  have C : mj_C κ cX5_readAll 2 RX5 := C
  show mj_R κ (mj_F κ (fun r M' => r = (some (.inl x0)) ∧ M' = (va_up M β m0) ∧ mj_bb (some .boolean) (some (.inl x0)))) 0 [some (mj_r (β, 1)), none] [] (va_up M β m)
  unfold f_X5_readAll at h
  refine mj_aload_n C dX5_readAll_0 rfl ?_
  refine mj_getr (r := (β, 3)) C lF_X5_22 (sR1 hB) rfl dX5_readAll_1 ?_
  obtain ⟨m11, em11, h⟩ := mj_let_o h
  refine mj_callV0 (av := []) C lM_X5_44 lV_X4_clear (sR3 hB) ⟨_, rfl, rfl⟩ rfl (C_X4_clear (sRp3 hB) em11) (mj_rmok hR (by decide) (by decide)) rfl (Nat.le_of_ble_eq_true rfl) dX5_readAll_4 ?_
  refine mj_aload_n C dX5_readAll_7 rfl ?_
  refine mj_iconst (v := 0) C dX5_readAll_8 (by decide) ?_
  obtain ⟨m13, hm13, h⟩ := mj_let_o h
  refine mj_bput C lF_X5_26 fP_6_3 (vp_nar_int _) rfl (sR1 hB) rfl dX5_readAll_9 hm13 ?_
  refine mj_aload_n C dX5_readAll_12 rfl ?_
  refine mj_iconst (v := (-1)) C dX5_readAll_13 (by decide) ?_
  obtain ⟨m14, hm14, h⟩ := mj_let_o h
  refine mj_bput C lF_X5_29 fP_6_4 (vp_nar_int _) rfl (sR1 hB) rfl dX5_readAll_14 hm14 ?_
  refine mj_aload_n C dX5_readAll_17 rfl ?_
  refine mj_iconst (v := 0) C dX5_readAll_18 (by decide) ?_
  obtain ⟨m15, hm15, h⟩ := mj_let_o h
  refine mj_bput C lF_X5_38 fP_6_7 (vp_nar_int _) rfl (sR1 hB) rfl dX5_readAll_19 hm15 ?_
  refine mj_iconst (v := 0) C dX5_readAll_22 (by decide) ?_
  refine mj_istore_n (L2 := [some (mj_r (β, 1)), some (.inl 0)]) C dX5_readAll_23 (Nat.le_of_ble_eq_true rfl) rfl ?_
  obtain ⟨t16, m17, hl18, h⟩ := mj_b2_o h
  refine mj_sub (L' := [some (mj_r (β, 1)), some (.inl 0)]) ⟨rfl, ⟨rfl, trivial⟩⟩ ?_
  refine C_X5_readAll_L24 C hB hR _ _ _ _ _ hl18 (fun te => ?_) (fun te => ?_) (fun te => ?_)
  · subst te
    replace h := mj_if_t rfl h
    refine mj_goto (tgt := 64) C dX5_readAll_41 (by decide) ?_
    refine mj_sub (L' := [some (mj_r (β, 1)), none]) ⟨rfl, trivial⟩ ?_
    exact C_X5_readAll_J64 C hB hR hT h
  · subst te
    replace h := mj_if_f (by decide) h
    replace h := mj_if_t rfl h
    refine mj_goto (tgt := 64) C dX5_readAll_55 (by decide) ?_
    refine mj_sub (L' := [some (mj_r (β, 1)), none]) ⟨rfl, trivial⟩ ?_
    exact C_X5_readAll_J64 C hB hR hT h
  · subst te
    replace h := mj_if_f (by decide) h
    replace h := mj_if_f (by decide) h
    refine mj_sub (L' := [some (mj_r (β, 1)), none]) ⟨rfl, trivial⟩ ?_
    exact C_X5_readAll_J64 C hB hR hT h
def f_X10_plan (M : mj_M) : Option (Int32 × mj_M) := mj_b2 (f_X5_readAll (M 3)) (fun r1 m2 => mj_let (va_up M 3 m2) (fun M3 => if r1 = 0 then (some ((-1), M3)) else (mj_b1 (f_X4_copyFrom 43 3 (M3 3) (M3 0)) (fun m6 => mj_let (va_up M3 0 m6) (fun M7 => some (M7 0 43 2, M7))))))
set_option maxHeartbeats 4000000 in
set_option maxRecDepth 20000 in
theorem C_X10_plan {G : mj_G} {M : mj_M} {x0 : Int32} {m0 : mj_M} (hB : mj_isT G) (h : f_X10_plan M = some (x0, m0)) : mj_S1 yX10_plan cX10_plan 1 (some .int) 9 G [mj_r (3, 0)] M (some (.inl x0)) m0 := by
  refine mj_intro (by decide) (Nat.le_of_ble_eq_true rfl) ?_
  intro κ C hG hR hT
  subst hG
  have C : mj_C κ cX10_plan 1 RX10 := C
  show mj_R κ (mj_F κ (fun r M' => r = (some (.inl x0)) ∧ M' = m0 ∧ mj_bb (some .int) (some (.inl x0)))) 0 [some (mj_r (3, 0))] [] M
  unfold f_X10_plan at h
  refine mj_aload_n C dX10_plan_0 rfl ?_
  refine mj_getr (r := (3, 1)) C lF_X10_29 hB.2.2.2.2 rfl dX10_plan_1 ?_
  obtain ⟨r1, m2, em2, h⟩ := mj_b2_o h
  obtain ⟨M3, hM3, h⟩ := mj_let_o h
  refine mj_callV1 (av := []) C lM_X10_124 lV_X5_readAll (sR1 hB.2.2.2.1) ⟨_, rfl, rfl⟩ rfl (mj_S1_self (M := M) (β := 3) (C_X5_readAll (M := M) (m := M 3) hB.2.2.2.1 em2)) (mj_rmok hR (by decide) (by decide)) rfl (Nat.le_of_ble_eq_true rfl) dX10_plan_4 (fun hb4 => ?_)
  refine mj_mm hM3 ?_
  refine mj_if_ne (tgt := 12) C dX10_plan_7 (by decide) (fun c5 => ?_) (fun c5 => ?_)
  · replace h := mj_if_f c5 h
    refine mj_aload_n C dX10_plan_12 rfl ?_
    refine mj_getr (r := (0, 0)) C lF_X10_12 hB.2.2.2.2 rfl dX10_plan_13 ?_
    refine mj_getr (r := (0, 43)) C lF_X10_127 (sL0 hB.1) rfl dX10_plan_16 ?_
    refine mj_aload_n C dX10_plan_19 rfl ?_
    refine mj_getr (r := (3, 1)) C lF_X10_29 hB.2.2.2.2 rfl dX10_plan_20 ?_
    refine mj_getr (r := (3, 3)) C lF_X10_131 (sR1 hB.2.2.2.1) rfl dX10_plan_23 ?_
    obtain ⟨m6, em6, h⟩ := mj_b1_o h
    obtain ⟨M7, hM7, h⟩ := mj_let_o h
    refine mj_callV0 (av := [mj_r (3, 3)]) C lM_X10_134 lV_X4_copyFrom (sL43 hB.1) ⟨_, rfl, rfl⟩ rfl (mj_S1_self (M := M3) (β := 0) (C_X4_copyFrom (M := M3) (m := M3 0) (sLp43 hB.1) (sRp3 hB.2.2.2.1) (by decide) rfl em6)) (mj_rmok hR (by decide) (by decide)) rfl (Nat.le_of_ble_eq_true rfl) dX10_plan_26 ?_
    refine mj_mm hM7 ?_
    refine mj_aload_n C dX10_plan_29 rfl ?_
    refine mj_getr (r := (0, 0)) C lF_X10_12 hB.2.2.2.2 rfl dX10_plan_30 ?_
    refine mj_getr (r := (0, 43)) C lF_X10_127 (sL0 hB.1) rfl dX10_plan_33 ?_
    refine mj_tget C lF_X10_140 (sL43 hB.1) rfl dX10_plan_36 ?_
    cases h
    exact mj_iret C hT (vp_nar_int _) dX10_plan_39 ⟨rfl, rfl, mj_bi _⟩
  · replace h := mj_if_t c5 h
    refine mj_iconst (v := (-1)) C dX10_plan_10 (by decide) ?_
    cases h
    exact mj_iret C hT (vp_nar_int _) dX10_plan_11 ⟨rfl, rfl, mj_bi _⟩
