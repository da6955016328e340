theorem T_len {cI : mj_I} {aS aV cap n : Nat} {f : Nat → Int32} {ml : Int32} : mx_Sem cI yJ5_length_8abf5 cJ5_length_8abf5 1 (some .int) 0 0 0 [mj_o (some aS)] (tx cI aS aV cap f ml n) (fun r Y' => r = some (.inl (nI n)) ∧ Y' = tx cI aS aV cap f ml n) := by
  refine mx_intro (by decide) (Nat.le_of_ble_eq_true rfl) ?_
  intro κ M C hcI hR hmc hms hT hN
  subst hcI
  have C : mj_C κ cJ5_length_8abf5 1 RJ5 := C
  show mj_R (mj_ky κ (tx (mj_cI κ) aS aV cap f ml n) 0 0) (mx_F κ M 0 0 _) 0 [some (mj_o (some aS))] [] M
  refine mx_aload_n (mx_D C hmc hms rfl rfl) dJ5_length_8abf5_0 rfl ?_
  refine mx_get (k := 0) (w := .inl (nI n)) C lF_J5_79 rfl rfl (fun _ => rfl) dJ5_length_8abf5_1 ?_
  exact mx_iret C hT (vp_nar_int _) (Nat.le_refl _) (Nat.le_refl _) dJ5_length_8abf5_4 ⟨rfl, rfl⟩
theorem T_set0 {cI : mj_I} {aS aV cap n : Nat} {f : Nat → Int32} {ml : Int32} {t : Nat → Nat} (hI : txI t n cap f) (hn : n < 40) : mx_Sem cI yJ5_setLength_d00df cJ5_setLength_d00df 2 none 4 1 80 [mj_o (some aS), .inl 0] (tx cI aS aV cap f ml n) (fun r Y' => r = none ∧ ∃ (aV' cap' : Nat) (f' : Nat → Int32) (ml' : Int32), txI t 0 cap' f' ∧ Y' = tx cI aS aV' cap' f' ml' 0) := by
  refine mx_intro (by decide) (Nat.le_of_ble_eq_true rfl) ?_
  intro κ M C hcI hR hmc hms hT hN
  subst hcI
  have C : mj_C κ cJ5_setLength_d00df 2 RJ5 := C
  have D0 : ∀ {Y : va_W}, mj_C (mj_ky κ Y 0 0) cJ5_setLength_d00df 2 RJ5 := mx_C C (Nat.zero_le _) (Nat.zero_le _)
  have D1 : ∀ {Y : va_W}, mj_C (mj_ky κ Y (0 + 1) (0 + 80)) cJ5_setLength_d00df 2 RJ5 := mx_C C (by rw [hmc]; exact Nat.le_refl _) (by rw [hms]; exact Nat.le_refl _)
  show mj_R (mj_ky κ (tx (mj_cI κ) aS aV cap f ml n) 0 0) (mx_F κ M 1 80 _) 0 [some (mj_o (some aS)), some (.inl 0)] [] M
  refine mj_iload_n D0 dJ5_setLength_d00df_0 rfl ?_
  refine mj_if_ge (tgt := 13) D0 dJ5_setLength_d00df_1 (by decide) (fun c => ?_) (fun c => absurd (by decide) c)
  refine mx_aload_n D0 dJ5_setLength_d00df_13 rfl ?_
  refine mj_iload_n D0 dJ5_setLength_d00df_14 rfl ?_
  refine mx_callU (av := [.inl 0]) (Y0 := []) (kc := 0) C lM_J5_100 lw_same_ensureCapacityInternal lw_sel_ensureCapacityInternal lw_ins_ensureCapacityInternal lk_J5_ensureCapacityInternal_d00df rfl (T_ens (q := 0) hI (by decide)) rfl rfl (mx_fit hR hmc hms rfl rfl rfl rfl) rfl (Nat.le_of_ble_eq_true rfl) dJ5_setLength_d00df_15 (fun r Y' hp => ?_)
  obtain ⟨rfl, aV1, cap1, f1, hI1, -, rfl⟩ := hp
  show mj_R (mj_ky κ (tx (mj_cI κ) aS aV1 cap1 f1 ml n) (0 + 1) (0 + 80)) _ 18 [some (mj_o (some aS)), some (.inl 0)] [] M
  have hI0 : txI t 0 cap1 f1 := ⟨fun j hj => absurd hj (Nat.not_lt_zero j), hI1.2.1, Nat.zero_le _, hI1.2.2.2⟩
  refine mx_aload_n D1 dJ5_setLength_d00df_18 rfl ?_
  refine mx_get (k := 0) (w := .inl (nI n)) C lF_J5_79 rfl rfl (fun _ => rfl) dJ5_setLength_d00df_19 ?_
  refine mj_iload_n D1 dJ5_setLength_d00df_22 rfl ?_
  refine mj_icmp_ge (tgt := 63) D1 dJ5_setLength_d00df_23 (by decide) (fun c => ?_) (fun c => absurd (nI_pos' (by omega)) c)
  refine mx_aload_n D1 dJ5_setLength_d00df_63 rfl ?_
  refine mx_get (k := 0) (w := .inl (nI n)) C lF_J5_79 rfl rfl (fun _ => rfl) dJ5_setLength_d00df_64 ?_
  refine mj_iload_n D1 dJ5_setLength_d00df_67 rfl ?_
  refine mj_icmp_le (tgt := 76) D1 dJ5_setLength_d00df_68 (by decide) (fun c => ?_) (fun c => ?_)
  · refine mx_aload_n D1 dJ5_setLength_d00df_76 rfl ?_
    refine mj_iload_n D1 dJ5_setLength_d00df_77 rfl ?_
    refine mx_put (k := 0) (w := .inl 0) (Y' := tx (mj_cI κ) aS aV1 cap1 f1 ml 0) C lF_J5_79 fR_0_3 rfl (fun _ => rfl) (vp_nar_int _) rfl (Nat.le_of_ble_eq_true rfl) dJ5_setLength_d00df_78 rfl ?_
    exact mx_vret C hT (Nat.le_refl _) (Nat.le_refl _) dJ5_setLength_d00df_81 ⟨rfl, aV1, cap1, f1, ml, hI0, rfl⟩
  · refine mx_aload_n D1 dJ5_setLength_d00df_71 rfl ?_
    refine mj_iconst (v := 1) D1 dJ5_setLength_d00df_72 (by decide) ?_
    refine mx_put (k := 0) (w := .inl 1) (Y' := tx (mj_cI κ) aS aV1 cap1 f1 1 n) C lF_J5_73 fR_0_2 rfl (fun _ => rfl) rfl rfl (Nat.le_of_ble_eq_true rfl) dJ5_setLength_d00df_73 rfl ?_
    refine mx_aload_n D1 dJ5_setLength_d00df_76 rfl ?_
    refine mj_iload_n D1 dJ5_setLength_d00df_77 rfl ?_
    refine mx_put (k := 0) (w := .inl 0) (Y' := tx (mj_cI κ) aS aV1 cap1 f1 1 0) C lF_J5_79 fR_0_3 rfl (fun _ => rfl) (vp_nar_int _) rfl (Nat.le_of_ble_eq_true rfl) dJ5_setLength_d00df_78 rfl ?_
    exact mx_vret C hT (Nat.le_refl _) (Nat.le_refl _) dJ5_setLength_d00df_81 ⟨rfl, aV1, cap1, f1, 1, hI0, rfl⟩
theorem tx_ch : ∀ c, c < 256 → (((sb_b c &&& 255).toUInt32 % 65536).toInt32 = nI c ∧ narrow .char (.int (nI c)) = .int (nI c) ∧ (nI c).toInt8.toInt32 = sb_b c ∧ vp_nar .byte (sb_b c) = sb_b c ∧ fits .byte (.int (sb_b c)) = true ∧ ¬ (255 : Int32) < nI c) := by decide +kernel
theorem T_at {cI : mj_I} {aS aV cap n i : Nat} {f : Nat → Int32} {ml : Int32} {t : Nat → Nat} (hI : txI t n cap f) (hi : i < n) : mx_Sem cI yJ5_charAt_5068e cJ5_charAt_5068e 5 (some .char) 2 0 0 [mj_o (some aS), .inl (nI i)] (tx cI aS aV cap f ml n) (fun r Y' => r = some (.inl (nI (t i))) ∧ Y' = tx cI aS aV cap f ml n) := by
  obtain ⟨h1, h2, h3, h4⟩ := hI
  have hc := tx_ch (t i) (h1 i hi).1
  refine mx_intro (by decide) (Nat.le_of_ble_eq_true rfl) ?_
  intro κ M C hcI hR hmc hms hT hN
  subst hcI
  have C : mj_C κ cJ5_charAt_5068e 5 RJ5 := C
  have D0 : ∀ {Y : va_W}, mj_C (mj_ky κ Y 0 0) cJ5_charAt_5068e 5 RJ5 := mx_C C (Nat.zero_le _) (Nat.zero_le _)
  show mj_R (mj_ky κ (tx (mj_cI κ) aS aV cap f ml n) 0 0) (mx_F κ M 0 0 _) 0 [some (mj_o (some aS)), some (.inl (nI i)), none, none, none] [] M
  refine mx_aload_n D0 dJ5_charAt_5068e_0 rfl ?_
  refine mx_get (k := 0) (w := .inl 0) C lF_J5_22 rfl rfl (fun _ => rfl) dJ5_charAt_5068e_1 ?_
  refine mj_istore_n (L2 := [some (mj_o (some aS)), some (.inl (nI i)), some (.inl 0), none, none]) D0 dJ5_charAt_5068e_4 (Nat.le_of_ble_eq_true rfl) rfl ?_
  refine mx_aload_n D0 dJ5_charAt_5068e_5 rfl ?_
  refine mx_get (k := 0) (w := mj_o (some aV)) C lF_J5_15 rfl rfl (fun _ => rfl) dJ5_charAt_5068e_6 ?_
  refine mx_astore_n (L2 := [some (mj_o (some aS)), some (.inl (nI i)), some (.inl 0), some (mj_o (some aV)), none]) D0 dJ5_charAt_5068e_9 (Nat.le_of_ble_eq_true rfl) rfl ?_
  refine mx_aload_n D0 dJ5_charAt_5068e_10 rfl ?_
  refine mx_get (k := 0) (w := .inl (nI n)) C lF_J5_79 rfl rfl (fun _ => rfl) dJ5_charAt_5068e_11 ?_
  refine mx_aload_n D0 dJ5_charAt_5068e_14 rfl ?_
  refine mx_alen (k := 1) C rfl dJ5_charAt_5068e_15 ?_
  refine mj_iload_n D0 dJ5_charAt_5068e_16 rfl ?_
  refine mj_ishr D0 dJ5_charAt_5068e_17 ?_
  refine mj_nm (mj_shr0 _) ?_
  refine mj_imin D0 lM_J5_138 rfl (mj_rmc hR (by decide)) (Nat.le_of_ble_eq_true rfl) dJ5_charAt_5068e_18 ?_
  rw [if_neg (show ¬ nI cap < nI n from nI_nlt (by omega) (by omega))]
  refine mj_istore (L2 := [some (mj_o (some aS)), some (.inl (nI i)), some (.inl 0), some (mj_o (some aV)), some (.inl (nI n))]) D0 dJ5_charAt_5068e_21 (Nat.le_of_ble_eq_true rfl) rfl ?_
  refine mj_iload_n D0 dJ5_charAt_5068e_23 rfl ?_
  refine mj_iload D0 dJ5_charAt_5068e_24 rfl ?_
  refine mj_callS (av := [.inl (nI i), .inl (nI n)]) D0 lM_J5_144 lS_J0_checkIndex_df160 rfl (C_chk (nI_pos (by omega)) (nI_lt hi (by omega))) (mj_rmok (κ := mj_ky κ (tx (mj_cI κ) aS aV cap f ml n) 0 0) hR (by decide) (by decide)) rfl (Nat.le_of_ble_eq_true rfl) dJ5_charAt_5068e_26 (fun hb => ?_)
  refine mj_iload_n D0 dJ5_charAt_5068e_29 rfl ?_
  refine mj_if_ne (tgt := 42) D0 dJ5_charAt_5068e_30 (by decide) (fun c => absurd rfl c) (fun c => ?_)
  refine mx_aload_n D0 dJ5_charAt_5068e_33 rfl ?_
  refine mj_iload_n D0 dJ5_charAt_5068e_34 rfl ?_
  refine mx_bald (k := 1) C rfl (mj_ok_nI (by omega) (by omega)) dJ5_charAt_5068e_35 ?_
  rw [mj_cl_nI (show i < 2 ^ 31 by omega), (h1 i hi).2]
  refine mj_sipush (v := 255) D0 dJ5_charAt_5068e_36 (by decide) ?_
  refine mj_iand D0 dJ5_charAt_5068e_39 ?_
  refine mj_i2c D0 dJ5_charAt_5068e_40 hc.1 ?_
  exact mx_iret C hT hc.2.1 (Nat.le_refl _) (Nat.le_refl _) dJ5_charAt_5068e_41 ⟨rfl, rfl⟩
theorem T_can {G : mj_G} {M : mj_M} {c : Nat} (hc : c < 256) : mj_S1 yJ1_canEncode_fc78d cJ1_canEncode_fc78d 1 (some .boolean) 0 G [.inl (nI c)] M (some (.inl 1)) M := by
  refine mj_intro (by decide) (Nat.le_of_ble_eq_true rfl) ?_
  intro κ C hG hR hT
  subst hG
  have C : mj_C κ cJ1_canEncode_fc78d 1 RJ1 := C
  show mj_R κ (mj_F κ _) 0 [some (.inl (nI c))] [] M
  refine mj_iload_n C dJ1_canEncode_fc78d_0 rfl ?_
  refine mj_sipush (v := 255) C dJ1_canEncode_fc78d_1 (by decide) ?_
  refine mj_icmp_gt (tgt := 11) C dJ1_canEncode_fc78d_4 (by decide) (fun h => absurd h (tx_ch c hc).2.2.2.2.2) (fun h => ?_)
  refine mj_iconst (v := 1) C dJ1_canEncode_fc78d_7 (by decide) ?_
  refine mj_goto (tgt := 12) C dJ1_canEncode_fc78d_8 (by decide) ?_
  exact mj_iret C hT rfl dJ1_canEncode_fc78d_12 ⟨rfl, rfl, mj_b1'⟩
