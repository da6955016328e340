set_option maxHeartbeats 8000000 in
set_option maxRecDepth 20000 in
theorem T_snd {cI : mj_I} {G : mj_G} {M : mj_M} {aS aV cap : Nat} {f : Nat → Int32} {ml : Int32} (hB : mj_isL G 0) (ho : tt_ok (M 0)) (hI : txJ [] cap f) : mx_SemM cI G M (fun _ => True) yX8_tellSelf cX8_tellSelf 2 none 6 9 720 [mj_r (0, 17), mj_o (some aS)] (tx cI aS aV cap f ml 0) (fun r Y' => r = none ∧ txY cI aS ml (tt_snd (M 0)) Y') := by
  refine mx_introM (by decide) (Nat.le_of_ble_eq_true rfl) ?_
  intro κ C hcI hG hpa hR hmc hms hT
  subst hcI
  subst hG
  have C : mj_C κ cX8_tellSelf 2 RX8 := C
  have hPost : ∃ Q : State → Prop, mx_F κ M 9 720 (fun r Y' => r = none ∧ txY (mj_cI κ) aS ml (tt_snd (M 0)) Y') = Q := ⟨_, rfl⟩
  show mj_R (mj_ky κ (tx (mj_cI κ) aS aV cap f ml 0) 0 0) (mx_F κ M 9 720 _) 0 [some (mj_r (0, 17)), some (mj_o (some aS))] [] M
  obtain ⟨Q, hQ⟩ := hPost
  rw [hQ]
  obtain ⟨-, ho1, ho2, ho3, -⟩ := ho
  have hm1 := mw_le (M 0 17 6)
  have hm2 := mw_le (M 0 17 11)
  refine mx_aload_n (mx_D C hmc hms rfl rfl) dX8_tellSelf_0 rfl ?_
  refine mj_aload_n (mx_D C hmc hms rfl rfl) dX8_tellSelf_1 rfl ?_
  refine mj_tget (mx_D C hmc hms rfl rfl) lF_X8_24 (sL17 hB) rfl dX8_tellSelf_2 ?_
  refine mj_callN1 (av := [.inl (M 0 17 6)]) (mx_D C hmc hms rfl rfl) lN_X8_200 lS_X10_machineWord rfl (C_X10_machineWord rfl) (mj_rmok (κ := mj_ky κ (tx (mj_cI κ) aS aV cap f ml 0) 0 0) hR (by decide) (by decide)) rfl (Nat.le_of_ble_eq_true rfl) dX8_tellSelf_5 (fun hb => ?_)
  refine mx_callV4 (av := [mj_r (98, (f_X10_machineWord (M 0 17 6)))]) (Y0 := []) (kc := 0) C lM_X8_204 lV_J4_append_15ec4 rfl rfl (T4_appS (l := ([] : List Nat)) hI hm1.1 (Nat.lt_of_le_of_lt (Nat.add_le_add (Nat.le_refl 0) hm1.2) (by decide : 0 + 7 < 40))) rfl rfl (mx_fit hR hmc hms rfl rfl rfl rfl) rfl (Nat.le_of_ble_eq_true rfl) dX8_tellSelf_8 (fun r Y' hp => ?_)
  obtain ⟨rfl, aV1, cap1, f1, hI1, rfl⟩ := hp
  obtain ⟨l1, hl1⟩ : ∃ l : List Nat, l = ([] : List Nat) ++ sw ((f_X10_machineWord (M 0 17 6))) := ⟨_, rfl⟩
  rw [← hl1] at hI1
  have hb1 : l1.length ≤ 7 := by
    rw [hl1]
    exact tx_len (Nat.le_refl 0) hm1.2 rfl
  rw [← hl1]
  show mj_R (mj_ky κ (tx (mj_cI κ) aS aV1 cap1 f1 ml l1.length) 1 80) _ 11 [some (mj_r (0, 17)), some (mj_o (some aS))] [mj_o (some aS)] M
  refine mj_pop (mx_D C hmc hms rfl rfl) dX8_tellSelf_11 ?_
  refine mx_aload_n (mx_D C hmc hms rfl rfl) dX8_tellSelf_12 rfl ?_
  refine mj_bipush (v := 32) (mx_D C hmc hms rfl rfl) dX8_tellSelf_13 (by decide) ?_
  refine mj_nm (a := nI 32) (by decide) ?_
  refine mx_callV4 (av := [.inl (nI 32)]) (Y0 := []) (kc := 0) C lM_X8_191 lV_J4_append_cf468 rfl rfl (T4_appC (l := l1) hI1 (Nat.lt_of_le_of_lt (Nat.add_le_add_right hb1 1) (by decide : 7 + 1 < 40)) (by decide)) rfl rfl (mx_fit hR hmc hms rfl rfl rfl rfl) rfl (Nat.le_of_ble_eq_true rfl) dX8_tellSelf_15 (fun r Y' hp => ?_)
  obtain ⟨rfl, aV2, cap2, f2, hI2, rfl⟩ := hp
  obtain ⟨l2, hl2⟩ : ∃ l : List Nat, l = l1 ++ [32] := ⟨_, rfl⟩
  rw [← hl2] at hI2
  have hb2 : l2.length ≤ 8 := by
    rw [hl2]
    exact tx_len hb1 (Nat.le_refl 1) rfl
  rw [← hl2]
  show mj_R (mj_ky κ (tx (mj_cI κ) aS aV2 cap2 f2 ml l2.length) 2 160) _ 18 [some (mj_r (0, 17)), some (mj_o (some aS))] [mj_o (some aS)] M
  refine mj_pop (mx_D C hmc hms rfl rfl) dX8_tellSelf_18 ?_
  refine mx_aload_n (mx_D C hmc hms rfl rfl) dX8_tellSelf_19 rfl ?_
  refine mj_aload_n (mx_D C hmc hms rfl rfl) dX8_tellSelf_20 rfl ?_
  refine mj_getr (r := (0, 23)) (mx_D C hmc hms rfl rfl) lF_X8_18 (sL17 hB) rfl dX8_tellSelf_21 ?_
  refine mj_tget (mx_D C hmc hms rfl rfl) lF_X8_72 (sL23 hB) rfl dX8_tellSelf_24 ?_
  refine mj_nm (a := nI (mj_cl (M 0 23 4))) (tx_n0 ho1.1 ho1.2).1 ?_
  refine mx_callV4 (av := [.inl (nI (mj_cl (M 0 23 4)))]) (Y0 := []) (kc := 0) C lM_X8_197 lV_J4_append_bf812 rfl rfl (T4_appI (l := l2) hI2 (Nat.lt_of_le_of_lt (Nat.add_le_add_right hb2 3) (by decide : 8 + 3 < 40)) (tx_n0 ho1.1 ho1.2).2) rfl rfl (mx_fit hR hmc hms rfl rfl rfl rfl) rfl (Nat.le_of_ble_eq_true rfl) dX8_tellSelf_27 (fun r Y' hp => ?_)
  obtain ⟨rfl, aV3, cap3, f3, hI3, rfl⟩ := hp
  obtain ⟨l3, hl3⟩ : ∃ l : List Nat, l = l2 ++ dg (mj_cl (M 0 23 4)) := ⟨_, rfl⟩
  rw [← hl3] at hI3
  have hb3 : l3.length ≤ 11 := by
    rw [hl3]
    exact tx_len hb2 (tt_n_le ((M 0 23 4))) rfl
  rw [← hl3]
  show mj_R (mj_ky κ (tx (mj_cI κ) aS aV3 cap3 f3 ml l3.length) 3 240) _ 30 [some (mj_r (0, 17)), some (mj_o (some aS))] [mj_o (some aS)] M
  refine mj_pop (mx_D C hmc hms rfl rfl) dX8_tellSelf_30 ?_
  refine mx_aload_n (mx_D C hmc hms rfl rfl) dX8_tellSelf_31 rfl ?_
  refine mj_bipush (v := 47) (mx_D C hmc hms rfl rfl) dX8_tellSelf_32 (by decide) ?_
  refine mj_nm (a := nI 47) (by decide) ?_
  refine mx_callV4 (av := [.inl (nI 47)]) (Y0 := []) (kc := 0) C lM_X8_191 lV_J4_append_cf468 rfl rfl (T4_appC (l := l3) hI3 (Nat.lt_of_le_of_lt (Nat.add_le_add_right hb3 1) (by decide : 11 + 1 < 40)) (by decide)) rfl rfl (mx_fit hR hmc hms rfl rfl rfl rfl) rfl (Nat.le_of_ble_eq_true rfl) dX8_tellSelf_34 (fun r Y' hp => ?_)
  obtain ⟨rfl, aV4, cap4, f4, hI4, rfl⟩ := hp
  obtain ⟨l4, hl4⟩ : ∃ l : List Nat, l = l3 ++ [47] := ⟨_, rfl⟩
  rw [← hl4] at hI4
  have hb4 : l4.length ≤ 12 := by
    rw [hl4]
    exact tx_len hb3 (Nat.le_refl 1) rfl
  rw [← hl4]
  show mj_R (mj_ky κ (tx (mj_cI κ) aS aV4 cap4 f4 ml l4.length) 4 320) _ 37 [some (mj_r (0, 17)), some (mj_o (some aS))] [mj_o (some aS)] M
  refine mj_pop (mx_D C hmc hms rfl rfl) dX8_tellSelf_37 ?_
  refine mx_aload_n (mx_D C hmc hms rfl rfl) dX8_tellSelf_38 rfl ?_
  refine mj_aload_n (mx_D C hmc hms rfl rfl) dX8_tellSelf_39 rfl ?_
  refine mj_getr (r := (0, 1)) (mx_D C hmc hms rfl rfl) lF_X8_56 (sL17 hB) rfl dX8_tellSelf_40 ?_
  refine mj_getr (r := (0, 2)) (mx_D C hmc hms rfl rfl) lF_X8_96 (sL1 hB) rfl dX8_tellSelf_43 ?_
  refine mj_iconst (v := 2) (mx_D C hmc hms rfl rfl) dX8_tellSelf_46 (by decide) ?_
  refine mj_tald (mx_D C hmc hms rfl rfl) (sL2 hB) (mj_okn 2 11 (Nat.le_of_ble_eq_true rfl) (Nat.le_of_ble_eq_true rfl)) (mj_cln 2 (Nat.le_of_ble_eq_true rfl)) dX8_tellSelf_47 ?_
  refine mj_nm (a := nI (mj_cl (M 0 2 2))) (tx_n0 ho2.1 ho2.2).1 ?_
  refine mx_callV4 (av := [.inl (nI (mj_cl (M 0 2 2)))]) (Y0 := []) (kc := 0) C lM_X8_197 lV_J4_append_bf812 rfl rfl (T4_appI (l := l4) hI4 (Nat.lt_of_le_of_lt (Nat.add_le_add_right hb4 3) (by decide : 12 + 3 < 40)) (tx_n0 ho2.1 ho2.2).2) rfl rfl (mx_fit hR hmc hms rfl rfl rfl rfl) rfl (Nat.le_of_ble_eq_true rfl) dX8_tellSelf_48 (fun r Y' hp => ?_)
  obtain ⟨rfl, aV5, cap5, f5, hI5, rfl⟩ := hp
  obtain ⟨l5, hl5⟩ : ∃ l : List Nat, l = l4 ++ dg (mj_cl (M 0 2 2)) := ⟨_, rfl⟩
  rw [← hl5] at hI5
  have hb5 : l5.length ≤ 15 := by
    rw [hl5]
    exact tx_len hb4 (tt_n_le ((M 0 2 2))) rfl
  rw [← hl5]
  show mj_R (mj_ky κ (tx (mj_cI κ) aS aV5 cap5 f5 ml l5.length) 5 400) _ 51 [some (mj_r (0, 17)), some (mj_o (some aS))] [mj_o (some aS)] M
  refine mj_pop (mx_D C hmc hms rfl rfl) dX8_tellSelf_51 ?_
  refine mx_aload_n (mx_D C hmc hms rfl rfl) dX8_tellSelf_52 rfl ?_
  refine mj_ldcS (i := 19) (mx_D C hmc hms rfl rfl) rfl dX8_tellSelf_53 ?_
  refine mx_callV4 (av := [mj_r (98, 19)]) (Y0 := []) (kc := 0) C lM_X8_204 lV_J4_append_15ec4 rfl rfl (T4_appS (l := l5) hI5 (by decide) (Nat.lt_of_le_of_lt (Nat.add_le_add hb5 (Nat.le_of_eq sw19)) (by decide : 15 + 2 < 40))) rfl rfl (mx_fit hR hmc hms rfl rfl rfl rfl) rfl (Nat.le_of_ble_eq_true rfl) dX8_tellSelf_55 (fun r Y' hp => ?_)
  obtain ⟨rfl, aV6, cap6, f6, hI6, rfl⟩ := hp
  obtain ⟨l6, hl6⟩ : ∃ l : List Nat, l = l5 ++ sw 19 := ⟨_, rfl⟩
  rw [← hl6] at hI6
  have hb6 : l6.length ≤ 17 := by
    rw [hl6]
    exact tx_len hb5 (Nat.le_of_eq sw19) rfl
  rw [← hl6]
  show mj_R (mj_ky κ (tx (mj_cI κ) aS aV6 cap6 f6 ml l6.length) 6 480) _ 58 [some (mj_r (0, 17)), some (mj_o (some aS))] [mj_o (some aS)] M
  refine mj_pop (mx_D C hmc hms rfl rfl) dX8_tellSelf_58 ?_
  refine mx_aload_n (mx_D C hmc hms rfl rfl) dX8_tellSelf_59 rfl ?_
  refine mj_aload_n (mx_D C hmc hms rfl rfl) dX8_tellSelf_60 rfl ?_
  refine mj_tget (mx_D C hmc hms rfl rfl) lF_X8_28 (sL17 hB) rfl dX8_tellSelf_61 ?_
  refine mj_nm (a := nI (mj_cl (M 0 17 7))) (tx_n0 ho3.1 ho3.2).1 ?_
  refine mx_callV4 (av := [.inl (nI (mj_cl (M 0 17 7)))]) (Y0 := []) (kc := 0) C lM_X8_197 lV_J4_append_bf812 rfl rfl (T4_appI (l := l6) hI6 (Nat.lt_of_le_of_lt (Nat.add_le_add_right hb6 3) (by decide : 17 + 3 < 40)) (tx_n0 ho3.1 ho3.2).2) rfl rfl (mx_fit hR hmc hms rfl rfl rfl rfl) rfl (Nat.le_of_ble_eq_true rfl) dX8_tellSelf_64 (fun r Y' hp => ?_)
  obtain ⟨rfl, aV7, cap7, f7, hI7, rfl⟩ := hp
  obtain ⟨l7, hl7⟩ : ∃ l : List Nat, l = l6 ++ dg (mj_cl (M 0 17 7)) := ⟨_, rfl⟩
  rw [← hl7] at hI7
  have hb7 : l7.length ≤ 20 := by
    rw [hl7]
    exact tx_len hb6 (tt_n_le ((M 0 17 7))) rfl
  rw [← hl7]
  show mj_R (mj_ky κ (tx (mj_cI κ) aS aV7 cap7 f7 ml l7.length) 7 560) _ 67 [some (mj_r (0, 17)), some (mj_o (some aS))] [mj_o (some aS)] M
  refine mj_pop (mx_D C hmc hms rfl rfl) dX8_tellSelf_67 ?_
  refine mj_aload_n (mx_D C hmc hms rfl rfl) dX8_tellSelf_68 rfl ?_
  refine mj_tget (mx_D C hmc hms rfl rfl) lF_X8_40 (sL17 hB) rfl dX8_tellSelf_69 ?_
  refine mj_if_eq (tgt := 94) (mx_D C hmc hms rfl rfl) dX8_tellSelf_72 (by decide) (fun c1 => ?_) (fun c1 => ?_)
  · rw [← hQ]
    refine mx_vret C hT (Nat.le_of_ble_eq_true rfl) (Nat.le_of_ble_eq_true rfl) dX8_tellSelf_94 ⟨rfl, ?_⟩
    unfold tt_snd tt_sn0 tt_n
    rw [if_pos c1]
    subst hl7
    subst hl6
    subst hl5
    subst hl4
    subst hl3
    subst hl2
    subst hl1
    exact ⟨_, _, _, hI7, rfl⟩
  · refine mx_aload_n (mx_D C hmc hms rfl rfl) dX8_tellSelf_75 rfl ?_
    refine mj_ldcS (i := 20) (mx_D C hmc hms rfl rfl) rfl dX8_tellSelf_76 ?_
    refine mx_callV4 (av := [mj_r (98, 20)]) (Y0 := []) (kc := 0) C lM_X8_204 lV_J4_append_15ec4 rfl rfl (T4_appS (l := l7) hI7 (by decide) (Nat.lt_of_le_of_lt (Nat.add_le_add hb7 (Nat.le_of_eq sw20)) (by decide : 20 + 6 < 40))) rfl rfl (mx_fit hR hmc hms rfl rfl rfl rfl) rfl (Nat.le_of_ble_eq_true rfl) dX8_tellSelf_78 (fun r Y' hp => ?_)
    obtain ⟨rfl, aV8, cap8, f8, hI8, rfl⟩ := hp
    obtain ⟨l8, hl8⟩ : ∃ l : List Nat, l = l7 ++ sw 20 := ⟨_, rfl⟩
    rw [← hl8] at hI8
    have hb8 : l8.length ≤ 26 := by
      rw [hl8]
      exact tx_len hb7 (Nat.le_of_eq sw20) rfl
    rw [← hl8]
    show mj_R (mj_ky κ (tx (mj_cI κ) aS aV8 cap8 f8 ml l8.length) 8 640) _ 81 [some (mj_r (0, 17)), some (mj_o (some aS))] [mj_o (some aS)] M
    refine mj_pop (mx_D C hmc hms rfl rfl) dX8_tellSelf_81 ?_
    refine mx_aload_n (mx_D C hmc hms rfl rfl) dX8_tellSelf_82 rfl ?_
    refine mj_aload_n (mx_D C hmc hms rfl rfl) dX8_tellSelf_83 rfl ?_
    refine mj_tget (mx_D C hmc hms rfl rfl) lF_X8_40 (sL17 hB) rfl dX8_tellSelf_84 ?_
    refine mj_callN1 (av := [.inl (M 0 17 11)]) (mx_D C hmc hms rfl rfl) lN_X8_200 lS_X10_machineWord rfl (C_X10_machineWord rfl) (mj_rmok (κ := mj_ky κ (tx (mj_cI κ) aS aV8 cap8 f8 ml l8.length) 8 640) hR (by decide) (by decide)) rfl (Nat.le_of_ble_eq_true rfl) dX8_tellSelf_87 (fun hb => ?_)
    refine mx_callV4 (av := [mj_r (98, (f_X10_machineWord (M 0 17 11)))]) (Y0 := []) (kc := 0) C lM_X8_204 lV_J4_append_15ec4 rfl rfl (T4_appS (l := l8) hI8 hm2.1 (Nat.lt_of_le_of_lt (Nat.add_le_add hb8 hm2.2) (by decide : 26 + 7 < 40))) rfl rfl (mx_fit hR hmc hms rfl rfl rfl rfl) rfl (Nat.le_of_ble_eq_true rfl) dX8_tellSelf_90 (fun r Y' hp => ?_)
    obtain ⟨rfl, aV9, cap9, f9, hI9, rfl⟩ := hp
    obtain ⟨l9, hl9⟩ : ∃ l : List Nat, l = l8 ++ sw ((f_X10_machineWord (M 0 17 11))) := ⟨_, rfl⟩
    rw [← hl9] at hI9
    have hb9 : l9.length ≤ 33 := by
      rw [hl9]
      exact tx_len hb8 hm2.2 rfl
    rw [← hl9]
    show mj_R (mj_ky κ (tx (mj_cI κ) aS aV9 cap9 f9 ml l9.length) 9 720) _ 93 [some (mj_r (0, 17)), some (mj_o (some aS))] [mj_o (some aS)] M
    refine mj_pop (mx_D C hmc hms rfl rfl) dX8_tellSelf_93 ?_
    rw [← hQ]
    refine mx_vret C hT (Nat.le_of_ble_eq_true rfl) (Nat.le_of_ble_eq_true rfl) dX8_tellSelf_94 ⟨rfl, ?_⟩
    unfold tt_snd tt_sn0 tt_n
    rw [if_neg c1]
    subst hl9
    subst hl8
    subst hl7
    subst hl6
    subst hl5
    subst hl4
    subst hl3
    subst hl2
    subst hl1
    exact ⟨_, _, _, hI9, rfl⟩
