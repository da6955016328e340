set_option maxHeartbeats 8000000 in
set_option maxRecDepth 20000 in
theorem T_rep {cI : mj_I} {G : mj_G} {M : mj_M} {aS aV cap : Nat} {f : Nat → Int32} {ml : Int32} (hB : mj_isL G 0) (ho : tt_ok (M 0)) (hI : txJ [] cap f) : mx_SemM cI G M (fun _ => True) yX8_tellReport cX8_tellReport 3 none 6 6 480 [mj_r (0, 17), mj_o (some aS)] (tx cI aS aV cap f ml 0) (fun r Y' => r = none ∧ txY cI aS ml (tt_rep (M 0)) Y') := by
  refine mx_introM (by decide) (Nat.le_of_ble_eq_true rfl) ?_
  intro κ C hcI hG hpa hR hmc hms hT
  subst hcI
  subst hG
  have C : mj_C κ cX8_tellReport 3 RX8 := C
  have hPost : ∃ Q : State → Prop, mx_F κ M 6 480 (fun r Y' => r = none ∧ txY (mj_cI κ) aS ml (tt_rep (M 0)) Y') = Q := ⟨_, rfl⟩
  show mj_R (mj_ky κ (tx (mj_cI κ) aS aV cap f ml 0) 0 0) (mx_F κ M 6 480 _) 0 [some (mj_r (0, 17)), some (mj_o (some aS)), none] [] M
  obtain ⟨Q, hQ⟩ := hPost
  rw [hQ]
  refine mj_aload_n (mx_D C hmc hms rfl rfl) dX8_tellReport_0 rfl ?_
  refine mj_tget (mx_D C hmc hms rfl rfl) lF_X8_50 (sL17 hB) rfl dX8_tellReport_1 ?_
  refine mj_iconst (v := (-1)) (mx_D C hmc hms rfl rfl) dX8_tellReport_4 (by decide) ?_
  refine mj_icmp_ne (tgt := 9) (mx_D C hmc hms rfl rfl) dX8_tellReport_5 (by decide) (fun c1 => ?_) (fun c1 => ?_)
  · refine mj_aload_n (mx_D C hmc hms rfl rfl) dX8_tellReport_9 rfl ?_
    refine mj_tget (mx_D C hmc hms rfl rfl) lF_X8_50 (sL17 hB) rfl dX8_tellReport_10 ?_
    refine mj_bipush (v := (-2)) (mx_D C hmc hms rfl rfl) dX8_tellReport_13 (by decide) ?_
    refine mj_icmp_ne (tgt := 26) (mx_D C hmc hms rfl rfl) dX8_tellReport_15 (by decide) (fun c2 => ?_) (fun c2 => ?_)
    · obtain ⟨ho1, -⟩ := ho
      obtain ⟨ho2, ho3⟩ := (ho1.resolve_left c1).resolve_left c2
      refine mj_aload_n (mx_D C hmc hms rfl rfl) dX8_tellReport_26 rfl ?_
      refine mj_tget (mx_D C hmc hms rfl rfl) lF_X8_50 (sL17 hB) rfl dX8_tellReport_27 ?_
      refine mj_bipush (v := 8) (mx_D C hmc hms rfl rfl) dX8_tellReport_30 (by decide) ?_
      refine mj_iushr (mx_D C hmc hms rfl rfl) dX8_tellReport_32 ?_
      refine mj_istore_n (L2 := [some (mj_r (0, 17)), some (mj_o (some aS)), some (.inl (mj_ush (M 0 17 14) 8))]) (mx_D C hmc hms rfl rfl) dX8_tellReport_33 (Nat.le_of_ble_eq_true rfl) rfl ?_
      refine mx_aload_n (mx_D C hmc hms rfl rfl) dX8_tellReport_34 rfl ?_
      refine mj_iload_n (mx_D C hmc hms rfl rfl) dX8_tellReport_35 rfl ?_
      refine mj_iconst (v := 1) (mx_D C hmc hms rfl rfl) dX8_tellReport_36 (by decide) ?_
      refine mj_iand (mx_D C hmc hms rfl rfl) dX8_tellReport_37 ?_
      refine (fun (K : mj_R (mj_ky κ (tx (mj_cI κ) aS aV cap f ml 0) 0 0) Q 48 [some (mj_r (0, 17)), some (mj_o (some aS)), some (.inl (mj_ush (M 0 17 14) 8))] [.inl (nI (tt_c ((mj_ush (M 0 17 14) 8) &&& 1) 76)), mj_o (some aS)] M) => ?_) ?_
      · refine mj_if_eq (tgt := 46) (mx_D C hmc hms rfl rfl) dX8_tellReport_38 (by decide) (fun cb => ?_) (fun cb => ?_)
        · refine mj_bipush (v := 45) (mx_D C hmc hms rfl rfl) dX8_tellReport_46 (by decide) ?_
          exact mj_Rc K (by unfold tt_c; rw [if_pos cb]; rfl) rfl
        · refine mj_bipush (v := 76) (mx_D C hmc hms rfl rfl) dX8_tellReport_41 (by decide) ?_
          refine mj_goto (tgt := 48) (mx_D C hmc hms rfl rfl) dX8_tellReport_43 (by decide) ?_
          exact mj_Rc K (by unfold tt_c; rw [if_neg cb]; rfl) rfl
      refine mx_callV4 (av := [.inl (nI (tt_c ((mj_ush (M 0 17 14) 8) &&& 1) 76))]) (Y0 := []) (kc := 0) C lM_X8_191 lV_J4_append_cf468 rfl rfl (T4_appC (l := ([] : List Nat)) hI (Nat.lt_of_le_of_lt (Nat.add_le_add_right (Nat.le_refl 0) 1) (by decide : 0 + 1 < 40)) (tt_c_lt _ _ (by decide))) rfl rfl (mx_fit hR hmc hms rfl rfl rfl rfl) rfl (Nat.le_of_ble_eq_true rfl) dX8_tellReport_48 (fun r Y' hp => ?_)
      obtain ⟨rfl, aV1, cap1, f1, hI1, rfl⟩ := hp
      obtain ⟨l1, hl1⟩ : ∃ l : List Nat, l = ([] : List Nat) ++ [tt_c ((mj_ush (M 0 17 14) 8) &&& 1) 76] := ⟨_, rfl⟩
      rw [← hl1] at hI1
      have hb1 : l1.length ≤ 1 := by
        rw [hl1]
        exact tx_len (Nat.le_refl 0) (Nat.le_refl 1) rfl
      rw [← hl1]
      show mj_R (mj_ky κ (tx (mj_cI κ) aS aV1 cap1 f1 ml l1.length) 1 80) _ 51 [some (mj_r (0, 17)), some (mj_o (some aS)), some (.inl (mj_ush (M 0 17 14) 8))] [mj_o (some aS)] M
      refine mj_pop (mx_D C hmc hms rfl rfl) dX8_tellReport_51 ?_
      refine mx_aload_n (mx_D C hmc hms rfl rfl) dX8_tellReport_52 rfl ?_
      refine mj_iload_n (mx_D C hmc hms rfl rfl) dX8_tellReport_53 rfl ?_
      refine mj_iconst (v := 2) (mx_D C hmc hms rfl rfl) dX8_tellReport_54 (by decide) ?_
      refine mj_iand (mx_D C hmc hms rfl rfl) dX8_tellReport_55 ?_
      refine (fun (K : mj_R (mj_ky κ (tx (mj_cI κ) aS aV1 cap1 f1 ml l1.length) 1 80) Q 66 [some (mj_r (0, 17)), some (mj_o (some aS)), some (.inl (mj_ush (M 0 17 14) 8))] [.inl (nI (tt_c ((mj_ush (M 0 17 14) 8) &&& 2) 87)), mj_o (some aS)] M) => ?_) ?_
      · refine mj_if_eq (tgt := 64) (mx_D C hmc hms rfl rfl) dX8_tellReport_56 (by decide) (fun cb => ?_) (fun cb => ?_)
        · refine mj_bipush (v := 45) (mx_D C hmc hms rfl rfl) dX8_tellReport_64 (by decide) ?_
          exact mj_Rc K (by unfold tt_c; rw [if_pos cb]; rfl) rfl
        · refine mj_bipush (v := 87) (mx_D C hmc hms rfl rfl) dX8_tellReport_59 (by decide) ?_
          refine mj_goto (tgt := 66) (mx_D C hmc hms rfl rfl) dX8_tellReport_61 (by decide) ?_
          exact mj_Rc K (by unfold tt_c; rw [if_neg cb]; rfl) rfl
      refine mx_callV4 (av := [.inl (nI (tt_c ((mj_ush (M 0 17 14) 8) &&& 2) 87))]) (Y0 := []) (kc := 0) C lM_X8_191 lV_J4_append_cf468 rfl rfl (T4_appC (l := l1) hI1 (Nat.lt_of_le_of_lt (Nat.add_le_add_right hb1 1) (by decide : 1 + 1 < 40)) (tt_c_lt _ _ (by decide))) rfl rfl (mx_fit hR hmc hms rfl rfl rfl rfl) rfl (Nat.le_of_ble_eq_true rfl) dX8_tellReport_66 (fun r Y' hp => ?_)
      obtain ⟨rfl, aV2, cap2, f2, hI2, rfl⟩ := hp
      obtain ⟨l2, hl2⟩ : ∃ l : List Nat, l = l1 ++ [tt_c ((mj_ush (M 0 17 14) 8) &&& 2) 87] := ⟨_, rfl⟩
      rw [← hl2] at hI2
      have hb2 : l2.length ≤ 2 := by
        rw [hl2]
        exact tx_len hb1 (Nat.le_refl 1) rfl
      rw [← hl2]
      show mj_R (mj_ky κ (tx (mj_cI κ) aS aV2 cap2 f2 ml l2.length) 2 160) _ 69 [some (mj_r (0, 17)), some (mj_o (some aS)), some (.inl (mj_ush (M 0 17 14) 8))] [mj_o (some aS)] M
      refine mj_pop (mx_D C hmc hms rfl rfl) dX8_tellReport_69 ?_
      refine mx_aload_n (mx_D C hmc hms rfl rfl) dX8_tellReport_70 rfl ?_
      refine mj_iload_n (mx_D C hmc hms rfl rfl) dX8_tellReport_71 rfl ?_
      refine mj_iconst (v := 4) (mx_D C hmc hms rfl rfl) dX8_tellReport_72 (by decide) ?_
      refine mj_iand (mx_D C hmc hms rfl rfl) dX8_tellReport_73 ?_
      refine (fun (K : mj_R (mj_ky κ (tx (mj_cI κ) aS aV2 cap2 f2 ml l2.length) 2 160) Q 84 [some (mj_r (0, 17)), some (mj_o (some aS)), some (.inl (mj_ush (M 0 17 14) 8))] [.inl (nI (tt_c ((mj_ush (M 0 17 14) 8) &&& 4) 82)), mj_o (some aS)] M) => ?_) ?_
      · refine mj_if_eq (tgt := 82) (mx_D C hmc hms rfl rfl) dX8_tellReport_74 (by decide) (fun cb => ?_) (fun cb => ?_)
        · refine mj_bipush (v := 45) (mx_D C hmc hms rfl rfl) dX8_tellReport_82 (by decide) ?_
          exact mj_Rc K (by unfold tt_c; rw [if_pos cb]; rfl) rfl
        · refine mj_bipush (v := 82) (mx_D C hmc hms rfl rfl) dX8_tellReport_77 (by decide) ?_
          refine mj_goto (tgt := 84) (mx_D C hmc hms rfl rfl) dX8_tellReport_79 (by decide) ?_
          exact mj_Rc K (by unfold tt_c; rw [if_neg cb]; rfl) rfl
      refine mx_callV4 (av := [.inl (nI (tt_c ((mj_ush (M 0 17 14) 8) &&& 4) 82))]) (Y0 := []) (kc := 0) C lM_X8_191 lV_J4_append_cf468 rfl rfl (T4_appC (l := l2) hI2 (Nat.lt_of_le_of_lt (Nat.add_le_add_right hb2 1) (by decide : 2 + 1 < 40)) (tt_c_lt _ _ (by decide))) rfl rfl (mx_fit hR hmc hms rfl rfl rfl rfl) rfl (Nat.le_of_ble_eq_true rfl) dX8_tellReport_84 (fun r Y' hp => ?_)
      obtain ⟨rfl, aV3, cap3, f3, hI3, rfl⟩ := hp
      obtain ⟨l3, hl3⟩ : ∃ l : List Nat, l = l2 ++ [tt_c ((mj_ush (M 0 17 14) 8) &&& 4) 82] := ⟨_, rfl⟩
      rw [← hl3] at hI3
      have hb3 : l3.length ≤ 3 := by
        rw [hl3]
        exact tx_len hb2 (Nat.le_refl 1) rfl
      rw [← hl3]
      show mj_R (mj_ky κ (tx (mj_cI κ) aS aV3 cap3 f3 ml l3.length) 3 240) _ 87 [some (mj_r (0, 17)), some (mj_o (some aS)), some (.inl (mj_ush (M 0 17 14) 8))] [mj_o (some aS)] M
      refine mj_pop (mx_D C hmc hms rfl rfl) dX8_tellReport_87 ?_
      refine mx_aload_n (mx_D C hmc hms rfl rfl) dX8_tellReport_88 rfl ?_
      refine mj_iload_n (mx_D C hmc hms rfl rfl) dX8_tellReport_89 rfl ?_
      refine mj_iconst (v := 3) (mx_D C hmc hms rfl rfl) dX8_tellReport_90 (by decide) ?_
      refine mj_iushr (mx_D C hmc hms rfl rfl) dX8_tellReport_91 ?_
      refine mj_nm (a := nI (mj_cl (mj_ush (mj_ush (M 0 17 14) 8) 3))) (tx_n0 ho2.1 ho2.2).1 ?_
      refine mx_callV4 (av := [.inl (nI (mj_cl (mj_ush (mj_ush (M 0 17 14) 8) 3)))]) (Y0 := []) (kc := 0) C lM_X8_197 lV_J4_append_bf812 rfl rfl (T4_appI (l := l3) hI3 (Nat.lt_of_le_of_lt (Nat.add_le_add_right hb3 3) (by decide : 3 + 3 < 40)) (tx_n0 ho2.1 ho2.2).2) rfl rfl (mx_fit hR hmc hms rfl rfl rfl rfl) rfl (Nat.le_of_ble_eq_true rfl) dX8_tellReport_92 (fun r Y' hp => ?_)
      obtain ⟨rfl, aV4, cap4, f4, hI4, rfl⟩ := hp
      obtain ⟨l4, hl4⟩ : ∃ l : List Nat, l = l3 ++ dg (mj_cl (mj_ush (mj_ush (M 0 17 14) 8) 3)) := ⟨_, rfl⟩
      rw [← hl4] at hI4
      have hb4 : l4.length ≤ 6 := by
        rw [hl4]
        exact tx_len hb3 (tt_n_le ((mj_ush (mj_ush (M 0 17 14) 8) 3))) rfl
      rw [← hl4]
      show mj_R (mj_ky κ (tx (mj_cI κ) aS aV4 cap4 f4 ml l4.length) 4 320) _ 95 [some (mj_r (0, 17)), some (mj_o (some aS)), some (.inl (mj_ush (M 0 17 14) 8))] [mj_o (some aS)] M
      refine mj_pop (mx_D C hmc hms rfl rfl) dX8_tellReport_95 ?_
      refine mx_aload_n (mx_D C hmc hms rfl rfl) dX8_tellReport_96 rfl ?_
      refine mj_bipush (v := 32) (mx_D C hmc hms rfl rfl) dX8_tellReport_97 (by decide) ?_
      refine mj_nm (a := nI 32) (by decide) ?_
      refine mx_callV4 (av := [.inl (nI 32)]) (Y0 := []) (kc := 0) C lM_X8_191 lV_J4_append_cf468 rfl rfl (T4_appC (l := l4) hI4 (Nat.lt_of_le_of_lt (Nat.add_le_add_right hb4 1) (by decide : 6 + 1 < 40)) (by decide)) rfl rfl (mx_fit hR hmc hms rfl rfl rfl rfl) rfl (Nat.le_of_ble_eq_true rfl) dX8_tellReport_99 (fun r Y' hp => ?_)
      obtain ⟨rfl, aV5, cap5, f5, hI5, rfl⟩ := hp
      obtain ⟨l5, hl5⟩ : ∃ l : List Nat, l = l4 ++ [32] := ⟨_, rfl⟩
      rw [← hl5] at hI5
      have hb5 : l5.length ≤ 7 := by
        rw [hl5]
        exact tx_len hb4 (Nat.le_refl 1) rfl
      rw [← hl5]
      show mj_R (mj_ky κ (tx (mj_cI κ) aS aV5 cap5 f5 ml l5.length) 5 400) _ 102 [some (mj_r (0, 17)), some (mj_o (some aS)), some (.inl (mj_ush (M 0 17 14) 8))] [mj_o (some aS)] M
      refine mj_pop (mx_D C hmc hms rfl rfl) dX8_tellReport_102 ?_
      refine mx_aload_n (mx_D C hmc hms rfl rfl) dX8_tellReport_103 rfl ?_
      refine mj_aload_n (mx_D C hmc hms rfl rfl) dX8_tellReport_104 rfl ?_
      refine mj_tget (mx_D C hmc hms rfl rfl) lF_X8_50 (sL17 hB) rfl dX8_tellReport_105 ?_
      refine mj_sipush (v := 255) (mx_D C hmc hms rfl rfl) dX8_tellReport_108 (by decide) ?_
      refine mj_iand (mx_D C hmc hms rfl rfl) dX8_tellReport_111 ?_
      refine mj_nm (a := nI (mj_cl (M 0 17 14 &&& 255))) (tx_n0 ho3.1 ho3.2).1 ?_
      refine mx_callV4 (av := [.inl (nI (mj_cl (M 0 17 14 &&& 255)))]) (Y0 := []) (kc := 0) C lM_X8_197 lV_J4_append_bf812 rfl rfl (T4_appI (l := l5) hI5 (Nat.lt_of_le_of_lt (Nat.add_le_add_right hb5 3) (by decide : 7 + 3 < 40)) (tx_n0 ho3.1 ho3.2).2) rfl rfl (mx_fit hR hmc hms rfl rfl rfl rfl) rfl (Nat.le_of_ble_eq_true rfl) dX8_tellReport_112 (fun r Y' hp => ?_)
      obtain ⟨rfl, aV6, cap6, f6, hI6, rfl⟩ := hp
      obtain ⟨l6, hl6⟩ : ∃ l : List Nat, l = l5 ++ dg (mj_cl (M 0 17 14 &&& 255)) := ⟨_, rfl⟩
      rw [← hl6] at hI6
      have hb6 : l6.length ≤ 10 := by
        rw [hl6]
        exact tx_len hb5 (tt_n_le ((M 0 17 14 &&& 255))) rfl
      rw [← hl6]
      show mj_R (mj_ky κ (tx (mj_cI κ) aS aV6 cap6 f6 ml l6.length) 6 480) _ 115 [some (mj_r (0, 17)), some (mj_o (some aS)), some (.inl (mj_ush (M 0 17 14) 8))] [mj_o (some aS)] M
      refine mj_pop (mx_D C hmc hms rfl rfl) dX8_tellReport_115 ?_
      rw [← hQ]
      refine mx_vret C hT (Nat.le_of_ble_eq_true rfl) (Nat.le_of_ble_eq_true rfl) dX8_tellReport_116 ⟨rfl, ?_⟩
      unfold tt_rep tt_n
      rw [if_neg c1, if_neg c2]
      subst hl6
      subst hl5
      subst hl4
      subst hl3
      subst hl2
      subst hl1
      exact ⟨_, _, _, hI6, rfl⟩
    · refine mx_aload_n (mx_D C hmc hms rfl rfl) dX8_tellReport_18 rfl ?_
      refine mj_bipush (v := 63) (mx_D C hmc hms rfl rfl) dX8_tellReport_19 (by decide) ?_
      have c2 : M 0 17 14 = -2 := c2
      refine mj_nm (a := nI 63) (by decide) ?_
      refine mx_callV4 (av := [.inl (nI 63)]) (Y0 := []) (kc := 0) C lM_X8_191 lV_J4_append_cf468 rfl rfl (T4_appC (l := ([] : List Nat)) hI (Nat.lt_of_le_of_lt (Nat.add_le_add_right (Nat.le_refl 0) 1) (by decide : 0 + 1 < 40)) (by decide)) rfl rfl (mx_fit hR hmc hms rfl rfl rfl rfl) rfl (Nat.le_of_ble_eq_true rfl) dX8_tellReport_21 (fun r Y' hp => ?_)
      obtain ⟨rfl, aV1, cap1, f1, hI1, rfl⟩ := hp
      obtain ⟨l1, hl1⟩ : ∃ l : List Nat, l = ([] : List Nat) ++ [63] := ⟨_, rfl⟩
      rw [← hl1] at hI1
      have hb1 : l1.length ≤ 1 := by
        rw [hl1]
        exact tx_len (Nat.le_refl 0) (Nat.le_refl 1) rfl
      rw [← hl1]
      show mj_R (mj_ky κ (tx (mj_cI κ) aS aV1 cap1 f1 ml l1.length) 1 80) _ 24 [some (mj_r (0, 17)), some (mj_o (some aS)), none] [mj_o (some aS)] M
      refine mj_pop (mx_D C hmc hms rfl rfl) dX8_tellReport_24 ?_
      rw [← hQ]
      refine mx_vret C hT (Nat.le_of_ble_eq_true rfl) (Nat.le_of_ble_eq_true rfl) dX8_tellReport_25 ⟨rfl, ?_⟩
      unfold tt_rep
      rw [if_neg c1, if_pos c2]
      subst hl1
      exact ⟨_, _, _, hI1, rfl⟩
  · have c1 : M 0 17 14 = -1 := c1
    rw [← hQ]
    refine mx_vret C hT (Nat.le_of_ble_eq_true rfl) (Nat.le_of_ble_eq_true rfl) dX8_tellReport_8 ⟨rfl, ?_⟩
    unfold tt_rep
    rw [if_pos c1]
    exact ⟨_, _, _, hI, rfl⟩
