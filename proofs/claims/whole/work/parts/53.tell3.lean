set_option maxHeartbeats 8000000 in
set_option maxRecDepth 20000 in
theorem T_rcv {cI : mj_I} {G : mj_G} {M : mj_M} {aS aV cap : Nat} {f : Nat → Int32} {ml : Int32} (hB : mj_isL G 0) (ho : tt_ok (M 0)) (hI : txJ [] cap f) : mx_SemM cI G M (fun _ => True) yX6_tellSelf cX6_tellSelf 2 none 6 4 320 [mj_r (0, 9), mj_o (some aS)] (tx cI aS aV cap f ml 0) (fun r Y' => r = none ∧ txY cI aS ml (tt_rcv (M 0)) Y') := by
  refine mx_introM (by decide) (Nat.le_of_ble_eq_true rfl) ?_
  intro κ C hcI hG hpa hR hmc hms hT
  subst hcI
  subst hG
  have C : mj_C κ cX6_tellSelf 2 RX6 := C
  have hPost : ∃ Q : State → Prop, mx_F κ M 4 320 (fun r Y' => r = none ∧ txY (mj_cI κ) aS ml (tt_rcv (M 0)) Y') = Q := ⟨_, rfl⟩
  show mj_R (mj_ky κ (tx (mj_cI κ) aS aV cap f ml 0) 0 0) (mx_F κ M 4 320 _) 0 [some (mj_r (0, 9)), some (mj_o (some aS))] [] M
  obtain ⟨Q, hQ⟩ := hPost
  rw [hQ]
  obtain ⟨-, -, -, -, ho1⟩ := ho
  have hm1 := rw_le (M 0)
  have hm2 := sw_le hm1
  refine mx_aload_n (mx_D C hmc hms rfl rfl) dX6_tellSelf_0 rfl ?_
  refine mj_aload_n (mx_D C hmc hms rfl rfl) dX6_tellSelf_1 rfl ?_
  refine mj_tget (mx_D C hmc hms rfl rfl) lF_X6_15 (sL9 hB) rfl dX6_tellSelf_2 ?_
  refine (fun (K : mj_R (mj_ky κ (tx (mj_cI κ) aS aV cap f ml 0) 0 0) Q 27 [some (mj_r (0, 9)), some (mj_o (some aS))] [mj_r (98, tt_rw (M 0)), mj_o (some aS)] M) => ?_) ?_
  · refine mj_if_eq (tgt := 13) (mx_D C hmc hms rfl rfl) dX6_tellSelf_5 (by decide) (fun c1 => ?_) (fun c1 => ?_)
    · refine mj_aload_n (mx_D C hmc hms rfl rfl) dX6_tellSelf_13 rfl ?_
      refine mj_tget (mx_D C hmc hms rfl rfl) lF_X6_19 (sL9 hB) rfl dX6_tellSelf_14 ?_
      refine mj_if_eq (tgt := 25) (mx_D C hmc hms rfl rfl) dX6_tellSelf_17 (by decide) (fun c2 => ?_) (fun c2 => ?_)
      · refine mj_ldcS (i := 23) (mx_D C hmc hms rfl rfl) rfl dX6_tellSelf_25 ?_
        exact mj_Rc K (by unfold tt_rw; rw [if_pos c1, if_pos c2]) rfl
      · refine mj_ldcS (i := 22) (mx_D C hmc hms rfl rfl) rfl dX6_tellSelf_20 ?_
        refine mj_goto (tgt := 27) (mx_D C hmc hms rfl rfl) dX6_tellSelf_22 (by decide) ?_
        exact mj_Rc K (by unfold tt_rw; rw [if_pos c1, if_neg c2]) rfl
    · refine mj_ldcS (i := 21) (mx_D C hmc hms rfl rfl) rfl dX6_tellSelf_8 ?_
      refine mj_goto (tgt := 27) (mx_D C hmc hms rfl rfl) dX6_tellSelf_10 (by decide) ?_
      exact mj_Rc K (by unfold tt_rw; rw [if_neg c1]) rfl
  refine mx_callV4 (av := [mj_r (98, (tt_rw (M 0)))]) (Y0 := []) (kc := 0) C lM_X6_124 lV_J4_append_15ec4 rfl rfl (T4_appS (l := ([] : List Nat)) hI hm1 (Nat.lt_of_le_of_lt (Nat.add_le_add (Nat.le_refl 0) hm2) (by decide : 0 + 10 < 40))) rfl rfl (mx_fit hR hmc hms rfl rfl rfl rfl) rfl (Nat.le_of_ble_eq_true rfl) dX6_tellSelf_27 (fun r Y' hp => ?_)
  obtain ⟨rfl, aV1, cap1, f1, hI1, rfl⟩ := hp
  obtain ⟨l1, hl1⟩ : ∃ l : List Nat, l = ([] : List Nat) ++ sw ((tt_rw (M 0))) := ⟨_, rfl⟩
  rw [← hl1] at hI1
  have hb1 : l1.length ≤ 10 := by
    rw [hl1]
    exact tx_len (Nat.le_refl 0) hm2 rfl
  rw [← hl1]
  show mj_R (mj_ky κ (tx (mj_cI κ) aS aV1 cap1 f1 ml l1.length) 1 80) _ 30 [some (mj_r (0, 9)), some (mj_o (some aS))] [mj_o (some aS)] M
  refine mj_pop (mx_D C hmc hms rfl rfl) dX6_tellSelf_30 ?_
  refine mx_aload_n (mx_D C hmc hms rfl rfl) dX6_tellSelf_31 rfl ?_
  refine mj_bipush (v := 32) (mx_D C hmc hms rfl rfl) dX6_tellSelf_32 (by decide) ?_
  refine mj_nm (a := nI 32) (by decide) ?_
  refine mx_callV4 (av := [.inl (nI 32)]) (Y0 := []) (kc := 0) C lM_X6_130 lV_J4_append_cf468 rfl rfl (T4_appC (l := l1) hI1 (Nat.lt_of_le_of_lt (Nat.add_le_add_right hb1 1) (by decide : 10 + 1 < 40)) (by decide)) rfl rfl (mx_fit hR hmc hms rfl rfl rfl rfl) rfl (Nat.le_of_ble_eq_true rfl) dX6_tellSelf_34 (fun r Y' hp => ?_)
  obtain ⟨rfl, aV2, cap2, f2, hI2, rfl⟩ := hp
  obtain ⟨l2, hl2⟩ : ∃ l : List Nat, l = l1 ++ [32] := ⟨_, rfl⟩
  rw [← hl2] at hI2
  have hb2 : l2.length ≤ 11 := by
    rw [hl2]
    exact tx_len hb1 (Nat.le_refl 1) rfl
  rw [← hl2]
  show mj_R (mj_ky κ (tx (mj_cI κ) aS aV2 cap2 f2 ml l2.length) 2 160) _ 37 [some (mj_r (0, 9)), some (mj_o (some aS))] [mj_o (some aS)] M
  refine mj_pop (mx_D C hmc hms rfl rfl) dX6_tellSelf_37 ?_
  refine mx_aload_n (mx_D C hmc hms rfl rfl) dX6_tellSelf_38 rfl ?_
  refine mj_aload_n (mx_D C hmc hms rfl rfl) dX6_tellSelf_39 rfl ?_
  refine mj_tget (mx_D C hmc hms rfl rfl) lF_X6_9 (sL9 hB) rfl dX6_tellSelf_40 ?_
  refine mj_nm (a := nI (mj_cl (M 0 9 2))) (tx_n0 ho1.1 ho1.2).1 ?_
  refine mx_callV4 (av := [.inl (nI (mj_cl (M 0 9 2)))]) (Y0 := []) (kc := 0) C lM_X6_133 lV_J4_append_bf812 rfl rfl (T4_appI (l := l2) hI2 (Nat.lt_of_le_of_lt (Nat.add_le_add_right hb2 3) (by decide : 11 + 3 < 40)) (tx_n0 ho1.1 ho1.2).2) rfl rfl (mx_fit hR hmc hms rfl rfl rfl rfl) rfl (Nat.le_of_ble_eq_true rfl) dX6_tellSelf_43 (fun r Y' hp => ?_)
  obtain ⟨rfl, aV3, cap3, f3, hI3, rfl⟩ := hp
  obtain ⟨l3, hl3⟩ : ∃ l : List Nat, l = l2 ++ dg (mj_cl (M 0 9 2)) := ⟨_, rfl⟩
  rw [← hl3] at hI3
  have hb3 : l3.length ≤ 14 := by
    rw [hl3]
    exact tx_len hb2 (tt_n_le ((M 0 9 2))) rfl
  rw [← hl3]
  show mj_R (mj_ky κ (tx (mj_cI κ) aS aV3 cap3 f3 ml l3.length) 3 240) _ 46 [some (mj_r (0, 9)), some (mj_o (some aS))] [mj_o (some aS)] M
  refine mj_pop (mx_D C hmc hms rfl rfl) dX6_tellSelf_46 ?_
  refine mj_aload_n (mx_D C hmc hms rfl rfl) dX6_tellSelf_47 rfl ?_
  refine mj_tget (mx_D C hmc hms rfl rfl) lF_X6_22 (sL9 hB) rfl dX6_tellSelf_48 ?_
  refine mj_if_eq (tgt := 61) (mx_D C hmc hms rfl rfl) dX6_tellSelf_51 (by decide) (fun c1 => ?_) (fun c1 => ?_)
  · rw [← hQ]
    refine mx_vret C hT (Nat.le_of_ble_eq_true rfl) (Nat.le_of_ble_eq_true rfl) dX6_tellSelf_61 ⟨rfl, ?_⟩
    unfold tt_rcv tt_rc0 tt_n
    rw [if_pos c1]
    subst hl3
    subst hl2
    subst hl1
    exact ⟨_, _, _, hI3, rfl⟩
  · refine mx_aload_n (mx_D C hmc hms rfl rfl) dX6_tellSelf_54 rfl ?_
    refine mj_bipush (v := 82) (mx_D C hmc hms rfl rfl) dX6_tellSelf_55 (by decide) ?_
    refine mj_nm (a := nI 82) (by decide) ?_
    refine mx_callV4 (av := [.inl (nI 82)]) (Y0 := []) (kc := 0) C lM_X6_130 lV_J4_append_cf468 rfl rfl (T4_appC (l := l3) hI3 (Nat.lt_of_le_of_lt (Nat.add_le_add_right hb3 1) (by decide : 14 + 1 < 40)) (by decide)) rfl rfl (mx_fit hR hmc hms rfl rfl rfl rfl) rfl (Nat.le_of_ble_eq_true rfl) dX6_tellSelf_57 (fun r Y' hp => ?_)
    obtain ⟨rfl, aV4, cap4, f4, hI4, rfl⟩ := hp
    obtain ⟨l4, hl4⟩ : ∃ l : List Nat, l = l3 ++ [82] := ⟨_, rfl⟩
    rw [← hl4] at hI4
    have hb4 : l4.length ≤ 15 := by
      rw [hl4]
      exact tx_len hb3 (Nat.le_refl 1) rfl
    rw [← hl4]
    show mj_R (mj_ky κ (tx (mj_cI κ) aS aV4 cap4 f4 ml l4.length) 4 320) _ 60 [some (mj_r (0, 9)), some (mj_o (some aS))] [mj_o (some aS)] M
    refine mj_pop (mx_D C hmc hms rfl rfl) dX6_tellSelf_60 ?_
    rw [← hQ]
    refine mx_vret C hT (Nat.le_of_ble_eq_true rfl) (Nat.le_of_ble_eq_true rfl) dX6_tellSelf_61 ⟨rfl, ?_⟩
    unfold tt_rcv tt_rc0 tt_n
    rw [if_neg c1]
    subst hl4
    subst hl3
    subst hl2
    subst hl1
    exact ⟨_, _, _, hI4, rfl⟩
