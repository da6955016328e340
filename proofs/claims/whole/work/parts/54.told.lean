def tt_told (m : mj_m) (what : Int32) : List Nat := if what = 0 then tt_rep m else if what = 1 then tt_snd m else if what = 2 then tt_rcv m else [] ++ sw (f_X10_alarmWord (m 5 5))
def tt_ans (l : List Nat) (i : Int32) : Int32 := if i = -1 then nI l.length else if i < 0 then -1 else if nI l.length ≤ i then -1 else nI (tl l (mj_cl i))
def f_told (what i : Int32) (m : mj_m) : Int32 := if what = 0 ∨ what = 1 ∨ what = 2 ∨ what = 3 then tt_ans (tt_told m what) i else -1
def tt_post (cI : mj_I) (aS : Nat) (res : Int32) : Option mj_V → va_W → Prop := fun r Y' => r = some (.inl res) ∧ ∃ (ml : Int32) (l : List Nat), l.length < 40 ∧ txY cI aS ml l Y'
set_option maxHeartbeats 8000000 in
set_option maxRecDepth 20000 in
theorem T_tail {κ : mj_K} {M : mj_M} {aS aV cap ce sl : Nat} {f : Nat → Int32} {ml what i : Int32} {l : List Nat} (C : mj_C κ cX10_told 3 RX10) (hT0 : mj_isT (mj_g κ)) (hpa : mj_ad κ (3, 9) = aS) (hR : mj_dp κ 7) (hmc : (mj_room κ).cells = 10) (hms : (mj_room κ).slots = 800) (hT : mj_rt κ = some .int) (h1 : ce ≤ 10) (h2 : sl ≤ 800) (hJ : txJ l cap f) (hl : l.length < 40) : mj_R (mj_ky κ (tx (mj_cI κ) aS aV cap f ml l.length) ce sl) (mx_F κ M 10 800 (tt_post (mj_cI κ) aS (tt_ans l i))) 117 [some (mj_r (3, 0)), some (.inl what), some (.inl i)] [] M := by
  have D : ∀ {Y : va_W}, mj_C (mj_ky κ Y ce sl) cX10_told 3 RX10 := mx_C C (by rw [hmc]; exact h1) (by rw [hms]; exact h2)
  have b1 : Nat.ble (ce + 0) 10 = true := Nat.ble_eq_true_of_le (by omega)
  have b2 : Nat.ble (sl + 0) 800 = true := Nat.ble_eq_true_of_le (by omega)
  refine mj_iload_n D dX10_told_117 rfl ?_
  refine mj_iconst (v := (-1)) D dX10_told_118 (by decide) ?_
  refine mj_icmp_ne (tgt := 130) D dX10_told_119 (by decide) (fun c1 => ?_) (fun c1 => ?_)
  · refine mj_iload_n D dX10_told_130 rfl ?_
    refine mj_if_lt (tgt := 156) D dX10_told_131 (by decide) (fun c2 => ?_) (fun c2 => ?_)
    · refine mj_iconst (v := (-1)) D dX10_told_156 (by decide) ?_
      refine mx_iret C hT (vp_nar_int _) h1 h2 dX10_told_157 ?_
      refine ⟨?_, ml, l, hl, aV, cap, f, hJ, rfl⟩
      unfold tt_ans
      rw [if_neg c1, if_pos c2]
    · refine mj_iload_n D dX10_told_134 rfl ?_
      refine mj_aload_n D dX10_told_135 rfl ?_
      refine mj_getr (r := (3, 9)) D lF_X10_36 hT0.2.2.2.2 rfl dX10_told_136 ?_
      refine mx_raw hpa ?_
      refine mx_callV4 (av := []) (Y0 := []) (kc := 0) C lM_X10_282 lV_J4_length_8abf5 rfl rfl (T4_len (l := l)) rfl rfl (mx_fit hR hmc hms rfl rfl b1 b2) rfl (Nat.le_of_ble_eq_true rfl) dX10_told_139 (fun r Y' hp => ?_)
      obtain ⟨rfl, rfl⟩ := hp
      show mj_R (mj_ky κ (tx (mj_cI κ) aS aV cap f ml l.length) ce sl) _ 142 [some (mj_r (3, 0)), some (.inl what), some (.inl i)] [.inl (nI l.length), .inl i] M
      refine mj_icmp_ge (tgt := 156) D dX10_told_142 (by decide) (fun c3 => ?_) (fun c3 => ?_)
      · refine mj_iconst (v := (-1)) D dX10_told_156 (by decide) ?_
        refine mx_iret C hT (vp_nar_int _) h1 h2 dX10_told_157 ?_
        refine ⟨?_, ml, l, hl, aV, cap, f, hJ, rfl⟩
        unfold tt_ans
        rw [if_neg c1, if_neg c2, if_pos c3]
      · obtain ⟨j, hj, e⟩ := nI_of c2
        subst e
        have hjl : j < l.length := Nat.not_le.mp (fun h => c3 ((nI_leI (by omega) hj).mpr h))
        refine mj_aload_n D dX10_told_145 rfl ?_
        refine mj_getr (r := (3, 9)) D lF_X10_36 hT0.2.2.2.2 rfl dX10_told_146 ?_
        refine mx_raw hpa ?_
        refine mj_iload_n D dX10_told_149 rfl ?_
        refine mx_callV4 (av := [.inl (nI j)]) (Y0 := []) (kc := 0) C lM_X10_285 lV_J4_charAt_5068e rfl rfl (T4_at hJ hjl) rfl rfl (mx_fit hR hmc hms rfl rfl b1 b2) rfl (Nat.le_of_ble_eq_true rfl) dX10_told_150 (fun r Y' hp => ?_)
        obtain ⟨rfl, rfl⟩ := hp
        show mj_R (mj_ky κ (tx (mj_cI κ) aS aV cap f ml l.length) ce sl) _ 153 [some (mj_r (3, 0)), some (.inl what), some (.inl (nI j))] [.inl (nI (tl l j))] M
        refine mj_goto (tgt := 157) D dX10_told_153 (by decide) ?_
        refine mx_iret C hT (vp_nar_int _) h1 h2 dX10_told_157 ?_
        refine ⟨?_, ml, l, hl, aV, cap, f, hJ, rfl⟩
        unfold tt_ans
        rw [if_neg c1, if_neg c2, if_neg c3, mj_cl_nI hj]
  · refine mj_aload_n D dX10_told_122 rfl ?_
    refine mj_getr (r := (3, 9)) D lF_X10_36 hT0.2.2.2.2 rfl dX10_told_123 ?_
    refine mx_raw hpa ?_
    refine mx_callV4 (av := []) (Y0 := []) (kc := 0) C lM_X10_282 lV_J4_length_8abf5 rfl rfl (T4_len (l := l)) rfl rfl (mx_fit hR hmc hms rfl rfl b1 b2) rfl (Nat.le_of_ble_eq_true rfl) dX10_told_126 (fun r Y' hp => ?_)
    obtain ⟨rfl, rfl⟩ := hp
    show mj_R (mj_ky κ (tx (mj_cI κ) aS aV cap f ml l.length) ce sl) _ 129 [some (mj_r (3, 0)), some (.inl what), some (.inl i)] [.inl (nI l.length)] M
    refine mx_iret C hT (vp_nar_int _) h1 h2 dX10_told_129 ?_
    refine ⟨?_, ml, l, hl, aV, cap, f, hJ, rfl⟩
    unfold tt_ans
    rw [if_pos c1]
set_option maxHeartbeats 8000000 in
set_option maxRecDepth 20000 in
theorem T_told {cI : mj_I} {G : mj_G} {M : mj_M} {aS aV cap : Nat} {f : Nat → Int32} {ml what i : Int32} {l : List Nat} (hT0 : mj_isT G) (ho : tt_ok (M 0)) (hI : txJ l cap f) (hl : l.length < 40) : mx_SemM cI G M (fun ad => ad (3, 9) = aS) yX10_told cX10_told 3 (some .int) 7 10 800 [mj_r (3, 0), .inl what, .inl i] (tx cI aS aV cap f ml l.length) (tt_post cI aS (f_told what i (M 0))) := by
  refine mx_introM (by decide) (Nat.le_of_ble_eq_true rfl) ?_
  intro κ C hcI hG hpa hR hmc hms hT
  subst hcI
  subst hG
  have C : mj_C κ cX10_told 3 RX10 := C
  show mj_R (mj_ky κ (tx (mj_cI κ) aS aV cap f ml l.length) 0 0) (mx_F κ M 10 800 (tt_post (mj_cI κ) aS (f_told what i (M 0)))) 0 [some (mj_r (3, 0)), some (.inl what), some (.inl i)] [] M
  refine mj_aload_n (mx_D C hmc hms rfl rfl) dX10_told_0 rfl ?_
  refine mj_getr (r := (3, 9)) (mx_D C hmc hms rfl rfl) lF_X10_36 hT0.2.2.2.2 rfl dX10_told_1 ?_
  refine mx_raw hpa ?_
  refine mj_iconst (v := 0) (mx_D C hmc hms rfl rfl) dX10_told_4 (by decide) ?_
  refine mx_callV4 (av := [.inl 0]) (Y0 := []) (kc := 0) C lM_X10_260 lV_J4_setLength_d00df rfl rfl (T4_set0 hI hl) rfl rfl (mx_fit hR hmc hms rfl rfl rfl rfl) rfl (Nat.le_of_ble_eq_true rfl) dX10_told_5 (fun r Y' hp => ?_)
  obtain ⟨rfl, ml1, aV0, cap0, f0, hI0, rfl⟩ := hp
  show mj_R (mj_ky κ (tx (mj_cI κ) aS aV0 cap0 f0 ml1 0) 1 80) _ 8 [some (mj_r (3, 0)), some (.inl what), some (.inl i)] [] M
  refine mj_iload_n (mx_D C hmc hms rfl rfl) dX10_told_8 rfl ?_
  by_cases c0 : what = 0
  · subst c0
    refine mj_tin (off := 31) (tgt := 40) (mx_D C hmc hms rfl rfl) dX10_told_9 (by decide) (by decide) (by decide) (by decide) ?_
    refine mj_aload_n (mx_D C hmc hms rfl rfl) dX10_told_40 rfl ?_
    refine mj_getr (r := (0, 0)) (mx_D C hmc hms rfl rfl) lF_X10_12 hT0.2.2.2.2 rfl dX10_told_41 ?_
    refine mj_getr (r := (0, 17)) (mx_D C hmc hms rfl rfl) lF_X10_54 (sL0 hT0.1) rfl dX10_told_44 ?_
    refine mj_aload_n (mx_D C hmc hms rfl rfl) dX10_told_47 rfl ?_
    refine mj_getr (r := (3, 9)) (mx_D C hmc hms rfl rfl) lF_X10_36 hT0.2.2.2.2 rfl dX10_told_48 ?_
    refine mx_raw hpa ?_
    refine mx_callVM (av := [mj_o (some aS)]) (Y0 := []) C lM_X10_263 lV_X8_tellReport (sL17 hT0.1) ⟨_, rfl, rfl⟩ rfl (T_rep hT0.1 ho hI0) trivial rfl (mx_fit hR hmc hms rfl rfl rfl rfl) rfl (Nat.le_of_ble_eq_true rfl) dX10_told_51 (fun r Y' hp => ?_)
    obtain ⟨rfl, aV1, cap1, f1, hI1, rfl⟩ := hp
    show mj_R (mj_ky κ (tx (mj_cI κ) aS aV1 cap1 f1 ml1 ((tt_rep (M 0)).length)) 7 560) _ 54 [some (mj_r (3, 0)), some (.inl 0), some (.inl i)] [] M
    refine mj_goto (tgt := 117) (mx_D C hmc hms rfl rfl) dX10_told_54 (by decide) ?_
    have e : f_told 0 i (M 0) = tt_ans (tt_rep (M 0)) i := by
      unfold f_told tt_told
      rw [if_pos (Or.inl rfl), if_pos rfl]
    rw [e]
    exact T_tail C hT0 hpa hR hmc hms hT (Nat.le_of_ble_eq_true rfl) (Nat.le_of_ble_eq_true rfl) hI1 (rep_le _)
  by_cases c1 : what = 1
  · subst c1
    refine mj_tin (off := 48) (tgt := 57) (mx_D C hmc hms rfl rfl) dX10_told_9 (by decide) (by decide) (by decide) (by decide) ?_
    refine mj_aload_n (mx_D C hmc hms rfl rfl) dX10_told_57 rfl ?_
    refine mj_getr (r := (0, 0)) (mx_D C hmc hms rfl rfl) lF_X10_12 hT0.2.2.2.2 rfl dX10_told_58 ?_
    refine mj_getr (r := (0, 17)) (mx_D C hmc hms rfl rfl) lF_X10_54 (sL0 hT0.1) rfl dX10_told_61 ?_
    refine mj_aload_n (mx_D C hmc hms rfl rfl) dX10_told_64 rfl ?_
    refine mj_getr (r := (3, 9)) (mx_D C hmc hms rfl rfl) lF_X10_36 hT0.2.2.2.2 rfl dX10_told_65 ?_
    refine mx_raw hpa ?_
    refine mx_callVM (av := [mj_o (some aS)]) (Y0 := []) C lM_X10_267 lV_X8_tellSelf (sL17 hT0.1) ⟨_, rfl, rfl⟩ rfl (T_snd hT0.1 ho hI0) trivial rfl (mx_fit hR hmc hms rfl rfl rfl rfl) rfl (Nat.le_of_ble_eq_true rfl) dX10_told_68 (fun r Y' hp => ?_)
    obtain ⟨rfl, aV1, cap1, f1, hI1, rfl⟩ := hp
    show mj_R (mj_ky κ (tx (mj_cI κ) aS aV1 cap1 f1 ml1 ((tt_snd (M 0)).length)) 10 800) _ 71 [some (mj_r (3, 0)), some (.inl 1), some (.inl i)] [] M
    refine mj_goto (tgt := 117) (mx_D C hmc hms rfl rfl) dX10_told_71 (by decide) ?_
    have e : f_told 1 i (M 0) = tt_ans (tt_snd (M 0)) i := by
      unfold f_told tt_told
      rw [if_pos (Or.inr (Or.inl rfl)), if_neg (by decide), if_pos rfl]
    rw [e]
    exact T_tail C hT0 hpa hR hmc hms hT (Nat.le_of_ble_eq_true rfl) (Nat.le_of_ble_eq_true rfl) hI1 (snd_le _)
  by_cases c2 : what = 2
  · subst c2
    refine mj_tin (off := 65) (tgt := 74) (mx_D C hmc hms rfl rfl) dX10_told_9 (by decide) (by decide) (by decide) (by decide) ?_
    refine mj_aload_n (mx_D C hmc hms rfl rfl) dX10_told_74 rfl ?_
    refine mj_getr (r := (0, 0)) (mx_D C hmc hms rfl rfl) lF_X10_12 hT0.2.2.2.2 rfl dX10_told_75 ?_
    refine mj_getr (r := (0, 9)) (mx_D C hmc hms rfl rfl) lF_X10_81 (sL0 hT0.1) rfl dX10_told_78 ?_
    refine mj_aload_n (mx_D C hmc hms rfl rfl) dX10_told_81 rfl ?_
    refine mj_getr (r := (3, 9)) (mx_D C hmc hms rfl rfl) lF_X10_36 hT0.2.2.2.2 rfl dX10_told_82 ?_
    refine mx_raw hpa ?_
    refine mx_callVM (av := [mj_o (some aS)]) (Y0 := []) C lM_X10_270 lV_X6_tellSelf (sL9 hT0.1) ⟨_, rfl, rfl⟩ rfl (T_rcv hT0.1 ho hI0) trivial rfl (mx_fit hR hmc hms rfl rfl rfl rfl) rfl (Nat.le_of_ble_eq_true rfl) dX10_told_85 (fun r Y' hp => ?_)
    obtain ⟨rfl, aV1, cap1, f1, hI1, rfl⟩ := hp
    show mj_R (mj_ky κ (tx (mj_cI κ) aS aV1 cap1 f1 ml1 ((tt_rcv (M 0)).length)) 5 400) _ 88 [some (mj_r (3, 0)), some (.inl 2), some (.inl i)] [] M
    refine mj_goto (tgt := 117) (mx_D C hmc hms rfl rfl) dX10_told_88 (by decide) ?_
    have e : f_told 2 i (M 0) = tt_ans (tt_rcv (M 0)) i := by
      unfold f_told tt_told
      rw [if_pos (Or.inr (Or.inr (Or.inl rfl))), if_neg (by decide), if_neg (by decide), if_pos rfl]
    rw [e]
    exact T_tail C hT0 hpa hR hmc hms hT (Nat.le_of_ble_eq_true rfl) (Nat.le_of_ble_eq_true rfl) hI1 (rcv_le _)
  by_cases c3 : what = 3
  · subst c3
    refine mj_tin (off := 82) (tgt := 91) (mx_D C hmc hms rfl rfl) dX10_told_9 (by decide) (by decide) (by decide) (by decide) ?_
    refine mj_aload_n (mx_D C hmc hms rfl rfl) dX10_told_91 rfl ?_
    refine mj_getr (r := (3, 9)) (mx_D C hmc hms rfl rfl) lF_X10_36 hT0.2.2.2.2 rfl dX10_told_92 ?_
    refine mx_raw hpa ?_
    refine mj_aload_n (mx_D C hmc hms rfl rfl) dX10_told_95 rfl ?_
    refine mj_getr (r := (0, 0)) (mx_D C hmc hms rfl rfl) lF_X10_12 hT0.2.2.2.2 rfl dX10_told_96 ?_
    refine mj_getr (r := (0, 5)) (mx_D C hmc hms rfl rfl) lF_X10_248 (sL0 hT0.1) rfl dX10_told_99 ?_
    refine mj_tget (mx_D C hmc hms rfl rfl) lF_X10_271 (sL5 hT0.1) rfl dX10_told_102 ?_
    refine mj_callS1 (av := [.inl (M 0 5 5)]) (mx_D C hmc hms rfl rfl) lM_X10_274 lS_X10_alarmWord rfl (C_X10_alarmWord rfl) (mj_rmok (κ := mj_ky κ (tx (mj_cI κ) aS aV0 cap0 f0 ml1 0) 1 80) hR (by decide) (by decide)) rfl (Nat.le_of_ble_eq_true rfl) dX10_told_105 (fun hb => ?_)
    have hal := sw_le (aw_le (M 0 5 5))
    refine mx_callV4 (av := [mj_r (98, (f_X10_alarmWord (M 0 5 5)))]) (Y0 := []) (kc := 0) C lM_X10_278 lV_J4_append_15ec4 rfl rfl (T4_appS (l := ([] : List Nat)) hI0 (aw_le _) (Nat.lt_of_le_of_lt (Nat.add_le_add (Nat.le_refl 0) hal) (by decide : 0 + 10 < 40))) rfl rfl (mx_fit hR hmc hms rfl rfl rfl rfl) rfl (Nat.le_of_ble_eq_true rfl) dX10_told_108 (fun r Y' hp => ?_)
    obtain ⟨rfl, aV31, cap31, f31, hI31, rfl⟩ := hp
    obtain ⟨l31, hl31⟩ : ∃ l : List Nat, l = ([] : List Nat) ++ sw ((f_X10_alarmWord (M 0 5 5))) := ⟨_, rfl⟩
    rw [← hl31] at hI31
    have hb31 : l31.length ≤ 10 := by
      rw [hl31]
      exact tx_len (Nat.le_refl 0) hal rfl
    rw [← hl31]
    show mj_R (mj_ky κ (tx (mj_cI κ) aS aV31 cap31 f31 ml1 l31.length) 2 160) _ 111 [some (mj_r (3, 0)), some (.inl 3), some (.inl i)] [mj_o (some aS)] M
    refine mj_pop (mx_D C hmc hms rfl rfl) dX10_told_111 ?_
    refine mj_goto (tgt := 117) (mx_D C hmc hms rfl rfl) dX10_told_112 (by decide) ?_
    have e : f_told 3 i (M 0) = tt_ans (l31) i := by
      rw [hl31]
      unfold f_told tt_told
      rw [if_pos (Or.inr (Or.inr (Or.inr rfl))), if_neg (by decide), if_neg (by decide), if_neg (by decide)]
    rw [e]
    exact T_tail C hT0 hpa hR hmc hms hT (Nat.le_of_ble_eq_true rfl) (Nat.le_of_ble_eq_true rfl) hI31 (Nat.lt_of_le_of_lt hb31 (by decide))
  refine mj_tout (tgt := 115) (mx_D C hmc hms rfl rfl) dX10_told_9 (by have := mj_neL 0 (by decide) c0; have := mj_neL 1 (by decide) c1; have := mj_neL 2 (by decide) c2; have := mj_neL 3 (by decide) c3; omega) (by decide) ?_
  refine mj_iconst (v := (-1)) (mx_D C hmc hms rfl rfl) dX10_told_115 (by decide) ?_
  have e : f_told what i (M 0) = -1 := by
    unfold f_told
    rw [if_neg (fun h => h.elim c0 (fun h => h.elim c1 (fun h => h.elim c2 c3)))]
  rw [e]
  exact mx_iret C hT (vp_nar_int _) (Nat.le_of_ble_eq_true rfl) (Nat.le_of_ble_eq_true rfl) dX10_told_116 ⟨rfl, ml1, [], by decide, aV0, cap0, f0, hI0, rfl⟩
