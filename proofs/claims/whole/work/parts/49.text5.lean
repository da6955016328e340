set_option maxRecDepth 20000 in
theorem lw_sup : Cond.superclass RJ4 RJ5 ∈ mj_T := (mj_in2 231 rfl rfl)
set_option maxRecDepth 20000 in
theorem lu_same_J5_append_cf1ce : Cond.sameMethod yJ5_append_cf1ce.cls yJ5_append_cf1ce.cls yJ5_append_cf1ce.name yJ5_append_cf1ce.desc ∈ mj_T := (mj_in9 54 rfl rfl)
set_option maxRecDepth 20000 in
theorem lu_ins_J5_append_cf1ce : Cond.instanceMethod yJ5_append_cf1ce ∈ mj_T := (mj_in5 196 rfl rfl)
set_option maxRecDepth 20000 in
theorem lu_same_J5_append_3fe6f : Cond.sameMethod yJ5_append_3fe6f.cls yJ5_append_3fe6f.cls yJ5_append_3fe6f.name yJ5_append_3fe6f.desc ∈ mj_T := (mj_in9 51 rfl rfl)
set_option maxRecDepth 20000 in
theorem lu_ins_J5_append_3fe6f : Cond.instanceMethod yJ5_append_3fe6f ∈ mj_T := (mj_in5 114 rfl rfl)
set_option maxRecDepth 20000 in
theorem lu_same_J5_append_c97b9 : Cond.sameMethod yJ5_append_c97b9.cls yJ5_append_c97b9.cls yJ5_append_c97b9.name yJ5_append_c97b9.desc ∈ mj_T := (mj_in9 53 rfl rfl)
set_option maxRecDepth 20000 in
theorem lu_ins_J5_append_c97b9 : Cond.instanceMethod yJ5_append_c97b9 ∈ mj_T := (mj_in5 149 rfl rfl)
set_option maxRecDepth 20000 in
theorem lu_same_J5_charAt_5068e : Cond.sameMethod yJ5_charAt_5068e.cls yJ5_charAt_5068e.cls yJ5_charAt_5068e.name yJ5_charAt_5068e.desc ∈ mj_T := (mj_in9 59 rfl rfl)
set_option maxRecDepth 20000 in
theorem lu_ins_J5_charAt_5068e : Cond.instanceMethod yJ5_charAt_5068e ∈ mj_T := (mj_in6 16 rfl rfl)
set_option maxRecDepth 20000 in
theorem lu_same_J5_setLength_d00df : Cond.sameMethod yJ5_setLength_d00df.cls yJ5_setLength_d00df.cls yJ5_setLength_d00df.name yJ5_setLength_d00df.desc ∈ mj_T := (mj_in9 48 rfl rfl)
set_option maxRecDepth 20000 in
theorem lu_ins_J5_setLength_d00df : Cond.instanceMethod yJ5_setLength_d00df ∈ mj_T := (mj_in5 56 rfl rfl)
set_option maxRecDepth 20000 in
theorem lu_same_J5_length_8abf5 : Cond.sameMethod yJ5_length_8abf5.cls yJ5_length_8abf5.cls yJ5_length_8abf5.name yJ5_length_8abf5.desc ∈ mj_T := (mj_in9 58 rfl rfl)
set_option maxRecDepth 20000 in
theorem lu_ins_J5_length_8abf5 : Cond.instanceMethod yJ5_length_8abf5 ∈ mj_T := (mj_in6 9 rfl rfl)
theorem T4_appS {cI : mj_I} {aS aV cap : Nat} {f : Nat → Int32} {ml : Int32} {l : List Nat} {i : Nat} (hI : txJ l cap f) (hi : i < 31) (hn : l.length + (sw i).length < 40) : mx_Sem cI yJ4_append_15ec4 cJ4_append_15ec4 2 (some (.object "java/lang/StringBuilder")) 5 1 80 [mj_o (some aS), mj_r (98, i)] (tx cI aS aV cap f ml l.length) (fun r Y' => r = some (mj_o (some aS)) ∧ txY cI aS ml (l ++ sw i) Y') := by
  refine mx_intro (by decide) (Nat.le_of_ble_eq_true rfl) ?_
  intro κ M C hcI hR hmc hms hT hN
  subst hcI
  have C : mj_C κ cJ4_append_15ec4 2 RJ4 := C
  show mj_R (mj_ky κ (tx (mj_cI κ) aS aV cap f ml l.length) 0 0) (mx_F κ M 1 80 _) 0 [some (mj_o (some aS)), some (mj_r (98, i))] [] M
  refine mx_aload_n (mx_D C hmc hms rfl rfl) dJ4_append_15ec4_0 rfl ?_
  refine mj_aload_n (mx_D C hmc hms rfl rfl) dJ4_append_15ec4_1 rfl ?_
  refine mx_callSU (av := [mj_r (98, i)]) (Y0 := []) (kc := 0) C lM_J4_29 lu_same_J5_append_cf1ce lw_sup lu_ins_J5_append_cf1ce lk_J5_append_cf1ce (by decide) rfl (T_appS hI hi hn) rfl rfl (mx_fit hR hmc hms rfl rfl rfl rfl) rfl (Nat.le_of_ble_eq_true rfl) dJ4_append_15ec4_2 (fun r Y' hp => ?_)
  obtain ⟨rfl, aV1, cap1, f1, hI1, rfl⟩ := hp
  show mj_R (mj_ky κ (tx (mj_cI κ) aS aV1 cap1 f1 ml ((l ++ sw i).length)) 1 80) _ 5 [some (mj_o (some aS)), some (mj_r (98, i))] [mj_o (some aS)] M
  refine mj_pop (mx_D C hmc hms rfl rfl) dJ4_append_15ec4_5 ?_
  refine mx_aload_n (mx_D C hmc hms rfl rfl) dJ4_append_15ec4_6 rfl ?_
  exact mx_aret C hT (Or.inl ⟨_, rfl⟩) (Nat.le_refl _) (Nat.le_refl _) dJ4_append_15ec4_7 ⟨rfl, aV1, cap1, f1, hI1, rfl⟩
theorem T4_appC {cI : mj_I} {aS aV cap : Nat} {f : Nat → Int32} {ml : Int32} {l : List Nat} {c : Nat} (hI : txJ l cap f) (hn : l.length + 1 < 40) (hc : c < 256) : mx_Sem cI yJ4_append_cf468 cJ4_append_cf468 2 (some (.object "java/lang/StringBuilder")) 5 1 80 [mj_o (some aS), .inl (nI c)] (tx cI aS aV cap f ml l.length) (fun r Y' => r = some (mj_o (some aS)) ∧ txY cI aS ml (l ++ [c]) Y') := by
  refine mx_intro (by decide) (Nat.le_of_ble_eq_true rfl) ?_
  intro κ M C hcI hR hmc hms hT hN
  subst hcI
  have C : mj_C κ cJ4_append_cf468 2 RJ4 := C
  show mj_R (mj_ky κ (tx (mj_cI κ) aS aV cap f ml l.length) 0 0) (mx_F κ M 1 80 _) 0 [some (mj_o (some aS)), some (.inl (nI c))] [] M
  refine mx_aload_n (mx_D C hmc hms rfl rfl) dJ4_append_cf468_0 rfl ?_
  refine mj_iload_n (mx_D C hmc hms rfl rfl) dJ4_append_cf468_1 rfl ?_
  refine mx_callSU (av := [.inl (nI c)]) (Y0 := []) (kc := 0) C lM_J4_50 lu_same_J5_append_3fe6f lw_sup lu_ins_J5_append_3fe6f lk_J5_append_3fe6f (by decide) rfl (T_appC hI hn hc) rfl rfl (mx_fit hR hmc hms rfl rfl rfl rfl) rfl (Nat.le_of_ble_eq_true rfl) dJ4_append_cf468_2 (fun r Y' hp => ?_)
  obtain ⟨rfl, aV1, cap1, f1, hI1, rfl⟩ := hp
  show mj_R (mj_ky κ (tx (mj_cI κ) aS aV1 cap1 f1 ml ((l ++ [c]).length)) 1 80) _ 5 [some (mj_o (some aS)), some (.inl (nI c))] [mj_o (some aS)] M
  refine mj_pop (mx_D C hmc hms rfl rfl) dJ4_append_cf468_5 ?_
  refine mx_aload_n (mx_D C hmc hms rfl rfl) dJ4_append_cf468_6 rfl ?_
  exact mx_aret C hT (Or.inl ⟨_, rfl⟩) (Nat.le_refl _) (Nat.le_refl _) dJ4_append_cf468_7 ⟨rfl, aV1, cap1, f1, hI1, rfl⟩
theorem T4_appI {cI : mj_I} {aS aV cap : Nat} {f : Nat → Int32} {ml : Int32} {l : List Nat} {c : Nat} (hI : txJ l cap f) (hn : l.length + 3 < 40) (hc : c < 256) : mx_Sem cI yJ4_append_bf812 cJ4_append_bf812 2 (some (.object "java/lang/StringBuilder")) 5 1 80 [mj_o (some aS), .inl (nI c)] (tx cI aS aV cap f ml l.length) (fun r Y' => r = some (mj_o (some aS)) ∧ txY cI aS ml (l ++ dg c) Y') := by
  refine mx_intro (by decide) (Nat.le_of_ble_eq_true rfl) ?_
  intro κ M C hcI hR hmc hms hT hN
  subst hcI
  have C : mj_C κ cJ4_append_bf812 2 RJ4 := C
  show mj_R (mj_ky κ (tx (mj_cI κ) aS aV cap f ml l.length) 0 0) (mx_F κ M 1 80 _) 0 [some (mj_o (some aS)), some (.inl (nI c))] [] M
  refine mx_aload_n (mx_D C hmc hms rfl rfl) dJ4_append_bf812_0 rfl ?_
  refine mj_iload_n (mx_D C hmc hms rfl rfl) dJ4_append_bf812_1 rfl ?_
  refine mx_callSU (av := [.inl (nI c)]) (Y0 := []) (kc := 0) C lM_J4_53 lu_same_J5_append_c97b9 lw_sup lu_ins_J5_append_c97b9 lk_J5_append_c97b9 (by decide) rfl (T_appI hI hn hc) rfl rfl (mx_fit hR hmc hms rfl rfl rfl rfl) rfl (Nat.le_of_ble_eq_true rfl) dJ4_append_bf812_2 (fun r Y' hp => ?_)
  obtain ⟨rfl, aV1, cap1, f1, hI1, rfl⟩ := hp
  show mj_R (mj_ky κ (tx (mj_cI κ) aS aV1 cap1 f1 ml ((l ++ dg c).length)) 1 80) _ 5 [some (mj_o (some aS)), some (.inl (nI c))] [mj_o (some aS)] M
  refine mj_pop (mx_D C hmc hms rfl rfl) dJ4_append_bf812_5 ?_
  refine mx_aload_n (mx_D C hmc hms rfl rfl) dJ4_append_bf812_6 rfl ?_
  exact mx_aret C hT (Or.inl ⟨_, rfl⟩) (Nat.le_refl _) (Nat.le_refl _) dJ4_append_bf812_7 ⟨rfl, aV1, cap1, f1, hI1, rfl⟩
theorem T4_at {cI : mj_I} {aS aV cap : Nat} {f : Nat → Int32} {ml : Int32} {l : List Nat} {i : Nat} (hI : txJ l cap f) (hi : i < l.length) : mx_Sem cI yJ4_charAt_5068e cJ4_charAt_5068e 2 (some .char) 3 0 0 [mj_o (some aS), .inl (nI i)] (tx cI aS aV cap f ml l.length) (fun r Y' => r = some (.inl (nI (tl l i))) ∧ Y' = tx cI aS aV cap f ml l.length) := by
  refine mx_intro (by decide) (Nat.le_of_ble_eq_true rfl) ?_
  intro κ M C hcI hR hmc hms hT hN
  subst hcI
  have C : mj_C κ cJ4_charAt_5068e 2 RJ4 := C
  show mj_R (mj_ky κ (tx (mj_cI κ) aS aV cap f ml l.length) 0 0) (mx_F κ M 0 0 _) 0 [some (mj_o (some aS)), some (.inl (nI i))] [] M
  refine mx_aload_n (mx_D C hmc hms rfl rfl) dJ4_charAt_5068e_0 rfl ?_
  refine mj_iload_n (mx_D C hmc hms rfl rfl) dJ4_charAt_5068e_1 rfl ?_
  refine mx_callSU (av := [.inl (nI i)]) (Y0 := []) (kc := 0) C lM_J4_329 lu_same_J5_charAt_5068e lw_sup lu_ins_J5_charAt_5068e lk_J5_charAt_5068e (by decide) rfl (T_at hI hi) rfl rfl (mx_fit hR hmc hms rfl rfl rfl rfl) rfl (Nat.le_of_ble_eq_true rfl) dJ4_charAt_5068e_2 (fun r Y' hp => ?_)
  obtain ⟨rfl, rfl⟩ := hp
  show mj_R (mj_ky κ (tx (mj_cI κ) aS aV cap f ml l.length) 0 0) _ 5 [some (mj_o (some aS)), some (.inl (nI i))] [.inl (nI (tl l i))] M
  exact mx_iret C hT (tx_ch _ (hI.1 i hi).1).2.1 (Nat.le_refl _) (Nat.le_refl _) dJ4_charAt_5068e_5 ⟨rfl, rfl⟩
theorem T4_len {cI : mj_I} {aS aV cap : Nat} {f : Nat → Int32} {ml : Int32} {l : List Nat}  : mx_Sem cI yJ4_length_8abf5 cJ4_length_8abf5 1 (some .int) 1 0 0 [mj_o (some aS)] (tx cI aS aV cap f ml l.length) (fun r Y' => r = some (.inl (nI l.length)) ∧ Y' = tx cI aS aV cap f ml l.length) := by
  refine mx_intro (by decide) (Nat.le_of_ble_eq_true rfl) ?_
  intro κ M C hcI hR hmc hms hT hN
  subst hcI
  have C : mj_C κ cJ4_length_8abf5 1 RJ4 := C
  show mj_R (mj_ky κ (tx (mj_cI κ) aS aV cap f ml l.length) 0 0) (mx_F κ M 0 0 _) 0 [some (mj_o (some aS))] [] M
  refine mx_aload_n (mx_D C hmc hms rfl rfl) dJ4_length_8abf5_0 rfl ?_
  refine mx_callSU (av := []) (Y0 := []) (kc := 0) C lM_J4_343 lu_same_J5_length_8abf5 lw_sup lu_ins_J5_length_8abf5 lk_J5_length_8abf5 (by decide) rfl (T_len) rfl rfl (mx_fit hR hmc hms rfl rfl rfl rfl) rfl (Nat.le_of_ble_eq_true rfl) dJ4_length_8abf5_1 (fun r Y' hp => ?_)
  obtain ⟨rfl, rfl⟩ := hp
  show mj_R (mj_ky κ (tx (mj_cI κ) aS aV cap f ml l.length) 0 0) _ 4 [some (mj_o (some aS))] [.inl (nI l.length)] M
  exact mx_iret C hT (vp_nar_int _) (Nat.le_refl _) (Nat.le_refl _) dJ4_length_8abf5_4 ⟨rfl, rfl⟩
theorem T4_set0 {cI : mj_I} {aS aV cap : Nat} {f : Nat → Int32} {ml : Int32} {l : List Nat} (hI : txJ l cap f) (hn : l.length < 40) : mx_Sem cI yJ4_setLength_d00df cJ4_setLength_d00df 2 none 5 1 80 [mj_o (some aS), .inl 0] (tx cI aS aV cap f ml l.length) (fun r Y' => r = none ∧ ∃ ml' : Int32, txY cI aS ml' [] Y') := by
  refine mx_intro (by decide) (Nat.le_of_ble_eq_true rfl) ?_
  intro κ M C hcI hR hmc hms hT hN
  subst hcI
  have C : mj_C κ cJ4_setLength_d00df 2 RJ4 := C
  show mj_R (mj_ky κ (tx (mj_cI κ) aS aV cap f ml l.length) 0 0) (mx_F κ M 1 80 _) 0 [some (mj_o (some aS)), some (.inl 0)] [] M
  refine mx_aload_n (mx_D C hmc hms rfl rfl) dJ4_setLength_d00df_0 rfl ?_
  refine mj_iload_n (mx_D C hmc hms rfl rfl) dJ4_setLength_d00df_1 rfl ?_
  refine mx_callSU (av := [.inl 0]) (Y0 := []) (kc := 0) C lM_J4_333 lu_same_J5_setLength_d00df lw_sup lu_ins_J5_setLength_d00df lk_J5_setLength_d00df (by decide) rfl (T_set0 hI hn) rfl rfl (mx_fit hR hmc hms rfl rfl rfl rfl) rfl (Nat.le_of_ble_eq_true rfl) dJ4_setLength_d00df_2 (fun r Y' hp => ?_)
  obtain ⟨rfl, aV1, cap1, f1, ml1, hI1, rfl⟩ := hp
  show mj_R (mj_ky κ (tx (mj_cI κ) aS aV1 cap1 f1 ml1 0) 1 80) _ 5 [some (mj_o (some aS)), some (.inl 0)] [] M
  have hJ : txJ [] cap1 f1 := ⟨fun j hj => absurd hj (Nat.not_lt_zero j), hI1.2.1, Nat.zero_le _, hI1.2.2.2⟩
  exact mx_vret C hT (Nat.le_refl _) (Nat.le_refl _) dJ4_setLength_d00df_5 ⟨rfl, ml1, aV1, cap1, f1, hJ, rfl⟩
