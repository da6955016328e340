set_option maxRecDepth 20000 in
theorem lw_same_newCapacity : Cond.sameMethod yJ5_newCapacity_0f7a4.cls yJ5_newCapacity_0f7a4.cls yJ5_newCapacity_0f7a4.name yJ5_newCapacity_0f7a4.desc ∈ mj_T := (mj_in9 50 rfl rfl)
set_option maxRecDepth 20000 in
theorem lw_ins_newCapacity : Cond.instanceMethod yJ5_newCapacity_0f7a4 ∈ mj_T := (mj_in5 64 rfl rfl)
set_option maxRecDepth 20000 in
theorem lw_sel_newCapacity : mx_in (Cond.selects "java/lang/StringBuilder" yJ5_newCapacity_0f7a4 yJ5_newCapacity_0f7a4) := mx_in_of (List.mem_append_left _ (List.mem_of_getElem? (i := 1) rfl))
set_option maxRecDepth 20000 in
theorem lw_same_ensureCapacityInternal : Cond.sameMethod yJ5_ensureCapacityInternal_d00df.cls yJ5_ensureCapacityInternal_d00df.cls yJ5_ensureCapacityInternal_d00df.name yJ5_ensureCapacityInternal_d00df.desc ∈ mj_T := (mj_in9 49 rfl rfl)
set_option maxRecDepth 20000 in
theorem lw_ins_ensureCapacityInternal : Cond.instanceMethod yJ5_ensureCapacityInternal_d00df ∈ mj_T := (mj_in5 60 rfl rfl)
set_option maxRecDepth 20000 in
theorem lw_sel_ensureCapacityInternal : mx_in (Cond.selects "java/lang/StringBuilder" yJ5_ensureCapacityInternal_d00df yJ5_ensureCapacityInternal_d00df) := mx_in_of (List.mem_append_left _ (List.mem_of_getElem? (i := 0) rfl))
set_option maxRecDepth 20000 in
theorem lw_same_putStringAt : Cond.sameMethod yJ5_putStringAt_47b60.cls yJ5_putStringAt_47b60.cls yJ5_putStringAt_47b60.name yJ5_putStringAt_47b60.desc ∈ mj_T := (mj_in9 56 rfl rfl)
set_option maxRecDepth 20000 in
theorem lw_ins_putStringAt : Cond.instanceMethod yJ5_putStringAt_47b60 ∈ mj_T := (mj_in5 208 rfl rfl)
set_option maxRecDepth 20000 in
theorem lw_sel_putStringAt : mx_in (Cond.selects "java/lang/StringBuilder" yJ5_putStringAt_47b60 yJ5_putStringAt_47b60) := mx_in_of (List.mem_append_left _ (List.mem_of_getElem? (i := 2) rfl))
set_option maxRecDepth 20000 in
theorem lw_same_isLatin1 : Cond.sameMethod yJ5_isLatin1_aae02.cls yJ5_isLatin1_aae02.cls yJ5_isLatin1_aae02.name yJ5_isLatin1_aae02.desc ∈ mj_T := (mj_in5 89 rfl rfl)
set_option maxRecDepth 20000 in
theorem lw_ins_isLatin1 : Cond.instanceMethod yJ5_isLatin1_aae02 ∈ mj_T := (mj_in5 88 rfl rfl)
set_option maxRecDepth 20000 in
theorem lw_sel_isLatin1 : mx_in (Cond.selects "java/lang/StringBuilder" yJ5_isLatin1_aae02 yJ5_isLatin1_aae02) := mx_in_of (mj_in5 90 rfl rfl)
set_option maxRecDepth 20000 in
theorem lw_same_inflateIfNeededFor : Cond.sameMethod yJ5_inflateIfNeededFor_a7421.cls yJ5_inflateIfNeededFor_a7421.cls yJ5_inflateIfNeededFor_a7421.name yJ5_inflateIfNeededFor_a7421.desc ∈ mj_T := (mj_in9 57 rfl rfl)
set_option maxRecDepth 20000 in
theorem lw_ins_inflateIfNeededFor : Cond.instanceMethod yJ5_inflateIfNeededFor_a7421 ∈ mj_T := (mj_in5 212 rfl rfl)
set_option maxRecDepth 20000 in
theorem lw_sel_inflateIfNeededFor : mx_in (Cond.selects "java/lang/StringBuilder" yJ5_inflateIfNeededFor_a7421 yJ5_inflateIfNeededFor_a7421) := mx_in_of (List.mem_append_left _ (List.mem_of_getElem? (i := 3) rfl))
theorem mj_ok_nI {i n : Nat} (h : i < n) (hn : n < 2 ^ 31) : mj_ok (nI i) n = true := mj_okn i n h hn
theorem mj_cl_nI {i : Nat} (h : i < 2 ^ 31) : mj_cl (nI i) = i := nI_clamp h
theorem T_copyOf {cI : mj_I} {aS aV cap n q : Nat} {f : Nat → Int32} {ml : Int32} (hq : q ≤ 80) (hc : cap < q) (hf : sb_Fit f) : mx_Sem cI yJ7_copyOf_9075b cJ7_copyOf_9075b 3 (some (.array .byte)) 1 1 80 [mj_o (some aV), .inl (nI q)] (tx cI aS aV cap f ml n) (fun r Y' => ∃ v : Nat, r = some (mj_o (some v)) ∧ Y' = tx cI aS aV cap f ml n ++ [(v, .inl (cI.2, q, .inl (va_cpy f (fun _ => 0) 0 0 cap)))]) := by
  refine mx_intro (by decide) (Nat.le_of_ble_eq_true rfl) ?_
  intro κ M C hcI hR hmc hms hT hN
  subst hcI
  have C : mj_C κ cJ7_copyOf_9075b 3 RJ7 := C
  have hsl : q ≤ (mj_room κ).slots := by rw [hms]; exact hq
  have D0 : ∀ {Y : va_W}, mj_C (mj_ky κ Y 0 0) cJ7_copyOf_9075b 3 RJ7 := mx_C C (Nat.zero_le _) (Nat.zero_le _)
  have D1 : ∀ {Y : va_W}, mj_C (mj_ky κ Y (0 + 1) (0 + q)) cJ7_copyOf_9075b 3 RJ7 := mx_C C (by rw [hmc]; exact Nat.le_refl _) (by rw [hms]; omega)
  show mj_R (mj_ky κ (tx (mj_cI κ) aS aV cap f ml n) 0 0) (mx_F κ M 1 80 _) 0 [some (mj_o (some aV)), some (.inl (nI q)), none] [] M
  refine mj_iload_n D0 dJ7_copyOf_9075b_0 rfl ?_
  refine mx_aload_n D0 dJ7_copyOf_9075b_1 rfl ?_
  refine mx_alen (k := 1) C rfl dJ7_copyOf_9075b_2 ?_
  refine mj_icmp_ne (tgt := 14) D0 dJ7_copyOf_9075b_3 (by decide) (fun c => ?_) (fun c => absurd ((nI_eq (by omega) (by omega)).mp c) (by omega))
  refine mj_iload_n D0 dJ7_copyOf_9075b_14 rfl ?_
  refine mx_newb (N' := q) C mx_ab (nI_pos (by omega)) (nI_clamp (by omega)) (by omega) (by rw [hmc]; exact Nat.le_refl _) (by rw [hms]; omega) dJ7_copyOf_9075b_15 (fun v => ?_)
  refine mx_astore_n (L2 := [some (mj_o (some aV)), some (.inl (nI q)), some (mj_o (some v))]) D1 dJ7_copyOf_9075b_17 (Nat.le_of_ble_eq_true rfl) rfl ?_
  refine mx_aload_n D1 dJ7_copyOf_9075b_18 rfl ?_
  refine mj_iconst (v := 0) D1 dJ7_copyOf_9075b_19 (by decide) ?_
  refine mx_aload_n D1 dJ7_copyOf_9075b_20 rfl ?_
  refine mj_iconst (v := 0) D1 dJ7_copyOf_9075b_21 (by decide) ?_
  refine mx_aload_n D1 dJ7_copyOf_9075b_22 rfl ?_
  refine mx_alen (k := 1) C rfl dJ7_copyOf_9075b_23 ?_
  refine mj_iload_n D1 dJ7_copyOf_9075b_24 rfl ?_
  refine mj_imin D1 lM_J7_304 rfl (mj_rmc hR (by decide)) (Nat.le_of_ble_eq_true rfl) dJ7_copyOf_9075b_25 ?_
  rw [if_neg (show ¬ nI q < nI cap from nI_nlt (by omega) (by omega))]
  refine mx_cpyb (k0 := 1) (k1 := 2) (Y' := tx (mj_cI κ) aS aV cap f ml n ++ [(v, .inl ((mj_cI κ).2, q, .inl (va_cpy f (fun _ => 0) 0 0 cap)))]) C lM_J7_150 rfl rfl rfl (by simp only [mj_cok, Bool.and_eq_true, decide_eq_true_eq, nI_toInt (show cap < 2 ^ 31 by omega)]; refine ⟨⟨⟨⟨?_, ?_⟩, ?_⟩, ?_⟩, ?_⟩ <;> first | decide | omega | (show (0 : Int) + _ ≤ _; omega)) hf (mj_rmc hR (by decide)) (Nat.le_of_ble_eq_true rfl) dJ7_copyOf_9075b_28 (by rw [mj_cl_nI (show cap < 2 ^ 31 by omega)]; rfl) ?_
  refine mx_aload_n D1 dJ7_copyOf_9075b_31 rfl ?_
  exact mx_aret C hT (Or.inr ⟨_, rfl⟩) (Nat.le_refl _) (by omega) dJ7_copyOf_9075b_32 ⟨v, rfl, rfl⟩
theorem tx_fit0 {f : Nat → Int32} (h : sb_Fit f) (n : Nat) : sb_Fit (va_cpy f (fun _ => 0) 0 0 n) := sb_fitC h (fun _ => rfl)
theorem tx_grow {t : Nat → Nat} {n cap q : Nat} {f : Nat → Int32} (h : txI t n cap f) (hc : cap ≤ q) (hq : q ≤ 80) : txI t n q (va_cpy f (fun _ => 0) 0 0 cap) := by
  obtain ⟨h1, h2, h3, h4⟩ := h
  refine ⟨fun j hj => ?_, tx_fit0 h2 cap, by omega, hq⟩
  rw [sb_cpy0 (by omega)]
  exact h1 j hj
theorem T_ens {cI : mj_I} {aS aV cap n q : Nat} {f : Nat → Int32} {ml : Int32} {t : Nat → Nat} (hI : txI t n cap f) (hq : q < 40) : mx_Sem cI yJ5_ensureCapacityInternal_d00df cJ5_ensureCapacityInternal_d00df 3 none 3 1 80 [mj_o (some aS), .inl (nI q)] (tx cI aS aV cap f ml n) (fun r Y' => r = none ∧ ∃ (aV' cap' : Nat) (f' : Nat → Int32), txI t n cap' f' ∧ q ≤ cap' ∧ Y' = tx cI aS aV' cap' f' ml n) := by
  have hcap := hI.2.2.2
  refine mx_intro (by decide) (Nat.le_of_ble_eq_true rfl) ?_
  intro κ M C hcI hR hmc hms hT hN
  subst hcI
  have C : mj_C κ cJ5_ensureCapacityInternal_d00df 3 RJ5 := C
  have D0 : ∀ {Y : va_W}, mj_C (mj_ky κ Y 0 0) cJ5_ensureCapacityInternal_d00df 3 RJ5 := mx_C C (Nat.zero_le _) (Nat.zero_le _)
  show mj_R (mj_ky κ (tx (mj_cI κ) aS aV cap f ml n) 0 0) (mx_F κ M 1 80 _) 0 [some (mj_o (some aS)), some (.inl (nI q)), none] [] M
  refine mx_aload_n D0 dJ5_ensureCapacityInternal_d00df_0 rfl ?_
  refine mx_get (k := 0) (w := mj_o (some aV)) C lF_J5_15 rfl rfl (fun _ => rfl) dJ5_ensureCapacityInternal_d00df_1 ?_
  refine mx_alen (k := 1) C rfl dJ5_ensureCapacityInternal_d00df_4 ?_
  refine mx_aload_n D0 dJ5_ensureCapacityInternal_d00df_5 rfl ?_
  refine mx_get (k := 0) (w := .inl 0) C lF_J5_22 rfl rfl (fun _ => rfl) dJ5_ensureCapacityInternal_d00df_6 ?_
  refine mj_ishr D0 dJ5_ensureCapacityInternal_d00df_9 ?_
  refine mj_nm (mj_shr0 _) ?_
  refine mj_istore_n (L2 := [some (mj_o (some aS)), some (.inl (nI q)), some (.inl (nI cap))]) D0 dJ5_ensureCapacityInternal_d00df_10 (Nat.le_of_ble_eq_true rfl) rfl ?_
  refine mj_iload_n D0 dJ5_ensureCapacityInternal_d00df_11 rfl ?_
  refine mj_iload_n D0 dJ5_ensureCapacityInternal_d00df_12 rfl ?_
  refine mj_isub D0 dJ5_ensureCapacityInternal_d00df_13 ?_
  refine mj_if_le (tgt := 38) D0 dJ5_ensureCapacityInternal_d00df_14 (by decide) (fun c => ?_) (fun c => ?_)
  · have hle : q ≤ cap := by
      rcases Nat.lt_or_ge cap q with h | h
      · exact absurd c (tx_num q hq cap h).2.2.2.2.2.2.2
      · exact h
    exact mx_vret C hT (Nat.zero_le _) (Nat.zero_le _) dJ5_ensureCapacityInternal_d00df_38 ⟨rfl, aV, cap, f, hI, hle, rfl⟩
  · have hlt : cap < q := by
      rcases Nat.lt_or_ge cap q with h | h
      · exact h
      · refine absurd ?_ c
        rw [Int32.le_iff_toInt_le, pk_sub_toInt (by omega) (by omega)]
        show _ ≤ (0 : Int)
        omega
    obtain ⟨-, -, -, -, g1, g2, g3, -⟩ := tx_num q hq cap hlt
    have D1 : ∀ {Y : va_W}, mj_C (mj_ky κ Y (0 + 0 + 1) (0 + 0 + 80)) cJ5_ensureCapacityInternal_d00df 3 RJ5 := mx_C C (by rw [hmc]; exact Nat.le_refl _) (by rw [hms]; exact Nat.le_refl _)
    refine mx_aload_n D0 dJ5_ensureCapacityInternal_d00df_17 rfl ?_
    refine mx_aload_n D0 dJ5_ensureCapacityInternal_d00df_18 rfl ?_
    refine mx_get (k := 0) (w := mj_o (some aV)) C lF_J5_15 rfl rfl (fun _ => rfl) dJ5_ensureCapacityInternal_d00df_19 ?_
    refine mx_aload_n D0 dJ5_ensureCapacityInternal_d00df_22 rfl ?_
    refine mj_iload_n D0 dJ5_ensureCapacityInternal_d00df_23 rfl ?_
    refine mx_callU (av := [.inl (nI q)]) (Y0 := []) (kc := 0) C lM_J5_104 lw_same_newCapacity lw_sel_newCapacity lw_ins_newCapacity lk_J5_newCapacity_0f7a4 rfl (T_newCap hq hlt) rfl rfl (mx_fit hR hmc hms rfl rfl rfl rfl) rfl (Nat.le_of_ble_eq_true rfl) dJ5_ensureCapacityInternal_d00df_24 (fun r Y' hp => ?_)
    obtain ⟨rfl, rfl⟩ := hp
    refine mx_aload_n D0 dJ5_ensureCapacityInternal_d00df_27 rfl ?_
    refine mx_get (k := 0) (Y := tx (mj_cI κ) aS aV cap f ml n) (w := .inl 0) C lF_J5_22 rfl rfl (fun _ => rfl) dJ5_ensureCapacityInternal_d00df_28 ?_
    refine mj_ishl D0 dJ5_ensureCapacityInternal_d00df_31 ?_
    refine mj_nm (mj_shl0 _) ?_
    refine mx_callS (av := [mj_o (some aV), .inl (nI (sb_cap q cap))]) (Y0 := []) C lM_J5_108 lS_J7_copyOf_9075b rfl (T_copyOf (aS := aS) (n := n) (ml := ml) g1 g3 hI.2.1) rfl (mx_fit hR hmc hms rfl rfl rfl rfl) rfl (Nat.le_of_ble_eq_true rfl) dJ5_ensureCapacityInternal_d00df_32 (fun r Y' hp => ?_)
    obtain ⟨v, rfl, rfl⟩ := hp
    refine mx_put (k := 0) (w := mj_o (some v)) (Y := tx (mj_cI κ) aS aV cap f ml n ++ [(v, .inl ((mj_cI κ).2, sb_cap q cap, .inl (va_cpy f (fun _ => 0) 0 0 cap)))]) (Y' := [(aS, .inr (0, [.ref v, .int 0, .int ml, .int (nI n)])), (aV, .inl ((mj_cI κ).2, cap, .inl f)), (v, .inl ((mj_cI κ).2, sb_cap q cap, .inl (va_cpy f (fun _ => 0) 0 0 cap)))]) C lF_J5_15 fR_0_0 rfl (fun _ => rfl) rfl rfl (Nat.le_of_ble_eq_true rfl) dJ5_ensureCapacityInternal_d00df_35 rfl ?_
    refine mx_drop (Y' := tx (mj_cI κ) aS v (sb_cap q cap) (va_cpy f (fun _ => 0) 0 0 cap) ml n) ?_ ?_
    · exact List.Sublist.cons_cons _ (List.Sublist.cons _ (List.Sublist.refl _))
    · exact mx_vret C hT (Nat.le_refl _) (Nat.le_refl _) dJ5_ensureCapacityInternal_d00df_38 ⟨rfl, v, _, _, tx_grow hI (Nat.le_of_lt g3) g1, g2, rfl⟩

