set_option maxRecDepth 20000 in
theorem lG_J6_83 : Cond.fieldLink RJ6 83 "java/lang/Integer" "DigitOnes" "[B" ∈ mj_T := (mj_in5 157 rfl rfl)
set_option maxRecDepth 20000 in
theorem lG_J6_87 : Cond.fieldLink RJ6 87 "java/lang/Integer" "DigitTens" "[B" ∈ mj_T := (mj_in5 159 rfl rfl)
set_option maxRecDepth 20000 in
theorem lG_J0_9b : Cond.fieldLink RJ0 9 "java/lang/String" "value" "[B" ∈ mj_T := (mj_in9 60 rfl rfl)
set_option maxRecDepth 20000 in
theorem lM_J0_212 : Cond.methodLink RJ0 212 arraycopyName ∈ mj_T := (mj_in5 219 rfl rfl)
/-! the text as a list of its characters -/
def tl (l : List Nat) : Nat → Nat := fun j => l.getD j 0
def txJ (l : List Nat) (cap : Nat) (f : Nat → Int32) : Prop := txI (tl l) l.length cap f
def txY (cI : mj_I) (aS : Nat) (ml : Int32) (l : List Nat) (Y : va_W) : Prop := ∃ (aV cap : Nat) (f : Nat → Int32), txJ l cap f ∧ Y = tx cI aS aV cap f ml l.length
theorem tl_left {l w : List Nat} {j : Nat} (h : j < l.length) : tl (l ++ w) j = tl l j := by
  unfold tl
  rw [List.getD_eq_getElem?_getD, List.getD_eq_getElem?_getD, List.getElem?_append_left h]
theorem tl_right {l w : List Nat} {j : Nat} (h : l.length ≤ j) : tl (l ++ w) j = tl w (j - l.length) := by
  unfold tl
  rw [List.getD_eq_getElem?_getD, List.getD_eq_getElem?_getD, List.getElem?_append_right h]
theorem tx_put {l w : List Nat} {cap : Nat} {f f' : Nat → Int32} (h : txJ l cap f) (hf : sb_Fit f') (hc : l.length + w.length ≤ cap) (hk : ∀ j, j < l.length → f' j = f j) (hw : ∀ i, i < w.length → tl w i < 256 ∧ f' (l.length + i) = sb_b (tl w i)) : txJ (l ++ w) cap f' := by
  refine ⟨fun j hj => ?_, hf, by rw [List.length_append]; exact hc, h.2.2.2⟩
  rw [List.length_append] at hj
  rcases Nat.lt_or_ge j l.length with c | c
  · rw [tl_left c, hk j c]
    exact h.1 j c
  · rw [tl_right c]
    have := hw (j - l.length) (by omega)
    rw [show l.length + (j - l.length) = j by omega] at this
    exact this
section MT3
variable {κ : mj_K} {cc : ByteArray} {nL : Nat} {own : String} {Q : State → Prop} {pc : Nat} {L : List (Option mj_V)} {st : List mj_V} {M : mj_M} {Y : va_W} {ce sl k a : Nat}
theorem mj_gsr {idx i : Nat} (C : mj_C κ cc nL own) (hi : i < 5) (hlink : Cond.fieldLink own idx (mj_sn i).1 (mj_sn i).2.1 (mj_sn i).2.2.1 ∈ mj_T) (hd : decode cc pc = .ok (.getstatic idx, 3)) (k : mj_R κ Q (pc + 3) L (mj_r (99, i) :: st) M) : mj_R κ Q pc L st M := by
  obtain ⟨⟨p, l, e, R, s, m, args, below, meth, c⟩, D, cI, ad, G, X, A, ce, sl⟩ := κ
  obtain ⟨hx, hb, hml, hown, hts, hK, hA, hE, hlk, hcs⟩ := C
  intro H locs ls hP hD hS hl
  exact va_gets hx hb (hE.1 i hi).1 hS hown (hts _ hlink) (fun _ h => h) hd (k H locs ls hP hD hS hl)
theorem mj_bldS {i : Nat} {x : Int32} (C : mj_C κ cc nL own) (hi : i < 5) (hty : (mj_sn i).2.2.2.1 = .byte) (hin : mj_ok x (mj_sn i).2.2.2.2 = true) (hd : decode cc pc = .ok (.baload, 1)) (k : mj_R κ Q (pc + 1) L (.inl (mj_sa i (mj_cl x)) :: st) M) : mj_R κ Q pc L (.inl x :: mj_r (99, i) :: st) M := by
  obtain ⟨⟨p, l, e, R, s, m, args, below, meth, c⟩, D, cI, ad, G, X, A, ce, sl⟩ := κ
  obtain ⟨hx, hb, hml, hown, hts, hK, hA, hE, hlk, hcs⟩ := C
  intro H locs ls hP hD hS hl
  obtain ⟨cell, g1, g2, g3, g4, g5, g6, g7⟩ := (hE.1 i hi).2.kept hS.2.1
  rw [hty] at g2
  have hv := mj_ok_in hin
  have hlt : x.toNatClampNeg < (mj_sn i).2.2.2.2 := Nat.not_le.mp fun q => hv (Or.inr q)
  exact W.bald hx hb g1 g2 g3 (fun q => q.elim (fun q => hv (Or.inl q)) (fun q => by omega)) (g6 _ hlt) rfl rfl hd (k H locs ls hP hD hS hl)
theorem mx_callVs {y : MethodName} {cy : ByteArray} {nLy dy n idx mc ms i : Nat} {ret : Option FieldType} {av : List mj_V} {Y0 Yc : va_W} {post : Option mj_V → va_W → Prop} (C : mj_C κ cc nL own) (hlink : Cond.methodLink own idx y ∈ mj_T) (Kl : mj_lkV y cy nLy ret n) (hi : i < 31) (hC : y.cls = "java/lang/String") (hL : L.length = nL) (S : mx_Sem (mj_cI κ) y cy nLy ret dy mc ms (mj_r (98, i) :: av) Yc post) (hY : Y = Y0 ++ Yc) (hF : mx_fits κ dy nLy ce sl mc ms) (hn : av.length = n) (hst : st.length ≤ 8) (hd : decode cc pc = .ok (.invokevirtual idx, 3)) (kk : ∀ (r : Option mj_V) (Y' : va_W), post r Y' → mj_R (mj_ky κ (Y0 ++ Y') (ce + mc) (sl + ms)) Q (pc + 3) L (r.toList ++ st) M) : mj_R (mj_ky κ Y ce sl) Q pc L (av.reverse ++ mj_r (98, i) :: st) M := by
  subst hY
  obtain ⟨⟨p, l, e, R, s, m, args, below, meth, c⟩, D, cI, ad, G, X, A, ce0, sl0⟩ := κ
  obtain ⟨hx, hb, hml, hown, hts, hK, hA, hE, hlk, hcs⟩ := C
  intro H locs ls hP hD hS hl
  have hP : va_P D vwCl (mj_w cI ad G M ++ (X ++ (Y0 ++ Yc))) H := hP
  have hD : va_D A (mj_w cI ad G M ++ (X ++ (Y0 ++ Yc))) := hD
  rw [← List.append_assoc X] at hP hD
  have hAH : ∀ q : Nat, H.size ≤ q → A q := fun q h => hA q (Nat.le_trans hS.1 h)
  have hin := mj_A_in hD hAH
  have hM := S l D ad G M (X ++ Y0) H.size
  have hrc : ∃ cellB : Cell, H[ad (98, i)]? = some cellB ∧ cellB.vm.isStatics = false ∧ s.vm.findClass y.cls = some cellB.cls := by
    rw [hC]
    obtain ⟨cell, h1, h2, h3, -⟩ := (hE.2.2.2.2.1 i _ (mj_ss_at hi)).2.1.kept hS.2.1
    exact ⟨cell, h1, h2, h3⟩
  refine mx_after (va_runV (As := av.map (mj_cv ad)) (rest := st.map (mj_cv ad)) ⟨hx, hb, hml, hown, hts⟩ hM ⟨callB_of n hts (mj_wsIn Kl.1) rfl rfl rfl (hts _ Kl.1.2.1) (hts _ hlink) Kl.1.2.2 hF.1, hts _ Kl.2.1, hts _ Kl.2.2⟩ ⟨mx_blind D cI ad G M (X ++ Y0) Yc H.size (mj_r (98, i) :: av), hrc, fun U hU hW => ⟨rfl, by rw [hU], by rw [hU]; exact hP, va_K.moved hW.alike hK, hD.weaken (fun _ _ _ _ => trivial), mj_E.go (by rw [hU]; exact hS) hW hin hE⟩⟩ rfl (by rw [List.length_map]; exact hn) (hl.1.trans hL) (by simp [mj_cv, mj_r]; try rfl) (by rw [mj_cats]; show 2 * 0 + _ ≤ 8; omega) hd hF.2) hS hin hin (fun r Y' H1 locs1 hp hP1 hD1 hS1 => ?_)
  rw [mj_tol]
  rw [List.append_assoc X] at hP1 hD1
  exact kk r Y' hp H1 locs1 ls hP1 hD1 hS1 hl
theorem mx_cpys {k1 a1 n1 idx i : Nat} {g : Nat → Int32} {sp dp n : Int32} {Y' : va_W} (C : mj_C κ cc nL own) (hlink : Cond.methodLink own idx arraycopyName ∈ mj_T) (hL : L.length = nL) (hi : i < 31) (h1 : Y[k1]? = some (a1, .inl ((mj_cI κ).2, n1, .inl g))) (hok : mj_cok sp dp n (mj_ss i).2.2.2.length n1 = true) (hfit : sb_Fit (fun j => (mj_ss i).2.2.2.getD j 0)) (hF : 1 ≤ (mj_room κ).frames ∧ 30 ≤ (mj_room κ).locals) (hst : st.length ≤ 8) (hd : decode cc pc = .ok (.invokestatic idx, 3)) (hs : Y.set k1 (a1, .inl ((mj_cI κ).2, n1, .inl (va_cpy (fun j => (mj_ss i).2.2.2.getD j 0) g (mj_cl sp) (mj_cl dp) (mj_cl n)))) = Y') (kk : mj_R (mj_ky κ Y' ce sl) Q (pc + 3) L st M) : mj_R (mj_ky κ Y ce sl) Q pc L (.inl n :: .inl dp :: mj_o (some a1) :: .inl sp :: mj_r (97, i) :: st) M := by
  obtain ⟨⟨p, l, e, R, s, m, args, below, meth, c⟩, D, cI, ad, G, X, A, ce0, sl0⟩ := κ
  obtain ⟨hx, hb, hml, hown, hts, hK, hA, hE, hlk, hcs⟩ := C
  intro H locs ls hP hD hS hl
  simp only [mj_cok, Bool.and_eq_true, decide_eq_true_eq] at hok
  obtain ⟨⟨⟨⟨q1, q2⟩, q3⟩, q4⟩, q5⟩ := hok
  have b1 := mj_nn q1
  have b2 := mj_nn q2
  have b3 := mj_nn q3
  refine vk_copyt hx hb (hml.trans (hL.symm.trans hl.1.symm)) hown (hts _ hlink) (hts _ mx_cn) (hts _ mx_cs) (hts _ mx_ci) hK hP hD hS (hE.2.2.2.2.1 i _ (mj_ss_at hi)).2.2.2.2 _ 1 (mx_at h1) rfl b1.1 b2.1 b3.1 (by omega) (by omega) (fun i _ => hfit _) hF.1 (by rw [mj_cats]; show _ + (7 + 11) ≤ R.locals; have h2 : 30 ≤ R.locals := hF.2; omega) hd (fun H1 locs1 hP1 hD1 hS1 => ?_)
  rw [mx_set, show sp.toNatClampNeg = mj_cl sp from rfl, show dp.toNatClampNeg = mj_cl dp from rfl, show n.toNatClampNeg = mj_cl n from rfl, hs] at hP1 hD1
  exact kk H1 locs1 ls hP1 hD1 hS1 hl
end MT3
theorem T_appC {cI : mj_I} {aS aV cap c : Nat} {f : Nat → Int32} {ml : Int32} {l : List Nat} (hI : txJ l cap f) (hn : l.length + 1 < 40) (hc : c < 256) : mx_Sem cI yJ5_append_3fe6f cJ5_append_3fe6f 2 (some (.object "java/lang/AbstractStringBuilder")) 4 1 80 [mj_o (some aS), .inl (nI c)] (tx cI aS aV cap f ml l.length) (fun r Y' => r = some (mj_o (some aS)) ∧ txY cI aS ml (l ++ [c]) Y') := by
  refine mx_intro (by decide) (Nat.le_of_ble_eq_true rfl) ?_
  intro κ M C hcI hR hmc hms hT hN
  subst hcI
  have C : mj_C κ cJ5_append_3fe6f 2 RJ5 := C
  show mj_R (mj_ky κ (tx (mj_cI κ) aS aV cap f ml l.length) 0 0) (mx_F κ M 1 80 _) 0 [some (mj_o (some aS)), some (.inl (nI c))] [] M
  refine mx_aload_n (mx_D C hmc hms rfl rfl) dJ5_append_3fe6f_0 rfl ?_
  refine mx_aload_n (mx_D C hmc hms rfl rfl) dJ5_append_3fe6f_1 rfl ?_
  refine mx_get (k := 0) (w := .inl (nI l.length)) C lF_J5_79 rfl rfl (fun _ => rfl) dJ5_append_3fe6f_2 ?_
  refine mj_iconst (v := 1) (mx_D C hmc hms rfl rfl) dJ5_append_3fe6f_5 (by decide) ?_
  refine mj_iadd (mx_D C hmc hms rfl rfl) dJ5_append_3fe6f_6 ?_
  refine mj_nm (a := nI (l.length + 1)) (nI_1 _) ?_
  refine mx_callU (av := [.inl (nI (l.length + 1))]) (Y0 := []) (kc := 0) C lM_J5_100 lw_same_ensureCapacityInternal lw_sel_ensureCapacityInternal lw_ins_ensureCapacityInternal lk_J5_ensureCapacityInternal_d00df rfl (T_ens (q := l.length + 1) hI hn) rfl rfl (mx_fit hR hmc hms rfl rfl rfl rfl) rfl (Nat.le_of_ble_eq_true rfl) dJ5_append_3fe6f_7 (fun r Y' hp => ?_)
  obtain ⟨rfl, aV1, cap1, f1, hI1, hle, rfl⟩ := hp
  show mj_R (mj_ky κ (tx (mj_cI κ) aS aV1 cap1 f1 ml l.length) 1 80) _ 10 [some (mj_o (some aS)), some (.inl (nI c))] [] M
  refine mx_aload_n (mx_D C hmc hms rfl rfl) dJ5_append_3fe6f_10 rfl ?_
  refine mx_callU (av := []) (Y0 := []) (kc := 0) C lM_J5_83 lw_same_isLatin1 lw_sel_isLatin1 lw_ins_isLatin1 lk_J5_isLatin1_aae02 rfl T_isLat rfl rfl (mx_fit hR hmc hms rfl rfl rfl rfl) rfl (Nat.le_of_ble_eq_true rfl) dJ5_append_3fe6f_11 (fun r Y' hp => ?_)
  obtain ⟨rfl, rfl⟩ := hp
  show mj_R (mj_ky κ (tx (mj_cI κ) aS aV1 cap1 f1 ml l.length) 1 80) _ 14 [some (mj_o (some aS)), some (.inl (nI c))] [.inl 1] M
  refine mj_if_eq (tgt := 45) (mx_D C hmc hms rfl rfl) dJ5_append_3fe6f_14 (by decide) (fun hbr => absurd hbr (by decide)) (fun _ => ?_)
  refine mj_iload_n (mx_D C hmc hms rfl rfl) dJ5_append_3fe6f_17 rfl ?_
  refine mj_callS1 (av := [.inl (nI c)]) (mx_D C hmc hms rfl rfl) lM_J5_191 lS_J1_canEncode_fc78d rfl (T_can hc) (mj_rmok (κ := mj_ky κ (tx (mj_cI κ) aS aV1 cap1 f1 ml l.length) 1 80) hR (by decide) (by decide)) rfl (Nat.le_of_ble_eq_true rfl) dJ5_append_3fe6f_18 (fun hb => ?_)
  refine mj_if_eq (tgt := 45) (mx_D C hmc hms rfl rfl) dJ5_append_3fe6f_21 (by decide) (fun hbr => absurd hbr (by decide)) (fun _ => ?_)
  refine mx_aload_n (mx_D C hmc hms rfl rfl) dJ5_append_3fe6f_24 rfl ?_
  refine mx_get (k := 0) (w := mj_o (some aV1)) C lF_J5_15 rfl rfl (fun _ => rfl) dJ5_append_3fe6f_25 ?_
  refine mx_aload_n (mx_D C hmc hms rfl rfl) dJ5_append_3fe6f_28 rfl ?_
  refine mj_dup (mx_D C hmc hms rfl rfl) dJ5_append_3fe6f_29 ?_
  refine mx_get (k := 0) (w := .inl (nI l.length)) C lF_J5_79 rfl rfl (fun _ => rfl) dJ5_append_3fe6f_30 ?_
  refine mj_dupx1 (mx_D C hmc hms rfl rfl) dJ5_append_3fe6f_33 ?_
  refine mj_iconst (v := 1) (mx_D C hmc hms rfl rfl) dJ5_append_3fe6f_34 (by decide) ?_
  refine mj_iadd (mx_D C hmc hms rfl rfl) dJ5_append_3fe6f_35 ?_
  refine mj_nm (a := nI (l.length + 1)) (nI_1 _) ?_
  refine mx_put (k := 0) (w := .inl (nI (l.length + 1))) (Y' := (tx (mj_cI κ) aS aV1 cap1 f1 ml (l.length + 1))) C lF_J5_79 fR_0_3 rfl (fun _ => rfl) (vp_nar_int _) rfl (Nat.le_of_ble_eq_true rfl) dJ5_append_3fe6f_36 rfl ?_
  refine mj_iload_n (mx_D C hmc hms rfl rfl) dJ5_append_3fe6f_39 rfl ?_
  refine mj_i2b (mx_D C hmc hms rfl rfl) dJ5_append_3fe6f_40 (tx_ch c hc).2.2.1 ?_
  refine mx_bast (k := 1) (Y' := (tx (mj_cI κ) aS aV1 cap1 (upd f1 l.length (sb_b c)) ml (l.length + 1))) C rfl (mj_ok_nI (by omega) (by have := hI1.2.2.2; omega)) (tx_ch c hc).2.2.2.1 dJ5_append_3fe6f_41 (by rw [mj_cl_nI (by omega)]; rfl) ?_
  refine mj_goto (tgt := 75) (mx_D C hmc hms rfl rfl) dJ5_append_3fe6f_42 (by decide) ?_
  refine mx_aload_n (mx_D C hmc hms rfl rfl) dJ5_append_3fe6f_75 rfl ?_
  refine mx_aret C hT (Or.inl ⟨_, rfl⟩) (Nat.le_refl _) (Nat.le_refl _) dJ5_append_3fe6f_76 ⟨rfl, aV1, cap1, _, tx_put (f := f1) hI1 (sb_fitU hI1.2.1 (tx_ch c hc).2.2.2.2.1) hle (fun j hj => ?_) (fun i hi => ?_), by rw [List.length_append]; rfl⟩
  · unfold upd
    rw [if_neg (by omega)]
  · have hi0 : i = 0 := by simpa using hi
    subst hi0
    exact ⟨hc, by unfold upd; rw [if_pos (Nat.add_zero _)]; rfl⟩
def dg (c : Nat) : List Nat := if c < 10 then [48 + c] else if c < 100 then [48 + c / 10, 48 + c % 10] else [48 + c / 100, 48 + c / 10 % 10, 48 + c % 10]
theorem dg_len (c : Nat) : (dg c).length = if c < 10 then 1 else if c < 100 then 2 else 3 := by
  unfold dg
  split
  · rfl
  · split <;> rfl
theorem nI_m1 (k : Nat) : nI (k + 1) + Int32.ofInt (-1) = nI k := by
  rw [nI_succ, Int32.add_assoc, show (1 : Int32) + Int32.ofInt (-1) = 0 by decide, Int32.add_zero]
theorem tx_ng : ∀ c, c < 256 → ((-(nI c) ≤ -10) = (10 ≤ c)) ∧ ((-(nI c) ≤ -100) = (100 ≤ c)) ∧ ¬ (-(nI c) ≤ -1000) ∧ ¬ nI c < 0 ∧ 0 ≤ nI c ∧ (((-100 : Int32) < -(nI c)) = (c < 100)) ∧ (((-9 : Int32) ≤ -(nI c)) = (c < 10)) ∧ -(nI c) / 100 = -(nI (c / 100)) ∧ -(nI (c / 100)) * 100 - -(nI c) = nI (c % 100) ∧ -(-(nI c)) = nI c ∧ -(-(nI (c / 100))) = nI (c / 100) ∧ (-100 : Int32) < -(nI (c / 100)) ∧ (-9 : Int32) ≤ -(nI (c / 100)) := by decide +kernel
theorem tx_dg : ∀ j, j < 100 → mj_sa 4 j = sb_b (48 + j % 10) ∧ mj_sa 3 j = sb_b (48 + j / 10) ∧ vp_nar .byte (mj_sa 4 j) = mj_sa 4 j ∧ vp_nar .byte (mj_sa 3 j) = mj_sa 3 j ∧ fits .byte (.int (mj_sa 4 j)) = true ∧ fits .byte (.int (mj_sa 3 j)) = true := by decide +kernel
theorem T_ss1 {G : mj_G} {M : mj_M} {c : Nat} (hc : c < 256) (h1 : c < 10) : mj_S1 yJ6_stringSize_0f7a4 cJ6_stringSize_0f7a4 4 (some .int) 0 G [.inl (nI c)] M (some (.inl 1)) M := by
  obtain ⟨e1, e2, e3, e4, e5, -⟩ := tx_ng c hc
  refine mj_intro (by decide) (Nat.le_of_ble_eq_true rfl) ?_
  intro κ C hG hR hT
  subst hG
  have C : mj_C κ cJ6_stringSize_0f7a4 4 RJ6 := C
  show mj_R κ (mj_F κ _) 0 [some (.inl (nI c)), none, none, none] [] M
  refine mj_iconst (v := 1) C dJ6_stringSize_0f7a4_0 (by decide) ?_
  refine mj_istore_n (L2 := [some (.inl (nI c)), some (.inl 1), none, none]) C dJ6_stringSize_0f7a4_1 (Nat.le_of_ble_eq_true rfl) rfl ?_
  refine mj_iload_n C dJ6_stringSize_0f7a4_2 rfl ?_
  refine mj_if_lt (tgt := 11) C dJ6_stringSize_0f7a4_3 (by decide) (fun hbr => absurd hbr e4) (fun _ => ?_)
  refine mj_iconst (v := 0) C dJ6_stringSize_0f7a4_6 (by decide) ?_
  refine mj_istore_n (L2 := [some (.inl (nI c)), some (.inl 0), none, none]) C dJ6_stringSize_0f7a4_7 (Nat.le_of_ble_eq_true rfl) rfl ?_
  refine mj_iload_n C dJ6_stringSize_0f7a4_8 rfl ?_
  refine mj_ineg C dJ6_stringSize_0f7a4_9 ?_
  refine mj_istore_n (L2 := [some (.inl (-(nI c))), some (.inl 0), none, none]) C dJ6_stringSize_0f7a4_10 (Nat.le_of_ble_eq_true rfl) rfl ?_
  refine mj_bipush (v := (-10)) C dJ6_stringSize_0f7a4_11 (by decide) ?_
  refine mj_istore_n (L2 := [some (.inl (-(nI c))), some (.inl 0), some (.inl (-10)), none]) C dJ6_stringSize_0f7a4_13 (Nat.le_of_ble_eq_true rfl) rfl ?_
  refine mj_iconst (v := 1) C dJ6_stringSize_0f7a4_14 (by decide) ?_
  refine mj_istore_n (L2 := [some (.inl (-(nI c))), some (.inl 0), some (.inl (-10)), some (.inl 1)]) C dJ6_stringSize_0f7a4_15 (Nat.le_of_ble_eq_true rfl) rfl ?_
  refine mj_iload_n C dJ6_stringSize_0f7a4_16 rfl ?_
  refine mj_bipush (v := 10) C dJ6_stringSize_0f7a4_17 (by decide) ?_
  refine mj_icmp_ge (tgt := 42) C dJ6_stringSize_0f7a4_19 (by decide) (fun hbr => absurd hbr (by decide)) (fun _ => ?_)
  refine mj_iload_n C dJ6_stringSize_0f7a4_22 rfl ?_
  refine mj_iload_n C dJ6_stringSize_0f7a4_23 rfl ?_
  refine mj_icmp_le (tgt := 31) C dJ6_stringSize_0f7a4_24 (by decide) (fun hbr => absurd (e1 ▸ hbr) (by omega)) (fun _ => ?_)
  refine mj_iload_n C dJ6_stringSize_0f7a4_27 rfl ?_
  refine mj_iload_n C dJ6_stringSize_0f7a4_28 rfl ?_
  refine mj_iadd C dJ6_stringSize_0f7a4_29 ?_
  refine mj_nm (a := 1) (by decide) ?_
  exact mj_iret C hT (vp_nar_int _) dJ6_stringSize_0f7a4_30 ⟨rfl, rfl, mj_bi _⟩
theorem T_ss2 {G : mj_G} {M : mj_M} {c : Nat} (hc : c < 256) (h0 : 10 ≤ c) (h1 : c < 100) : mj_S1 yJ6_stringSize_0f7a4 cJ6_stringSize_0f7a4 4 (some .int) 0 G [.inl (nI c)] M (some (.inl 2)) M := by
  obtain ⟨e1, e2, e3, e4, e5, -⟩ := tx_ng c hc
  refine mj_intro (by decide) (Nat.le_of_ble_eq_true rfl) ?_
  intro κ C hG hR hT
  subst hG
  have C : mj_C κ cJ6_stringSize_0f7a4 4 RJ6 := C
  show mj_R κ (mj_F κ _) 0 [some (.inl (nI c)), none, none, none] [] M
  refine mj_iconst (v := 1) C dJ6_stringSize_0f7a4_0 (by decide) ?_
  refine mj_istore_n (L2 := [some (.inl (nI c)), some (.inl 1), none, none]) C dJ6_stringSize_0f7a4_1 (Nat.le_of_ble_eq_true rfl) rfl ?_
  refine mj_iload_n C dJ6_stringSize_0f7a4_2 rfl ?_
  refine mj_if_lt (tgt := 11) C dJ6_stringSize_0f7a4_3 (by decide) (fun hbr => absurd hbr e4) (fun _ => ?_)
  refine mj_iconst (v := 0) C dJ6_stringSize_0f7a4_6 (by decide) ?_
  refine mj_istore_n (L2 := [some (.inl (nI c)), some (.inl 0), none, none]) C dJ6_stringSize_0f7a4_7 (Nat.le_of_ble_eq_true rfl) rfl ?_
  refine mj_iload_n C dJ6_stringSize_0f7a4_8 rfl ?_
  refine mj_ineg C dJ6_stringSize_0f7a4_9 ?_
  refine mj_istore_n (L2 := [some (.inl (-(nI c))), some (.inl 0), none, none]) C dJ6_stringSize_0f7a4_10 (Nat.le_of_ble_eq_true rfl) rfl ?_
  refine mj_bipush (v := (-10)) C dJ6_stringSize_0f7a4_11 (by decide) ?_
  refine mj_istore_n (L2 := [some (.inl (-(nI c))), some (.inl 0), some (.inl (-10)), none]) C dJ6_stringSize_0f7a4_13 (Nat.le_of_ble_eq_true rfl) rfl ?_
  refine mj_iconst (v := 1) C dJ6_stringSize_0f7a4_14 (by decide) ?_
  refine mj_istore_n (L2 := [some (.inl (-(nI c))), some (.inl 0), some (.inl (-10)), some (.inl 1)]) C dJ6_stringSize_0f7a4_15 (Nat.le_of_ble_eq_true rfl) rfl ?_
  refine mj_iload_n C dJ6_stringSize_0f7a4_16 rfl ?_
  refine mj_bipush (v := 10) C dJ6_stringSize_0f7a4_17 (by decide) ?_
  refine mj_icmp_ge (tgt := 42) C dJ6_stringSize_0f7a4_19 (by decide) (fun hbr => absurd hbr (by decide)) (fun _ => ?_)
  refine mj_iload_n C dJ6_stringSize_0f7a4_22 rfl ?_
  refine mj_iload_n C dJ6_stringSize_0f7a4_23 rfl ?_
  refine mj_icmp_le (tgt := 31) C dJ6_stringSize_0f7a4_24 (by decide) (fun _ => ?_) (fun hbr => absurd (e1 ▸ h0) hbr)
  refine mj_bipush (v := 10) C dJ6_stringSize_0f7a4_31 (by decide) ?_
  refine mj_iload_n C dJ6_stringSize_0f7a4_33 rfl ?_
  refine mj_imul C dJ6_stringSize_0f7a4_34 ?_
  refine mj_nm (a := -100) (by decide) ?_
  refine mj_istore_n (L2 := [some (.inl (-(nI c))), some (.inl 0), some (.inl (-100)), some (.inl 1)]) C dJ6_stringSize_0f7a4_35 (Nat.le_of_ble_eq_true rfl) rfl ?_
  refine mj_iinc (v := 2) (L2 := [some (.inl (-(nI c))), some (.inl 0), some (.inl (-100)), some (.inl 2)]) C dJ6_stringSize_0f7a4_36 rfl (by decide) rfl ?_
  refine mj_goto (tgt := 16) C dJ6_stringSize_0f7a4_39 (by decide) ?_
  refine mj_iload_n C dJ6_stringSize_0f7a4_16 rfl ?_
  refine mj_bipush (v := 10) C dJ6_stringSize_0f7a4_17 (by decide) ?_
  refine mj_icmp_ge (tgt := 42) C dJ6_stringSize_0f7a4_19 (by decide) (fun hbr => absurd hbr (by decide)) (fun _ => ?_)
  refine mj_iload_n C dJ6_stringSize_0f7a4_22 rfl ?_
  refine mj_iload_n C dJ6_stringSize_0f7a4_23 rfl ?_
  refine mj_icmp_le (tgt := 31) C dJ6_stringSize_0f7a4_24 (by decide) (fun hbr => absurd (e2 ▸ hbr) (by omega)) (fun _ => ?_)
  refine mj_iload_n C dJ6_stringSize_0f7a4_27 rfl ?_
  refine mj_iload_n C dJ6_stringSize_0f7a4_28 rfl ?_
  refine mj_iadd C dJ6_stringSize_0f7a4_29 ?_
  refine mj_nm (a := 2) (by decide) ?_
  exact mj_iret C hT (vp_nar_int _) dJ6_stringSize_0f7a4_30 ⟨rfl, rfl, mj_bi _⟩
theorem T_ss3 {G : mj_G} {M : mj_M} {c : Nat} (hc : c < 256) (h0 : 100 ≤ c) : mj_S1 yJ6_stringSize_0f7a4 cJ6_stringSize_0f7a4 4 (some .int) 0 G [.inl (nI c)] M (some (.inl 3)) M := by
  obtain ⟨e1, e2, e3, e4, e5, -⟩ := tx_ng c hc
  refine mj_intro (by decide) (Nat.le_of_ble_eq_true rfl) ?_
  intro κ C hG hR hT
  subst hG
  have C : mj_C κ cJ6_stringSize_0f7a4 4 RJ6 := C
  show mj_R κ (mj_F κ _) 0 [some (.inl (nI c)), none, none, none] [] M
  refine mj_iconst (v := 1) C dJ6_stringSize_0f7a4_0 (by decide) ?_
  refine mj_istore_n (L2 := [some (.inl (nI c)), some (.inl 1), none, none]) C dJ6_stringSize_0f7a4_1 (Nat.le_of_ble_eq_true rfl) rfl ?_
  refine mj_iload_n C dJ6_stringSize_0f7a4_2 rfl ?_
  refine mj_if_lt (tgt := 11) C dJ6_stringSize_0f7a4_3 (by decide) (fun hbr => absurd hbr e4) (fun _ => ?_)
  refine mj_iconst (v := 0) C dJ6_stringSize_0f7a4_6 (by decide) ?_
  refine mj_istore_n (L2 := [some (.inl (nI c)), some (.inl 0), none, none]) C dJ6_stringSize_0f7a4_7 (Nat.le_of_ble_eq_true rfl) rfl ?_
  refine mj_iload_n C dJ6_stringSize_0f7a4_8 rfl ?_
  refine mj_ineg C dJ6_stringSize_0f7a4_9 ?_
  refine mj_istore_n (L2 := [some (.inl (-(nI c))), some (.inl 0), none, none]) C dJ6_stringSize_0f7a4_10 (Nat.le_of_ble_eq_true rfl) rfl ?_
  refine mj_bipush (v := (-10)) C dJ6_stringSize_0f7a4_11 (by decide) ?_
  refine mj_istore_n (L2 := [some (.inl (-(nI c))), some (.inl 0), some (.inl (-10)), none]) C dJ6_stringSize_0f7a4_13 (Nat.le_of_ble_eq_true rfl) rfl ?_
  refine mj_iconst (v := 1) C dJ6_stringSize_0f7a4_14 (by decide) ?_
  refine mj_istore_n (L2 := [some (.inl (-(nI c))), some (.inl 0), some (.inl (-10)), some (.inl 1)]) C dJ6_stringSize_0f7a4_15 (Nat.le_of_ble_eq_true rfl) rfl ?_
  refine mj_iload_n C dJ6_stringSize_0f7a4_16 rfl ?_
  refine mj_bipush (v := 10) C dJ6_stringSize_0f7a4_17 (by decide) ?_
  refine mj_icmp_ge (tgt := 42) C dJ6_stringSize_0f7a4_19 (by decide) (fun hbr => absurd hbr (by decide)) (fun _ => ?_)
  refine mj_iload_n C dJ6_stringSize_0f7a4_22 rfl ?_
  refine mj_iload_n C dJ6_stringSize_0f7a4_23 rfl ?_
  refine mj_icmp_le (tgt := 31) C dJ6_stringSize_0f7a4_24 (by decide) (fun _ => ?_) (fun hbr => absurd (e1 ▸ (by omega : 10 ≤ c)) hbr)
  refine mj_bipush (v := 10) C dJ6_stringSize_0f7a4_31 (by decide) ?_
  refine mj_iload_n C dJ6_stringSize_0f7a4_33 rfl ?_
  refine mj_imul C dJ6_stringSize_0f7a4_34 ?_
  refine mj_nm (a := -100) (by decide) ?_
  refine mj_istore_n (L2 := [some (.inl (-(nI c))), some (.inl 0), some (.inl (-100)), some (.inl 1)]) C dJ6_stringSize_0f7a4_35 (Nat.le_of_ble_eq_true rfl) rfl ?_
  refine mj_iinc (v := 2) (L2 := [some (.inl (-(nI c))), some (.inl 0), some (.inl (-100)), some (.inl 2)]) C dJ6_stringSize_0f7a4_36 rfl (by decide) rfl ?_
  refine mj_goto (tgt := 16) C dJ6_stringSize_0f7a4_39 (by decide) ?_
  refine mj_iload_n C dJ6_stringSize_0f7a4_16 rfl ?_
  refine mj_bipush (v := 10) C dJ6_stringSize_0f7a4_17 (by decide) ?_
  refine mj_icmp_ge (tgt := 42) C dJ6_stringSize_0f7a4_19 (by decide) (fun hbr => absurd hbr (by decide)) (fun _ => ?_)
  refine mj_iload_n C dJ6_stringSize_0f7a4_22 rfl ?_
  refine mj_iload_n C dJ6_stringSize_0f7a4_23 rfl ?_
  refine mj_icmp_le (tgt := 31) C dJ6_stringSize_0f7a4_24 (by decide) (fun _ => ?_) (fun hbr => absurd (e2 ▸ h0) hbr)
  refine mj_bipush (v := 10) C dJ6_stringSize_0f7a4_31 (by decide) ?_
  refine mj_iload_n C dJ6_stringSize_0f7a4_33 rfl ?_
  refine mj_imul C dJ6_stringSize_0f7a4_34 ?_
  refine mj_nm (a := -1000) (by decide) ?_
  refine mj_istore_n (L2 := [some (.inl (-(nI c))), some (.inl 0), some (.inl (-1000)), some (.inl 2)]) C dJ6_stringSize_0f7a4_35 (Nat.le_of_ble_eq_true rfl) rfl ?_
  refine mj_iinc (v := 3) (L2 := [some (.inl (-(nI c))), some (.inl 0), some (.inl (-1000)), some (.inl 3)]) C dJ6_stringSize_0f7a4_36 rfl (by decide) rfl ?_
  refine mj_goto (tgt := 16) C dJ6_stringSize_0f7a4_39 (by decide) ?_
  refine mj_iload_n C dJ6_stringSize_0f7a4_16 rfl ?_
  refine mj_bipush (v := 10) C dJ6_stringSize_0f7a4_17 (by decide) ?_
  refine mj_icmp_ge (tgt := 42) C dJ6_stringSize_0f7a4_19 (by decide) (fun hbr => absurd hbr (by decide)) (fun _ => ?_)
  refine mj_iload_n C dJ6_stringSize_0f7a4_22 rfl ?_
  refine mj_iload_n C dJ6_stringSize_0f7a4_23 rfl ?_
  refine mj_icmp_le (tgt := 31) C dJ6_stringSize_0f7a4_24 (by decide) (fun hbr => absurd hbr e3) (fun _ => ?_)
  refine mj_iload_n C dJ6_stringSize_0f7a4_27 rfl ?_
  refine mj_iload_n C dJ6_stringSize_0f7a4_28 rfl ?_
  refine mj_iadd C dJ6_stringSize_0f7a4_29 ?_
  refine mj_nm (a := 3) (by decide) ?_
  exact mj_iret C hT (vp_nar_int _) dJ6_stringSize_0f7a4_30 ⟨rfl, rfl, mj_bi _⟩
theorem T_ss {G : mj_G} {M : mj_M} {c : Nat} (hc : c < 256) : mj_S1 yJ6_stringSize_0f7a4 cJ6_stringSize_0f7a4 4 (some .int) 0 G [.inl (nI c)] M (some (.inl (nI (dg c).length))) M := by
  rw [dg_len]
  by_cases h1 : c < 10
  · rw [if_pos h1]
    exact T_ss1 hc h1
  · rw [if_neg h1]
    by_cases h2 : c < 100
    · rw [if_pos h2]
      exact T_ss2 hc (by omega) h2
    · rw [if_neg h2]
      exact T_ss3 hc (by omega)
theorem T_gc1 {cI : mj_I} {aS aV cap c n n0 : Nat} {f : Nat → Int32} {ml : Int32} (hc : c < 256) (h1 : c < 10) (hf : sb_Fit f) (hcap : n + 1 ≤ cap) (hcap2 : cap ≤ 80) : mx_Sem cI yJ6_getChars_ba4f3 cJ6_getChars_ba4f3 7 (some .int) 0 0 0 [.inl (nI c), .inl (nI (n + 1)), mj_o (some aV)] (tx cI aS aV cap f ml n0) (fun r Y' => r = some (.inl (nI n)) ∧ Y' = tx cI aS aV cap (upd f n (mj_sa 4 c)) ml n0) := by
  obtain ⟨-, -, -, e4, e5, e6, e7, e8, e9, e10, e11, e12, e13⟩ := tx_ng c hc
  refine mx_intro (by decide) (Nat.le_of_ble_eq_true rfl) ?_
  intro κ M C hcI hR hmc hms hT hN
  subst hcI
  have C : mj_C κ cJ6_getChars_ba4f3 7 RJ6 := C
  show mj_R (mj_ky κ (tx (mj_cI κ) aS aV cap f ml n0) 0 0) (mx_F κ M 0 0 _) 0 [some (.inl (nI c)), some (.inl (nI (n + 1))), some (mj_o (some aV)), none, none, none, none] [] M
  refine mj_iload_n (mx_D C hmc hms rfl rfl) dJ6_getChars_ba4f3_0 rfl ?_
  refine mj_istore (L2 := [some (.inl (nI c)), some (.inl (nI (n + 1))), some (mj_o (some aV)), none, none, some (.inl (nI (n + 1))), none]) (mx_D C hmc hms rfl rfl) dJ6_getChars_ba4f3_1 (Nat.le_of_ble_eq_true rfl) rfl ?_
  refine mj_iload_n (mx_D C hmc hms rfl rfl) dJ6_getChars_ba4f3_3 rfl ?_
  refine mj_if_ge (tgt := 11) (mx_D C hmc hms rfl rfl) dJ6_getChars_ba4f3_4 (by decide) (fun _ => ?_) (fun hbr => absurd e5 hbr)
  refine mj_iconst (v := 0) (mx_D C hmc hms rfl rfl) dJ6_getChars_ba4f3_11 (by decide) ?_
  refine mj_istore (L2 := [some (.inl (nI c)), some (.inl (nI (n + 1))), some (mj_o (some aV)), none, none, some (.inl (nI (n + 1))), some (.inl 0)]) (mx_D C hmc hms rfl rfl) dJ6_getChars_ba4f3_12 (Nat.le_of_ble_eq_true rfl) rfl ?_
  refine mj_iload (mx_D C hmc hms rfl rfl) dJ6_getChars_ba4f3_14 rfl ?_
  refine mj_if_ne (tgt := 22) (mx_D C hmc hms rfl rfl) dJ6_getChars_ba4f3_16 (by decide) (fun hbr => absurd rfl hbr) (fun _ => ?_)
  refine mj_iload_n (mx_D C hmc hms rfl rfl) dJ6_getChars_ba4f3_19 rfl ?_
  refine mj_ineg (mx_D C hmc hms rfl rfl) dJ6_getChars_ba4f3_20 ?_
  refine mj_istore_n (L2 := [some (.inl (-(nI c))), some (.inl (nI (n + 1))), some (mj_o (some aV)), none, none, some (.inl (nI (n + 1))), some (.inl 0)]) (mx_D C hmc hms rfl rfl) dJ6_getChars_ba4f3_21 (Nat.le_of_ble_eq_true rfl) rfl ?_
  refine mj_iload_n (mx_D C hmc hms rfl rfl) dJ6_getChars_ba4f3_22 rfl ?_
  refine mj_bipush (v := (-100)) (mx_D C hmc hms rfl rfl) dJ6_getChars_ba4f3_23 (by decide) ?_
  refine mj_icmp_gt (tgt := 72) (mx_D C hmc hms rfl rfl) dJ6_getChars_ba4f3_25 (by decide) (fun _ => ?_) (fun hbr => absurd (e6 ▸ (by omega : c < 100)) hbr)
  refine mx_aload_n (mx_D C hmc hms rfl rfl) dJ6_getChars_ba4f3_72 rfl ?_
  refine mj_iinc (v := nI n) (L2 := [some (.inl (-(nI c))), some (.inl (nI (n + 1))), some (mj_o (some aV)), none, none, some (.inl (nI n)), some (.inl 0)]) (mx_D C hmc hms rfl rfl) dJ6_getChars_ba4f3_73 rfl (nI_m1 _) rfl ?_
  refine mj_iload (mx_D C hmc hms rfl rfl) dJ6_getChars_ba4f3_76 rfl ?_
  refine mj_gsr (i := 4) (mx_D C hmc hms rfl rfl) (by decide) lG_J6_83 dJ6_getChars_ba4f3_78 ?_
  refine mj_iload_n (mx_D C hmc hms rfl rfl) dJ6_getChars_ba4f3_81 rfl ?_
  refine mj_ineg (mx_D C hmc hms rfl rfl) dJ6_getChars_ba4f3_82 ?_
  refine mj_nm (a := nI c) e10 ?_
  refine mj_bldS (i := 4) (mx_D C hmc hms rfl rfl) (by decide) rfl (mj_ok_nI (n := 100) (by omega) (by decide)) dJ6_getChars_ba4f3_83 ?_
  rw [mj_cl_nI (i := c) (by omega)]
  refine mx_bast (k := 1) (Y' := (tx (mj_cI κ) aS aV cap (upd f n (mj_sa 4 c)) ml n0)) C rfl (mj_ok_nI (by omega) (by omega)) (tx_dg _ (by omega)).2.2.1 dJ6_getChars_ba4f3_84 (by rw [mj_cl_nI (by omega)]; rfl) ?_
  refine mj_iload_n (mx_D C hmc hms rfl rfl) dJ6_getChars_ba4f3_85 rfl ?_
  refine mj_bipush (v := (-9)) (mx_D C hmc hms rfl rfl) dJ6_getChars_ba4f3_86 (by decide) ?_
  refine mj_icmp_ge (tgt := 104) (mx_D C hmc hms rfl rfl) dJ6_getChars_ba4f3_88 (by decide) (fun _ => ?_) (fun hbr => absurd (e7 ▸ h1) hbr)
  refine mj_iload (mx_D C hmc hms rfl rfl) dJ6_getChars_ba4f3_104 rfl ?_
  refine mj_if_eq (tgt := 118) (mx_D C hmc hms rfl rfl) dJ6_getChars_ba4f3_106 (by decide) (fun _ => ?_) (fun hbr => absurd rfl hbr)
  refine mj_iload (mx_D C hmc hms rfl rfl) dJ6_getChars_ba4f3_118 rfl ?_
  exact mx_iret C hT (vp_nar_int _) (Nat.le_refl _) (Nat.le_refl _) dJ6_getChars_ba4f3_120 ⟨rfl, rfl⟩
theorem T_gc2 {cI : mj_I} {aS aV cap c n n0 : Nat} {f : Nat → Int32} {ml : Int32} (hc : c < 256) (h0 : 10 ≤ c) (h1 : c < 100) (hf : sb_Fit f) (hcap : n + 2 ≤ cap) (hcap2 : cap ≤ 80) : mx_Sem cI yJ6_getChars_ba4f3 cJ6_getChars_ba4f3 7 (some .int) 0 0 0 [.inl (nI c), .inl (nI (n + 2)), mj_o (some aV)] (tx cI aS aV cap f ml n0) (fun r Y' => r = some (.inl (nI n)) ∧ Y' = tx cI aS aV cap (upd (upd f (n + 1) (mj_sa 4 c)) n (mj_sa 3 c)) ml n0) := by
  obtain ⟨-, -, -, e4, e5, e6, e7, e8, e9, e10, e11, e12, e13⟩ := tx_ng c hc
  refine mx_intro (by decide) (Nat.le_of_ble_eq_true rfl) ?_
  intro κ M C hcI hR hmc hms hT hN
  subst hcI
  have C : mj_C κ cJ6_getChars_ba4f3 7 RJ6 := C
  show mj_R (mj_ky κ (tx (mj_cI κ) aS aV cap f ml n0) 0 0) (mx_F κ M 0 0 _) 0 [some (.inl (nI c)), some (.inl (nI (n + 2))), some (mj_o (some aV)), none, none, none, none] [] M
  refine mj_iload_n (mx_D C hmc hms rfl rfl) dJ6_getChars_ba4f3_0 rfl ?_
  refine mj_istore (L2 := [some (.inl (nI c)), some (.inl (nI (n + 2))), some (mj_o (some aV)), none, none, some (.inl (nI (n + 2))), none]) (mx_D C hmc hms rfl rfl) dJ6_getChars_ba4f3_1 (Nat.le_of_ble_eq_true rfl) rfl ?_
  refine mj_iload_n (mx_D C hmc hms rfl rfl) dJ6_getChars_ba4f3_3 rfl ?_
  refine mj_if_ge (tgt := 11) (mx_D C hmc hms rfl rfl) dJ6_getChars_ba4f3_4 (by decide) (fun _ => ?_) (fun hbr => absurd e5 hbr)
  refine mj_iconst (v := 0) (mx_D C hmc hms rfl rfl) dJ6_getChars_ba4f3_11 (by decide) ?_
  refine mj_istore (L2 := [some (.inl (nI c)), some (.inl (nI (n + 2))), some (mj_o (some aV)), none, none, some (.inl (nI (n + 2))), some (.inl 0)]) (mx_D C hmc hms rfl rfl) dJ6_getChars_ba4f3_12 (Nat.le_of_ble_eq_true rfl) rfl ?_
  refine mj_iload (mx_D C hmc hms rfl rfl) dJ6_getChars_ba4f3_14 rfl ?_
  refine mj_if_ne (tgt := 22) (mx_D C hmc hms rfl rfl) dJ6_getChars_ba4f3_16 (by decide) (fun hbr => absurd rfl hbr) (fun _ => ?_)
  refine mj_iload_n (mx_D C hmc hms rfl rfl) dJ6_getChars_ba4f3_19 rfl ?_
  refine mj_ineg (mx_D C hmc hms rfl rfl) dJ6_getChars_ba4f3_20 ?_
  refine mj_istore_n (L2 := [some (.inl (-(nI c))), some (.inl (nI (n + 2))), some (mj_o (some aV)), none, none, some (.inl (nI (n + 2))), some (.inl 0)]) (mx_D C hmc hms rfl rfl) dJ6_getChars_ba4f3_21 (Nat.le_of_ble_eq_true rfl) rfl ?_
  refine mj_iload_n (mx_D C hmc hms rfl rfl) dJ6_getChars_ba4f3_22 rfl ?_
  refine mj_bipush (v := (-100)) (mx_D C hmc hms rfl rfl) dJ6_getChars_ba4f3_23 (by decide) ?_
  refine mj_icmp_gt (tgt := 72) (mx_D C hmc hms rfl rfl) dJ6_getChars_ba4f3_25 (by decide) (fun _ => ?_) (fun hbr => absurd (e6 ▸ (by omega : c < 100)) hbr)
  refine mx_aload_n (mx_D C hmc hms rfl rfl) dJ6_getChars_ba4f3_72 rfl ?_
  refine mj_iinc (v := nI (n + 1)) (L2 := [some (.inl (-(nI c))), some (.inl (nI (n + 2))), some (mj_o (some aV)), none, none, some (.inl (nI (n + 1))), some (.inl 0)]) (mx_D C hmc hms rfl rfl) dJ6_getChars_ba4f3_73 rfl (nI_m1 _) rfl ?_
  refine mj_iload (mx_D C hmc hms rfl rfl) dJ6_getChars_ba4f3_76 rfl ?_
  refine mj_gsr (i := 4) (mx_D C hmc hms rfl rfl) (by decide) lG_J6_83 dJ6_getChars_ba4f3_78 ?_
  refine mj_iload_n (mx_D C hmc hms rfl rfl) dJ6_getChars_ba4f3_81 rfl ?_
  refine mj_ineg (mx_D C hmc hms rfl rfl) dJ6_getChars_ba4f3_82 ?_
  refine mj_nm (a := nI c) e10 ?_
  refine mj_bldS (i := 4) (mx_D C hmc hms rfl rfl) (by decide) rfl (mj_ok_nI (n := 100) (by omega) (by decide)) dJ6_getChars_ba4f3_83 ?_
  rw [mj_cl_nI (i := c) (by omega)]
  refine mx_bast (k := 1) (Y' := (tx (mj_cI κ) aS aV cap (upd f (n + 1) (mj_sa 4 c)) ml n0)) C rfl (mj_ok_nI (by omega) (by omega)) (tx_dg _ (by omega)).2.2.1 dJ6_getChars_ba4f3_84 (by rw [mj_cl_nI (by omega)]; rfl) ?_
  refine mj_iload_n (mx_D C hmc hms rfl rfl) dJ6_getChars_ba4f3_85 rfl ?_
  refine mj_bipush (v := (-9)) (mx_D C hmc hms rfl rfl) dJ6_getChars_ba4f3_86 (by decide) ?_
  refine mj_icmp_ge (tgt := 104) (mx_D C hmc hms rfl rfl) dJ6_getChars_ba4f3_88 (by decide) (fun hbr => absurd (e7 ▸ hbr) (by omega)) (fun _ => ?_)
  refine mx_aload_n (mx_D C hmc hms rfl rfl) dJ6_getChars_ba4f3_91 rfl ?_
  refine mj_iinc (v := nI n) (L2 := [some (.inl (-(nI c))), some (.inl (nI (n + 2))), some (mj_o (some aV)), none, none, some (.inl (nI n)), some (.inl 0)]) (mx_D C hmc hms rfl rfl) dJ6_getChars_ba4f3_92 rfl (nI_m1 _) rfl ?_
  refine mj_iload (mx_D C hmc hms rfl rfl) dJ6_getChars_ba4f3_95 rfl ?_
  refine mj_gsr (i := 3) (mx_D C hmc hms rfl rfl) (by decide) lG_J6_87 dJ6_getChars_ba4f3_97 ?_
  refine mj_iload_n (mx_D C hmc hms rfl rfl) dJ6_getChars_ba4f3_100 rfl ?_
  refine mj_ineg (mx_D C hmc hms rfl rfl) dJ6_getChars_ba4f3_101 ?_
  refine mj_nm (a := nI c) e10 ?_
  refine mj_bldS (i := 3) (mx_D C hmc hms rfl rfl) (by decide) rfl (mj_ok_nI (n := 100) (by omega) (by decide)) dJ6_getChars_ba4f3_102 ?_
  rw [mj_cl_nI (i := c) (by omega)]
  refine mx_bast (k := 1) (Y' := (tx (mj_cI κ) aS aV cap (upd (upd f (n + 1) (mj_sa 4 c)) n (mj_sa 3 c)) ml n0)) C rfl (mj_ok_nI (by omega) (by omega)) (tx_dg _ (by omega)).2.2.2.1 dJ6_getChars_ba4f3_103 (by rw [mj_cl_nI (by omega)]; rfl) ?_
  refine mj_iload (mx_D C hmc hms rfl rfl) dJ6_getChars_ba4f3_104 rfl ?_
  refine mj_if_eq (tgt := 118) (mx_D C hmc hms rfl rfl) dJ6_getChars_ba4f3_106 (by decide) (fun _ => ?_) (fun hbr => absurd rfl hbr)
  refine mj_iload (mx_D C hmc hms rfl rfl) dJ6_getChars_ba4f3_118 rfl ?_
  exact mx_iret C hT (vp_nar_int _) (Nat.le_refl _) (Nat.le_refl _) dJ6_getChars_ba4f3_120 ⟨rfl, rfl⟩
theorem T_gc3 {cI : mj_I} {aS aV cap c n n0 : Nat} {f : Nat → Int32} {ml : Int32} (hc : c < 256) (h0 : 100 ≤ c) (hf : sb_Fit f) (hcap : n + 3 ≤ cap) (hcap2 : cap ≤ 80) : mx_Sem cI yJ6_getChars_ba4f3 cJ6_getChars_ba4f3 7 (some .int) 0 0 0 [.inl (nI c), .inl (nI (n + 3)), mj_o (some aV)] (tx cI aS aV cap f ml n0) (fun r Y' => r = some (.inl (nI n)) ∧ Y' = tx cI aS aV cap (upd (upd (upd f (n + 2) (mj_sa 4 (c % 100))) (n + 1) (mj_sa 3 (c % 100))) n (mj_sa 4 (c / 100))) ml n0) := by
  obtain ⟨-, -, -, e4, e5, e6, e7, e8, e9, e10, e11, e12, e13⟩ := tx_ng c hc
  refine mx_intro (by decide) (Nat.le_of_ble_eq_true rfl) ?_
  intro κ M C hcI hR hmc hms hT hN
  subst hcI
  have C : mj_C κ cJ6_getChars_ba4f3 7 RJ6 := C
  show mj_R (mj_ky κ (tx (mj_cI κ) aS aV cap f ml n0) 0 0) (mx_F κ M 0 0 _) 0 [some (.inl (nI c)), some (.inl (nI (n + 3))), some (mj_o (some aV)), none, none, none, none] [] M
  refine mj_iload_n (mx_D C hmc hms rfl rfl) dJ6_getChars_ba4f3_0 rfl ?_
  refine mj_istore (L2 := [some (.inl (nI c)), some (.inl (nI (n + 3))), some (mj_o (some aV)), none, none, some (.inl (nI (n + 3))), none]) (mx_D C hmc hms rfl rfl) dJ6_getChars_ba4f3_1 (Nat.le_of_ble_eq_true rfl) rfl ?_
  refine mj_iload_n (mx_D C hmc hms rfl rfl) dJ6_getChars_ba4f3_3 rfl ?_
  refine mj_if_ge (tgt := 11) (mx_D C hmc hms rfl rfl) dJ6_getChars_ba4f3_4 (by decide) (fun _ => ?_) (fun hbr => absurd e5 hbr)
  refine mj_iconst (v := 0) (mx_D C hmc hms rfl rfl) dJ6_getChars_ba4f3_11 (by decide) ?_
  refine mj_istore (L2 := [some (.inl (nI c)), some (.inl (nI (n + 3))), some (mj_o (some aV)), none, none, some (.inl (nI (n + 3))), some (.inl 0)]) (mx_D C hmc hms rfl rfl) dJ6_getChars_ba4f3_12 (Nat.le_of_ble_eq_true rfl) rfl ?_
  refine mj_iload (mx_D C hmc hms rfl rfl) dJ6_getChars_ba4f3_14 rfl ?_
  refine mj_if_ne (tgt := 22) (mx_D C hmc hms rfl rfl) dJ6_getChars_ba4f3_16 (by decide) (fun hbr => absurd rfl hbr) (fun _ => ?_)
  refine mj_iload_n (mx_D C hmc hms rfl rfl) dJ6_getChars_ba4f3_19 rfl ?_
  refine mj_ineg (mx_D C hmc hms rfl rfl) dJ6_getChars_ba4f3_20 ?_
  refine mj_istore_n (L2 := [some (.inl (-(nI c))), some (.inl (nI (n + 3))), some (mj_o (some aV)), none, none, some (.inl (nI (n + 3))), some (.inl 0)]) (mx_D C hmc hms rfl rfl) dJ6_getChars_ba4f3_21 (Nat.le_of_ble_eq_true rfl) rfl ?_
  refine mj_iload_n (mx_D C hmc hms rfl rfl) dJ6_getChars_ba4f3_22 rfl ?_
  refine mj_bipush (v := (-100)) (mx_D C hmc hms rfl rfl) dJ6_getChars_ba4f3_23 (by decide) ?_
  refine mj_icmp_gt (tgt := 72) (mx_D C hmc hms rfl rfl) dJ6_getChars_ba4f3_25 (by decide) (fun hbr => absurd (e6 ▸ hbr) (by omega)) (fun _ => ?_)
  refine mj_iload_n (mx_D C hmc hms rfl rfl) dJ6_getChars_ba4f3_28 rfl ?_
  refine mj_bipush (v := 100) (mx_D C hmc hms rfl rfl) dJ6_getChars_ba4f3_29 (by decide) ?_
  refine mj_idiv (mx_D C hmc hms rfl rfl) dJ6_getChars_ba4f3_31 (by decide) ?_
  refine mj_nm (a := -(nI (c / 100))) e8 ?_
  refine mj_istore_n (L2 := [some (.inl (-(nI c))), some (.inl (nI (n + 3))), some (mj_o (some aV)), some (.inl (-(nI (c / 100)))), none, some (.inl (nI (n + 3))), some (.inl 0)]) (mx_D C hmc hms rfl rfl) dJ6_getChars_ba4f3_32 (Nat.le_of_ble_eq_true rfl) rfl ?_
  refine mj_iload_n (mx_D C hmc hms rfl rfl) dJ6_getChars_ba4f3_33 rfl ?_
  refine mj_bipush (v := 100) (mx_D C hmc hms rfl rfl) dJ6_getChars_ba4f3_34 (by decide) ?_
  refine mj_imul (mx_D C hmc hms rfl rfl) dJ6_getChars_ba4f3_36 ?_
  refine mj_iload_n (mx_D C hmc hms rfl rfl) dJ6_getChars_ba4f3_37 rfl ?_
  refine mj_isub (mx_D C hmc hms rfl rfl) dJ6_getChars_ba4f3_38 ?_
  refine mj_nm (a := nI (c % 100)) e9 ?_
  refine mj_istore (L2 := [some (.inl (-(nI c))), some (.inl (nI (n + 3))), some (mj_o (some aV)), some (.inl (-(nI (c / 100)))), some (.inl (nI (c % 100))), some (.inl (nI (n + 3))), some (.inl 0)]) (mx_D C hmc hms rfl rfl) dJ6_getChars_ba4f3_39 (Nat.le_of_ble_eq_true rfl) rfl ?_
  refine mj_iload_n (mx_D C hmc hms rfl rfl) dJ6_getChars_ba4f3_41 rfl ?_
  refine mj_istore_n (L2 := [some (.inl (-(nI (c / 100)))), some (.inl (nI (n + 3))), some (mj_o (some aV)), some (.inl (-(nI (c / 100)))), some (.inl (nI (c % 100))), some (.inl (nI (n + 3))), some (.inl 0)]) (mx_D C hmc hms rfl rfl) dJ6_getChars_ba4f3_42 (Nat.le_of_ble_eq_true rfl) rfl ?_
  refine mx_aload_n (mx_D C hmc hms rfl rfl) dJ6_getChars_ba4f3_43 rfl ?_
  refine mj_iinc (v := nI (n + 2)) (L2 := [some (.inl (-(nI (c / 100)))), some (.inl (nI (n + 3))), some (mj_o (some aV)), some (.inl (-(nI (c / 100)))), some (.inl (nI (c % 100))), some (.inl (nI (n + 2))), some (.inl 0)]) (mx_D C hmc hms rfl rfl) dJ6_getChars_ba4f3_44 rfl (nI_m1 _) rfl ?_
  refine mj_iload (mx_D C hmc hms rfl rfl) dJ6_getChars_ba4f3_47 rfl ?_
  refine mj_gsr (i := 4) (mx_D C hmc hms rfl rfl) (by decide) lG_J6_83 dJ6_getChars_ba4f3_49 ?_
  refine mj_iload (mx_D C hmc hms rfl rfl) dJ6_getChars_ba4f3_52 rfl ?_
  refine mj_bldS (i := 4) (mx_D C hmc hms rfl rfl) (by decide) rfl (mj_ok_nI (n := 100) (by omega) (by decide)) dJ6_getChars_ba4f3_54 ?_
  rw [mj_cl_nI (i := c % 100) (by omega)]
  refine mx_bast (k := 1) (Y' := (tx (mj_cI κ) aS aV cap (upd f (n + 2) (mj_sa 4 (c % 100))) ml n0)) C rfl (mj_ok_nI (by omega) (by omega)) (tx_dg _ (by omega)).2.2.1 dJ6_getChars_ba4f3_55 (by rw [mj_cl_nI (by omega)]; rfl) ?_
  refine mx_aload_n (mx_D C hmc hms rfl rfl) dJ6_getChars_ba4f3_56 rfl ?_
  refine mj_iinc (v := nI (n + 1)) (L2 := [some (.inl (-(nI (c / 100)))), some (.inl (nI (n + 3))), some (mj_o (some aV)), some (.inl (-(nI (c / 100)))), some (.inl (nI (c % 100))), some (.inl (nI (n + 1))), some (.inl 0)]) (mx_D C hmc hms rfl rfl) dJ6_getChars_ba4f3_57 rfl (nI_m1 _) rfl ?_
  refine mj_iload (mx_D C hmc hms rfl rfl) dJ6_getChars_ba4f3_60 rfl ?_
  refine mj_gsr (i := 3) (mx_D C hmc hms rfl rfl) (by decide) lG_J6_87 dJ6_getChars_ba4f3_62 ?_
  refine mj_iload (mx_D C hmc hms rfl rfl) dJ6_getChars_ba4f3_65 rfl ?_
  refine mj_bldS (i := 3) (mx_D C hmc hms rfl rfl) (by decide) rfl (mj_ok_nI (n := 100) (by omega) (by decide)) dJ6_getChars_ba4f3_67 ?_
  rw [mj_cl_nI (i := c % 100) (by omega)]
  refine mx_bast (k := 1) (Y' := (tx (mj_cI κ) aS aV cap (upd (upd f (n + 2) (mj_sa 4 (c % 100))) (n + 1) (mj_sa 3 (c % 100))) ml n0)) C rfl (mj_ok_nI (by omega) (by omega)) (tx_dg _ (by omega)).2.2.2.1 dJ6_getChars_ba4f3_68 (by rw [mj_cl_nI (by omega)]; rfl) ?_
  refine mj_goto (tgt := 22) (mx_D C hmc hms rfl rfl) dJ6_getChars_ba4f3_69 (by decide) ?_
  refine mj_iload_n (mx_D C hmc hms rfl rfl) dJ6_getChars_ba4f3_22 rfl ?_
  refine mj_bipush (v := (-100)) (mx_D C hmc hms rfl rfl) dJ6_getChars_ba4f3_23 (by decide) ?_
  refine mj_icmp_gt (tgt := 72) (mx_D C hmc hms rfl rfl) dJ6_getChars_ba4f3_25 (by decide) (fun _ => ?_) (fun hbr => absurd e12 hbr)
  refine mx_aload_n (mx_D C hmc hms rfl rfl) dJ6_getChars_ba4f3_72 rfl ?_
  refine mj_iinc (v := nI n) (L2 := [some (.inl (-(nI (c / 100)))), some (.inl (nI (n + 3))), some (mj_o (some aV)), some (.inl (-(nI (c / 100)))), some (.inl (nI (c % 100))), some (.inl (nI n)), some (.inl 0)]) (mx_D C hmc hms rfl rfl) dJ6_getChars_ba4f3_73 rfl (nI_m1 _) rfl ?_
  refine mj_iload (mx_D C hmc hms rfl rfl) dJ6_getChars_ba4f3_76 rfl ?_
  refine mj_gsr (i := 4) (mx_D C hmc hms rfl rfl) (by decide) lG_J6_83 dJ6_getChars_ba4f3_78 ?_
  refine mj_iload_n (mx_D C hmc hms rfl rfl) dJ6_getChars_ba4f3_81 rfl ?_
  refine mj_ineg (mx_D C hmc hms rfl rfl) dJ6_getChars_ba4f3_82 ?_
  refine mj_nm (a := nI (c / 100)) e11 ?_
  refine mj_bldS (i := 4) (mx_D C hmc hms rfl rfl) (by decide) rfl (mj_ok_nI (n := 100) (by omega) (by decide)) dJ6_getChars_ba4f3_83 ?_
  rw [mj_cl_nI (i := c / 100) (by omega)]
  refine mx_bast (k := 1) (Y' := (tx (mj_cI κ) aS aV cap (upd (upd (upd f (n + 2) (mj_sa 4 (c % 100))) (n + 1) (mj_sa 3 (c % 100))) n (mj_sa 4 (c / 100))) ml n0)) C rfl (mj_ok_nI (by omega) (by omega)) (tx_dg _ (by omega)).2.2.1 dJ6_getChars_ba4f3_84 (by rw [mj_cl_nI (by omega)]; rfl) ?_
  refine mj_iload_n (mx_D C hmc hms rfl rfl) dJ6_getChars_ba4f3_85 rfl ?_
  refine mj_bipush (v := (-9)) (mx_D C hmc hms rfl rfl) dJ6_getChars_ba4f3_86 (by decide) ?_
  refine mj_icmp_ge (tgt := 104) (mx_D C hmc hms rfl rfl) dJ6_getChars_ba4f3_88 (by decide) (fun _ => ?_) (fun hbr => absurd e13 hbr)
  refine mj_iload (mx_D C hmc hms rfl rfl) dJ6_getChars_ba4f3_104 rfl ?_
  refine mj_if_eq (tgt := 118) (mx_D C hmc hms rfl rfl) dJ6_getChars_ba4f3_106 (by decide) (fun _ => ?_) (fun hbr => absurd rfl hbr)
  refine mj_iload (mx_D C hmc hms rfl rfl) dJ6_getChars_ba4f3_118 rfl ?_
  exact mx_iret C hT (vp_nar_int _) (Nat.le_refl _) (Nat.le_refl _) dJ6_getChars_ba4f3_120 ⟨rfl, rfl⟩
def gcf (c n : Nat) (f : Nat → Int32) : Nat → Int32 := if c < 10 then upd f n (mj_sa 4 c) else if c < 100 then upd (upd f (n + 1) (mj_sa 4 c)) n (mj_sa 3 c) else upd (upd (upd f (n + 2) (mj_sa 4 (c % 100))) (n + 1) (mj_sa 3 (c % 100))) n (mj_sa 4 (c / 100))
theorem T_gc {cI : mj_I} {aS aV cap c n n0 : Nat} {f : Nat → Int32} {ml : Int32} (hc : c < 256) (hf : sb_Fit f) (hcap : n + (dg c).length ≤ cap) (hcap2 : cap ≤ 80) : mx_Sem cI yJ6_getChars_ba4f3 cJ6_getChars_ba4f3 7 (some .int) 0 0 0 [.inl (nI c), .inl (nI (n + (dg c).length)), mj_o (some aV)] (tx cI aS aV cap f ml n0) (fun r Y' => r = some (.inl (nI n)) ∧ Y' = tx cI aS aV cap (gcf c n f) ml n0) := by
  rw [dg_len] at hcap ⊢
  unfold gcf
  by_cases h1 : c < 10
  · rw [if_pos h1] at hcap ⊢
    rw [if_pos h1]
    exact T_gc1 hc h1 hf hcap hcap2
  · rw [if_neg h1] at hcap ⊢
    rw [if_neg h1]
    by_cases h2 : c < 100
    · rw [if_pos h2] at hcap ⊢
      rw [if_pos h2]
      exact T_gc2 hc (by omega) h2 hf hcap hcap2
    · rw [if_neg h2] at hcap ⊢
      rw [if_neg h2]
      exact T_gc3 hc (by omega) hf hcap hcap2
theorem gcf_fit {c n : Nat} {f : Nat → Int32} (hc : c < 256) (hf : sb_Fit f) : sb_Fit (gcf c n f) := by
  unfold gcf
  split
  · exact sb_fitU hf (tx_dg c (by omega)).2.2.2.2.1
  · split
    · exact sb_fitU (sb_fitU hf (tx_dg c (by omega)).2.2.2.2.1) (tx_dg c (by omega)).2.2.2.2.2
    · exact sb_fitU (sb_fitU (sb_fitU hf (tx_dg (c % 100) (by omega)).2.2.2.2.1) (tx_dg (c % 100) (by omega)).2.2.2.2.2) (tx_dg (c / 100) (by omega)).2.2.2.2.1
theorem gcf_old {c n j : Nat} {f : Nat → Int32} (h : j < n) : gcf c n f j = f j := by
  unfold gcf
  split
  · unfold upd
    rw [if_neg (by omega)]
  · split
    · unfold upd
      rw [if_neg (by omega), if_neg (by omega)]
    · unfold upd
      rw [if_neg (by omega), if_neg (by omega), if_neg (by omega)]
theorem gcf_new {c n i : Nat} {f : Nat → Int32} (hc : c < 256) (hi : i < (dg c).length) : tl (dg c) i < 256 ∧ gcf c n f (n + i) = sb_b (tl (dg c) i) := by
  rw [dg_len] at hi
  unfold gcf dg
  by_cases h1 : c < 10
  · rw [if_pos h1] at hi
    obtain rfl : i = 0 := by omega
    rw [if_pos h1, if_pos h1]
    refine ⟨by show 48 + c < 256; omega, ?_⟩
    unfold upd
    rw [if_pos (Nat.add_zero _), (tx_dg c (by omega)).1, Nat.mod_eq_of_lt h1]
    rfl
  · rw [if_neg h1] at hi
    rw [if_neg h1, if_neg h1]
    by_cases h2 : c < 100
    · rw [if_pos h2] at hi
      rw [if_pos h2, if_pos h2]
      rcases (by omega : i = 0 ∨ i = 1) with rfl | rfl
      · refine ⟨by show 48 + c / 10 < 256; omega, ?_⟩
        unfold upd
        rw [if_pos (Nat.add_zero _), (tx_dg c h2).2.1]
        rfl
      · refine ⟨by show 48 + c % 10 < 256; omega, ?_⟩
        unfold upd
        rw [if_neg (by omega), if_pos rfl, (tx_dg c h2).1]
        rfl
    · rw [if_neg h2] at hi
      rw [if_neg h2, if_neg h2]
      rcases (by omega : i = 0 ∨ i = 1 ∨ i = 2) with rfl | rfl | rfl
      · refine ⟨by show 48 + c / 100 < 256; omega, ?_⟩
        unfold upd
        rw [if_pos (Nat.add_zero _), (tx_dg (c / 100) (by omega)).1, show c / 100 % 10 = c / 100 by omega]
        rfl
      · refine ⟨by show 48 + c / 10 % 10 < 256; omega, ?_⟩
        unfold upd
        rw [if_neg (by omega), if_pos rfl, (tx_dg (c % 100) (by omega)).2.1, show c % 100 / 10 = c / 10 % 10 by omega]
        rfl
      · refine ⟨by show 48 + c % 10 < 256; omega, ?_⟩
        unfold upd
        rw [if_neg (by omega), if_neg (by omega), if_pos rfl, (tx_dg (c % 100) (by omega)).1, show c % 100 % 10 = c % 10 by omega]
        rfl
theorem T_appI {cI : mj_I} {aS aV cap c : Nat} {f : Nat → Int32} {ml : Int32} {l : List Nat} (hI : txJ l cap f) (hn : l.length + 3 < 40) (hc : c < 256) : mx_Sem cI yJ5_append_c97b9 cJ5_append_c97b9 4 (some (.object "java/lang/AbstractStringBuilder")) 4 1 80 [mj_o (some aS), .inl (nI c)] (tx cI aS aV cap f ml l.length) (fun r Y' => r = some (mj_o (some aS)) ∧ txY cI aS ml (l ++ dg c) Y') := by
  have hdl : (dg c).length ≤ 3 := by rw [dg_len]; split; omega; split <;> omega
  refine mx_intro (by decide) (Nat.le_of_ble_eq_true rfl) ?_
  intro κ M C hcI hR hmc hms hT hN
  subst hcI
  have C : mj_C κ cJ5_append_c97b9 4 RJ5 := C
  show mj_R (mj_ky κ (tx (mj_cI κ) aS aV cap f ml l.length) 0 0) (mx_F κ M 1 80 _) 0 [some (mj_o (some aS)), some (.inl (nI c)), none, none] [] M
  refine mx_aload_n (mx_D C hmc hms rfl rfl) dJ5_append_c97b9_0 rfl ?_
  refine mx_get (k := 0) (w := .inl (nI l.length)) C lF_J5_79 rfl rfl (fun _ => rfl) dJ5_append_c97b9_1 ?_
  refine mj_istore_n (L2 := [some (mj_o (some aS)), some (.inl (nI c)), some (.inl (nI l.length)), none]) (mx_D C hmc hms rfl rfl) dJ5_append_c97b9_4 (Nat.le_of_ble_eq_true rfl) rfl ?_
  refine mj_iload_n (mx_D C hmc hms rfl rfl) dJ5_append_c97b9_5 rfl ?_
  refine mj_iload_n (mx_D C hmc hms rfl rfl) dJ5_append_c97b9_6 rfl ?_
  refine mj_callS1 (av := [.inl (nI c)]) (mx_D C hmc hms rfl rfl) lM_J5_245 lS_J6_stringSize_0f7a4 rfl (T_ss hc) (mj_rmok (κ := mj_ky κ (tx (mj_cI κ) aS aV cap f ml l.length) 0 0) hR (by decide) (by decide)) rfl (Nat.le_of_ble_eq_true rfl) dJ5_append_c97b9_7 (fun hb => ?_)
  refine mj_iadd (mx_D C hmc hms rfl rfl) dJ5_append_c97b9_10 ?_
  refine mj_nm (a := nI (l.length + (dg c).length)) (nI_add _ _) ?_
  refine mj_istore_n (L2 := [some (mj_o (some aS)), some (.inl (nI c)), some (.inl (nI l.length)), some (.inl (nI (l.length + (dg c).length)))]) (mx_D C hmc hms rfl rfl) dJ5_append_c97b9_11 (Nat.le_of_ble_eq_true rfl) rfl ?_
  refine mx_aload_n (mx_D C hmc hms rfl rfl) dJ5_append_c97b9_12 rfl ?_
  refine mj_iload_n (mx_D C hmc hms rfl rfl) dJ5_append_c97b9_13 rfl ?_
  refine mx_callU (av := [.inl (nI (l.length + (dg c).length))]) (Y0 := []) (kc := 0) C lM_J5_100 lw_same_ensureCapacityInternal lw_sel_ensureCapacityInternal lw_ins_ensureCapacityInternal lk_J5_ensureCapacityInternal_d00df rfl (T_ens (q := l.length + (dg c).length) hI (by omega)) rfl rfl (mx_fit hR hmc hms rfl rfl rfl rfl) rfl (Nat.le_of_ble_eq_true rfl) dJ5_append_c97b9_14 (fun r Y' hp => ?_)
  obtain ⟨rfl, aV1, cap1, f1, hI1, hle, rfl⟩ := hp
  show mj_R (mj_ky κ (tx (mj_cI κ) aS aV1 cap1 f1 ml l.length) 1 80) _ 17 [some (mj_o (some aS)), some (.inl (nI c)), some (.inl (nI l.length)), some (.inl (nI (l.length + (dg c).length)))] [] M
  refine mx_aload_n (mx_D C hmc hms rfl rfl) dJ5_append_c97b9_17 rfl ?_
  refine mx_callU (av := []) (Y0 := []) (kc := 0) C lM_J5_83 lw_same_isLatin1 lw_sel_isLatin1 lw_ins_isLatin1 lk_J5_isLatin1_aae02 rfl T_isLat rfl rfl (mx_fit hR hmc hms rfl rfl rfl rfl) rfl (Nat.le_of_ble_eq_true rfl) dJ5_append_c97b9_18 (fun r Y' hp => ?_)
  obtain ⟨rfl, rfl⟩ := hp
  show mj_R (mj_ky κ (tx (mj_cI κ) aS aV1 cap1 f1 ml l.length) 1 80) _ 21 [some (mj_o (some aS)), some (.inl (nI c)), some (.inl (nI l.length)), some (.inl (nI (l.length + (dg c).length)))] [.inl 1] M
  refine mj_if_eq (tgt := 37) (mx_D C hmc hms rfl rfl) dJ5_append_c97b9_21 (by decide) (fun hbr => absurd hbr (by decide)) (fun _ => ?_)
  refine mj_iload_n (mx_D C hmc hms rfl rfl) dJ5_append_c97b9_24 rfl ?_
  refine mj_iload_n (mx_D C hmc hms rfl rfl) dJ5_append_c97b9_25 rfl ?_
  refine mx_aload_n (mx_D C hmc hms rfl rfl) dJ5_append_c97b9_26 rfl ?_
  refine mx_get (k := 0) (w := mj_o (some aV1)) C lF_J5_15 rfl rfl (fun _ => rfl) dJ5_append_c97b9_27 ?_
  refine mx_callS (av := [.inl (nI c), .inl (nI (l.length + (dg c).length)), mj_o (some aV1)]) (Y0 := []) C lM_J5_248 lS_J6_getChars_ba4f3 rfl (T_gc (aS := aS) (n0 := l.length) (ml := ml) hc hI1.2.1 hle hI1.2.2.2) rfl (mx_fit hR hmc hms rfl rfl rfl rfl) rfl (Nat.le_of_ble_eq_true rfl) dJ5_append_c97b9_30 (fun r Y' hp => ?_)
  obtain ⟨rfl, rfl⟩ := hp
  show mj_R (mj_ky κ (tx (mj_cI κ) aS aV1 cap1 (gcf c l.length f1) ml l.length) 1 80) _ 33 [some (mj_o (some aS)), some (.inl (nI c)), some (.inl (nI l.length)), some (.inl (nI (l.length + (dg c).length)))] [.inl (nI l.length)] M
  refine mj_pop (mx_D C hmc hms rfl rfl) dJ5_append_c97b9_33 ?_
  refine mj_goto (tgt := 48) (mx_D C hmc hms rfl rfl) dJ5_append_c97b9_34 (by decide) ?_
  refine mx_aload_n (mx_D C hmc hms rfl rfl) dJ5_append_c97b9_48 rfl ?_
  refine mj_iload_n (mx_D C hmc hms rfl rfl) dJ5_append_c97b9_49 rfl ?_
  refine mx_put (k := 0) (w := .inl (nI (l.length + (dg c).length))) (Y' := (tx (mj_cI κ) aS aV1 cap1 (gcf c l.length f1) ml (l.length + (dg c).length))) C lF_J5_79 fR_0_3 rfl (fun _ => rfl) (vp_nar_int _) rfl (Nat.le_of_ble_eq_true rfl) dJ5_append_c97b9_50 rfl ?_
  refine mx_aload_n (mx_D C hmc hms rfl rfl) dJ5_append_c97b9_53 rfl ?_
  exact mx_aret C hT (Or.inl ⟨_, rfl⟩) (Nat.le_refl _) (Nat.le_refl _) dJ5_append_c97b9_54 ⟨rfl, aV1, cap1, _, tx_put (f := f1) hI1 (gcf_fit hc hI1.2.1) hle (fun j hj => gcf_old hj) (fun i hi => gcf_new hc hi), by rw [List.length_append]⟩
def sw (i : Nat) : List Nat := (mj_ss i).2.2.2.map (fun x => mj_cl x)
theorem mj_ss_w : ∀ q ∈ mj_st, q.2.2.2.length ≤ 10 ∧ ∀ x ∈ q.2.2.2, mj_cl x < 256 ∧ x = sb_b (mj_cl x) ∧ fits .byte (.int x) = true := by decide
theorem sw_len (i : Nat) : (sw i).length = (mj_ss i).2.2.2.length := List.length_map _
theorem sw_le {i : Nat} (hi : i < 31) : (sw i).length ≤ 10 := by
  rw [sw_len]
  exact (mj_ss_w _ (List.mem_of_getElem? (mj_ss_at hi))).1
theorem sw_at {i j : Nat} (hi : i < 31) (hj : j < (sw i).length) : tl (sw i) j < 256 ∧ (mj_ss i).2.2.2.getD j 0 = sb_b (tl (sw i) j) := by
  rw [sw_len] at hj
  have h := (mj_ss_w _ (List.mem_of_getElem? (mj_ss_at hi))).2 _ (List.getElem_mem hj)
  have e : tl (sw i) j = mj_cl ((mj_ss i).2.2.2[j]) := by
    unfold tl sw
    rw [List.getD_eq_getElem?_getD, List.getElem?_map, List.getElem?_eq_getElem hj]
    rfl
  rw [e, List.getD_eq_getElem?_getD, List.getElem?_eq_getElem hj]
  exact ⟨h.1, h.2.1⟩
theorem sw_fit {i : Nat} (hi : i < 31) : sb_Fit (fun j => (mj_ss i).2.2.2.getD j 0) := by
  intro j
  show fits .byte (.int ((mj_ss i).2.2.2.getD j 0)) = true
  rcases Nat.lt_or_ge j (mj_ss i).2.2.2.length with h | h
  · rw [List.getD_eq_getElem?_getD, List.getElem?_eq_getElem h]
    exact ((mj_ss_w _ (List.mem_of_getElem? (mj_ss_at hi))).2 _ (List.getElem_mem h)).2.2
  · rw [List.getD_eq_getElem?_getD, List.getElem?_eq_none h]
    decide
theorem T_getB {cI : mj_I} {aS aV cap n n0 i : Nat} {f : Nat → Int32} {ml : Int32} (hi : i < 31) (hcap : n + (sw i).length ≤ cap) (hcap2 : cap ≤ 80) : mx_Sem cI yJ0_getBytes_840e7 cJ0_getBytes_840e7 4 none 1 0 0 [mj_r (98, i), mj_o (some aV), .inl (nI n), .inl 0] (tx cI aS aV cap f ml n0) (fun r Y' => r = none ∧ Y' = tx cI aS aV cap (va_cpy (fun j => (mj_ss i).2.2.2.getD j 0) f 0 n (sw i).length) ml n0) := by
  have hl10 := sw_le hi
  refine mx_intro (by decide) (Nat.le_of_ble_eq_true rfl) ?_
  intro κ M C hcI hR hmc hms hT hN
  subst hcI
  have C : mj_C κ cJ0_getBytes_840e7 4 RJ0 := C
  show mj_R (mj_ky κ (tx (mj_cI κ) aS aV cap f ml n0) 0 0) (mx_F κ M 0 0 _) 0 [some (mj_r (98, i)), some (mj_o (some aV)), some (.inl (nI n)), some (.inl 0)] [] M
  refine mj_aload_n (mx_D C hmc hms rfl rfl) dJ0_getBytes_840e7_0 rfl ?_
  refine mj_callVs (av := []) (mx_D C hmc hms rfl rfl) lM_J0_335 lV_J0_coder_7d493 hi rfl rfl (C_sCoder hi) (mj_rmok (κ := mj_ky κ (tx (mj_cI κ) aS aV cap f ml n0) 0 0) hR (by decide) (by decide)) rfl (Nat.le_of_ble_eq_true rfl) dJ0_getBytes_840e7_1 (fun hb => ?_)
  refine mj_iload_n (mx_D C hmc hms rfl rfl) dJ0_getBytes_840e7_4 rfl ?_
  refine mj_icmp_ne (tgt := 28) (mx_D C hmc hms rfl rfl) dJ0_getBytes_840e7_5 (by decide) (fun hbr => absurd rfl hbr) (fun _ => ?_)
  refine mj_aload_n (mx_D C hmc hms rfl rfl) dJ0_getBytes_840e7_8 rfl ?_
  refine mj_sgv (mx_D C hmc hms rfl rfl) hi lG_J0_9b dJ0_getBytes_840e7_9 ?_
  refine mj_iconst (v := 0) (mx_D C hmc hms rfl rfl) dJ0_getBytes_840e7_12 (by decide) ?_
  refine mx_aload_n (mx_D C hmc hms rfl rfl) dJ0_getBytes_840e7_13 rfl ?_
  refine mj_iload_n (mx_D C hmc hms rfl rfl) dJ0_getBytes_840e7_14 rfl ?_
  refine mj_iload_n (mx_D C hmc hms rfl rfl) dJ0_getBytes_840e7_15 rfl ?_
  refine mj_ishl (mx_D C hmc hms rfl rfl) dJ0_getBytes_840e7_16 ?_
  refine mj_nm (mj_shl0 _) ?_
  refine mj_aload_n (mx_D C hmc hms rfl rfl) dJ0_getBytes_840e7_17 rfl ?_
  refine mj_sgv (mx_D C hmc hms rfl rfl) hi lG_J0_9b dJ0_getBytes_840e7_18 ?_
  refine mj_salen (mx_D C hmc hms rfl rfl) hi dJ0_getBytes_840e7_21 ?_
  refine mj_nm (show mj_sln i = nI (sw i).length by rw [sw_len]; rfl) ?_
  refine mx_cpys (k1 := 1) (Y' := (tx (mj_cI κ) aS aV cap (va_cpy (fun j => (mj_ss i).2.2.2.getD j 0) f 0 n (sw i).length) ml n0)) C lM_J0_212 rfl hi rfl (by simp only [mj_cok, Bool.and_eq_true, decide_eq_true_eq, nI_toInt (show (sw i).length < 2 ^ 31 by omega), nI_toInt (show n < 2 ^ 31 by omega), ← sw_len]; refine ⟨⟨⟨⟨?_, ?_⟩, ?_⟩, ?_⟩, ?_⟩ <;> first | decide | omega | (show (0 : Int) + _ ≤ _; omega)) (sw_fit hi) (mj_rmc hR (by decide)) (Nat.le_of_ble_eq_true rfl) dJ0_getBytes_840e7_22 (by rw [mj_cl_nI (show (sw i).length < 2 ^ 31 by omega), mj_cl_nI (show n < 2 ^ 31 by omega)]; rfl) ?_
  refine mj_goto (tgt := 43) (mx_D C hmc hms rfl rfl) dJ0_getBytes_840e7_25 (by decide) ?_
  exact mx_vret C hT (Nat.le_refl _) (Nat.le_refl _) dJ0_getBytes_840e7_43 ⟨rfl, rfl⟩
theorem T_inf {cI : mj_I} {aS aV cap n i : Nat} {f : Nat → Int32} {ml : Int32} (hi : i < 31) : mx_Sem cI yJ5_inflateIfNeededFor_a7421 cJ5_inflateIfNeededFor_a7421 2 none 1 0 0 [mj_o (some aS), mj_r (98, i)] (tx cI aS aV cap f ml n) (fun r Y' => r = none ∧ Y' = tx cI aS aV cap f ml n) := by
  refine mx_intro (by decide) (Nat.le_of_ble_eq_true rfl) ?_
  intro κ M C hcI hR hmc hms hT hN
  subst hcI
  have C : mj_C κ cJ5_inflateIfNeededFor_a7421 2 RJ5 := C
  show mj_R (mj_ky κ (tx (mj_cI κ) aS aV cap f ml n) 0 0) (mx_F κ M 0 0 _) 0 [some (mj_o (some aS)), some (mj_r (98, i))] [] M
  refine mj_gsc (q := ("java/lang/String", "COMPACT_STRINGS", "Z", 1)) (mx_D C hmc hms rfl rfl) (List.mem_of_getElem? (i := 0) rfl) lG_J5_18 dJ5_inflateIfNeededFor_a7421_0 ?_
  refine mj_if_eq (tgt := 21) (mx_D C hmc hms rfl rfl) dJ5_inflateIfNeededFor_a7421_3 (by decide) (fun hbr => absurd hbr (by decide)) (fun _ => ?_)
  refine mx_aload_n (mx_D C hmc hms rfl rfl) dJ5_inflateIfNeededFor_a7421_6 rfl ?_
  refine mx_get (k := 0) (w := .inl 0) C lF_J5_22 rfl rfl (fun _ => rfl) dJ5_inflateIfNeededFor_a7421_7 ?_
  refine mj_aload_n (mx_D C hmc hms rfl rfl) dJ5_inflateIfNeededFor_a7421_10 rfl ?_
  refine mj_callVs (av := []) (mx_D C hmc hms rfl rfl) lM_J5_40 lV_J0_coder_7d493 hi rfl rfl (C_sCoder hi) (mj_rmok (κ := mj_ky κ (tx (mj_cI κ) aS aV cap f ml n) 0 0) hR (by decide) (by decide)) rfl (Nat.le_of_ble_eq_true rfl) dJ5_inflateIfNeededFor_a7421_11 (fun hb => ?_)
  refine mj_icmp_eq (tgt := 21) (mx_D C hmc hms rfl rfl) dJ5_inflateIfNeededFor_a7421_14 (by decide) (fun _ => ?_) (fun hbr => absurd rfl hbr)
  exact mx_vret C hT (Nat.le_refl _) (Nat.le_refl _) dJ5_inflateIfNeededFor_a7421_21 ⟨rfl, rfl⟩
theorem T_putS {cI : mj_I} {aS aV cap n n0 i : Nat} {f : Nat → Int32} {ml : Int32} (hi : i < 31) (hcap : n + (sw i).length ≤ cap) (hcap2 : cap ≤ 80) : mx_Sem cI yJ5_putStringAt_47b60 cJ5_putStringAt_47b60 3 none 2 0 0 [mj_o (some aS), .inl (nI n), mj_r (98, i)] (tx cI aS aV cap f ml n0) (fun r Y' => r = none ∧ Y' = tx cI aS aV cap (va_cpy (fun j => (mj_ss i).2.2.2.getD j 0) f 0 n (sw i).length) ml n0) := by
  refine mx_intro (by decide) (Nat.le_of_ble_eq_true rfl) ?_
  intro κ M C hcI hR hmc hms hT hN
  subst hcI
  have C : mj_C κ cJ5_putStringAt_47b60 3 RJ5 := C
  show mj_R (mj_ky κ (tx (mj_cI κ) aS aV cap f ml n0) 0 0) (mx_F κ M 0 0 _) 0 [some (mj_o (some aS)), some (.inl (nI n)), some (mj_r (98, i))] [] M
  refine mx_aload_n (mx_D C hmc hms rfl rfl) dJ5_putStringAt_47b60_0 rfl ?_
  refine mj_aload_n (mx_D C hmc hms rfl rfl) dJ5_putStringAt_47b60_1 rfl ?_
  refine mx_callU (av := [mj_r (98, i)]) (Y0 := []) (kc := 0) C lM_J5_397 lw_same_inflateIfNeededFor lw_sel_inflateIfNeededFor lw_ins_inflateIfNeededFor lk_J5_inflateIfNeededFor_a7421 rfl (T_inf hi) rfl rfl (mx_fit hR hmc hms rfl rfl rfl rfl) rfl (Nat.le_of_ble_eq_true rfl) dJ5_putStringAt_47b60_2 (fun r Y' hp => ?_)
  obtain ⟨rfl, rfl⟩ := hp
  show mj_R (mj_ky κ (tx (mj_cI κ) aS aV cap f ml n0) 0 0) _ 5 [some (mj_o (some aS)), some (.inl (nI n)), some (mj_r (98, i))] [] M
  refine mj_aload_n (mx_D C hmc hms rfl rfl) dJ5_putStringAt_47b60_5 rfl ?_
  refine mx_aload_n (mx_D C hmc hms rfl rfl) dJ5_putStringAt_47b60_6 rfl ?_
  refine mx_get (k := 0) (w := mj_o (some aV)) C lF_J5_15 rfl rfl (fun _ => rfl) dJ5_putStringAt_47b60_7 ?_
  refine mj_iload_n (mx_D C hmc hms rfl rfl) dJ5_putStringAt_47b60_10 rfl ?_
  refine mx_aload_n (mx_D C hmc hms rfl rfl) dJ5_putStringAt_47b60_11 rfl ?_
  refine mx_get (k := 0) (w := .inl 0) C lF_J5_22 rfl rfl (fun _ => rfl) dJ5_putStringAt_47b60_12 ?_
  refine mx_callVs (av := [mj_o (some aV), .inl (nI n), .inl 0]) (Y0 := []) C lM_J5_399 lV_J0_getBytes_840e7 hi rfl rfl (T_getB (aS := aS) (n0 := n0) (f := f) (ml := ml) hi hcap hcap2) rfl (mx_fit hR hmc hms rfl rfl rfl rfl) rfl (Nat.le_of_ble_eq_true rfl) dJ5_putStringAt_47b60_15 (fun r Y' hp => ?_)
  obtain ⟨rfl, rfl⟩ := hp
  show mj_R (mj_ky κ (tx (mj_cI κ) aS aV cap (va_cpy (fun j => (mj_ss i).2.2.2.getD j 0) f 0 n (sw i).length) ml n0) 0 0) _ 18 [some (mj_o (some aS)), some (.inl (nI n)), some (mj_r (98, i))] [] M
  exact mx_vret C hT (Nat.le_refl _) (Nat.le_refl _) dJ5_putStringAt_47b60_18 ⟨rfl, rfl⟩
theorem cpy_old {f g : Nat → Int32} {n w j : Nat} (h : j < n) : va_cpy f g 0 n w j = g j := by
  unfold va_cpy
  rw [if_neg (by omega)]
theorem cpy_new {f g : Nat → Int32} {n w i : Nat} (h : i < w) : va_cpy f g 0 n w (n + i) = f i := by
  unfold va_cpy
  rw [if_pos (by omega)]
  congr 1
  omega
theorem T_appS {cI : mj_I} {aS aV cap i : Nat} {f : Nat → Int32} {ml : Int32} {l : List Nat} (hI : txJ l cap f) (hi : i < 31) (hn : l.length + (sw i).length < 40) : mx_Sem cI yJ5_append_cf1ce cJ5_append_cf1ce 3 (some (.object "java/lang/AbstractStringBuilder")) 4 1 80 [mj_o (some aS), mj_r (98, i)] (tx cI aS aV cap f ml l.length) (fun r Y' => r = some (mj_o (some aS)) ∧ txY cI aS ml (l ++ sw i) Y') := by
  refine mx_intro (by decide) (Nat.le_of_ble_eq_true rfl) ?_
  intro κ M C hcI hR hmc hms hT hN
  subst hcI
  have C : mj_C κ cJ5_append_cf1ce 3 RJ5 := C
  show mj_R (mj_ky κ (tx (mj_cI κ) aS aV cap f ml l.length) 0 0) (mx_F κ M 1 80 _) 0 [some (mj_o (some aS)), some (mj_r (98, i)), none] [] M
  refine mj_aload_n (mx_D C hmc hms rfl rfl) dJ5_append_cf1ce_0 rfl ?_
  refine mx_ifnn (tgt := 9) (mx_D C hmc hms rfl rfl) dJ5_append_cf1ce_1 (by decide) ?_
  refine mj_aload_n (mx_D C hmc hms rfl rfl) dJ5_append_cf1ce_9 rfl ?_
  refine mj_callVs (av := []) (mx_D C hmc hms rfl rfl) lM_J5_32 lV_J0_length_8abf5 hi rfl rfl (C_sLen hi) (mj_rmok (κ := mj_ky κ (tx (mj_cI κ) aS aV cap f ml l.length) 0 0) hR (by decide) (by decide)) rfl (Nat.le_of_ble_eq_true rfl) dJ5_append_cf1ce_10 (fun hb => ?_)
  refine mj_nm (show mj_sln i = nI (sw i).length by rw [sw_len]; rfl) ?_
  refine mj_istore_n (L2 := [some (mj_o (some aS)), some (mj_r (98, i)), some (.inl (nI (sw i).length))]) (mx_D C hmc hms rfl rfl) dJ5_append_cf1ce_13 (Nat.le_of_ble_eq_true rfl) rfl ?_
  refine mx_aload_n (mx_D C hmc hms rfl rfl) dJ5_append_cf1ce_14 rfl ?_
  refine mx_aload_n (mx_D C hmc hms rfl rfl) dJ5_append_cf1ce_15 rfl ?_
  refine mx_get (k := 0) (w := .inl (nI l.length)) C lF_J5_79 rfl rfl (fun _ => rfl) dJ5_append_cf1ce_16 ?_
  refine mj_iload_n (mx_D C hmc hms rfl rfl) dJ5_append_cf1ce_19 rfl ?_
  refine mj_iadd (mx_D C hmc hms rfl rfl) dJ5_append_cf1ce_20 ?_
  refine mj_nm (a := nI (l.length + (sw i).length)) (nI_add _ _) ?_
  refine mx_callU (av := [.inl (nI (l.length + (sw i).length))]) (Y0 := []) (kc := 0) C lM_J5_100 lw_same_ensureCapacityInternal lw_sel_ensureCapacityInternal lw_ins_ensureCapacityInternal lk_J5_ensureCapacityInternal_d00df rfl (T_ens (q := l.length + (sw i).length) hI hn) rfl rfl (mx_fit hR hmc hms rfl rfl rfl rfl) rfl (Nat.le_of_ble_eq_true rfl) dJ5_append_cf1ce_21 (fun r Y' hp => ?_)
  obtain ⟨rfl, aV1, cap1, f1, hI1, hle, rfl⟩ := hp
  show mj_R (mj_ky κ (tx (mj_cI κ) aS aV1 cap1 f1 ml l.length) 1 80) _ 24 [some (mj_o (some aS)), some (mj_r (98, i)), some (.inl (nI (sw i).length))] [] M
  refine mx_aload_n (mx_D C hmc hms rfl rfl) dJ5_append_cf1ce_24 rfl ?_
  refine mx_aload_n (mx_D C hmc hms rfl rfl) dJ5_append_cf1ce_25 rfl ?_
  refine mx_get (k := 0) (w := .inl (nI l.length)) C lF_J5_79 rfl rfl (fun _ => rfl) dJ5_append_cf1ce_26 ?_
  refine mj_aload_n (mx_D C hmc hms rfl rfl) dJ5_append_cf1ce_29 rfl ?_
  refine mx_callU (av := [.inl (nI l.length), mj_r (98, i)]) (Y0 := []) (kc := 0) C lM_J5_208 lw_same_putStringAt lw_sel_putStringAt lw_ins_putStringAt lk_J5_putStringAt_47b60 rfl (T_putS hi hle hI1.2.2.2) rfl rfl (mx_fit hR hmc hms rfl rfl rfl rfl) rfl (Nat.le_of_ble_eq_true rfl) dJ5_append_cf1ce_30 (fun r Y' hp => ?_)
  obtain ⟨rfl, rfl⟩ := hp
  show mj_R (mj_ky κ (tx (mj_cI κ) aS aV1 cap1 (va_cpy (fun j => (mj_ss i).2.2.2.getD j 0) f1 0 l.length (sw i).length) ml l.length) 1 80) _ 33 [some (mj_o (some aS)), some (mj_r (98, i)), some (.inl (nI (sw i).length))] [] M
  refine mx_aload_n (mx_D C hmc hms rfl rfl) dJ5_append_cf1ce_33 rfl ?_
  refine mj_dup (mx_D C hmc hms rfl rfl) dJ5_append_cf1ce_34 ?_
  refine mx_get (k := 0) (w := .inl (nI l.length)) C lF_J5_79 rfl rfl (fun _ => rfl) dJ5_append_cf1ce_35 ?_
  refine mj_iload_n (mx_D C hmc hms rfl rfl) dJ5_append_cf1ce_38 rfl ?_
  refine mj_iadd (mx_D C hmc hms rfl rfl) dJ5_append_cf1ce_39 ?_
  refine mj_nm (a := nI (l.length + (sw i).length)) (nI_add _ _) ?_
  refine mx_put (k := 0) (w := .inl (nI (l.length + (sw i).length))) (Y' := (tx (mj_cI κ) aS aV1 cap1 (va_cpy (fun j => (mj_ss i).2.2.2.getD j 0) f1 0 l.length (sw i).length) ml (l.length + (sw i).length))) C lF_J5_79 fR_0_3 rfl (fun _ => rfl) (vp_nar_int _) rfl (Nat.le_of_ble_eq_true rfl) dJ5_append_cf1ce_40 rfl ?_
  refine mx_aload_n (mx_D C hmc hms rfl rfl) dJ5_append_cf1ce_43 rfl ?_
  exact mx_aret C hT (Or.inl ⟨_, rfl⟩) (Nat.le_refl _) (Nat.le_refl _) dJ5_append_cf1ce_44 ⟨rfl, aV1, cap1, _, tx_put (f := f1) hI1 (sb_fitC (sw_fit hi) hI1.2.1) hle (fun j hj => cpy_old hj) (fun j hj => ⟨(sw_at hi hj).1, (cpy_new hj).trans (sw_at hi hj).2⟩), by rw [List.length_append]⟩
