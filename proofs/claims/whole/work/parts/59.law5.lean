def lk3 (cI : mj_I) (a : Nat) (l : List Nat) : va_W := [(a, .inr (4, [.ref (l.getD 0 0), .ref (l.getD 2 0), .ref (l.getD 5 0), .ref (l.getD 9 0), .ref (l.getD 17 0), .ref (l.getD 33 0), .ref (l.getD 38 0), .ref (l.getD 43 0)])), ((l.getD 0 0), .inr (1, [.int 0, .int 0, .ref (l.getD 1 0)])), ((l.getD 1 0), .inl (cI.1, 11, .inl (mj_sa 0))), ((l.getD 2 0), .inr (3, [.ref (l.getD 0 0), .ref (l.getD 3 0), .int 0, .ref (l.getD 4 0), .int 0, .int 0])), ((l.getD 3 0), .inl (cI.1, 700, .inl (fun _ => 0))), ((l.getD 4 0), .inl (cI.1, 100, .inl (fun _ => 0))), ((l.getD 5 0), .inr (2, [.ref (l.getD 0 0), .ref (l.getD 6 0), .int 0, .ref (l.getD 7 0), .int 0, .int 0, .ref (l.getD 8 0)])), ((l.getD 6 0), .inl (cI.1, 240, .inl (fun _ => 0))), ((l.getD 7 0), .inl (cI.1, 60, .inl (fun _ => 0))), ((l.getD 8 0), .inl (cI.1, 9, .inl (fun _ => 0))), ((l.getD 9 0), .inr (7, [.ref (l.getD 0 0), .ref (l.getD 2 0), .int 0, .int 0, .int 0, .int 0, .int 0, .ref (l.getD 10 0), .ref (l.getD 15 0), .int 0, .ref (l.getD 16 0), .int 0, .int 0])), ((l.getD 10 0), .inr (8, [.ref (l.getD 11 0), .ref (l.getD 12 0), .ref (l.getD 13 0), .ref (l.getD 14 0), .int 0])), ((l.getD 11 0), .inl (cI.1, 20, .inl (fun _ => 0))), ((l.getD 12 0), .inl (cI.1, 20, .inl (fun _ => 0))), ((l.getD 13 0), .inl (cI.1, 20, .inl (fun _ => 0))), ((l.getD 14 0), .inl (cI.1, 20, .inl (fun _ => 0))), ((l.getD 15 0), .inl (cI.1, 100, .inl (fun _ => 0))), ((l.getD 16 0), .inl (cI.1, 100, .inl (fun _ => 0))), ((l.getD 17 0), .inr (9, [.ref (l.getD 0 0), .ref (l.getD 2 0), .ref (l.getD 5 0), .ref (l.getD 18 0), .ref (l.getD 23 0), .ref (l.getD 28 0), .int 6, .int 0, .int 0, .int 0, .int 0, .int 0, .int (-1), .int 0, .int (-1), .int 0])), ((l.getD 18 0), .inr (8, [.ref (l.getD 19 0), .ref (l.getD 20 0), .ref (l.getD 21 0), .ref (l.getD 22 0), .int 0])), ((l.getD 19 0), .inl (cI.1, 20, .inl (fun _ => 0))), ((l.getD 20 0), .inl (cI.1, 20, .inl (fun _ => 0))), ((l.getD 21 0), .inl (cI.1, 20, .inl (fun _ => 0))), ((l.getD 22 0), .inl (cI.1, 20, .inl (fun _ => 0))), ((l.getD 23 0), .inr (8, [.ref (l.getD 24 0), .ref (l.getD 25 0), .ref (l.getD 26 0), .ref (l.getD 27 0), .int 0])), ((l.getD 24 0), .inl (cI.1, 20, .inl (fun _ => 0))), ((l.getD 25 0), .inl (cI.1, 20, .inl (fun _ => 0))), ((l.getD 26 0), .inl (cI.1, 20, .inl (fun _ => 0))), ((l.getD 27 0), .inl (cI.1, 20, .inl (fun _ => 0))), ((l.getD 28 0), .inr (8, [.ref (l.getD 29 0), .ref (l.getD 30 0), .ref (l.getD 31 0), .ref (l.getD 32 0), .int 0])), ((l.getD 29 0), .inl (cI.1, 20, .inl (fun _ => 0))), ((l.getD 30 0), .inl (cI.1, 20, .inl (fun _ => 0))), ((l.getD 31 0), .inl (cI.1, 20, .inl (fun _ => 0))), ((l.getD 32 0), .inl (cI.1, 20, .inl (fun _ => 0))), ((l.getD 33 0), .inr (10, [.ref (l.getD 0 0), .int 5, .int 6, .ref (l.getD 34 0), .ref (l.getD 35 0), .ref (l.getD 36 0), .ref (l.getD 37 0), .int 0, .int 0, .int 0, .int 0])), ((l.getD 34 0), .inl (cI.1, 240, .inl (fun _ => 0))), ((l.getD 35 0), .inl (cI.1, 48, .inl (fun _ => 0))), ((l.getD 36 0), .inl (cI.1, 48, .inl (fun _ => 0))), ((l.getD 37 0), .inl (cI.1, 8, .inl (fun _ => 0))), ((l.getD 38 0), .inr (10, [.ref (l.getD 0 0), .int 3, .int 7, .ref (l.getD 39 0), .ref (l.getD 40 0), .ref (l.getD 41 0), .ref (l.getD 42 0), .int 0, .int 0, .int 0, .int 0])), ((l.getD 39 0), .inl (cI.1, 240, .inl (fun _ => 0))), ((l.getD 40 0), .inl (cI.1, 48, .inl (fun _ => 0))), ((l.getD 41 0), .inl (cI.1, 48, .inl (fun _ => 0))), ((l.getD 42 0), .inl (cI.1, 8, .inl (fun _ => 0))), ((l.getD 43 0), .inr (5, [.ref (l.getD 44 0), .ref (l.getD 45 0), .int 0, .int 0])), ((l.getD 44 0), .inl (cI.1, 24, .inl (fun _ => 0))), ((l.getD 45 0), .inl (cI.1, 24, .inl (fun _ => 0)))]
def rd5 (cI : mj_I) (a : Nat) (l : List Nat) : va_W := [(a, .inr (6, [.ref (l.getD 0 0), .int 0, .ref (l.getD 1 0), .int 0, .int (-1), .int 0, .int 0, .int 0, .int 0])), ((l.getD 0 0), .inl (cI.1, 400, .inl (fun _ => 0))), ((l.getD 1 0), .inr (5, [.ref (l.getD 2 0), .ref (l.getD 3 0), .int 0, .int 0])), ((l.getD 2 0), .inl (cI.1, 24, .inl (fun _ => 0))), ((l.getD 3 0), .inl (cI.1, 24, .inl (fun _ => 0)))]
set_option maxRecDepth 20000 in
theorem lk3_of {cI : mj_I} {a0 : Nat} {r : Option mj_V} {Y' : va_W} (h : r = none ∧ ∃ q1 q2 q3 q4 q5 q6 q7 q8 q9 q10 q11 q12 q13 q14 q15 q16 q17 q18 q19 q20 q21 q22 q23 q24 q25 q26 q27 q28 q29 q30 q31 q32 q33 q34 q35 q36 q37 q38 q39 q40 q41 q42 q43 q44 q45 q46 : Nat, Y' = [(a0, .inr (4, [.ref q1, .ref q3, .ref q6, .ref q10, .ref q18, .ref q34, .ref q39, .ref q44])), (q1, .inr (1, [.int 0, .int 0, .ref q2])), (q2, .inl (cI.1, 11, .inl (mj_sa 0))), (q3, .inr (3, [.ref q1, .ref q4, .int 0, .ref q5, .int 0, .int 0])), (q4, .inl (cI.1, 700, .inl (fun _ => 0))), (q5, .inl (cI.1, 100, .inl (fun _ => 0))), (q6, .inr (2, [.ref q1, .ref q7, .int 0, .ref q8, .int 0, .int 0, .ref q9])), (q7, .inl (cI.1, 240, .inl (fun _ => 0))), (q8, .inl (cI.1, 60, .inl (fun _ => 0))), (q9, .inl (cI.1, 9, .inl (fun _ => 0))), (q10, .inr (7, [.ref q1, .ref q3, .int 0, .int 0, .int 0, .int 0, .int 0, .ref q11, .ref q16, .int 0, .ref q17, .int 0, .int 0])), (q11, .inr (8, [.ref q12, .ref q13, .ref q14, .ref q15, .int 0])), (q12, .inl (cI.1, 20, .inl (fun _ => 0))), (q13, .inl (cI.1, 20, .inl (fun _ => 0))), (q14, .inl (cI.1, 20, .inl (fun _ => 0))), (q15, .inl (cI.1, 20, .inl (fun _ => 0))), (q16, .inl (cI.1, 100, .inl (fun _ => 0))), (q17, .inl (cI.1, 100, .inl (fun _ => 0))), (q18, .inr (9, [.ref q1, .ref q3, .ref q6, .ref q19, .ref q24, .ref q29, .int 6, .int 0, .int 0, .int 0, .int 0, .int 0, .int (-1), .int 0, .int (-1), .int 0])), (q19, .inr (8, [.ref q20, .ref q21, .ref q22, .ref q23, .int 0])), (q20, .inl (cI.1, 20, .inl (fun _ => 0))), (q21, .inl (cI.1, 20, .inl (fun _ => 0))), (q22, .inl (cI.1, 20, .inl (fun _ => 0))), (q23, .inl (cI.1, 20, .inl (fun _ => 0))), (q24, .inr (8, [.ref q25, .ref q26, .ref q27, .ref q28, .int 0])), (q25, .inl (cI.1, 20, .inl (fun _ => 0))), (q26, .inl (cI.1, 20, .inl (fun _ => 0))), (q27, .inl (cI.1, 20, .inl (fun _ => 0))), (q28, .inl (cI.1, 20, .inl (fun _ => 0))), (q29, .inr (8, [.ref q30, .ref q31, .ref q32, .ref q33, .int 0])), (q30, .inl (cI.1, 20, .inl (fun _ => 0))), (q31, .inl (cI.1, 20, .inl (fun _ => 0))), (q32, .inl (cI.1, 20, .inl (fun _ => 0))), (q33, .inl (cI.1, 20, .inl (fun _ => 0))), (q34, .inr (10, [.ref q1, .int 5, .int 6, .ref q35, .ref q36, .ref q37, .ref q38, .int 0, .int 0, .int 0, .int 0])), (q35, .inl (cI.1, 240, .inl (fun _ => 0))), (q36, .inl (cI.1, 48, .inl (fun _ => 0))), (q37, .inl (cI.1, 48, .inl (fun _ => 0))), (q38, .inl (cI.1, 8, .inl (fun _ => 0))), (q39, .inr (10, [.ref q1, .int 3, .int 7, .ref q40, .ref q41, .ref q42, .ref q43, .int 0, .int 0, .int 0, .int 0])), (q40, .inl (cI.1, 240, .inl (fun _ => 0))), (q41, .inl (cI.1, 48, .inl (fun _ => 0))), (q42, .inl (cI.1, 48, .inl (fun _ => 0))), (q43, .inl (cI.1, 8, .inl (fun _ => 0))), (q44, .inr (5, [.ref q45, .ref q46, .int 0, .int 0])), (q45, .inl (cI.1, 24, .inl (fun _ => 0))), (q46, .inl (cI.1, 24, .inl (fun _ => 0)))]) : r = none ∧ ∃ l : List Nat, Y' = lk3 cI a0 l := by
  obtain ⟨h1, q1, q2, q3, q4, q5, q6, q7, q8, q9, q10, q11, q12, q13, q14, q15, q16, q17, q18, q19, q20, q21, q22, q23, q24, q25, q26, q27, q28, q29, q30, q31, q32, q33, q34, q35, q36, q37, q38, q39, q40, q41, q42, q43, q44, q45, q46, h2⟩ := h
  exact ⟨h1, [q1, q2, q3, q4, q5, q6, q7, q8, q9, q10, q11, q12, q13, q14, q15, q16, q17, q18, q19, q20, q21, q22, q23, q24, q25, q26, q27, q28, q29, q30, q31, q32, q33, q34, q35, q36, q37, q38, q39, q40, q41, q42, q43, q44, q45, q46], h2⟩
set_option maxRecDepth 20000 in
theorem rd5_of {cI : mj_I} {a0 : Nat} {r : Option mj_V} {Y' : va_W} (h : r = none ∧ ∃ q1 q2 q3 q4 : Nat, Y' = [(a0, .inr (6, [.ref q1, .int 0, .ref q2, .int 0, .int (-1), .int 0, .int 0, .int 0, .int 0])), (q1, .inl (cI.1, 400, .inl (fun _ => 0))), (q2, .inr (5, [.ref q3, .ref q4, .int 0, .int 0])), (q3, .inl (cI.1, 24, .inl (fun _ => 0))), (q4, .inl (cI.1, 24, .inl (fun _ => 0)))]) : r = none ∧ ∃ l : List Nat, Y' = rd5 cI a0 l := by
  obtain ⟨h1, q1, q2, q3, q4, h2⟩ := h
  exact ⟨h1, [q1, q2, q3, q4], h2⟩
set_option maxHeartbeats 8000000 in
set_option maxRecDepth 40000 in
theorem K_X10b {cI : mj_I} {a0 : Nat} : mx_Sem cI yX10_init cX10_init 1 none 4 148 7906 [mj_o (some a0)] [(a0, .inr (11, [.null, .null, .null, .int 0, .null, .null]))] (fun r Y' => r = none ∧ ∃ (q1 q2 q3 q4 q5 q6 : Nat) (l1 l2 l3 l4 : List Nat), Y' = [(a0, .inr (11, [.ref q1, .ref q2, .ref q3, .int 0, .ref q4, .ref q5]))] ++ (lk3 cI q1 l1 ++ (lk3 cI q2 l2 ++ (lk3 cI q3 l3 ++ (rd5 cI q4 l4 ++ [(q5, .inr (0, [.ref q6, .int 0, .int 0, .int 0])), (q6, .inl (cI.2, 16, .inl (fun _ => 0)))]))))) := by
  refine mx_intro (by decide) (Nat.le_of_ble_eq_true rfl) ?_
  intro κ M C hcI hR hmc hms hT hN
  subst hcI
  have C : mj_C κ cX10_init 1 RX10 := C
  show mj_R (mj_ky κ [(a0, .inr (11, [.null, .null, .null, .int 0, .null, .null]))] 0 0) (mx_F κ M 148 7906 _) 0 [some (mj_o (some a0))] [] M
  refine mx_aload_n (mx_D C hmc hms rfl rfl) dX10_init_0 rfl ?_
  refine mx_objInit C lM_X10_3 rfl mx_oi mx_oc (mj_rmc hR (by decide)) (Nat.le_of_ble_eq_true rfl) dX10_init_1 ?_
  refine mx_aload_n (mx_D C hmc hms rfl rfl) dX10_init_4 rfl ?_
  refine mx_new (fs := [.null, .null, .null, .null, .null, .null, .null, .null]) tyX3 C (ci := 4) rfl inTX3 tyX3_ok (by exact (mj_in1 32 rfl rfl)) (by exact (mj_in1 33 rfl rfl)) (by exact (mj_in1 2 rfl rfl)) (fun j hj => by rcases (show j = 0 ∨ j = 1 ∨ j = 2 ∨ j = 3 ∨ j = 4 ∨ j = 5 ∨ j = 6 ∨ j = 7 by omega) with rfl | rfl | rfl | rfl | rfl | rfl | rfl | rfl <;> rfl) (mx_lc hmc rfl) (mx_ls hms rfl) dX10_init_5 (fun q1 => ?_)
  show mj_R (mj_ky κ ([(a0, .inr (11, [.null, .null, .null, .int 0, .null, .null]))] ++ [(q1, .inr (4, [.null, .null, .null, .null, .null, .null, .null, .null]))]) 1 8) _ 8 [some (mj_o (some a0))] [mj_o (some q1), mj_o (some a0)] M
  refine mj_dup (mx_D C hmc hms rfl rfl) dX10_init_8 ?_
  refine mx_callIN (av := []) (Y0 := [(a0, .inr (11, [.null, .null, .null, .int 0, .null, .null]))]) (ce := 1) (sl := 8) C lN_X10_11 lk_X3_init rfl (mj_in1 35 rfl rfl) rfl (K_X3_init (a0 := q1)) rfl (mx_fit hR hmc hms rfl rfl rfl rfl) rfl (Nat.le_of_ble_eq_true rfl) dX10_init_9 (fun r Y' hp => ?_)
  obtain ⟨rfl, l1, rfl⟩ := lk3_of hp
  show mj_R (mj_ky κ ([(a0, .inr (11, [.null, .null, .null, .int 0, .null, .null]))] ++ (lk3 (mj_cI κ) q1 l1)) 47 2475) _ 12 [some (mj_o (some a0))] [mj_o (some q1), mj_o (some a0)] M
  refine mx_putF (k := 0) (Y' := ([(a0, .inr (11, [.ref q1, .null, .null, .int 0, .null, .null]))] ++ (lk3 (mj_cI κ) q1 l1))) C hN lF_X10_12 ⟨_, rfl, rfl⟩ fR_11_0 rfl (fun _ => rfl) rfl rfl (Nat.le_of_ble_eq_true rfl) dX10_init_12 rfl ?_
  refine mx_aload_n (mx_D C hmc hms rfl rfl) dX10_init_15 rfl ?_
  refine mx_new (fs := [.null, .null, .null, .null, .null, .null, .null, .null]) tyX3 C (ci := 4) rfl inTX3 tyX3_ok (by exact (mj_in1 32 rfl rfl)) (by exact (mj_in1 33 rfl rfl)) (by exact (mj_in1 2 rfl rfl)) (fun j hj => by rcases (show j = 0 ∨ j = 1 ∨ j = 2 ∨ j = 3 ∨ j = 4 ∨ j = 5 ∨ j = 6 ∨ j = 7 by omega) with rfl | rfl | rfl | rfl | rfl | rfl | rfl | rfl <;> rfl) (mx_lc hmc rfl) (mx_ls hms rfl) dX10_init_16 (fun q2 => ?_)
  show mj_R (mj_ky κ (([(a0, .inr (11, [.ref q1, .null, .null, .int 0, .null, .null]))] ++ (lk3 (mj_cI κ) q1 l1)) ++ [(q2, .inr (4, [.null, .null, .null, .null, .null, .null, .null, .null]))]) 48 2483) _ 19 [some (mj_o (some a0))] [mj_o (some q2), mj_o (some a0)] M
  refine mj_dup (mx_D C hmc hms rfl rfl) dX10_init_19 ?_
  refine mx_callIN (av := []) (Y0 := ([(a0, .inr (11, [.ref q1, .null, .null, .int 0, .null, .null]))] ++ (lk3 (mj_cI κ) q1 l1))) (ce := 48) (sl := 2483) C lN_X10_11 lk_X3_init rfl (mj_in1 35 rfl rfl) rfl (K_X3_init (a0 := q2)) rfl (mx_fit hR hmc hms rfl rfl rfl rfl) rfl (Nat.le_of_ble_eq_true rfl) dX10_init_20 (fun r Y' hp => ?_)
  obtain ⟨rfl, l2, rfl⟩ := lk3_of hp
  show mj_R (mj_ky κ (([(a0, .inr (11, [.ref q1, .null, .null, .int 0, .null, .null]))] ++ (lk3 (mj_cI κ) q1 l1)) ++ (lk3 (mj_cI κ) q2 l2)) 94 4950) _ 23 [some (mj_o (some a0))] [mj_o (some q2), mj_o (some a0)] M
  refine mx_putF (k := 0) (Y' := (([(a0, .inr (11, [.ref q1, .ref q2, .null, .int 0, .null, .null]))] ++ (lk3 (mj_cI κ) q1 l1)) ++ (lk3 (mj_cI κ) q2 l2))) C hN lF_X10_16 ⟨_, rfl, rfl⟩ fR_11_1 rfl (fun _ => rfl) rfl rfl (Nat.le_of_ble_eq_true rfl) dX10_init_23 rfl ?_
  refine mx_aload_n (mx_D C hmc hms rfl rfl) dX10_init_26 rfl ?_
  refine mx_new (fs := [.null, .null, .null, .null, .null, .null, .null, .null]) tyX3 C (ci := 4) rfl inTX3 tyX3_ok (by exact (mj_in1 32 rfl rfl)) (by exact (mj_in1 33 rfl rfl)) (by exact (mj_in1 2 rfl rfl)) (fun j hj => by rcases (show j = 0 ∨ j = 1 ∨ j = 2 ∨ j = 3 ∨ j = 4 ∨ j = 5 ∨ j = 6 ∨ j = 7 by omega) with rfl | rfl | rfl | rfl | rfl | rfl | rfl | rfl <;> rfl) (mx_lc hmc rfl) (mx_ls hms rfl) dX10_init_27 (fun q3 => ?_)
  show mj_R (mj_ky κ ((([(a0, .inr (11, [.ref q1, .ref q2, .null, .int 0, .null, .null]))] ++ (lk3 (mj_cI κ) q1 l1)) ++ (lk3 (mj_cI κ) q2 l2)) ++ [(q3, .inr (4, [.null, .null, .null, .null, .null, .null, .null, .null]))]) 95 4958) _ 30 [some (mj_o (some a0))] [mj_o (some q3), mj_o (some a0)] M
  refine mj_dup (mx_D C hmc hms rfl rfl) dX10_init_30 ?_
  refine mx_callIN (av := []) (Y0 := (([(a0, .inr (11, [.ref q1, .ref q2, .null, .int 0, .null, .null]))] ++ (lk3 (mj_cI κ) q1 l1)) ++ (lk3 (mj_cI κ) q2 l2))) (ce := 95) (sl := 4958) C lN_X10_11 lk_X3_init rfl (mj_in1 35 rfl rfl) rfl (K_X3_init (a0 := q3)) rfl (mx_fit hR hmc hms rfl rfl rfl rfl) rfl (Nat.le_of_ble_eq_true rfl) dX10_init_31 (fun r Y' hp => ?_)
  obtain ⟨rfl, l3, rfl⟩ := lk3_of hp
  show mj_R (mj_ky κ ((([(a0, .inr (11, [.ref q1, .ref q2, .null, .int 0, .null, .null]))] ++ (lk3 (mj_cI κ) q1 l1)) ++ (lk3 (mj_cI κ) q2 l2)) ++ (lk3 (mj_cI κ) q3 l3)) 141 7425) _ 34 [some (mj_o (some a0))] [mj_o (some q3), mj_o (some a0)] M
  refine mx_putF (k := 0) (Y' := ((([(a0, .inr (11, [.ref q1, .ref q2, .ref q3, .int 0, .null, .null]))] ++ (lk3 (mj_cI κ) q1 l1)) ++ (lk3 (mj_cI κ) q2 l2)) ++ (lk3 (mj_cI κ) q3 l3))) C hN lF_X10_19 ⟨_, rfl, rfl⟩ fR_11_2 rfl (fun _ => rfl) rfl rfl (Nat.le_of_ble_eq_true rfl) dX10_init_34 rfl ?_
  refine mx_aload_n (mx_D C hmc hms rfl rfl) dX10_init_37 rfl ?_
  refine mj_iconst (v := 0) (mx_D C hmc hms rfl rfl) dX10_init_38 (by decide) ?_
  refine mx_put (k := 0) (w := .inl 0) (Y' := ((([(a0, .inr (11, [.ref q1, .ref q2, .ref q3, .int 0, .null, .null]))] ++ (lk3 (mj_cI κ) q1 l1)) ++ (lk3 (mj_cI κ) q2 l2)) ++ (lk3 (mj_cI κ) q3 l3))) C lF_X10_22 fR_11_3 rfl (fun _ => rfl) rfl rfl (Nat.le_of_ble_eq_true rfl) dX10_init_39 rfl ?_
  refine mx_aload_n (mx_D C hmc hms rfl rfl) dX10_init_42 rfl ?_
  refine mx_new (fs := [.null, .int 0, .null, .int 0, .int 0, .int 0, .int 0, .int 0, .int 0]) tyX5 C (ci := 6) rfl inTX5 tyX5_ok (by exact (mj_in2 161 rfl rfl)) (by exact (mj_in2 162 rfl rfl)) (by exact (mj_in1 11 rfl rfl)) (fun j hj => by rcases (show j = 0 ∨ j = 1 ∨ j = 2 ∨ j = 3 ∨ j = 4 ∨ j = 5 ∨ j = 6 ∨ j = 7 ∨ j = 8 by omega) with rfl | rfl | rfl | rfl | rfl | rfl | rfl | rfl | rfl <;> rfl) (mx_lc hmc rfl) (mx_ls hms rfl) dX10_init_43 (fun q4 => ?_)
  show mj_R (mj_ky κ (((([(a0, .inr (11, [.ref q1, .ref q2, .ref q3, .int 0, .null, .null]))] ++ (lk3 (mj_cI κ) q1 l1)) ++ (lk3 (mj_cI κ) q2 l2)) ++ (lk3 (mj_cI κ) q3 l3)) ++ [(q4, .inr (6, [.null, .int 0, .null, .int 0, .int 0, .int 0, .int 0, .int 0, .int 0]))]) 142 7434) _ 46 [some (mj_o (some a0))] [mj_o (some q4), mj_o (some a0)] M
  refine mj_dup (mx_D C hmc hms rfl rfl) dX10_init_46 ?_
  refine mx_callIN (av := []) (Y0 := ((([(a0, .inr (11, [.ref q1, .ref q2, .ref q3, .int 0, .null, .null]))] ++ (lk3 (mj_cI κ) q1 l1)) ++ (lk3 (mj_cI κ) q2 l2)) ++ (lk3 (mj_cI κ) q3 l3))) (ce := 142) (sl := 7434) C lN_X10_28 lk_X5_init rfl (mj_in2 164 rfl rfl) rfl (K_X5_init (a0 := q4)) rfl (mx_fit hR hmc hms rfl rfl rfl rfl) rfl (Nat.le_of_ble_eq_true rfl) dX10_init_47 (fun r Y' hp => ?_)
  obtain ⟨rfl, l4, rfl⟩ := rd5_of hp
  show mj_R (mj_ky κ (((([(a0, .inr (11, [.ref q1, .ref q2, .ref q3, .int 0, .null, .null]))] ++ (lk3 (mj_cI κ) q1 l1)) ++ (lk3 (mj_cI κ) q2 l2)) ++ (lk3 (mj_cI κ) q3 l3)) ++ (rd5 (mj_cI κ) q4 l4)) 146 7886) _ 50 [some (mj_o (some a0))] [mj_o (some q4), mj_o (some a0)] M
  refine mx_putF (k := 0) (Y' := (((([(a0, .inr (11, [.ref q1, .ref q2, .ref q3, .int 0, .ref q4, .null]))] ++ (lk3 (mj_cI κ) q1 l1)) ++ (lk3 (mj_cI κ) q2 l2)) ++ (lk3 (mj_cI κ) q3 l3)) ++ (rd5 (mj_cI κ) q4 l4))) C hN lF_X10_29 ⟨_, rfl, rfl⟩ fR_11_4 rfl (fun _ => rfl) rfl rfl (Nat.le_of_ble_eq_true rfl) dX10_init_50 rfl ?_
  refine mx_aload_n (mx_D C hmc hms rfl rfl) dX10_init_53 rfl ?_
  refine mx_new (fs := [.null, .int 0, .int 0, .int 0]) tyJ4 C (ci := 0) rfl inTJ4 tyJ4_ok (by exact (mj_in2 201 rfl rfl)) (by exact (mj_in2 202 rfl rfl)) (by exact (mj_in1 13 rfl rfl)) (fun j hj => by rcases (show j = 0 ∨ j = 1 ∨ j = 2 ∨ j = 3 by omega) with rfl | rfl | rfl | rfl <;> rfl) (mx_lc hmc rfl) (mx_ls hms rfl) dX10_init_54 (fun q5 => ?_)
  show mj_R (mj_ky κ ((((([(a0, .inr (11, [.ref q1, .ref q2, .ref q3, .int 0, .ref q4, .null]))] ++ (lk3 (mj_cI κ) q1 l1)) ++ (lk3 (mj_cI κ) q2 l2)) ++ (lk3 (mj_cI κ) q3 l3)) ++ (rd5 (mj_cI κ) q4 l4)) ++ [(q5, .inr (0, [.null, .int 0, .int 0, .int 0]))]) 147 7890) _ 57 [some (mj_o (some a0))] [mj_o (some q5), mj_o (some a0)] M
  refine mj_dup (mx_D C hmc hms rfl rfl) dX10_init_57 ?_
  refine mx_callI (av := []) (Y0 := (((([(a0, .inr (11, [.ref q1, .ref q2, .ref q3, .int 0, .ref q4, .null]))] ++ (lk3 (mj_cI κ) q1 l1)) ++ (lk3 (mj_cI κ) q2 l2)) ++ (lk3 (mj_cI κ) q3 l3)) ++ (rd5 (mj_cI κ) q4 l4))) (ce := 147) (sl := 7890) C lM_X10_35 lk_J4_init_da8c8 rfl (mj_in2 204 rfl rfl) rfl (K_J4_init_da8c8 (a0 := q5)) rfl (mx_fit hR hmc hms rfl rfl rfl rfl) rfl (Nat.le_of_ble_eq_true rfl) dX10_init_58 (fun r Y' hp => ?_)
  obtain ⟨rfl, q6, rfl⟩ := hp
  show mj_R (mj_ky κ ((((([(a0, .inr (11, [.ref q1, .ref q2, .ref q3, .int 0, .ref q4, .null]))] ++ (lk3 (mj_cI κ) q1 l1)) ++ (lk3 (mj_cI κ) q2 l2)) ++ (lk3 (mj_cI κ) q3 l3)) ++ (rd5 (mj_cI κ) q4 l4)) ++ [(q5, .inr (0, [.ref q6, .int 0, .int 0, .int 0])), (q6, .inl ((mj_cI κ).2, 16, .inl (fun _ => 0)))]) 148 7906) _ 61 [some (mj_o (some a0))] [mj_o (some q5), mj_o (some a0)] M
  refine mx_putF (k := 0) (Y' := ((((([(a0, .inr (11, [.ref q1, .ref q2, .ref q3, .int 0, .ref q4, .ref q5]))] ++ (lk3 (mj_cI κ) q1 l1)) ++ (lk3 (mj_cI κ) q2 l2)) ++ (lk3 (mj_cI κ) q3 l3)) ++ (rd5 (mj_cI κ) q4 l4)) ++ [(q5, .inr (0, [.ref q6, .int 0, .int 0, .int 0])), (q6, .inl ((mj_cI κ).2, 16, .inl (fun _ => 0)))])) C hN lF_X10_36 ⟨_, rfl, rfl⟩ fR_11_5 rfl (fun _ => rfl) rfl rfl (Nat.le_of_ble_eq_true rfl) dX10_init_61 rfl ?_
  exact mx_vret C hT (Nat.le_of_ble_eq_true rfl) (Nat.le_of_ble_eq_true rfl) dX10_init_64 ⟨rfl, q1, q2, q3, q4, q5, q6, l1, l2, l3, l4, rfl⟩
def plL0 : List (Nat × Nat) := [(0, 0), (0, 1), (0, 2), (0, 3), (0, 4), (0, 46), (0, 5), (0, 6), (0, 7), (0, 8), (0, 9), (0, 10), (0, 11), (0, 12), (0, 13), (0, 14), (0, 15), (0, 16), (0, 17), (0, 18), (0, 19), (0, 20), (0, 21), (0, 22), (0, 23), (0, 24), (0, 25), (0, 26), (0, 27), (0, 28), (0, 29), (0, 30), (0, 31), (0, 32), (0, 33), (0, 34), (0, 35), (0, 36), (0, 37), (0, 38), (0, 39), (0, 40), (0, 41), (0, 42), (0, 43), (0, 44), (0, 45)]
def plL1 : List (Nat × Nat) := [(1, 0), (1, 1), (1, 2), (1, 3), (1, 4), (1, 46), (1, 5), (1, 6), (1, 7), (1, 8), (1, 9), (1, 10), (1, 11), (1, 12), (1, 13), (1, 14), (1, 15), (1, 16), (1, 17), (1, 18), (1, 19), (1, 20), (1, 21), (1, 22), (1, 23), (1, 24), (1, 25), (1, 26), (1, 27), (1, 28), (1, 29), (1, 30), (1, 31), (1, 32), (1, 33), (1, 34), (1, 35), (1, 36), (1, 37), (1, 38), (1, 39), (1, 40), (1, 41), (1, 42), (1, 43), (1, 44), (1, 45)]
def plL2 : List (Nat × Nat) := [(2, 0), (2, 1), (2, 2), (2, 3), (2, 4), (2, 46), (2, 5), (2, 6), (2, 7), (2, 8), (2, 9), (2, 10), (2, 11), (2, 12), (2, 13), (2, 14), (2, 15), (2, 16), (2, 17), (2, 18), (2, 19), (2, 20), (2, 21), (2, 22), (2, 23), (2, 24), (2, 25), (2, 26), (2, 27), (2, 28), (2, 29), (2, 30), (2, 31), (2, 32), (2, 33), (2, 34), (2, 35), (2, 36), (2, 37), (2, 38), (2, 39), (2, 40), (2, 41), (2, 42), (2, 43), (2, 44), (2, 45)]
def plR : List (Nat × Nat) := [(3, 1), (3, 2), (3, 3), (3, 4), (3, 5)]
def plM : List (Nat × Nat) := [(4, 0), (4, 1), (4, 2), (4, 3), (4, 4), (4, 5), (4, 6), (4, 7), (4, 8), (4, 9)]
def pl : List (Nat × Nat) := [(3, 0)] ++ (plL0 ++ (plL1 ++ (plL2 ++ (plR ++ plM))))
def gs : Nat × Nat → mj_S := fun q => if q.1 = 3 then (if q.2 = 0 then .inr (11, [some (0, 0), some (1, 0), some (2, 0), none, some (3, 1), some (3, 9)]) else (mj_shR 3).getD q.2 (.inl 0)) else if q.1 = 4 then (mj_shM 4).getD q.2 (.inl 0) else (mj_shL q.1).getD q.2 (.inl 0)
def g1 : mj_G := (gs, pl)
def adB (x : Nat) (l : List Nat) (k : Nat) : Nat := if k = 0 then x else l.getD (if k = 46 then 4 else if k < 5 then k - 1 else k) 0
def adF (x0 q1 q2 q3 q4 q5 : Nat) (l1 l2 l3 l4 lz : List Nat) (zs ss vs : Nat → Nat) : Nat × Nat → Nat := fun q => if q.1 = 99 then zs q.2 else if q.1 = 98 then ss q.2 else if q.1 = 97 then vs q.2 else if q.1 = 0 then adB q1 l1 q.2 else if q.1 = 1 then adB q2 l2 q.2 else if q.1 = 2 then adB q3 l3 q.2 else if q.1 = 3 then (if q.2 = 0 then x0 else if q.2 = 9 then q5 else if q.2 = 1 then q4 else l4.getD (q.2 - 2) 0) else lz.getD q.2 0
def mi_L : mj_m := fun k => if k = 2 then (mj_sa 0) else if k = 17 then (fun j => if j = 6 then 6 else if j = 12 then (-1) else if j = 14 then (-1) else 0) else if k = 33 then (fun j => if j = 1 then 5 else if j = 2 then 6 else 0) else if k = 38 then (fun j => if j = 1 then 3 else if j = 2 then 7 else 0) else fun _ => 0
def mi_R : mj_m := fun k => if k = 1 then (fun j => if j = 4 then (-1) else 0) else fun _ => 0
def mi_M : mj_m := fun k => if k = 0 then (fun j => if j = 18 then (-1) else 0) else if k = 4 then (mj_pre lst_X11_init_q4 95) else if k = 7 then (mj_pre lst_X11_init_q7 71) else fun _ => 0
def M1 : mj_M := fun b => if b = 3 then mi_R else if b = 4 then mi_M else mi_L
theorem pl_L : ∀ β, β < 3 → ∀ k, k < 47 → (β, k) ∈ pl := by decide +kernel
theorem pl_R : ∀ k, k < 6 → (3, k) ∈ pl := by decide +kernel
theorem pl_M : ∀ k, k < 10 → (4, k) ∈ pl := by decide +kernel
theorem isL1 {β : Nat} (hβ : β < 3) : mj_isL g1 β := by
  intro k s hk
  have hlt : k < 47 := by
    have := (List.getElem?_eq_some_iff.mp hk).1
    exact this
  refine ⟨pl_L β hβ k hlt, ?_⟩
  show gs (β, k) = s
  unfold gs
  rw [if_neg (by show ¬ β = 3; omega), if_neg (by show ¬ β = 4; omega)]
  show (mj_shL β).getD k (.inl 0) = s
  rw [List.getD_eq_getElem?_getD, hk]
  rfl
theorem isR1 : mj_isR g1 3 := by
  intro k s h1 hk
  have hlt : k < 6 := by
    have := (List.getElem?_eq_some_iff.mp hk).1
    exact this
  refine ⟨pl_R k hlt, ?_⟩
  show gs (3, k) = s
  unfold gs
  rw [if_pos rfl, if_neg (by show ¬ k = 0; omega)]
  show (mj_shR 3).getD k (.inl 0) = s
  rw [List.getD_eq_getElem?_getD, hk]
  rfl
theorem isM1 : mj_isM g1 4 := by
  intro k s hk
  have hlt : k < 10 := by
    have := (List.getElem?_eq_some_iff.mp hk).1
    exact this
  refine ⟨pl_M k hlt, ?_⟩
  show gs (4, k) = s
  unfold gs
  rw [if_neg (show ¬ (4 : Nat) = 3 by decide), if_pos rfl]
  show (mj_shM 4).getD k (.inl 0) = s
  rw [List.getD_eq_getElem?_getD, hk]
  rfl
theorem isT1 : mj_isT g1 := ⟨isL1 (by decide), isL1 (by decide), isL1 (by decide), isR1, pl_R 0 (by decide), rfl⟩
theorem mx_P_mem {D : va_G} {ws ws' : va_W} {H : Heap} (h : va_P D vwCl ws H) (hs : ∀ q ∈ ws', q ∈ ws) : va_P D vwCl ws' H := by
  intro k q hk
  obtain ⟨i, hi⟩ := List.getElem?_of_mem (hs q (List.mem_of_getElem? hk))
  exact h i q hi
theorem mx_D_perm {A : Nat → Prop} {ws ws' : va_W} (h : va_D A ws) (hp : ws.Perm ws') : va_D A ws' := by
  rw [mx_D_iff] at h ⊢
  exact ⟨(hp.map Prod.fst).nodup_iff.mp h.1, fun q hq => h.2 q (hp.mem_iff.mpr hq)⟩
theorem mx_refold {t : Program × Launch × Env × Room × State × MethodId × Array Value × List Frame × Method × Code} {D : va_G} {cI : mj_I} {ad0 ad1 : Nat × Nat → Nat} {G0 G1 : mj_G} {A : Nat → Prop} {Y0 Y1 : va_W} {ce sl pc : Nat} {Q : State → Prop} {L0 L1 : List (Option mj_V)} {M M1 : mj_M} (hp : (mj_w cI ad0 G0 M ++ Y0).Perm (mj_w cI ad1 G1 M1 ++ Y1)) (hlen : L0.length = L1.length) (hL : mj_lf ad0 L0 = mj_lf ad1 L1) (k : mj_R (t, D, cI, ad1, G1, Y1, A, ce, sl) Q pc L1 [] M1) : mj_R (t, D, cI, ad0, G0, Y0, A, ce, sl) Q pc L0 [] M := by
  obtain ⟨p, l, e, R, s, m, args, below, meth, c⟩ := t
  intro H locs ls hP hD hS hl
  refine k H locs ls (mx_P_mem hP (fun q hq => hp.mem_iff.mpr hq)) (mx_D_perm hD hp) hS ?_
  unfold mj_lh at hl ⊢
  rw [← hlen, ← hL]
  exact hl
set_option maxRecDepth 100000 in
set_option maxHeartbeats 8000000 in
theorem w_C {cI : mj_I} {x0 q1 q2 q3 q4 q5 z0 z1 z2 z3 z4 z5 z6 z7 z8 z9 : Nat} {l1 l2 l3 l4 : List Nat} {zs ss vs : Nat → Nat} : ([(3, 0)] : List (Nat × Nat)).map (fun q => ((adF x0 q1 q2 q3 q4 q5 l1 l2 l3 l4 [z0, z1, z2, z3, z4, z5, z6, z7, z8, z9] zs ss vs) q, mj_ce cI (adF x0 q1 q2 q3 q4 q5 l1 l2 l3 l4 [z0, z1, z2, z3, z4, z5, z6, z7, z8, z9] zs ss vs) (gs q) (M1 q.1 q.2))) = [(x0, .inr (11, [.ref q1, .ref q2, .ref q3, .int 0, .ref q4, .ref q5]))] := rfl
set_option maxRecDepth 100000 in
set_option maxHeartbeats 8000000 in
theorem w_L0 {cI : mj_I} {x0 q1 q2 q3 q4 q5 z0 z1 z2 z3 z4 z5 z6 z7 z8 z9 : Nat} {l1 l2 l3 l4 : List Nat} {zs ss vs : Nat → Nat} : (plL0 : List (Nat × Nat)).map (fun q => ((adF x0 q1 q2 q3 q4 q5 l1 l2 l3 l4 [z0, z1, z2, z3, z4, z5, z6, z7, z8, z9] zs ss vs) q, mj_ce cI (adF x0 q1 q2 q3 q4 q5 l1 l2 l3 l4 [z0, z1, z2, z3, z4, z5, z6, z7, z8, z9] zs ss vs) (gs q) (M1 q.1 q.2))) = lk3 cI q1 l1 := rfl
set_option maxRecDepth 100000 in
set_option maxHeartbeats 8000000 in
theorem w_L1 {cI : mj_I} {x0 q1 q2 q3 q4 q5 z0 z1 z2 z3 z4 z5 z6 z7 z8 z9 : Nat} {l1 l2 l3 l4 : List Nat} {zs ss vs : Nat → Nat} : (plL1 : List (Nat × Nat)).map (fun q => ((adF x0 q1 q2 q3 q4 q5 l1 l2 l3 l4 [z0, z1, z2, z3, z4, z5, z6, z7, z8, z9] zs ss vs) q, mj_ce cI (adF x0 q1 q2 q3 q4 q5 l1 l2 l3 l4 [z0, z1, z2, z3, z4, z5, z6, z7, z8, z9] zs ss vs) (gs q) (M1 q.1 q.2))) = lk3 cI q2 l2 := rfl
set_option maxRecDepth 100000 in
set_option maxHeartbeats 8000000 in
theorem w_L2 {cI : mj_I} {x0 q1 q2 q3 q4 q5 z0 z1 z2 z3 z4 z5 z6 z7 z8 z9 : Nat} {l1 l2 l3 l4 : List Nat} {zs ss vs : Nat → Nat} : (plL2 : List (Nat × Nat)).map (fun q => ((adF x0 q1 q2 q3 q4 q5 l1 l2 l3 l4 [z0, z1, z2, z3, z4, z5, z6, z7, z8, z9] zs ss vs) q, mj_ce cI (adF x0 q1 q2 q3 q4 q5 l1 l2 l3 l4 [z0, z1, z2, z3, z4, z5, z6, z7, z8, z9] zs ss vs) (gs q) (M1 q.1 q.2))) = lk3 cI q3 l3 := rfl
set_option maxRecDepth 100000 in
set_option maxHeartbeats 8000000 in
theorem w_R {cI : mj_I} {x0 q1 q2 q3 q4 q5 z0 z1 z2 z3 z4 z5 z6 z7 z8 z9 : Nat} {l1 l2 l3 l4 : List Nat} {zs ss vs : Nat → Nat} : (plR : List (Nat × Nat)).map (fun q => ((adF x0 q1 q2 q3 q4 q5 l1 l2 l3 l4 [z0, z1, z2, z3, z4, z5, z6, z7, z8, z9] zs ss vs) q, mj_ce cI (adF x0 q1 q2 q3 q4 q5 l1 l2 l3 l4 [z0, z1, z2, z3, z4, z5, z6, z7, z8, z9] zs ss vs) (gs q) (M1 q.1 q.2))) = rd5 cI q4 l4 := rfl
set_option maxRecDepth 100000 in
set_option maxHeartbeats 8000000 in
theorem w_M {cI : mj_I} {x0 q1 q2 q3 q4 q5 z0 z1 z2 z3 z4 z5 z6 z7 z8 z9 : Nat} {l1 l2 l3 l4 : List Nat} {zs ss vs : Nat → Nat} : (plM : List (Nat × Nat)).map (fun q => ((adF x0 q1 q2 q3 q4 q5 l1 l2 l3 l4 [z0, z1, z2, z3, z4, z5, z6, z7, z8, z9] zs ss vs) q, mj_ce cI (adF x0 q1 q2 q3 q4 q5 l1 l2 l3 l4 [z0, z1, z2, z3, z4, z5, z6, z7, z8, z9] zs ss vs) (gs q) (M1 q.1 q.2))) = [(z0, .inr (12, [.int 0, .ref z1, .ref z2, .ref z3, .int 0, .ref z4, .ref z5, .int 0, .ref z6, .int 0, .int 0, .int 0, .int 0, .int 0, .ref z7, .int 0, .int 0, .int 0, .int (-1), .int 0, .ref z8, .int 0, .ref z9])), (z1, .inl (cI.1, 1897, .inl (fun _ => 0))), (z2, .inl (cI.1, 1897, .inl (fun _ => 0))), (z3, .inl (cI.1, 5, .inl (fun _ => 0))), (z4, .inl (cI.1, 95, .inl (mj_pre lst_X11_init_q4 95))), (z5, .inl (cI.1, 60, .inl (fun _ => 0))), (z6, .inl (cI.1, 400, .inl (fun _ => 0))), (z7, .inl (cI.1, 71, .inl (mj_pre lst_X11_init_q7 71))), (z8, .inl (cI.1, 96, .inl (fun _ => 0))), (z9, .inl (cI.1, 1946, .inl (fun _ => 0)))] := rfl
