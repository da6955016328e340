/-! what the Statement gives of the start: words, statics, texts -/
def pth : List Bool → Cond → Cond
  | [], c => c
  | b :: p, .and x y => pth p (if b then y else x)
  | _ :: _, c => c
theorem pth_ok {args : Array Value} {s : State} : ∀ (p : List Bool) (c : Cond), c.before args s = true → (pth p c).before args s = true := by
  intro p
  induction p with
  | nil => exact fun c h => h
  | cons b p ih =>
    intro c h
    cases c with
    | and x y =>
      rw [Cond.before_and, Bool.and_eq_true] at h
      have hs := h
      cases b with
      | true => exact ih y hs.2
      | false => exact ih x hs.1
    | _ => exact h
def nwP (c : Cond) : Prop := ∀ (args : Array Value) (s : State), (Jvm.Cond.and given_1 narrow_1).before args s = true → c.before args s = true
theorem nwP_of {c : Cond} (p : List Bool) (h : pth p (Jvm.Cond.and given_1 narrow_1) = c) : nwP c := fun _ _ hn => h ▸ pth_ok p _ hn
def tmS (k : Nat) : Term := .static (mj_sn k).1 (mj_sn k).2.1 (mj_sn k).2.2.1
def tmV (q : String × Nat × String × List Int32) : Term := .field (.string q.1 q.2.1) "java/lang/String" "value" "[B"
theorem lw_in1 {w : Cond} (i : Nat) (h : tables_1_1[i]? = some w) : w ∈ lw_tbl := List.mem_append_right _ (List.mem_append_left _ (List.mem_of_getElem? h))
theorem lw_in2 {w : Cond} (i : Nat) (h : tables_1_2[i]? = some w) : w ∈ lw_tbl := List.mem_append_right _ (List.mem_append_right _ (List.mem_append_left _ (List.mem_of_getElem? h)))
theorem lw_in3 {w : Cond} (i : Nat) (h : tables_1_3[i]? = some w) : w ∈ lw_tbl := List.mem_append_right _ (List.mem_append_right _ (List.mem_append_right _ (List.mem_append_left _ (List.mem_of_getElem? h))))
theorem lw_in4 {w : Cond} (i : Nat) (h : tables_1_4[i]? = some w) : w ∈ lw_tbl := List.mem_append_right _ (List.mem_append_right _ (List.mem_append_right _ (List.mem_append_right _ (List.mem_append_left _ (List.mem_of_getElem? h)))))
theorem lw_in5 {w : Cond} (i : Nat) (h : tables_1_5[i]? = some w) : w ∈ lw_tbl := List.mem_append_right _ (List.mem_append_right _ (List.mem_append_right _ (List.mem_append_right _ (List.mem_append_right _ (List.mem_append_left _ (List.mem_of_getElem? h))))))
theorem lw_in6 {w : Cond} (i : Nat) (h : tables_1_6[i]? = some w) : w ∈ lw_tbl := List.mem_append_right _ (List.mem_append_right _ (List.mem_append_right _ (List.mem_append_right _ (List.mem_append_right _ (List.mem_append_right _ (List.mem_append_left _ (List.mem_of_getElem? h)))))))
theorem lw_in7 {w : Cond} (i : Nat) (h : tables_1_7[i]? = some w) : w ∈ lw_tbl := List.mem_append_right _ (List.mem_append_right _ (List.mem_append_right _ (List.mem_append_right _ (List.mem_append_right _ (List.mem_append_right _ (List.mem_append_right _ (List.mem_append_left _ (List.mem_of_getElem? h))))))))
theorem lw_in8 {w : Cond} (i : Nat) (h : tables_1_8[i]? = some w) : w ∈ lw_tbl := List.mem_append_right _ (List.mem_append_right _ (List.mem_append_right _ (List.mem_append_right _ (List.mem_append_right _ (List.mem_append_right _ (List.mem_append_right _ (List.mem_append_right _ (List.mem_append_left _ (List.mem_of_getElem? h)))))))))
theorem lw_in9 {w : Cond} (i : Nat) (h : tables_1_9[i]? = some w) : w ∈ lw_tbl := List.mem_append_right _ (List.mem_append_right _ (List.mem_append_right _ (List.mem_append_right _ (List.mem_append_right _ (List.mem_append_right _ (List.mem_append_right _ (List.mem_append_right _ (List.mem_append_right _ (List.mem_of_getElem? h)))))))))
set_option maxRecDepth 20000 in
theorem nw_s0 : nwP (Cond.exactly (.string (mj_ss 0).1 (mj_ss 0).2.1) "java/lang/String") ∧ nwP (Cond.eq (.field (.string (mj_ss 0).1 (mj_ss 0).2.1) "java/lang/String" "coder" "B") (.int 0)) ∧ nwP (Cond.arrayOf (tmV (mj_ss 0)) .byte) ∧ nwP (Cond.eq (.length (tmV (mj_ss 0))) (.int (Int32.ofNat (mj_ss 0).2.2.2.length))) ∧ ∀ j, j < 4 → nwP (Cond.eq (.elem (tmV (mj_ss 0)) (.int (Int32.ofNat j))) (.int ((mj_ss 0).2.2.2.getD j 0))) := by
  refine ⟨(nwP_of [true, false, true, true, true, false, true, false, false, false] rfl), (nwP_of [true, false, true, true, true, false, true, false, false, true] rfl), (nwP_of [true, false, true, true, true, false, true, false, true, false] rfl), (nwP_of [true, false, true, true, true, false, true, false, true, true] rfl), fun j hj => ?_⟩
  rcases (by omega : j = 0 ∨ j = 1 ∨ j = 2 ∨ j = 3) with rfl | rfl | rfl | rfl
  · exact (nwP_of [true, false, true, true, true, false, true, true, false, false] rfl)
  · exact (nwP_of [true, false, true, true, true, false, true, true, false, true] rfl)
  · exact (nwP_of [true, false, true, true, true, false, true, true, true, false] rfl)
  · exact (nwP_of [true, false, true, true, true, false, true, true, true, true, false] rfl)
set_option maxRecDepth 20000 in
theorem nw_s1 : nwP (Cond.exactly (.string (mj_ss 1).1 (mj_ss 1).2.1) "java/lang/String") ∧ nwP (Cond.eq (.field (.string (mj_ss 1).1 (mj_ss 1).2.1) "java/lang/String" "coder" "B") (.int 0)) ∧ nwP (Cond.arrayOf (tmV (mj_ss 1)) .byte) ∧ nwP (Cond.eq (.length (tmV (mj_ss 1))) (.int (Int32.ofNat (mj_ss 1).2.2.2.length))) ∧ ∀ j, j < 4 → nwP (Cond.eq (.elem (tmV (mj_ss 1)) (.int (Int32.ofNat j))) (.int ((mj_ss 1).2.2.2.getD j 0))) := by
  refine ⟨(nwP_of [true, false, true, true, true, false, true, true, true, true, true] rfl), (nwP_of [true, false, true, true, true, true, false, false, false, false] rfl), (nwP_of [true, false, true, true, true, true, false, false, false, true] rfl), (nwP_of [true, false, true, true, true, true, false, false, true, false] rfl), fun j hj => ?_⟩
  rcases (by omega : j = 0 ∨ j = 1 ∨ j = 2 ∨ j = 3) with rfl | rfl | rfl | rfl
  · exact (nwP_of [true, false, true, true, true, true, false, false, true, true] rfl)
  · exact (nwP_of [true, false, true, true, true, true, false, true, false, false] rfl)
  · exact (nwP_of [true, false, true, true, true, true, false, true, false, true] rfl)
  · exact (nwP_of [true, false, true, true, true, true, false, true, true, false] rfl)
set_option maxRecDepth 20000 in
theorem nw_s2 : nwP (Cond.exactly (.string (mj_ss 2).1 (mj_ss 2).2.1) "java/lang/String") ∧ nwP (Cond.eq (.field (.string (mj_ss 2).1 (mj_ss 2).2.1) "java/lang/String" "coder" "B") (.int 0)) ∧ nwP (Cond.arrayOf (tmV (mj_ss 2)) .byte) ∧ nwP (Cond.eq (.length (tmV (mj_ss 2))) (.int (Int32.ofNat (mj_ss 2).2.2.2.length))) ∧ ∀ j, j < 5 → nwP (Cond.eq (.elem (tmV (mj_ss 2)) (.int (Int32.ofNat j))) (.int ((mj_ss 2).2.2.2.getD j 0))) := by
  refine ⟨(nwP_of [true, false, true, true, true, true, false, true, true, true, false] rfl), (nwP_of [true, false, true, true, true, true, false, true, true, true, true] rfl), (nwP_of [true, false, true, true, true, true, true, false, false, false] rfl), (nwP_of [true, false, true, true, true, true, true, false, false, true] rfl), fun j hj => ?_⟩
  rcases (by omega : j = 0 ∨ j = 1 ∨ j = 2 ∨ j = 3 ∨ j = 4) with rfl | rfl | rfl | rfl | rfl
  · exact (nwP_of [true, false, true, true, true, true, true, false, true, false] rfl)
  · exact (nwP_of [true, false, true, true, true, true, true, false, true, true] rfl)
  · exact (nwP_of [true, false, true, true, true, true, true, true, false, false] rfl)
  · exact (nwP_of [true, false, true, true, true, true, true, true, false, true] rfl)
  · exact (nwP_of [true, false, true, true, true, true, true, true, true, false] rfl)
set_option maxRecDepth 20000 in
theorem nw_s3 : nwP (Cond.exactly (.string (mj_ss 3).1 (mj_ss 3).2.1) "java/lang/String") ∧ nwP (Cond.eq (.field (.string (mj_ss 3).1 (mj_ss 3).2.1) "java/lang/String" "coder" "B") (.int 0)) ∧ nwP (Cond.arrayOf (tmV (mj_ss 3)) .byte) ∧ nwP (Cond.eq (.length (tmV (mj_ss 3))) (.int (Int32.ofNat (mj_ss 3).2.2.2.length))) ∧ ∀ j, j < 5 → nwP (Cond.eq (.elem (tmV (mj_ss 3)) (.int (Int32.ofNat j))) (.int ((mj_ss 3).2.2.2.getD j 0))) := by
  refine ⟨(nwP_of [true, false, true, true, true, true, true, true, true, true, false] rfl), (nwP_of [true, false, true, true, true, true, true, true, true, true, true] rfl), (nwP_of [true, true, false, false, false, false, false, false, false, false] rfl), (nwP_of [true, true, false, false, false, false, false, false, false, true] rfl), fun j hj => ?_⟩
  rcases (by omega : j = 0 ∨ j = 1 ∨ j = 2 ∨ j = 3 ∨ j = 4) with rfl | rfl | rfl | rfl | rfl
  · exact (nwP_of [true, true, false, false, false, false, false, false, true, false] rfl)
  · exact (nwP_of [true, true, false, false, false, false, false, false, true, true] rfl)
  · exact (nwP_of [true, true, false, false, false, false, false, true, false, false] rfl)
  · exact (nwP_of [true, true, false, false, false, false, false, true, false, true] rfl)
  · exact (nwP_of [true, true, false, false, false, false, false, true, true, false] rfl)
set_option maxRecDepth 20000 in
theorem nw_s4 : nwP (Cond.exactly (.string (mj_ss 4).1 (mj_ss 4).2.1) "java/lang/String") ∧ nwP (Cond.eq (.field (.string (mj_ss 4).1 (mj_ss 4).2.1) "java/lang/String" "coder" "B") (.int 0)) ∧ nwP (Cond.arrayOf (tmV (mj_ss 4)) .byte) ∧ nwP (Cond.eq (.length (tmV (mj_ss 4))) (.int (Int32.ofNat (mj_ss 4).2.2.2.length))) ∧ ∀ j, j < 6 → nwP (Cond.eq (.elem (tmV (mj_ss 4)) (.int (Int32.ofNat j))) (.int ((mj_ss 4).2.2.2.getD j 0))) := by
  refine ⟨(nwP_of [true, true, false, false, false, false, false, true, true, true] rfl), (nwP_of [true, true, false, false, false, false, true, false, false, false] rfl), (nwP_of [true, true, false, false, false, false, true, false, false, true] rfl), (nwP_of [true, true, false, false, false, false, true, false, true, false] rfl), fun j hj => ?_⟩
  rcases (by omega : j = 0 ∨ j = 1 ∨ j = 2 ∨ j = 3 ∨ j = 4 ∨ j = 5) with rfl | rfl | rfl | rfl | rfl | rfl
  · exact (nwP_of [true, true, false, false, false, false, true, false, true, true] rfl)
  · exact (nwP_of [true, true, false, false, false, false, true, true, false, false] rfl)
  · exact (nwP_of [true, true, false, false, false, false, true, true, false, true] rfl)
  · exact (nwP_of [true, true, false, false, false, false, true, true, true, false] rfl)
  · exact (nwP_of [true, true, false, false, false, false, true, true, true, true, false] rfl)
  · exact (nwP_of [true, true, false, false, false, false, true, true, true, true, true] rfl)
set_option maxRecDepth 20000 in
theorem nw_s5 : nwP (Cond.exactly (.string (mj_ss 5).1 (mj_ss 5).2.1) "java/lang/String") ∧ nwP (Cond.eq (.field (.string (mj_ss 5).1 (mj_ss 5).2.1) "java/lang/String" "coder" "B") (.int 0)) ∧ nwP (Cond.arrayOf (tmV (mj_ss 5)) .byte) ∧ nwP (Cond.eq (.length (tmV (mj_ss 5))) (.int (Int32.ofNat (mj_ss 5).2.2.2.length))) ∧ ∀ j, j < 3 → nwP (Cond.eq (.elem (tmV (mj_ss 5)) (.int (Int32.ofNat j))) (.int ((mj_ss 5).2.2.2.getD j 0))) := by
  refine ⟨(nwP_of [true, true, false, false, false, true, false, false, false, false] rfl), (nwP_of [true, true, false, false, false, true, false, false, false, true] rfl), (nwP_of [true, true, false, false, false, true, false, false, true, false] rfl), (nwP_of [true, true, false, false, false, true, false, false, true, true] rfl), fun j hj => ?_⟩
  rcases (by omega : j = 0 ∨ j = 1 ∨ j = 2) with rfl | rfl | rfl
  · exact (nwP_of [true, true, false, false, false, true, false, true, false, false] rfl)
  · exact (nwP_of [true, true, false, false, false, true, false, true, false, true] rfl)
  · exact (nwP_of [true, true, false, false, false, true, false, true, true, false] rfl)
set_option maxRecDepth 20000 in
theorem nw_s6 : nwP (Cond.exactly (.string (mj_ss 6).1 (mj_ss 6).2.1) "java/lang/String") ∧ nwP (Cond.eq (.field (.string (mj_ss 6).1 (mj_ss 6).2.1) "java/lang/String" "coder" "B") (.int 0)) ∧ nwP (Cond.arrayOf (tmV (mj_ss 6)) .byte) ∧ nwP (Cond.eq (.length (tmV (mj_ss 6))) (.int (Int32.ofNat (mj_ss 6).2.2.2.length))) ∧ ∀ j, j < 4 → nwP (Cond.eq (.elem (tmV (mj_ss 6)) (.int (Int32.ofNat j))) (.int ((mj_ss 6).2.2.2.getD j 0))) := by
  refine ⟨(nwP_of [true, true, false, false, false, true, false, true, true, true, false] rfl), (nwP_of [true, true, false, false, false, true, false, true, true, true, true] rfl), (nwP_of [true, true, false, false, false, true, true, false, false, false] rfl), (nwP_of [true, true, false, false, false, true, true, false, false, true] rfl), fun j hj => ?_⟩
  rcases (by omega : j = 0 ∨ j = 1 ∨ j = 2 ∨ j = 3) with rfl | rfl | rfl | rfl
  · exact (nwP_of [true, true, false, false, false, true, true, false, true, false] rfl)
  · exact (nwP_of [true, true, false, false, false, true, true, false, true, true] rfl)
  · exact (nwP_of [true, true, false, false, false, true, true, true, false, false] rfl)
  · exact (nwP_of [true, true, false, false, false, true, true, true, false, true] rfl)
set_option maxRecDepth 20000 in
theorem nw_s7 : nwP (Cond.exactly (.string (mj_ss 7).1 (mj_ss 7).2.1) "java/lang/String") ∧ nwP (Cond.eq (.field (.string (mj_ss 7).1 (mj_ss 7).2.1) "java/lang/String" "coder" "B") (.int 0)) ∧ nwP (Cond.arrayOf (tmV (mj_ss 7)) .byte) ∧ nwP (Cond.eq (.length (tmV (mj_ss 7))) (.int (Int32.ofNat (mj_ss 7).2.2.2.length))) ∧ ∀ j, j < 2 → nwP (Cond.eq (.elem (tmV (mj_ss 7)) (.int (Int32.ofNat j))) (.int ((mj_ss 7).2.2.2.getD j 0))) := by
  refine ⟨(nwP_of [true, true, false, false, false, true, true, true, true, false] rfl), (nwP_of [true, true, false, false, false, true, true, true, true, true, false] rfl), (nwP_of [true, true, false, false, false, true, true, true, true, true, true] rfl), (nwP_of [true, true, false, false, true, false, false, false, false, false] rfl), fun j hj => ?_⟩
  rcases (by omega : j = 0 ∨ j = 1) with rfl | rfl
  · exact (nwP_of [true, true, false, false, true, false, false, false, false, true] rfl)
  · exact (nwP_of [true, true, false, false, true, false, false, false, true, false] rfl)
set_option maxRecDepth 20000 in
theorem nw_s8 : nwP (Cond.exactly (.string (mj_ss 8).1 (mj_ss 8).2.1) "java/lang/String") ∧ nwP (Cond.eq (.field (.string (mj_ss 8).1 (mj_ss 8).2.1) "java/lang/String" "coder" "B") (.int 0)) ∧ nwP (Cond.arrayOf (tmV (mj_ss 8)) .byte) ∧ nwP (Cond.eq (.length (tmV (mj_ss 8))) (.int (Int32.ofNat (mj_ss 8).2.2.2.length))) ∧ ∀ j, j < 8 → nwP (Cond.eq (.elem (tmV (mj_ss 8)) (.int (Int32.ofNat j))) (.int ((mj_ss 8).2.2.2.getD j 0))) := by
  refine ⟨(nwP_of [true, true, false, false, true, false, false, false, true, true] rfl), (nwP_of [true, true, false, false, true, false, false, true, false, false] rfl), (nwP_of [true, true, false, false, true, false, false, true, false, true] rfl), (nwP_of [true, true, false, false, true, false, false, true, true, false] rfl), fun j hj => ?_⟩
  rcases (by omega : j = 0 ∨ j = 1 ∨ j = 2 ∨ j = 3 ∨ j = 4 ∨ j = 5 ∨ j = 6 ∨ j = 7) with rfl | rfl | rfl | rfl | rfl | rfl | rfl | rfl
  · exact (nwP_of [true, true, false, false, true, false, false, true, true, true] rfl)
  · exact (nwP_of [true, true, false, false, true, false, true, false, false, false] rfl)
  · exact (nwP_of [true, true, false, false, true, false, true, false, false, true] rfl)
  · exact (nwP_of [true, true, false, false, true, false, true, false, true, false] rfl)
  · exact (nwP_of [true, true, false, false, true, false, true, false, true, true] rfl)
  · exact (nwP_of [true, true, false, false, true, false, true, true, false, false] rfl)
  · exact (nwP_of [true, true, false, false, true, false, true, true, false, true] rfl)
  · exact (nwP_of [true, true, false, false, true, false, true, true, true, false] rfl)
set_option maxRecDepth 20000 in
theorem nw_s9 : nwP (Cond.exactly (.string (mj_ss 9).1 (mj_ss 9).2.1) "java/lang/String") ∧ nwP (Cond.eq (.field (.string (mj_ss 9).1 (mj_ss 9).2.1) "java/lang/String" "coder" "B") (.int 0)) ∧ nwP (Cond.arrayOf (tmV (mj_ss 9)) .byte) ∧ nwP (Cond.eq (.length (tmV (mj_ss 9))) (.int (Int32.ofNat (mj_ss 9).2.2.2.length))) ∧ ∀ j, j < 4 → nwP (Cond.eq (.elem (tmV (mj_ss 9)) (.int (Int32.ofNat j))) (.int ((mj_ss 9).2.2.2.getD j 0))) := by
  refine ⟨(nwP_of [true, true, false, false, true, false, true, true, true, true, false] rfl), (nwP_of [true, true, false, false, true, false, true, true, true, true, true] rfl), (nwP_of [true, true, false, false, true, true, false, false, false, false] rfl), (nwP_of [true, true, false, false, true, true, false, false, false, true] rfl), fun j hj => ?_⟩
  rcases (by omega : j = 0 ∨ j = 1 ∨ j = 2 ∨ j = 3) with rfl | rfl | rfl | rfl
  · exact (nwP_of [true, true, false, false, true, true, false, false, true, false] rfl)
  · exact (nwP_of [true, true, false, false, true, true, false, false, true, true] rfl)
  · exact (nwP_of [true, true, false, false, true, true, false, true, false, false] rfl)
  · exact (nwP_of [true, true, false, false, true, true, false, true, false, true] rfl)
set_option maxRecDepth 20000 in
theorem nw_s10 : nwP (Cond.exactly (.string (mj_ss 10).1 (mj_ss 10).2.1) "java/lang/String") ∧ nwP (Cond.eq (.field (.string (mj_ss 10).1 (mj_ss 10).2.1) "java/lang/String" "coder" "B") (.int 0)) ∧ nwP (Cond.arrayOf (tmV (mj_ss 10)) .byte) ∧ nwP (Cond.eq (.length (tmV (mj_ss 10))) (.int (Int32.ofNat (mj_ss 10).2.2.2.length))) ∧ ∀ j, j < 4 → nwP (Cond.eq (.elem (tmV (mj_ss 10)) (.int (Int32.ofNat j))) (.int ((mj_ss 10).2.2.2.getD j 0))) := by
  refine ⟨(nwP_of [true, true, false, false, true, true, false, true, true, false] rfl), (nwP_of [true, true, false, false, true, true, false, true, true, true, false] rfl), (nwP_of [true, true, false, false, true, true, false, true, true, true, true] rfl), (nwP_of [true, true, false, false, true, true, true, false, false, false] rfl), fun j hj => ?_⟩
  rcases (by omega : j = 0 ∨ j = 1 ∨ j = 2 ∨ j = 3) with rfl | rfl | rfl | rfl
  · exact (nwP_of [true, true, false, false, true, true, true, false, false, true] rfl)
  · exact (nwP_of [true, true, false, false, true, true, true, false, true, false] rfl)
  · exact (nwP_of [true, true, false, false, true, true, true, false, true, true] rfl)
  · exact (nwP_of [true, true, false, false, true, true, true, true, false, false] rfl)
set_option maxRecDepth 20000 in
theorem nw_s11 : nwP (Cond.exactly (.string (mj_ss 11).1 (mj_ss 11).2.1) "java/lang/String") ∧ nwP (Cond.eq (.field (.string (mj_ss 11).1 (mj_ss 11).2.1) "java/lang/String" "coder" "B") (.int 0)) ∧ nwP (Cond.arrayOf (tmV (mj_ss 11)) .byte) ∧ nwP (Cond.eq (.length (tmV (mj_ss 11))) (.int (Int32.ofNat (mj_ss 11).2.2.2.length))) ∧ ∀ j, j < 4 → nwP (Cond.eq (.elem (tmV (mj_ss 11)) (.int (Int32.ofNat j))) (.int ((mj_ss 11).2.2.2.getD j 0))) := by
  refine ⟨(nwP_of [true, true, false, false, true, true, true, true, false, true] rfl), (nwP_of [true, true, false, false, true, true, true, true, true, false] rfl), (nwP_of [true, true, false, false, true, true, true, true, true, true, false] rfl), (nwP_of [true, true, false, false, true, true, true, true, true, true, true] rfl), fun j hj => ?_⟩
  rcases (by omega : j = 0 ∨ j = 1 ∨ j = 2 ∨ j = 3) with rfl | rfl | rfl | rfl
  · exact (nwP_of [true, true, false, true, false, false, false, false, false, false] rfl)
  · exact (nwP_of [true, true, false, true, false, false, false, false, false, true] rfl)
  · exact (nwP_of [true, true, false, true, false, false, false, false, true, false] rfl)
  · exact (nwP_of [true, true, false, true, false, false, false, false, true, true] rfl)
set_option maxRecDepth 20000 in
theorem nw_s12 : nwP (Cond.exactly (.string (mj_ss 12).1 (mj_ss 12).2.1) "java/lang/String") ∧ nwP (Cond.eq (.field (.string (mj_ss 12).1 (mj_ss 12).2.1) "java/lang/String" "coder" "B") (.int 0)) ∧ nwP (Cond.arrayOf (tmV (mj_ss 12)) .byte) ∧ nwP (Cond.eq (.length (tmV (mj_ss 12))) (.int (Int32.ofNat (mj_ss 12).2.2.2.length))) ∧ ∀ j, j < 4 → nwP (Cond.eq (.elem (tmV (mj_ss 12)) (.int (Int32.ofNat j))) (.int ((mj_ss 12).2.2.2.getD j 0))) := by
  refine ⟨(nwP_of [true, true, false, true, false, false, false, true, false, false] rfl), (nwP_of [true, true, false, true, false, false, false, true, false, true] rfl), (nwP_of [true, true, false, true, false, false, false, true, true, false] rfl), (nwP_of [true, true, false, true, false, false, false, true, true, true] rfl), fun j hj => ?_⟩
  rcases (by omega : j = 0 ∨ j = 1 ∨ j = 2 ∨ j = 3) with rfl | rfl | rfl | rfl
  · exact (nwP_of [true, true, false, true, false, false, true, false, false, false] rfl)
  · exact (nwP_of [true, true, false, true, false, false, true, false, false, true] rfl)
  · exact (nwP_of [true, true, false, true, false, false, true, false, true, false] rfl)
  · exact (nwP_of [true, true, false, true, false, false, true, false, true, true] rfl)
set_option maxRecDepth 20000 in
theorem nw_s13 : nwP (Cond.exactly (.string (mj_ss 13).1 (mj_ss 13).2.1) "java/lang/String") ∧ nwP (Cond.eq (.field (.string (mj_ss 13).1 (mj_ss 13).2.1) "java/lang/String" "coder" "B") (.int 0)) ∧ nwP (Cond.arrayOf (tmV (mj_ss 13)) .byte) ∧ nwP (Cond.eq (.length (tmV (mj_ss 13))) (.int (Int32.ofNat (mj_ss 13).2.2.2.length))) ∧ ∀ j, j < 6 → nwP (Cond.eq (.elem (tmV (mj_ss 13)) (.int (Int32.ofNat j))) (.int ((mj_ss 13).2.2.2.getD j 0))) := by
  refine ⟨(nwP_of [true, true, false, true, false, false, true, true, false, false] rfl), (nwP_of [true, true, false, true, false, false, true, true, false, true] rfl), (nwP_of [true, true, false, true, false, false, true, true, true, false] rfl), (nwP_of [true, true, false, true, false, false, true, true, true, true, false] rfl), fun j hj => ?_⟩
  rcases (by omega : j = 0 ∨ j = 1 ∨ j = 2 ∨ j = 3 ∨ j = 4 ∨ j = 5) with rfl | rfl | rfl | rfl | rfl | rfl
  · exact (nwP_of [true, true, false, true, false, false, true, true, true, true, true] rfl)
  · exact (nwP_of [true, true, false, true, false, true, false, false, false, false] rfl)
  · exact (nwP_of [true, true, false, true, false, true, false, false, false, true] rfl)
  · exact (nwP_of [true, true, false, true, false, true, false, false, true, false] rfl)
  · exact (nwP_of [true, true, false, true, false, true, false, false, true, true] rfl)
  · exact (nwP_of [true, true, false, true, false, true, false, true, false, false] rfl)
set_option maxRecDepth 20000 in
theorem nw_s14 : nwP (Cond.exactly (.string (mj_ss 14).1 (mj_ss 14).2.1) "java/lang/String") ∧ nwP (Cond.eq (.field (.string (mj_ss 14).1 (mj_ss 14).2.1) "java/lang/String" "coder" "B") (.int 0)) ∧ nwP (Cond.arrayOf (tmV (mj_ss 14)) .byte) ∧ nwP (Cond.eq (.length (tmV (mj_ss 14))) (.int (Int32.ofNat (mj_ss 14).2.2.2.length))) ∧ ∀ j, j < 7 → nwP (Cond.eq (.elem (tmV (mj_ss 14)) (.int (Int32.ofNat j))) (.int ((mj_ss 14).2.2.2.getD j 0))) := by
  refine ⟨(nwP_of [true, true, false, true, false, true, false, true, false, true] rfl), (nwP_of [true, true, false, true, false, true, false, true, true, false] rfl), (nwP_of [true, true, false, true, false, true, false, true, true, true, false] rfl), (nwP_of [true, true, false, true, false, true, false, true, true, true, true] rfl), fun j hj => ?_⟩
  rcases (by omega : j = 0 ∨ j = 1 ∨ j = 2 ∨ j = 3 ∨ j = 4 ∨ j = 5 ∨ j = 6) with rfl | rfl | rfl | rfl | rfl | rfl | rfl
  · exact (nwP_of [true, true, false, true, false, true, true, false, false, false] rfl)
  · exact (nwP_of [true, true, false, true, false, true, true, false, false, true] rfl)
  · exact (nwP_of [true, true, false, true, false, true, true, false, true, false] rfl)
  · exact (nwP_of [true, true, false, true, false, true, true, false, true, true] rfl)
  · exact (nwP_of [true, true, false, true, false, true, true, true, false, false] rfl)
  · exact (nwP_of [true, true, false, true, false, true, true, true, false, true] rfl)
  · exact (nwP_of [true, true, false, true, false, true, true, true, true, false] rfl)
set_option maxRecDepth 20000 in
theorem nw_s15 : nwP (Cond.exactly (.string (mj_ss 15).1 (mj_ss 15).2.1) "java/lang/String") ∧ nwP (Cond.eq (.field (.string (mj_ss 15).1 (mj_ss 15).2.1) "java/lang/String" "coder" "B") (.int 0)) ∧ nwP (Cond.arrayOf (tmV (mj_ss 15)) .byte) ∧ nwP (Cond.eq (.length (tmV (mj_ss 15))) (.int (Int32.ofNat (mj_ss 15).2.2.2.length))) ∧ ∀ j, j < 7 → nwP (Cond.eq (.elem (tmV (mj_ss 15)) (.int (Int32.ofNat j))) (.int ((mj_ss 15).2.2.2.getD j 0))) := by
  refine ⟨(nwP_of [true, true, false, true, false, true, true, true, true, true, false] rfl), (nwP_of [true, true, false, true, false, true, true, true, true, true, true] rfl), (nwP_of [true, true, false, true, true, false, false, false, false, false] rfl), (nwP_of [true, true, false, true, true, false, false, false, false, true] rfl), fun j hj => ?_⟩
  rcases (by omega : j = 0 ∨ j = 1 ∨ j = 2 ∨ j = 3 ∨ j = 4 ∨ j = 5 ∨ j = 6) with rfl | rfl | rfl | rfl | rfl | rfl | rfl
  · exact (nwP_of [true, true, false, true, true, false, false, false, true, false] rfl)
  · exact (nwP_of [true, true, false, true, true, false, false, false, true, true] rfl)
  · exact (nwP_of [true, true, false, true, true, false, false, true, false, false] rfl)
  · exact (nwP_of [true, true, false, true, true, false, false, true, false, true] rfl)
  · exact (nwP_of [true, true, false, true, true, false, false, true, true, false] rfl)
  · exact (nwP_of [true, true, false, true, true, false, false, true, true, true, false] rfl)
  · exact (nwP_of [true, true, false, true, true, false, false, true, true, true, true] rfl)
set_option maxRecDepth 20000 in
theorem nw_s16 : nwP (Cond.exactly (.string (mj_ss 16).1 (mj_ss 16).2.1) "java/lang/String") ∧ nwP (Cond.eq (.field (.string (mj_ss 16).1 (mj_ss 16).2.1) "java/lang/String" "coder" "B") (.int 0)) ∧ nwP (Cond.arrayOf (tmV (mj_ss 16)) .byte) ∧ nwP (Cond.eq (.length (tmV (mj_ss 16))) (.int (Int32.ofNat (mj_ss 16).2.2.2.length))) ∧ ∀ j, j < 6 → nwP (Cond.eq (.elem (tmV (mj_ss 16)) (.int (Int32.ofNat j))) (.int ((mj_ss 16).2.2.2.getD j 0))) := by
  refine ⟨(nwP_of [true, true, false, true, true, false, true, false, false, false] rfl), (nwP_of [true, true, false, true, true, false, true, false, false, true] rfl), (nwP_of [true, true, false, true, true, false, true, false, true, false] rfl), (nwP_of [true, true, false, true, true, false, true, false, true, true] rfl), fun j hj => ?_⟩
  rcases (by omega : j = 0 ∨ j = 1 ∨ j = 2 ∨ j = 3 ∨ j = 4 ∨ j = 5) with rfl | rfl | rfl | rfl | rfl | rfl
  · exact (nwP_of [true, true, false, true, true, false, true, true, false, false] rfl)
  · exact (nwP_of [true, true, false, true, true, false, true, true, false, true] rfl)
  · exact (nwP_of [true, true, false, true, true, false, true, true, true, false] rfl)
  · exact (nwP_of [true, true, false, true, true, false, true, true, true, true, false] rfl)
  · exact (nwP_of [true, true, false, true, true, false, true, true, true, true, true] rfl)
  · exact (nwP_of [true, true, false, true, true, true, false, false, false, false] rfl)
set_option maxRecDepth 20000 in
theorem nw_s17 : nwP (Cond.exactly (.string (mj_ss 17).1 (mj_ss 17).2.1) "java/lang/String") ∧ nwP (Cond.eq (.field (.string (mj_ss 17).1 (mj_ss 17).2.1) "java/lang/String" "coder" "B") (.int 0)) ∧ nwP (Cond.arrayOf (tmV (mj_ss 17)) .byte) ∧ nwP (Cond.eq (.length (tmV (mj_ss 17))) (.int (Int32.ofNat (mj_ss 17).2.2.2.length))) ∧ ∀ j, j < 7 → nwP (Cond.eq (.elem (tmV (mj_ss 17)) (.int (Int32.ofNat j))) (.int ((mj_ss 17).2.2.2.getD j 0))) := by
  refine ⟨(nwP_of [true, true, false, true, true, true, false, false, false, true] rfl), (nwP_of [true, true, false, true, true, true, false, false, true, false] rfl), (nwP_of [true, true, false, true, true, true, false, false, true, true] rfl), (nwP_of [true, true, false, true, true, true, false, true, false, false] rfl), fun j hj => ?_⟩
  rcases (by omega : j = 0 ∨ j = 1 ∨ j = 2 ∨ j = 3 ∨ j = 4 ∨ j = 5 ∨ j = 6) with rfl | rfl | rfl | rfl | rfl | rfl | rfl
  · exact (nwP_of [true, true, false, true, true, true, false, true, false, true] rfl)
  · exact (nwP_of [true, true, false, true, true, true, false, true, true, false] rfl)
  · exact (nwP_of [true, true, false, true, true, true, false, true, true, true, false] rfl)
  · exact (nwP_of [true, true, false, true, true, true, false, true, true, true, true] rfl)
  · exact (nwP_of [true, true, false, true, true, true, true, false, false, false] rfl)
  · exact (nwP_of [true, true, false, true, true, true, true, false, false, true] rfl)
  · exact (nwP_of [true, true, false, true, true, true, true, false, true, false] rfl)
set_option maxRecDepth 20000 in
theorem nw_s18 : nwP (Cond.exactly (.string (mj_ss 18).1 (mj_ss 18).2.1) "java/lang/String") ∧ nwP (Cond.eq (.field (.string (mj_ss 18).1 (mj_ss 18).2.1) "java/lang/String" "coder" "B") (.int 0)) ∧ nwP (Cond.arrayOf (tmV (mj_ss 18)) .byte) ∧ nwP (Cond.eq (.length (tmV (mj_ss 18))) (.int (Int32.ofNat (mj_ss 18).2.2.2.length))) ∧ ∀ j, j < 3 → nwP (Cond.eq (.elem (tmV (mj_ss 18)) (.int (Int32.ofNat j))) (.int ((mj_ss 18).2.2.2.getD j 0))) := by
  refine ⟨(nwP_of [true, true, false, true, true, true, true, false, true, true] rfl), (nwP_of [true, true, false, true, true, true, true, true, false, false] rfl), (nwP_of [true, true, false, true, true, true, true, true, false, true] rfl), (nwP_of [true, true, false, true, true, true, true, true, true, false] rfl), fun j hj => ?_⟩
  rcases (by omega : j = 0 ∨ j = 1 ∨ j = 2) with rfl | rfl | rfl
  · exact (nwP_of [true, true, false, true, true, true, true, true, true, true, false] rfl)
  · exact (nwP_of [true, true, false, true, true, true, true, true, true, true, true] rfl)
  · exact (nwP_of [true, true, true, false, false, false, false, false, false, false] rfl)
set_option maxRecDepth 20000 in
theorem nw_s19 : nwP (Cond.exactly (.string (mj_ss 19).1 (mj_ss 19).2.1) "java/lang/String") ∧ nwP (Cond.eq (.field (.string (mj_ss 19).1 (mj_ss 19).2.1) "java/lang/String" "coder" "B") (.int 0)) ∧ nwP (Cond.arrayOf (tmV (mj_ss 19)) .byte) ∧ nwP (Cond.eq (.length (tmV (mj_ss 19))) (.int (Int32.ofNat (mj_ss 19).2.2.2.length))) ∧ ∀ j, j < 2 → nwP (Cond.eq (.elem (tmV (mj_ss 19)) (.int (Int32.ofNat j))) (.int ((mj_ss 19).2.2.2.getD j 0))) := by
  refine ⟨(nwP_of [true, true, true, false, false, false, false, false, false, true] rfl), (nwP_of [true, true, true, false, false, false, false, false, true, false] rfl), (nwP_of [true, true, true, false, false, false, false, false, true, true] rfl), (nwP_of [true, true, true, false, false, false, false, true, false, false] rfl), fun j hj => ?_⟩
  rcases (by omega : j = 0 ∨ j = 1) with rfl | rfl
  · exact (nwP_of [true, true, true, false, false, false, false, true, false, true] rfl)
  · exact (nwP_of [true, true, true, false, false, false, false, true, true, false] rfl)
set_option maxRecDepth 20000 in
theorem nw_s20 : nwP (Cond.exactly (.string (mj_ss 20).1 (mj_ss 20).2.1) "java/lang/String") ∧ nwP (Cond.eq (.field (.string (mj_ss 20).1 (mj_ss 20).2.1) "java/lang/String" "coder" "B") (.int 0)) ∧ nwP (Cond.arrayOf (tmV (mj_ss 20)) .byte) ∧ nwP (Cond.eq (.length (tmV (mj_ss 20))) (.int (Int32.ofNat (mj_ss 20).2.2.2.length))) ∧ ∀ j, j < 6 → nwP (Cond.eq (.elem (tmV (mj_ss 20)) (.int (Int32.ofNat j))) (.int ((mj_ss 20).2.2.2.getD j 0))) := by
  refine ⟨(nwP_of [true, true, true, false, false, false, false, true, true, true] rfl), (nwP_of [true, true, true, false, false, false, true, false, false, false] rfl), (nwP_of [true, true, true, false, false, false, true, false, false, true] rfl), (nwP_of [true, true, true, false, false, false, true, false, true, false] rfl), fun j hj => ?_⟩
  rcases (by omega : j = 0 ∨ j = 1 ∨ j = 2 ∨ j = 3 ∨ j = 4 ∨ j = 5) with rfl | rfl | rfl | rfl | rfl | rfl
  · exact (nwP_of [true, true, true, false, false, false, true, false, true, true] rfl)
  · exact (nwP_of [true, true, true, false, false, false, true, true, false, false] rfl)
  · exact (nwP_of [true, true, true, false, false, false, true, true, false, true] rfl)
  · exact (nwP_of [true, true, true, false, false, false, true, true, true, false] rfl)
  · exact (nwP_of [true, true, true, false, false, false, true, true, true, true, false] rfl)
  · exact (nwP_of [true, true, true, false, false, false, true, true, true, true, true] rfl)
set_option maxRecDepth 20000 in
theorem nw_s21 : nwP (Cond.exactly (.string (mj_ss 21).1 (mj_ss 21).2.1) "java/lang/String") ∧ nwP (Cond.eq (.field (.string (mj_ss 21).1 (mj_ss 21).2.1) "java/lang/String" "coder" "B") (.int 0)) ∧ nwP (Cond.arrayOf (tmV (mj_ss 21)) .byte) ∧ nwP (Cond.eq (.length (tmV (mj_ss 21))) (.int (Int32.ofNat (mj_ss 21).2.2.2.length))) ∧ ∀ j, j < 6 → nwP (Cond.eq (.elem (tmV (mj_ss 21)) (.int (Int32.ofNat j))) (.int ((mj_ss 21).2.2.2.getD j 0))) := by
  refine ⟨(nwP_of [true, true, true, false, false, true, false, false, false, false] rfl), (nwP_of [true, true, true, false, false, true, false, false, false, true] rfl), (nwP_of [true, true, true, false, false, true, false, false, true, false] rfl), (nwP_of [true, true, true, false, false, true, false, false, true, true] rfl), fun j hj => ?_⟩
  rcases (by omega : j = 0 ∨ j = 1 ∨ j = 2 ∨ j = 3 ∨ j = 4 ∨ j = 5) with rfl | rfl | rfl | rfl | rfl | rfl
  · exact (nwP_of [true, true, true, false, false, true, false, true, false, false] rfl)
  · exact (nwP_of [true, true, true, false, false, true, false, true, false, true] rfl)
  · exact (nwP_of [true, true, true, false, false, true, false, true, true, false] rfl)
  · exact (nwP_of [true, true, true, false, false, true, false, true, true, true, false] rfl)
  · exact (nwP_of [true, true, true, false, false, true, false, true, true, true, true] rfl)
  · exact (nwP_of [true, true, true, false, false, true, true, false, false, false] rfl)
set_option maxRecDepth 20000 in
theorem nw_s22 : nwP (Cond.exactly (.string (mj_ss 22).1 (mj_ss 22).2.1) "java/lang/String") ∧ nwP (Cond.eq (.field (.string (mj_ss 22).1 (mj_ss 22).2.1) "java/lang/String" "coder" "B") (.int 0)) ∧ nwP (Cond.arrayOf (tmV (mj_ss 22)) .byte) ∧ nwP (Cond.eq (.length (tmV (mj_ss 22))) (.int (Int32.ofNat (mj_ss 22).2.2.2.length))) ∧ ∀ j, j < 4 → nwP (Cond.eq (.elem (tmV (mj_ss 22)) (.int (Int32.ofNat j))) (.int ((mj_ss 22).2.2.2.getD j 0))) := by
  refine ⟨(nwP_of [true, true, true, false, false, true, true, false, false, true] rfl), (nwP_of [true, true, true, false, false, true, true, false, true, false] rfl), (nwP_of [true, true, true, false, false, true, true, false, true, true] rfl), (nwP_of [true, true, true, false, false, true, true, true, false, false] rfl), fun j hj => ?_⟩
  rcases (by omega : j = 0 ∨ j = 1 ∨ j = 2 ∨ j = 3) with rfl | rfl | rfl | rfl
  · exact (nwP_of [true, true, true, false, false, true, true, true, false, true] rfl)
  · exact (nwP_of [true, true, true, false, false, true, true, true, true, false] rfl)
  · exact (nwP_of [true, true, true, false, false, true, true, true, true, true, false] rfl)
  · exact (nwP_of [true, true, true, false, false, true, true, true, true, true, true] rfl)
set_option maxRecDepth 20000 in
theorem nw_s23 : nwP (Cond.exactly (.string (mj_ss 23).1 (mj_ss 23).2.1) "java/lang/String") ∧ nwP (Cond.eq (.field (.string (mj_ss 23).1 (mj_ss 23).2.1) "java/lang/String" "coder" "B") (.int 0)) ∧ nwP (Cond.arrayOf (tmV (mj_ss 23)) .byte) ∧ nwP (Cond.eq (.length (tmV (mj_ss 23))) (.int (Int32.ofNat (mj_ss 23).2.2.2.length))) ∧ ∀ j, j < 4 → nwP (Cond.eq (.elem (tmV (mj_ss 23)) (.int (Int32.ofNat j))) (.int ((mj_ss 23).2.2.2.getD j 0))) := by
  refine ⟨(nwP_of [true, true, true, false, true, false, false, false, false, false] rfl), (nwP_of [true, true, true, false, true, false, false, false, false, true] rfl), (nwP_of [true, true, true, false, true, false, false, false, true, false] rfl), (nwP_of [true, true, true, false, true, false, false, false, true, true] rfl), fun j hj => ?_⟩
  rcases (by omega : j = 0 ∨ j = 1 ∨ j = 2 ∨ j = 3) with rfl | rfl | rfl | rfl
  · exact (nwP_of [true, true, true, false, true, false, false, true, false, false] rfl)
  · exact (nwP_of [true, true, true, false, true, false, false, true, false, true] rfl)
  · exact (nwP_of [true, true, true, false, true, false, false, true, true, false] rfl)
  · exact (nwP_of [true, true, true, false, true, false, false, true, true, true, false] rfl)
set_option maxRecDepth 20000 in
theorem nw_s24 : nwP (Cond.exactly (.string (mj_ss 24).1 (mj_ss 24).2.1) "java/lang/String") ∧ nwP (Cond.eq (.field (.string (mj_ss 24).1 (mj_ss 24).2.1) "java/lang/String" "coder" "B") (.int 0)) ∧ nwP (Cond.arrayOf (tmV (mj_ss 24)) .byte) ∧ nwP (Cond.eq (.length (tmV (mj_ss 24))) (.int (Int32.ofNat (mj_ss 24).2.2.2.length))) ∧ ∀ j, j < 6 → nwP (Cond.eq (.elem (tmV (mj_ss 24)) (.int (Int32.ofNat j))) (.int ((mj_ss 24).2.2.2.getD j 0))) := by
  refine ⟨(nwP_of [true, true, true, false, true, false, false, true, true, true, true] rfl), (nwP_of [true, true, true, false, true, false, true, false, false, false] rfl), (nwP_of [true, true, true, false, true, false, true, false, false, true] rfl), (nwP_of [true, true, true, false, true, false, true, false, true, false] rfl), fun j hj => ?_⟩
  rcases (by omega : j = 0 ∨ j = 1 ∨ j = 2 ∨ j = 3 ∨ j = 4 ∨ j = 5) with rfl | rfl | rfl | rfl | rfl | rfl
  · exact (nwP_of [true, true, true, false, true, false, true, false, true, true] rfl)
  · exact (nwP_of [true, true, true, false, true, false, true, true, false, false] rfl)
  · exact (nwP_of [true, true, true, false, true, false, true, true, false, true] rfl)
  · exact (nwP_of [true, true, true, false, true, false, true, true, true, false] rfl)
  · exact (nwP_of [true, true, true, false, true, false, true, true, true, true, false] rfl)
  · exact (nwP_of [true, true, true, false, true, false, true, true, true, true, true] rfl)
set_option maxRecDepth 20000 in
theorem nw_s25 : nwP (Cond.exactly (.string (mj_ss 25).1 (mj_ss 25).2.1) "java/lang/String") ∧ nwP (Cond.eq (.field (.string (mj_ss 25).1 (mj_ss 25).2.1) "java/lang/String" "coder" "B") (.int 0)) ∧ nwP (Cond.arrayOf (tmV (mj_ss 25)) .byte) ∧ nwP (Cond.eq (.length (tmV (mj_ss 25))) (.int (Int32.ofNat (mj_ss 25).2.2.2.length))) ∧ ∀ j, j < 4 → nwP (Cond.eq (.elem (tmV (mj_ss 25)) (.int (Int32.ofNat j))) (.int ((mj_ss 25).2.2.2.getD j 0))) := by
  refine ⟨(nwP_of [true, true, true, false, true, true, false, false, false, true] rfl), (nwP_of [true, true, true, false, true, true, false, false, true, false] rfl), (nwP_of [true, true, true, false, true, true, false, false, true, true] rfl), (nwP_of [true, true, true, false, true, true, false, true, false, false] rfl), fun j hj => ?_⟩
  rcases (by omega : j = 0 ∨ j = 1 ∨ j = 2 ∨ j = 3) with rfl | rfl | rfl | rfl
  · exact (nwP_of [true, true, true, false, true, true, false, true, false, true] rfl)
  · exact (nwP_of [true, true, true, false, true, true, false, true, true, false] rfl)
  · exact (nwP_of [true, true, true, false, true, true, false, true, true, true, false] rfl)
  · exact (nwP_of [true, true, true, false, true, true, false, true, true, true, true] rfl)
set_option maxRecDepth 20000 in
theorem nw_s26 : nwP (Cond.exactly (.string (mj_ss 26).1 (mj_ss 26).2.1) "java/lang/String") ∧ nwP (Cond.eq (.field (.string (mj_ss 26).1 (mj_ss 26).2.1) "java/lang/String" "coder" "B") (.int 0)) ∧ nwP (Cond.arrayOf (tmV (mj_ss 26)) .byte) ∧ nwP (Cond.eq (.length (tmV (mj_ss 26))) (.int (Int32.ofNat (mj_ss 26).2.2.2.length))) ∧ ∀ j, j < 6 → nwP (Cond.eq (.elem (tmV (mj_ss 26)) (.int (Int32.ofNat j))) (.int ((mj_ss 26).2.2.2.getD j 0))) := by
  refine ⟨(nwP_of [true, true, true, false, true, true, true, false, false, false] rfl), (nwP_of [true, true, true, false, true, true, true, false, false, true] rfl), (nwP_of [true, true, true, false, true, true, true, false, true, false] rfl), (nwP_of [true, true, true, false, true, true, true, false, true, true] rfl), fun j hj => ?_⟩
  rcases (by omega : j = 0 ∨ j = 1 ∨ j = 2 ∨ j = 3 ∨ j = 4 ∨ j = 5) with rfl | rfl | rfl | rfl | rfl | rfl
  · exact (nwP_of [true, true, true, false, true, true, true, true, false, false] rfl)
  · exact (nwP_of [true, true, true, false, true, true, true, true, false, true] rfl)
  · exact (nwP_of [true, true, true, false, true, true, true, true, true, false] rfl)
  · exact (nwP_of [true, true, true, false, true, true, true, true, true, true, false] rfl)
  · exact (nwP_of [true, true, true, false, true, true, true, true, true, true, true] rfl)
  · exact (nwP_of [true, true, true, true, false, false, false, false, false, false] rfl)
set_option maxRecDepth 20000 in
theorem nw_s27 : nwP (Cond.exactly (.string (mj_ss 27).1 (mj_ss 27).2.1) "java/lang/String") ∧ nwP (Cond.eq (.field (.string (mj_ss 27).1 (mj_ss 27).2.1) "java/lang/String" "coder" "B") (.int 0)) ∧ nwP (Cond.arrayOf (tmV (mj_ss 27)) .byte) ∧ nwP (Cond.eq (.length (tmV (mj_ss 27))) (.int (Int32.ofNat (mj_ss 27).2.2.2.length))) ∧ ∀ j, j < 6 → nwP (Cond.eq (.elem (tmV (mj_ss 27)) (.int (Int32.ofNat j))) (.int ((mj_ss 27).2.2.2.getD j 0))) := by
  refine ⟨(nwP_of [true, true, true, true, false, false, false, false, false, true] rfl), (nwP_of [true, true, true, true, false, false, false, false, true, false] rfl), (nwP_of [true, true, true, true, false, false, false, false, true, true] rfl), (nwP_of [true, true, true, true, false, false, false, true, false, false] rfl), fun j hj => ?_⟩
  rcases (by omega : j = 0 ∨ j = 1 ∨ j = 2 ∨ j = 3 ∨ j = 4 ∨ j = 5) with rfl | rfl | rfl | rfl | rfl | rfl
  · exact (nwP_of [true, true, true, true, false, false, false, true, false, true] rfl)
  · exact (nwP_of [true, true, true, true, false, false, false, true, true, false] rfl)
  · exact (nwP_of [true, true, true, true, false, false, false, true, true, true] rfl)
  · exact (nwP_of [true, true, true, true, false, false, true, false, false, false] rfl)
  · exact (nwP_of [true, true, true, true, false, false, true, false, false, true] rfl)
  · exact (nwP_of [true, true, true, true, false, false, true, false, true, false] rfl)
set_option maxRecDepth 20000 in
theorem nw_s28 : nwP (Cond.exactly (.string (mj_ss 28).1 (mj_ss 28).2.1) "java/lang/String") ∧ nwP (Cond.eq (.field (.string (mj_ss 28).1 (mj_ss 28).2.1) "java/lang/String" "coder" "B") (.int 0)) ∧ nwP (Cond.arrayOf (tmV (mj_ss 28)) .byte) ∧ nwP (Cond.eq (.length (tmV (mj_ss 28))) (.int (Int32.ofNat (mj_ss 28).2.2.2.length))) ∧ ∀ j, j < 5 → nwP (Cond.eq (.elem (tmV (mj_ss 28)) (.int (Int32.ofNat j))) (.int ((mj_ss 28).2.2.2.getD j 0))) := by
  refine ⟨(nwP_of [true, true, true, true, false, false, true, false, true, true] rfl), (nwP_of [true, true, true, true, false, false, true, true, false, false] rfl), (nwP_of [true, true, true, true, false, false, true, true, false, true] rfl), (nwP_of [true, true, true, true, false, false, true, true, true, false] rfl), fun j hj => ?_⟩
  rcases (by omega : j = 0 ∨ j = 1 ∨ j = 2 ∨ j = 3 ∨ j = 4) with rfl | rfl | rfl | rfl | rfl
  · exact (nwP_of [true, true, true, true, false, false, true, true, true, true, false] rfl)
  · exact (nwP_of [true, true, true, true, false, false, true, true, true, true, true] rfl)
  · exact (nwP_of [true, true, true, true, false, true, false, false, false, false] rfl)
  · exact (nwP_of [true, true, true, true, false, true, false, false, false, true] rfl)
  · exact (nwP_of [true, true, true, true, false, true, false, false, true, false] rfl)
set_option maxRecDepth 20000 in
theorem nw_s29 : nwP (Cond.exactly (.string (mj_ss 29).1 (mj_ss 29).2.1) "java/lang/String") ∧ nwP (Cond.eq (.field (.string (mj_ss 29).1 (mj_ss 29).2.1) "java/lang/String" "coder" "B") (.int 0)) ∧ nwP (Cond.arrayOf (tmV (mj_ss 29)) .byte) ∧ nwP (Cond.eq (.length (tmV (mj_ss 29))) (.int (Int32.ofNat (mj_ss 29).2.2.2.length))) ∧ ∀ j, j < 4 → nwP (Cond.eq (.elem (tmV (mj_ss 29)) (.int (Int32.ofNat j))) (.int ((mj_ss 29).2.2.2.getD j 0))) := by
  refine ⟨(nwP_of [true, true, true, true, false, true, false, false, true, true] rfl), (nwP_of [true, true, true, true, false, true, false, true, false, false] rfl), (nwP_of [true, true, true, true, false, true, false, true, false, true] rfl), (nwP_of [true, true, true, true, false, true, false, true, true, false] rfl), fun j hj => ?_⟩
  rcases (by omega : j = 0 ∨ j = 1 ∨ j = 2 ∨ j = 3) with rfl | rfl | rfl | rfl
  · exact (nwP_of [true, true, true, true, false, true, false, true, true, true, false] rfl)
  · exact (nwP_of [true, true, true, true, false, true, false, true, true, true, true] rfl)
  · exact (nwP_of [true, true, true, true, false, true, true, false, false, false] rfl)
  · exact (nwP_of [true, true, true, true, false, true, true, false, false, true] rfl)
set_option maxRecDepth 20000 in
theorem nw_s30 : nwP (Cond.exactly (.string (mj_ss 30).1 (mj_ss 30).2.1) "java/lang/String") ∧ nwP (Cond.eq (.field (.string (mj_ss 30).1 (mj_ss 30).2.1) "java/lang/String" "coder" "B") (.int 0)) ∧ nwP (Cond.arrayOf (tmV (mj_ss 30)) .byte) ∧ nwP (Cond.eq (.length (tmV (mj_ss 30))) (.int (Int32.ofNat (mj_ss 30).2.2.2.length))) ∧ ∀ j, j < 0 → nwP (Cond.eq (.elem (tmV (mj_ss 30)) (.int (Int32.ofNat j))) (.int ((mj_ss 30).2.2.2.getD j 0))) := by
  refine ⟨(nwP_of [true, true, true, true, false, true, true, false, true, false] rfl), (nwP_of [true, true, true, true, false, true, true, false, true, true] rfl), (nwP_of [true, true, true, true, false, true, true, true, false, false] rfl), (nwP_of [true, true, true, true, false, true, true, true, false, true] rfl), fun j hj => ?_⟩
  exact absurd hj (Nat.not_lt_zero j)
set_option maxRecDepth 20000 in
set_option maxHeartbeats 4000000 in
theorem nw_n0 : nwP (Cond.arrayOf (tmS 0) .int) ∧ nwP (Cond.eq (.length (tmS 0)) (.int (Int32.ofNat 11))) ∧ (∀ j, j < 11 → nwP (Cond.eq (.elem (tmS 0) (.int (Int32.ofNat j))) (.int (mj_sa 0 j)))) := by
  refine ⟨(nwP_of [true, false, false, false, false, false, false, false, true, true] rfl), (nwP_of [true, false, false, false, false, false, false, true, false, false] rfl), fun j hj => ?_⟩
  match j, hj with
  | 0, _ => exact (nwP_of [true, false, false, false, false, false, false, true, false, true] rfl)
  | 1, _ => exact (nwP_of [true, false, false, false, false, false, false, true, true, false] rfl)
  | 2, _ => exact (nwP_of [true, false, false, false, false, false, false, true, true, true] rfl)
  | 3, _ => exact (nwP_of [true, false, false, false, false, false, true, false, false, false] rfl)
  | 4, _ => exact (nwP_of [true, false, false, false, false, false, true, false, false, true] rfl)
  | 5, _ => exact (nwP_of [true, false, false, false, false, false, true, false, true, false] rfl)
  | 6, _ => exact (nwP_of [true, false, false, false, false, false, true, false, true, true] rfl)
  | 7, _ => exact (nwP_of [true, false, false, false, false, false, true, true, false, false] rfl)
  | 8, _ => exact (nwP_of [true, false, false, false, false, false, true, true, false, true] rfl)
  | 9, _ => exact (nwP_of [true, false, false, false, false, false, true, true, true, false] rfl)
  | 10, _ => exact (nwP_of [true, false, false, false, false, false, true, true, true, true, false] rfl)
  | j + 11, hj => exact absurd hj (by omega)
set_option maxRecDepth 20000 in
set_option maxHeartbeats 4000000 in
theorem nw_n1 : nwP (Cond.arrayOf (tmS 1) .int) ∧ nwP (Cond.eq (.length (tmS 1)) (.int (Int32.ofNat 11))) ∧ (∀ j, j < 11 → nwP (Cond.eq (.elem (tmS 1) (.int (Int32.ofNat j))) (.int (mj_sa 1 j)))) := by
  refine ⟨(nwP_of [true, false, false, false, false, true, false, false, false, true] rfl), (nwP_of [true, false, false, false, false, true, false, false, true, false] rfl), fun j hj => ?_⟩
  match j, hj with
  | 0, _ => exact (nwP_of [true, false, false, false, false, true, false, false, true, true] rfl)
  | 1, _ => exact (nwP_of [true, false, false, false, false, true, false, true, false, false] rfl)
  | 2, _ => exact (nwP_of [true, false, false, false, false, true, false, true, false, true] rfl)
  | 3, _ => exact (nwP_of [true, false, false, false, false, true, false, true, true, false] rfl)
  | 4, _ => exact (nwP_of [true, false, false, false, false, true, false, true, true, true, false] rfl)
  | 5, _ => exact (nwP_of [true, false, false, false, false, true, false, true, true, true, true] rfl)
  | 6, _ => exact (nwP_of [true, false, false, false, false, true, true, false, false, false] rfl)
  | 7, _ => exact (nwP_of [true, false, false, false, false, true, true, false, false, true] rfl)
  | 8, _ => exact (nwP_of [true, false, false, false, false, true, true, false, true, false] rfl)
  | 9, _ => exact (nwP_of [true, false, false, false, false, true, true, false, true, true] rfl)
  | 10, _ => exact (nwP_of [true, false, false, false, false, true, true, true, false, false] rfl)
  | j + 11, hj => exact absurd hj (by omega)
set_option maxRecDepth 20000 in
set_option maxHeartbeats 4000000 in
theorem nw_n2 : nwP (Cond.arrayOf (tmS 2) .int) ∧ nwP (Cond.eq (.length (tmS 2)) (.int (Int32.ofNat 11))) ∧ (∀ j, j < 11 → nwP (Cond.eq (.elem (tmS 2) (.int (Int32.ofNat j))) (.int (mj_sa 2 j)))) := by
  refine ⟨(nwP_of [true, false, false, false, false, true, true, true, true, false] rfl), (nwP_of [true, false, false, false, false, true, true, true, true, true, false] rfl), fun j hj => ?_⟩
  match j, hj with
  | 0, _ => exact (nwP_of [true, false, false, false, false, true, true, true, true, true, true] rfl)
  | 1, _ => exact (nwP_of [true, false, false, false, true, false, false, false, false, false] rfl)
  | 2, _ => exact (nwP_of [true, false, false, false, true, false, false, false, false, true] rfl)
  | 3, _ => exact (nwP_of [true, false, false, false, true, false, false, false, true, false] rfl)
  | 4, _ => exact (nwP_of [true, false, false, false, true, false, false, false, true, true] rfl)
  | 5, _ => exact (nwP_of [true, false, false, false, true, false, false, true, false, false] rfl)
  | 6, _ => exact (nwP_of [true, false, false, false, true, false, false, true, false, true] rfl)
  | 7, _ => exact (nwP_of [true, false, false, false, true, false, false, true, true, false] rfl)
  | 8, _ => exact (nwP_of [true, false, false, false, true, false, false, true, true, true] rfl)
  | 9, _ => exact (nwP_of [true, false, false, false, true, false, true, false, false, false] rfl)
  | 10, _ => exact (nwP_of [true, false, false, false, true, false, true, false, false, true] rfl)
  | j + 11, hj => exact absurd hj (by omega)
set_option maxRecDepth 20000 in
set_option maxHeartbeats 4000000 in
theorem nw_n3 : nwP (Cond.arrayOf (tmS 3) .byte) ∧ nwP (Cond.eq (.length (tmS 3)) (.int (Int32.ofNat 100))) ∧ (∀ j, j < 100 → nwP (Cond.eq (.elem (tmS 3) (.int (Int32.ofNat j))) (.int (mj_sa 3 j)))) := by
  refine ⟨(nwP_of [true, false, true, false, false, false, true, true, false, false] rfl), (nwP_of [true, false, true, false, false, false, true, true, false, true] rfl), fun j hj => ?_⟩
  match j, hj with
  | 0, _ => exact (nwP_of [true, false, true, false, false, false, true, true, true, false] rfl)
  | 1, _ => exact (nwP_of [true, false, true, false, false, false, true, true, true, true, false] rfl)
  | 2, _ => exact (nwP_of [true, false, true, false, false, false, true, true, true, true, true] rfl)
  | 3, _ => exact (nwP_of [true, false, true, false, false, true, false, false, false, false] rfl)
  | 4, _ => exact (nwP_of [true, false, true, false, false, true, false, false, false, true] rfl)
  | 5, _ => exact (nwP_of [true, false, true, false, false, true, false, false, true, false] rfl)
  | 6, _ => exact (nwP_of [true, false, true, false, false, true, false, false, true, true] rfl)
  | 7, _ => exact (nwP_of [true, false, true, false, false, true, false, true, false, false] rfl)
  | 8, _ => exact (nwP_of [true, false, true, false, false, true, false, true, false, true] rfl)
  | 9, _ => exact (nwP_of [true, false, true, false, false, true, false, true, true, false] rfl)
  | 10, _ => exact (nwP_of [true, false, true, false, false, true, false, true, true, true, false] rfl)
  | 11, _ => exact (nwP_of [true, false, true, false, false, true, false, true, true, true, true] rfl)
  | 12, _ => exact (nwP_of [true, false, true, false, false, true, true, false, false, false] rfl)
  | 13, _ => exact (nwP_of [true, false, true, false, false, true, true, false, false, true] rfl)
  | 14, _ => exact (nwP_of [true, false, true, false, false, true, true, false, true, false] rfl)
  | 15, _ => exact (nwP_of [true, false, true, false, false, true, true, false, true, true] rfl)
  | 16, _ => exact (nwP_of [true, false, true, false, false, true, true, true, false, false] rfl)
  | 17, _ => exact (nwP_of [true, false, true, false, false, true, true, true, false, true] rfl)
  | 18, _ => exact (nwP_of [true, false, true, false, false, true, true, true, true, false] rfl)
  | 19, _ => exact (nwP_of [true, false, true, false, false, true, true, true, true, true, false] rfl)
  | 20, _ => exact (nwP_of [true, false, true, false, false, true, true, true, true, true, true] rfl)
  | 21, _ => exact (nwP_of [true, false, true, false, true, false, false, false, false, false] rfl)
  | 22, _ => exact (nwP_of [true, false, true, false, true, false, false, false, false, true] rfl)
  | 23, _ => exact (nwP_of [true, false, true, false, true, false, false, false, true, false] rfl)
  | 24, _ => exact (nwP_of [true, false, true, false, true, false, false, false, true, true] rfl)
  | 25, _ => exact (nwP_of [true, false, true, false, true, false, false, true, false, false] rfl)
  | 26, _ => exact (nwP_of [true, false, true, false, true, false, false, true, false, true] rfl)
  | 27, _ => exact (nwP_of [true, false, true, false, true, false, false, true, true, false] rfl)
  | 28, _ => exact (nwP_of [true, false, true, false, true, false, false, true, true, true] rfl)
  | 29, _ => exact (nwP_of [true, false, true, false, true, false, true, false, false, false] rfl)
  | 30, _ => exact (nwP_of [true, false, true, false, true, false, true, false, false, true] rfl)
  | 31, _ => exact (nwP_of [true, false, true, false, true, false, true, false, true, false] rfl)
  | 32, _ => exact (nwP_of [true, false, true, false, true, false, true, false, true, true] rfl)
  | 33, _ => exact (nwP_of [true, false, true, false, true, false, true, true, false, false] rfl)
  | 34, _ => exact (nwP_of [true, false, true, false, true, false, true, true, false, true] rfl)
  | 35, _ => exact (nwP_of [true, false, true, false, true, false, true, true, true, false] rfl)
  | 36, _ => exact (nwP_of [true, false, true, false, true, false, true, true, true, true, false] rfl)
  | 37, _ => exact (nwP_of [true, false, true, false, true, false, true, true, true, true, true] rfl)
  | 38, _ => exact (nwP_of [true, false, true, false, true, true, false, false, false, false] rfl)
  | 39, _ => exact (nwP_of [true, false, true, false, true, true, false, false, false, true] rfl)
  | 40, _ => exact (nwP_of [true, false, true, false, true, true, false, false, true, false] rfl)
  | 41, _ => exact (nwP_of [true, false, true, false, true, true, false, false, true, true] rfl)
  | 42, _ => exact (nwP_of [true, false, true, false, true, true, false, true, false, false] rfl)
  | 43, _ => exact (nwP_of [true, false, true, false, true, true, false, true, false, true] rfl)
  | 44, _ => exact (nwP_of [true, false, true, false, true, true, false, true, true, false] rfl)
  | 45, _ => exact (nwP_of [true, false, true, false, true, true, false, true, true, true, false] rfl)
  | 46, _ => exact (nwP_of [true, false, true, false, true, true, false, true, true, true, true] rfl)
  | 47, _ => exact (nwP_of [true, false, true, false, true, true, true, false, false, false] rfl)
  | 48, _ => exact (nwP_of [true, false, true, false, true, true, true, false, false, true] rfl)
  | 49, _ => exact (nwP_of [true, false, true, false, true, true, true, false, true, false] rfl)
  | 50, _ => exact (nwP_of [true, false, true, false, true, true, true, false, true, true] rfl)
  | 51, _ => exact (nwP_of [true, false, true, false, true, true, true, true, false, false] rfl)
  | 52, _ => exact (nwP_of [true, false, true, false, true, true, true, true, false, true] rfl)
  | 53, _ => exact (nwP_of [true, false, true, false, true, true, true, true, true, false] rfl)
  | 54, _ => exact (nwP_of [true, false, true, false, true, true, true, true, true, true, false] rfl)
  | 55, _ => exact (nwP_of [true, false, true, false, true, true, true, true, true, true, true] rfl)
  | 56, _ => exact (nwP_of [true, false, true, true, false, false, false, false, false, false] rfl)
  | 57, _ => exact (nwP_of [true, false, true, true, false, false, false, false, false, true] rfl)
  | 58, _ => exact (nwP_of [true, false, true, true, false, false, false, false, true, false] rfl)
  | 59, _ => exact (nwP_of [true, false, true, true, false, false, false, false, true, true] rfl)
  | 60, _ => exact (nwP_of [true, false, true, true, false, false, false, true, false, false] rfl)
  | 61, _ => exact (nwP_of [true, false, true, true, false, false, false, true, false, true] rfl)
  | 62, _ => exact (nwP_of [true, false, true, true, false, false, false, true, true, false] rfl)
  | 63, _ => exact (nwP_of [true, false, true, true, false, false, false, true, true, true] rfl)
  | 64, _ => exact (nwP_of [true, false, true, true, false, false, true, false, false, false] rfl)
  | 65, _ => exact (nwP_of [true, false, true, true, false, false, true, false, false, true] rfl)
  | 66, _ => exact (nwP_of [true, false, true, true, false, false, true, false, true, false] rfl)
  | 67, _ => exact (nwP_of [true, false, true, true, false, false, true, false, true, true] rfl)
  | 68, _ => exact (nwP_of [true, false, true, true, false, false, true, true, false, false] rfl)
  | 69, _ => exact (nwP_of [true, false, true, true, false, false, true, true, false, true] rfl)
  | 70, _ => exact (nwP_of [true, false, true, true, false, false, true, true, true, false] rfl)
  | 71, _ => exact (nwP_of [true, false, true, true, false, false, true, true, true, true, false] rfl)
  | 72, _ => exact (nwP_of [true, false, true, true, false, false, true, true, true, true, true] rfl)
  | 73, _ => exact (nwP_of [true, false, true, true, false, true, false, false, false, false] rfl)
  | 74, _ => exact (nwP_of [true, false, true, true, false, true, false, false, false, true] rfl)
  | 75, _ => exact (nwP_of [true, false, true, true, false, true, false, false, true, false] rfl)
  | 76, _ => exact (nwP_of [true, false, true, true, false, true, false, false, true, true] rfl)
  | 77, _ => exact (nwP_of [true, false, true, true, false, true, false, true, false, false] rfl)
  | 78, _ => exact (nwP_of [true, false, true, true, false, true, false, true, false, true] rfl)
  | 79, _ => exact (nwP_of [true, false, true, true, false, true, false, true, true, false] rfl)
  | 80, _ => exact (nwP_of [true, false, true, true, false, true, false, true, true, true, false] rfl)
  | 81, _ => exact (nwP_of [true, false, true, true, false, true, false, true, true, true, true] rfl)
  | 82, _ => exact (nwP_of [true, false, true, true, false, true, true, false, false, false] rfl)
  | 83, _ => exact (nwP_of [true, false, true, true, false, true, true, false, false, true] rfl)
  | 84, _ => exact (nwP_of [true, false, true, true, false, true, true, false, true, false] rfl)
  | 85, _ => exact (nwP_of [true, false, true, true, false, true, true, false, true, true] rfl)
  | 86, _ => exact (nwP_of [true, false, true, true, false, true, true, true, false, false] rfl)
  | 87, _ => exact (nwP_of [true, false, true, true, false, true, true, true, false, true] rfl)
  | 88, _ => exact (nwP_of [true, false, true, true, false, true, true, true, true, false] rfl)
  | 89, _ => exact (nwP_of [true, false, true, true, false, true, true, true, true, true, false] rfl)
  | 90, _ => exact (nwP_of [true, false, true, true, false, true, true, true, true, true, true] rfl)
  | 91, _ => exact (nwP_of [true, false, true, true, true, false, false, false, false, false] rfl)
  | 92, _ => exact (nwP_of [true, false, true, true, true, false, false, false, false, true] rfl)
  | 93, _ => exact (nwP_of [true, false, true, true, true, false, false, false, true, false] rfl)
  | 94, _ => exact (nwP_of [true, false, true, true, true, false, false, false, true, true] rfl)
  | 95, _ => exact (nwP_of [true, false, true, true, true, false, false, true, false, false] rfl)
  | 96, _ => exact (nwP_of [true, false, true, true, true, false, false, true, false, true] rfl)
  | 97, _ => exact (nwP_of [true, false, true, true, true, false, false, true, true, false] rfl)
  | 98, _ => exact (nwP_of [true, false, true, true, true, false, false, true, true, true, false] rfl)
  | 99, _ => exact (nwP_of [true, false, true, true, true, false, false, true, true, true, true] rfl)
  | j + 100, hj => exact absurd hj (by omega)
set_option maxRecDepth 20000 in
set_option maxHeartbeats 4000000 in
theorem nw_n4 : nwP (Cond.arrayOf (tmS 4) .byte) ∧ nwP (Cond.eq (.length (tmS 4)) (.int (Int32.ofNat 100))) ∧ (∀ j, j < 100 → nwP (Cond.eq (.elem (tmS 4) (.int (Int32.ofNat j))) (.int (mj_sa 4 j)))) := by
  refine ⟨(nwP_of [true, false, false, false, true, false, true, true, true, true, false] rfl), (nwP_of [true, false, false, false, true, false, true, true, true, true, true] rfl), fun j hj => ?_⟩
  match j, hj with
  | 0, _ => exact (nwP_of [true, false, false, false, true, true, false, false, false, false] rfl)
  | 1, _ => exact (nwP_of [true, false, false, false, true, true, false, false, false, true] rfl)
  | 2, _ => exact (nwP_of [true, false, false, false, true, true, false, false, true, false] rfl)
  | 3, _ => exact (nwP_of [true, false, false, false, true, true, false, false, true, true] rfl)
  | 4, _ => exact (nwP_of [true, false, false, false, true, true, false, true, false, false] rfl)
  | 5, _ => exact (nwP_of [true, false, false, false, true, true, false, true, false, true] rfl)
  | 6, _ => exact (nwP_of [true, false, false, false, true, true, false, true, true, false] rfl)
  | 7, _ => exact (nwP_of [true, false, false, false, true, true, false, true, true, true, false] rfl)
  | 8, _ => exact (nwP_of [true, false, false, false, true, true, false, true, true, true, true] rfl)
  | 9, _ => exact (nwP_of [true, false, false, false, true, true, true, false, false, false] rfl)
  | 10, _ => exact (nwP_of [true, false, false, false, true, true, true, false, false, true] rfl)
  | 11, _ => exact (nwP_of [true, false, false, false, true, true, true, false, true, false] rfl)
  | 12, _ => exact (nwP_of [true, false, false, false, true, true, true, false, true, true] rfl)
  | 13, _ => exact (nwP_of [true, false, false, false, true, true, true, true, false, false] rfl)
  | 14, _ => exact (nwP_of [true, false, false, false, true, true, true, true, false, true] rfl)
  | 15, _ => exact (nwP_of [true, false, false, false, true, true, true, true, true, false] rfl)
  | 16, _ => exact (nwP_of [true, false, false, false, true, true, true, true, true, true, false] rfl)
  | 17, _ => exact (nwP_of [true, false, false, false, true, true, true, true, true, true, true] rfl)
  | 18, _ => exact (nwP_of [true, false, false, true, false, false, false, false, false, false] rfl)
  | 19, _ => exact (nwP_of [true, false, false, true, false, false, false, false, false, true] rfl)
  | 20, _ => exact (nwP_of [true, false, false, true, false, false, false, false, true, false] rfl)
  | 21, _ => exact (nwP_of [true, false, false, true, false, false, false, false, true, true] rfl)
  | 22, _ => exact (nwP_of [true, false, false, true, false, false, false, true, false, false] rfl)
  | 23, _ => exact (nwP_of [true, false, false, true, false, false, false, true, false, true] rfl)
  | 24, _ => exact (nwP_of [true, false, false, true, false, false, false, true, true, false] rfl)
  | 25, _ => exact (nwP_of [true, false, false, true, false, false, false, true, true, true] rfl)
  | 26, _ => exact (nwP_of [true, false, false, true, false, false, true, false, false, false] rfl)
  | 27, _ => exact (nwP_of [true, false, false, true, false, false, true, false, false, true] rfl)
  | 28, _ => exact (nwP_of [true, false, false, true, false, false, true, false, true, false] rfl)
  | 29, _ => exact (nwP_of [true, false, false, true, false, false, true, false, true, true] rfl)
  | 30, _ => exact (nwP_of [true, false, false, true, false, false, true, true, false, false] rfl)
  | 31, _ => exact (nwP_of [true, false, false, true, false, false, true, true, false, true] rfl)
  | 32, _ => exact (nwP_of [true, false, false, true, false, false, true, true, true, false] rfl)
  | 33, _ => exact (nwP_of [true, false, false, true, false, false, true, true, true, true, false] rfl)
  | 34, _ => exact (nwP_of [true, false, false, true, false, false, true, true, true, true, true] rfl)
  | 35, _ => exact (nwP_of [true, false, false, true, false, true, false, false, false, false] rfl)
  | 36, _ => exact (nwP_of [true, false, false, true, false, true, false, false, false, true] rfl)
  | 37, _ => exact (nwP_of [true, false, false, true, false, true, false, false, true, false] rfl)
  | 38, _ => exact (nwP_of [true, false, false, true, false, true, false, false, true, true] rfl)
  | 39, _ => exact (nwP_of [true, false, false, true, false, true, false, true, false, false] rfl)
  | 40, _ => exact (nwP_of [true, false, false, true, false, true, false, true, false, true] rfl)
  | 41, _ => exact (nwP_of [true, false, false, true, false, true, false, true, true, false] rfl)
  | 42, _ => exact (nwP_of [true, false, false, true, false, true, false, true, true, true, false] rfl)
  | 43, _ => exact (nwP_of [true, false, false, true, false, true, false, true, true, true, true] rfl)
  | 44, _ => exact (nwP_of [true, false, false, true, false, true, true, false, false, false] rfl)
  | 45, _ => exact (nwP_of [true, false, false, true, false, true, true, false, false, true] rfl)
  | 46, _ => exact (nwP_of [true, false, false, true, false, true, true, false, true, false] rfl)
  | 47, _ => exact (nwP_of [true, false, false, true, false, true, true, false, true, true] rfl)
  | 48, _ => exact (nwP_of [true, false, false, true, false, true, true, true, false, false] rfl)
  | 49, _ => exact (nwP_of [true, false, false, true, false, true, true, true, false, true] rfl)
  | 50, _ => exact (nwP_of [true, false, false, true, false, true, true, true, true, false] rfl)
  | 51, _ => exact (nwP_of [true, false, false, true, false, true, true, true, true, true, false] rfl)
  | 52, _ => exact (nwP_of [true, false, false, true, false, true, true, true, true, true, true] rfl)
  | 53, _ => exact (nwP_of [true, false, false, true, true, false, false, false, false, false] rfl)
  | 54, _ => exact (nwP_of [true, false, false, true, true, false, false, false, false, true] rfl)
  | 55, _ => exact (nwP_of [true, false, false, true, true, false, false, false, true, false] rfl)
  | 56, _ => exact (nwP_of [true, false, false, true, true, false, false, false, true, true] rfl)
  | 57, _ => exact (nwP_of [true, false, false, true, true, false, false, true, false, false] rfl)
  | 58, _ => exact (nwP_of [true, false, false, true, true, false, false, true, false, true] rfl)
  | 59, _ => exact (nwP_of [true, false, false, true, true, false, false, true, true, false] rfl)
  | 60, _ => exact (nwP_of [true, false, false, true, true, false, false, true, true, true, false] rfl)
  | 61, _ => exact (nwP_of [true, false, false, true, true, false, false, true, true, true, true] rfl)
  | 62, _ => exact (nwP_of [true, false, false, true, true, false, true, false, false, false] rfl)
  | 63, _ => exact (nwP_of [true, false, false, true, true, false, true, false, false, true] rfl)
  | 64, _ => exact (nwP_of [true, false, false, true, true, false, true, false, true, false] rfl)
  | 65, _ => exact (nwP_of [true, false, false, true, true, false, true, false, true, true] rfl)
  | 66, _ => exact (nwP_of [true, false, false, true, true, false, true, true, false, false] rfl)
  | 67, _ => exact (nwP_of [true, false, false, true, true, false, true, true, false, true] rfl)
  | 68, _ => exact (nwP_of [true, false, false, true, true, false, true, true, true, false] rfl)
  | 69, _ => exact (nwP_of [true, false, false, true, true, false, true, true, true, true, false] rfl)
  | 70, _ => exact (nwP_of [true, false, false, true, true, false, true, true, true, true, true] rfl)
  | 71, _ => exact (nwP_of [true, false, false, true, true, true, false, false, false, false] rfl)
  | 72, _ => exact (nwP_of [true, false, false, true, true, true, false, false, false, true] rfl)
  | 73, _ => exact (nwP_of [true, false, false, true, true, true, false, false, true, false] rfl)
  | 74, _ => exact (nwP_of [true, false, false, true, true, true, false, false, true, true] rfl)
  | 75, _ => exact (nwP_of [true, false, false, true, true, true, false, true, false, false] rfl)
  | 76, _ => exact (nwP_of [true, false, false, true, true, true, false, true, false, true] rfl)
  | 77, _ => exact (nwP_of [true, false, false, true, true, true, false, true, true, false] rfl)
  | 78, _ => exact (nwP_of [true, false, false, true, true, true, false, true, true, true, false] rfl)
  | 79, _ => exact (nwP_of [true, false, false, true, true, true, false, true, true, true, true] rfl)
  | 80, _ => exact (nwP_of [true, false, false, true, true, true, true, false, false, false] rfl)
  | 81, _ => exact (nwP_of [true, false, false, true, true, true, true, false, false, true] rfl)
  | 82, _ => exact (nwP_of [true, false, false, true, true, true, true, false, true, false] rfl)
  | 83, _ => exact (nwP_of [true, false, false, true, true, true, true, false, true, true] rfl)
  | 84, _ => exact (nwP_of [true, false, false, true, true, true, true, true, false, false] rfl)
  | 85, _ => exact (nwP_of [true, false, false, true, true, true, true, true, false, true] rfl)
  | 86, _ => exact (nwP_of [true, false, false, true, true, true, true, true, true, false] rfl)
  | 87, _ => exact (nwP_of [true, false, false, true, true, true, true, true, true, true, false] rfl)
  | 88, _ => exact (nwP_of [true, false, false, true, true, true, true, true, true, true, true] rfl)
  | 89, _ => exact (nwP_of [true, false, true, false, false, false, false, false, false, false] rfl)
  | 90, _ => exact (nwP_of [true, false, true, false, false, false, false, false, false, true] rfl)
  | 91, _ => exact (nwP_of [true, false, true, false, false, false, false, false, true, false] rfl)
  | 92, _ => exact (nwP_of [true, false, true, false, false, false, false, false, true, true] rfl)
  | 93, _ => exact (nwP_of [true, false, true, false, false, false, false, true, false, false] rfl)
  | 94, _ => exact (nwP_of [true, false, true, false, false, false, false, true, false, true] rfl)
  | 95, _ => exact (nwP_of [true, false, true, false, false, false, false, true, true, false] rfl)
  | 96, _ => exact (nwP_of [true, false, true, false, false, false, false, true, true, true] rfl)
  | 97, _ => exact (nwP_of [true, false, true, false, false, false, true, false, false, false] rfl)
  | 98, _ => exact (nwP_of [true, false, true, false, false, false, true, false, false, true] rfl)
  | 99, _ => exact (nwP_of [true, false, true, false, false, false, true, false, true, false] rfl)
  | j + 100, hj => exact absurd hj (by omega)
theorem nw_sc : ∀ i, i < 4 → ∀ q, mj_sc[i]? = some q → nwP (Cond.eq (.static q.1 q.2.1 q.2.2.1) (.int q.2.2.2)) ∧ Cond.laysStatic q.1 q.2.1 q.2.2.1 ∈ lw_tbl ∧ Cond.initialized q.1 ∈ lw_tbl := by
  intro i hi q hq
  rcases (by omega : i = 0 ∨ i = 1 ∨ i = 2 ∨ i = 3) with rfl | rfl | rfl | rfl
  · cases hq
    exact ⟨(nwP_of [true, false, false, false, false, false, true, true, true, true, true] rfl), (lw_in2 211 rfl), (lw_in1 14 rfl)⟩
  · cases hq
    exact ⟨(nwP_of [true, false, false, false, true, false, true, false, true, true] rfl), (lw_in4 191 rfl), (lw_in1 15 rfl)⟩
  · cases hq
    exact ⟨(nwP_of [true, false, false, false, true, false, true, true, false, false] rfl), (lw_in4 193 rfl), (lw_in1 15 rfl)⟩
  · cases hq
    exact ⟨(nwP_of [true, false, false, false, true, false, true, true, false, true] rfl), (lw_in4 195 rfl), (lw_in1 15 rfl)⟩
theorem nw_ex : nwP (Cond.exactly (tmS 0) "[I") ∧ nwP (Cond.isRef (.static "jdk/internal/util/Preconditions" "SIOOBE_FORMATTER" "Ljava/util/function/BiFunction;")) := ⟨(nwP_of [true, true, true, true, true, false, false, false, false, false] rfl), (nwP_of [true, false, false, false, true, false, true, false, true, false] rfl)⟩
theorem tb_n0 : Cond.laysStatic (mj_sn 0).1 (mj_sn 0).2.1 (mj_sn 0).2.2.1 ∈ lw_tbl ∧ Cond.initialized (mj_sn 0).1 ∈ lw_tbl := ⟨(lw_in1 45 rfl), (lw_in1 1 rfl)⟩
theorem tb_n1 : Cond.laysStatic (mj_sn 1).1 (mj_sn 1).2.1 (mj_sn 1).2.2.1 ∈ lw_tbl ∧ Cond.initialized (mj_sn 1).1 ∈ lw_tbl := ⟨(lw_in3 25 rfl), (lw_in1 1 rfl)⟩
theorem tb_n2 : Cond.laysStatic (mj_sn 2).1 (mj_sn 2).2.1 (mj_sn 2).2.2.1 ∈ lw_tbl ∧ Cond.initialized (mj_sn 2).1 ∈ lw_tbl := ⟨(lw_in3 27 rfl), (lw_in1 1 rfl)⟩
theorem tb_n3 : Cond.laysStatic (mj_sn 3).1 (mj_sn 3).2.1 (mj_sn 3).2.2.1 ∈ lw_tbl ∧ Cond.initialized (mj_sn 3).1 ∈ lw_tbl := ⟨(lw_in5 160 rfl), (lw_in1 23 rfl)⟩
theorem tb_n4 : Cond.laysStatic (mj_sn 4).1 (mj_sn 4).2.1 (mj_sn 4).2.2.1 ∈ lw_tbl ∧ Cond.initialized (mj_sn 4).1 ∈ lw_tbl := ⟨(lw_in5 158 rfl), (lw_in1 23 rfl)⟩
theorem tb_fn : ∀ q ∈ mj_fn, Cond.fieldLinkNest q.1 q.2.1 q.2.2.1 q.2.2.2.1 q.2.2.2.2.1 q.2.2.2.2.2 ∈ lw_tbl := by
  intro q hq
  simp only [mj_fn, List.mem_cons, List.not_mem_nil, or_false] at hq
  rcases hq with rfl | rfl | rfl
  · exact (lw_in1 44 rfl)
  · exact (lw_in3 24 rfl)
  · exact (lw_in3 26 rfl)
set_option maxRecDepth 20000 in
theorem tb_mn : ∀ q ∈ mj_mn, Cond.methodLinkNest q.1 q.2.1 q.2.2.1 q.2.2.2 ∈ lw_tbl := by
  intro q hq
  simp only [mj_mn, List.mem_cons, List.not_mem_nil, or_false] at hq
  rcases hq with rfl | rfl | rfl | rfl | rfl | rfl | rfl | rfl | rfl | rfl | rfl | rfl | rfl | rfl | rfl | rfl | rfl | rfl | rfl
  · exact (lw_in1 34 rfl)
  · exact (lw_in1 40 rfl)
  · exact (lw_in1 141 rfl)
  · exact (lw_in1 235 rfl)
  · exact (lw_in2 104 rfl)
  · exact (lw_in2 163 rfl)
  · exact (lw_in2 168 rfl)
  · exact (lw_in3 28 rfl)
  · exact (lw_in3 39 rfl)
  · exact (lw_in3 67 rfl)
  · exact (lw_in3 68 rfl)
  · exact (lw_in3 138 rfl)
  · exact (lw_in3 162 rfl)
  · exact (lw_in3 179 rfl)
  · exact (lw_in4 11 rfl)
  · exact (lw_in4 85 rfl)
  · exact (lw_in4 124 rfl)
  · exact (lw_in5 182 rfl)
  · exact (lw_in6 99 rfl)
theorem tb_s0 : Cond.stringRef (mj_ss 0).1 (mj_ss 0).2.1 (mj_ss 0).2.2.1 ∈ lw_tbl := (lw_in4 132 rfl)
theorem tb_s1 : Cond.stringRef (mj_ss 1).1 (mj_ss 1).2.1 (mj_ss 1).2.2.1 ∈ lw_tbl := (lw_in4 133 rfl)
theorem tb_s2 : Cond.stringRef (mj_ss 2).1 (mj_ss 2).2.1 (mj_ss 2).2.2.1 ∈ lw_tbl := (lw_in4 134 rfl)
theorem tb_s3 : Cond.stringRef (mj_ss 3).1 (mj_ss 3).2.1 (mj_ss 3).2.2.1 ∈ lw_tbl := (lw_in4 135 rfl)
theorem tb_s4 : Cond.stringRef (mj_ss 4).1 (mj_ss 4).2.1 (mj_ss 4).2.2.1 ∈ lw_tbl := (lw_in4 136 rfl)
theorem tb_s5 : Cond.stringRef (mj_ss 5).1 (mj_ss 5).2.1 (mj_ss 5).2.2.1 ∈ lw_tbl := (lw_in4 137 rfl)
theorem tb_s6 : Cond.stringRef (mj_ss 6).1 (mj_ss 6).2.1 (mj_ss 6).2.2.1 ∈ lw_tbl := (lw_in4 138 rfl)
theorem tb_s7 : Cond.stringRef (mj_ss 7).1 (mj_ss 7).2.1 (mj_ss 7).2.2.1 ∈ lw_tbl := (lw_in4 139 rfl)
theorem tb_s8 : Cond.stringRef (mj_ss 8).1 (mj_ss 8).2.1 (mj_ss 8).2.2.1 ∈ lw_tbl := (lw_in4 140 rfl)
theorem tb_s9 : Cond.stringRef (mj_ss 9).1 (mj_ss 9).2.1 (mj_ss 9).2.2.1 ∈ lw_tbl := (lw_in4 141 rfl)
theorem tb_s10 : Cond.stringRef (mj_ss 10).1 (mj_ss 10).2.1 (mj_ss 10).2.2.1 ∈ lw_tbl := (lw_in4 142 rfl)
theorem tb_s11 : Cond.stringRef (mj_ss 11).1 (mj_ss 11).2.1 (mj_ss 11).2.2.1 ∈ lw_tbl := (lw_in4 143 rfl)
theorem tb_s12 : Cond.stringRef (mj_ss 12).1 (mj_ss 12).2.1 (mj_ss 12).2.2.1 ∈ lw_tbl := (lw_in4 144 rfl)
theorem tb_s13 : Cond.stringRef (mj_ss 13).1 (mj_ss 13).2.1 (mj_ss 13).2.2.1 ∈ lw_tbl := (lw_in5 185 rfl)
theorem tb_s14 : Cond.stringRef (mj_ss 14).1 (mj_ss 14).2.1 (mj_ss 14).2.2.1 ∈ lw_tbl := (lw_in5 186 rfl)
theorem tb_s15 : Cond.stringRef (mj_ss 15).1 (mj_ss 15).2.1 (mj_ss 15).2.2.1 ∈ lw_tbl := (lw_in5 187 rfl)
theorem tb_s16 : Cond.stringRef (mj_ss 16).1 (mj_ss 16).2.1 (mj_ss 16).2.2.1 ∈ lw_tbl := (lw_in5 188 rfl)
theorem tb_s17 : Cond.stringRef (mj_ss 17).1 (mj_ss 17).2.1 (mj_ss 17).2.2.1 ∈ lw_tbl := (lw_in5 189 rfl)
theorem tb_s18 : Cond.stringRef (mj_ss 18).1 (mj_ss 18).2.1 (mj_ss 18).2.2.1 ∈ lw_tbl := (lw_in5 190 rfl)
theorem tb_s19 : Cond.stringRef (mj_ss 19).1 (mj_ss 19).2.1 (mj_ss 19).2.2.1 ∈ lw_tbl := (lw_in5 221 rfl)
theorem tb_s20 : Cond.stringRef (mj_ss 20).1 (mj_ss 20).2.1 (mj_ss 20).2.2.1 ∈ lw_tbl := (lw_in5 222 rfl)
theorem tb_s21 : Cond.stringRef (mj_ss 21).1 (mj_ss 21).2.1 (mj_ss 21).2.2.1 ∈ lw_tbl := (lw_in5 227 rfl)
theorem tb_s22 : Cond.stringRef (mj_ss 22).1 (mj_ss 22).2.1 (mj_ss 22).2.2.1 ∈ lw_tbl := (lw_in5 228 rfl)
theorem tb_s23 : Cond.stringRef (mj_ss 23).1 (mj_ss 23).2.1 (mj_ss 23).2.2.1 ∈ lw_tbl := (lw_in5 229 rfl)
theorem tb_s24 : Cond.stringRef (mj_ss 24).1 (mj_ss 24).2.1 (mj_ss 24).2.2.1 ∈ lw_tbl := (lw_in5 236 rfl)
theorem tb_s25 : Cond.stringRef (mj_ss 25).1 (mj_ss 25).2.1 (mj_ss 25).2.2.1 ∈ lw_tbl := (lw_in5 237 rfl)
theorem tb_s26 : Cond.stringRef (mj_ss 26).1 (mj_ss 26).2.1 (mj_ss 26).2.2.1 ∈ lw_tbl := (lw_in5 238 rfl)
theorem tb_s27 : Cond.stringRef (mj_ss 27).1 (mj_ss 27).2.1 (mj_ss 27).2.2.1 ∈ lw_tbl := (lw_in5 239 rfl)
theorem tb_s28 : Cond.stringRef (mj_ss 28).1 (mj_ss 28).2.1 (mj_ss 28).2.2.1 ∈ lw_tbl := (lw_in6 0 rfl)
theorem tb_s29 : Cond.stringRef (mj_ss 29).1 (mj_ss 29).2.1 (mj_ss 29).2.2.1 ∈ lw_tbl := (lw_in6 1 rfl)
theorem tb_s30 : Cond.stringRef (mj_ss 30).1 (mj_ss 30).2.1 (mj_ss 30).2.2.1 ∈ lw_tbl := (lw_in6 2 rfl)
theorem tb_pre : Cond.laysStatic "jdk/internal/util/Preconditions" "SIOOBE_FORMATTER" "Ljava/util/function/BiFunction;" ∈ lw_tbl ∧ Cond.initialized "jdk/internal/util/Preconditions" ∈ lw_tbl ∧ Cond.castable "[I" "java/lang/Cloneable" ∈ lw_tbl := ⟨(lw_in4 173 rfl), (lw_in1 20 rfl), (lw_in1 51 rfl)⟩
theorem tb_sb : Cond.instantiable "java/lang/StringBuilder" 4 ∈ lw_tbl := (lw_in2 202 rfl)
theorem tb_xs : ∀ y ∈ mj_xm, (y.cls ≠ "java/lang/invoke/MethodHandle" ∧ y.cls ≠ "java/lang/invoke/VarHandle") ∧ Cond.privateMethod y ∈ lw_tbl ∧ Cond.instanceMethod y ∈ lw_tbl ∧ Cond.sameMethod y.cls y.cls y.name y.desc ∈ lw_tbl := by
  intro y hy
  simp only [mj_xm, List.mem_cons, List.not_mem_nil, or_false] at hy
  rcases hy with rfl | rfl | rfl | rfl
  · exact ⟨by decide, (lw_in5 59 rfl), (lw_in5 60 rfl), (lw_in9 49 rfl)⟩
  · exact ⟨by decide, (lw_in5 63 rfl), (lw_in5 64 rfl), (lw_in9 50 rfl)⟩
  · exact ⟨by decide, (lw_in5 207 rfl), (lw_in5 208 rfl), (lw_in9 56 rfl)⟩
  · exact ⟨by decide, (lw_in5 211 rfl), (lw_in5 212 rfl), (lw_in9 57 rfl)⟩
theorem nw_sn : ∀ k, k < 5 → (nwP (Cond.arrayOf (tmS k) (mj_sn k).2.2.2.1) ∧ nwP (Cond.eq (.length (tmS k)) (.int (Int32.ofNat (mj_sn k).2.2.2.2))) ∧ (∀ j, j < (mj_sn k).2.2.2.2 → nwP (Cond.eq (.elem (tmS k) (.int (Int32.ofNat j))) (.int (mj_sa k j))))) ∧ (Cond.laysStatic (mj_sn k).1 (mj_sn k).2.1 (mj_sn k).2.2.1 ∈ lw_tbl ∧ Cond.initialized (mj_sn k).1 ∈ lw_tbl) := by
  intro k hk
  rcases (by omega : k = 0 ∨ k = 1 ∨ k = 2 ∨ k = 3 ∨ k = 4) with rfl | rfl | rfl | rfl | rfl
  · exact ⟨nw_n0, tb_n0⟩
  · exact ⟨nw_n1, tb_n1⟩
  · exact ⟨nw_n2, tb_n2⟩
  · exact ⟨nw_n3, tb_n3⟩
  · exact ⟨nw_n4, tb_n4⟩
set_option maxRecDepth 20000 in
theorem nw_st : ∀ i, i < 31 → (nwP (Cond.exactly (.string (mj_ss i).1 (mj_ss i).2.1) "java/lang/String") ∧ nwP (Cond.eq (.field (.string (mj_ss i).1 (mj_ss i).2.1) "java/lang/String" "coder" "B") (.int 0)) ∧ nwP (Cond.arrayOf (tmV (mj_ss i)) .byte) ∧ nwP (Cond.eq (.length (tmV (mj_ss i))) (.int (Int32.ofNat (mj_ss i).2.2.2.length))) ∧ ∀ j, j < (mj_ss i).2.2.2.length → nwP (Cond.eq (.elem (tmV (mj_ss i)) (.int (Int32.ofNat j))) (.int ((mj_ss i).2.2.2.getD j 0)))) ∧ Cond.stringRef (mj_ss i).1 (mj_ss i).2.1 (mj_ss i).2.2.1 ∈ lw_tbl := by
  intro i hi
  match i, hi with
  | 0, _ => exact ⟨nw_s0, tb_s0⟩
  | 1, _ => exact ⟨nw_s1, tb_s1⟩
  | 2, _ => exact ⟨nw_s2, tb_s2⟩
  | 3, _ => exact ⟨nw_s3, tb_s3⟩
  | 4, _ => exact ⟨nw_s4, tb_s4⟩
  | 5, _ => exact ⟨nw_s5, tb_s5⟩
  | 6, _ => exact ⟨nw_s6, tb_s6⟩
  | 7, _ => exact ⟨nw_s7, tb_s7⟩
  | 8, _ => exact ⟨nw_s8, tb_s8⟩
  | 9, _ => exact ⟨nw_s9, tb_s9⟩
  | 10, _ => exact ⟨nw_s10, tb_s10⟩
  | 11, _ => exact ⟨nw_s11, tb_s11⟩
  | 12, _ => exact ⟨nw_s12, tb_s12⟩
  | 13, _ => exact ⟨nw_s13, tb_s13⟩
  | 14, _ => exact ⟨nw_s14, tb_s14⟩
  | 15, _ => exact ⟨nw_s15, tb_s15⟩
  | 16, _ => exact ⟨nw_s16, tb_s16⟩
  | 17, _ => exact ⟨nw_s17, tb_s17⟩
  | 18, _ => exact ⟨nw_s18, tb_s18⟩
  | 19, _ => exact ⟨nw_s19, tb_s19⟩
  | 20, _ => exact ⟨nw_s20, tb_s20⟩
  | 21, _ => exact ⟨nw_s21, tb_s21⟩
  | 22, _ => exact ⟨nw_s22, tb_s22⟩
  | 23, _ => exact ⟨nw_s23, tb_s23⟩
  | 24, _ => exact ⟨nw_s24, tb_s24⟩
  | 25, _ => exact ⟨nw_s25, tb_s25⟩
  | 26, _ => exact ⟨nw_s26, tb_s26⟩
  | 27, _ => exact ⟨nw_s27, tb_s27⟩
  | 28, _ => exact ⟨nw_s28, tb_s28⟩
  | 29, _ => exact ⟨nw_s29, tb_s29⟩
  | 30, _ => exact ⟨nw_s30, tb_s30⟩
  | i + 31, hi => exact absurd hi (by omega)
theorem lw_sel {y : MethodName} {C : String} {n : Nat} {args : Array Value} {s : State} (hy : y.cls ≠ "java/lang/invoke/MethodHandle" ∧ y.cls ≠ "java/lang/invoke/VarHandle") (h1 : (Cond.instantiable C n).before args s = true) (h2 : (Cond.privateMethod y).before args s = true) (h3 : (Cond.instanceMethod y).before args s = true) (h4 : (Cond.sameMethod y.cls y.cls y.name y.desc).before args s = true) : (Cond.selects C y y).before args s = true := by
  obtain ⟨c, k, hc, hk, -, hniab, -, -⟩ := Cond.instantiable_spec h1
  have hni : k.isInterface = false := (Bool.or_eq_false_iff.mp hniab).1
  obtain ⟨mk, methM, hnamed, hmethM, -, -⟩ := Cond.instanceMethod_spec h3
  have hfound : s.methodFound? y.cls y.name y.desc = some mk := State.methodFound?_of_named hnamed hy
  obtain ⟨-, k', hk', hni'⟩ := Cond.sameMethod_spec (findClass_of_methodNamed hnamed) hfound h4
  have hsel : selectMethod {} s.vm c mk = .method mk := selectMethod_private hmethM (Cond.privateMethod_at h2 mk methM hnamed hmethM)
  simp only [Cond.before, Cond.holds, Cond.value, hc, hfound, hnamed, hsel, hk, hk']
  simp [hni']
theorem law_T {args : Array Value} {s : State} (hts : ∀ w ∈ lw_tbl, w.before args s = true) : ∀ w ∈ mj_T, w.before args s = true := by
  intro w hw
  rcases List.mem_append.mp hw with h | h
  · obtain ⟨y, hy, rfl⟩ := List.mem_map.mp h
    obtain ⟨q1, q3, q4, q5⟩ := tb_xs y hy
    exact lw_sel q1 (hts _ tb_sb) (hts _ q3) (hts _ q4) (hts _ q5)
  · exact hts w (List.mem_filter.mp h).1
theorem law_len {args : Array Value} {s : State} {t : Term} {N : Nat} (hN : N < 2 ^ 31) (h : (Term.length t).eval args s none [] s = some (.int (Int32.ofNat N))) : ∃ (a : Nat) (cell : Cell), t.eval args s none [] s = some (.ref a) ∧ s.heap[a]? = some cell ∧ cell.slots.size = N := by
  obtain ⟨a, cell, ht, hat, hv⟩ := Term.length_spec h
  have hsz : cell.slots.size < 2 ^ 31 := by
    simp only [Term.eval, ht, hat, Option.bind_eq_bind, Option.bind_some] at h
    by_cases hlt : cell.slots.size < 2147483648
    · exact hlt
    · simp [hlt] at h
  refine ⟨a, cell, ht, (State.arrayAt?_spec hat).1, ?_⟩
  exact ((nI_eq hN hsz).mp (Value.int.inj hv)).symm
theorem law_E1 {args : Array Value} {s : State} (hts : ∀ w ∈ lw_tbl, w.before args s = true) (hn : (Jvm.Cond.and given_1 narrow_1).before args s = true) (k : Nat) (hk : k < 5) : ∃ t : Nat, va_Z (mj_sn k).1 (mj_sn k).2.1 (mj_sn k).2.2.1 (.ref t) (fun q => s.heap.size ≤ q) s s.heap ∧ va_T (mj_sn k).2.2.2.1 t (mj_sn k).2.2.2.2 (fun j => .int (mj_sa k j)) (fun q => s.heap.size ≤ q) s s.heap ∧ (tmS k).eval args s none [] s = some (.ref t) := by
  obtain ⟨⟨h1, h2, h3⟩, b1, b2⟩ := nw_sn k hk
  have hA : ∀ a : Nat, a < s.heap.size → ¬ (fun q : Nat => s.heap.size ≤ q) a := fun a h => Nat.not_le.mpr h
  have hN : (mj_sn k).2.2.2.2 < 2 ^ 31 := by
    rcases (by omega : k = 0 ∨ k = 1 ∨ k = 2 ∨ k = 3 ∨ k = 4) with rfl | rfl | rfl | rfl | rfl <;> decide
  obtain ⟨t, ht, hT⟩ := va_Tof (f := fun j => .int (mj_sa k j)) hN (h1 _ _ hn) (Cond.eq_int (h2 _ _ hn) rfl) (fun j hj => Cond.eq_int (h3 j hj _ _ hn) rfl) hA
  exact ⟨t, va_Zof (hts _ b1) (hts _ b2) ht hA, hT, ht⟩
theorem law_E5 {args : Array Value} {s : State} (hts : ∀ w ∈ lw_tbl, w.before args s = true) (hn : (Jvm.Cond.and given_1 narrow_1).before args s = true) (i : Nat) (hi : i < 31) (q : String × Nat × String × List Int32) (hq : mj_ss i = q) : ∃ a v : Nat, vk_R q.1 q.2.1 q.2.2.1 a s ∧ va_O "java/lang/String" a (fun q => s.heap.size ≤ q) s s.heap ∧ va_OF "java/lang/String" "coder" "B" (.int 0) a (fun q => s.heap.size ≤ q) s s.heap ∧ va_OF "java/lang/String" "value" "[B" (.ref v) a (fun q => s.heap.size ≤ q) s s.heap ∧ va_T .byte v q.2.2.2.length (fun j => .int (q.2.2.2.getD j 0)) (fun q => s.heap.size ≤ q) s s.heap := by
  subst hq
  obtain ⟨⟨h1, h2, h3, h4, h5⟩, b1⟩ := nw_st i hi
  have hA : ∀ a : Nat, a < s.heap.size → ¬ (fun q : Nat => s.heap.size ≤ q) a := fun a h => Nat.not_le.mpr h
  obtain ⟨a, -, -, -, ht, -⟩ := Cond.exactly_spec (h1 _ _ hn)
  have hN : (mj_ss i).2.2.2.length < 2 ^ 31 := Nat.lt_of_lt_of_le (mj_ss_ch _ (List.mem_of_getElem? (mj_ss_at hi))).1 (by decide)
  obtain ⟨v, hv, hT⟩ := va_Tof (f := fun j => .int ((mj_ss i).2.2.2.getD j 0)) hN (h3 _ _ hn) (Cond.eq_int (h4 _ _ hn) rfl) (fun j hj => Cond.eq_int (h5 j hj _ _ hn) rfl) hA
  exact ⟨a, v, vk_R.of (hts _ b1) ht, va_Oof (h1 _ _ hn) ht hA, vk_OFof ht (Cond.eq_int (h2 _ _ hn) rfl) hA, vk_OFof ht hv hA, hT⟩
theorem law_c0 {args : Array Value} {s : State} {ad : Nat × Nat → Nat} (hn : (Jvm.Cond.and given_1 narrow_1).before args s = true) (ht : (tmS 0).eval args s none [] s = some (.ref (ad (99, 0)))) (hT : va_T .int (ad (99, 0)) 11 (fun j => .int (mj_sa 0 j)) (fun q => s.heap.size ≤ q) s s.heap) : mj_c0 ad (fun q => s.heap.size ≤ q) s s.heap := by
  obtain ⟨cell, h1, h2, h3, h4, h5, h6, h7⟩ := hT
  obtain ⟨a, c, cell2, k, e1, e2, e3, e4, e5, e6, e7⟩ := Cond.exactly_spec (nw_ex.1 _ _ hn)
  cases ht.symm.trans e1
  cases h1.symm.trans e3
  obtain ⟨a', cell', f1, f2, f3⟩ := law_len (N := 11) (by decide) (Cond.eq_int ((nw_sn 0 (by decide)).1.2.1 _ _ hn) rfl)
  cases ht.symm.trans f1
  cases h1.symm.trans f2
  refine ⟨cell, h1, h2, h3, by rw [e6]; exact e2, ?_, h7⟩
  apply Array.ext
  · rw [f3, arrV_size]
  · intro i hi1 hi2
    rw [f3] at hi1
    have g1 := h6 i hi1
    have g2 := arrV_read cell.cls (N := 11) (fun j => .int (mj_sa 0 j)) hi1
    rw [Array.getElem?_eq_getElem (by omega)] at g1 g2
    exact (Option.some.inj g1).trans (Option.some.inj g2).symm
/-- the addresses of what was there at the start, and that they hold what mj_E says -/
theorem law_E {args : Array Value} {s : State} (hts : ∀ w ∈ lw_tbl, w.before args s = true) (hn : (Jvm.Cond.and given_1 narrow_1).before args s = true) : ∃ zs ss vs : Nat → Nat, ∀ ad : Nat × Nat → Nat, (∀ k, ad (99, k) = zs k) → (∀ i, ad (98, i) = ss i) → (∀ i, ad (97, i) = vs i) → mj_E ad (fun q => s.heap.size ≤ q) s := by
  have hA : ∀ a : Nat, a < s.heap.size → ¬ (fun q : Nat => s.heap.size ≤ q) a := fun a h => Nat.not_le.mpr h
  have E1 : ∀ k : Nat, ∃ t : Nat, k < 5 → va_Z (mj_sn k).1 (mj_sn k).2.1 (mj_sn k).2.2.1 (.ref t) (fun q => s.heap.size ≤ q) s s.heap ∧ va_T (mj_sn k).2.2.2.1 t (mj_sn k).2.2.2.2 (fun j => .int (mj_sa k j)) (fun q => s.heap.size ≤ q) s s.heap ∧ (tmS k).eval args s none [] s = some (.ref t) := by
    intro k
    by_cases hk : k < 5
    · obtain ⟨t, ht⟩ := law_E1 hts hn k hk
      exact ⟨t, fun _ => ht⟩
    · exact ⟨0, fun h => absurd h hk⟩
  have E5 : ∀ i : Nat, ∃ av : Nat × Nat, ∀ q, mj_st[i]? = some q → vk_R q.1 q.2.1 q.2.2.1 av.1 s ∧ va_O "java/lang/String" av.1 (fun q => s.heap.size ≤ q) s s.heap ∧ va_OF "java/lang/String" "coder" "B" (.int 0) av.1 (fun q => s.heap.size ≤ q) s s.heap ∧ va_OF "java/lang/String" "value" "[B" (.ref av.2) av.1 (fun q => s.heap.size ≤ q) s s.heap ∧ va_T .byte av.2 q.2.2.2.length (fun j => .int (q.2.2.2.getD j 0)) (fun q => s.heap.size ≤ q) s s.heap := by
    intro i
    by_cases hi : i < 31
    · obtain ⟨a, v, hh⟩ := law_E5 hts hn i hi (mj_ss i) rfl
      refine ⟨(a, v), fun q' hq' => ?_⟩
      rw [mj_ss_at hi] at hq'
      cases hq'
      exact hh
    · refine ⟨(0, 0), fun q hq => ?_⟩
      have hlen : i < mj_st.length := (List.getElem?_eq_some_iff.mp hq).1
      have e31 : mj_st.length = 31 := by decide
      omega
  obtain ⟨zs, hz⟩ := Classical.axiomOfChoice E1
  obtain ⟨av, hv⟩ := Classical.axiomOfChoice E5
  refine ⟨zs, fun i => (av i).1, fun i => (av i).2, fun ad a1 a2 a3 => ?_⟩
  refine ⟨fun k hk => ?_, fun q hq => ?_, fun q hq => ?_, fun q hq => ?_, fun i q hq => ?_, ?_, ?_, ?_⟩
  · rw [a1 k]
    exact ⟨(hz k hk).1, (hz k hk).2.1⟩
  · obtain ⟨i, hi⟩ := List.getElem?_of_mem hq
    have hi4 : i < 4 := (List.getElem?_eq_some_iff.mp hi).1
    obtain ⟨b1, b2, b3⟩ := nw_sc i hi4 q hi
    exact va_Zof (hts _ b2) (hts _ b3) (Cond.eq_int (b1 _ _ hn) rfl) hA
  · exact va_Nw.of rfl (hts _ (tb_fn q hq))
  · exact va_Nw.of rfl (hts _ (tb_mn q hq))
  · rw [a2 i, a3 i]
    exact hv i q hq
  · exact va_Zqof (hts _ tb_pre.1) (hts _ tb_pre.2.1) (nw_ex.2 _ _ hn) hA
  · refine law_c0 hn ?_ ?_
    · rw [a1 0]
      exact (hz 0 (by decide)).2.2
    · rw [a1 0]
      exact (hz 0 (by decide)).2.1
  · exact va_Nw.of rfl (hts _ tb_pre.2.2)
theorem law_arr {args : Array Value} {s : State} {ty : FieldType} (hty : ∀ C, ty ≠ .object C) (h : (Cond.arrayClass ty).before args s = true) : ∃ cA : ClassId, ArrOfT s cA ty ∧ va_RA s cA ty := by
  obtain ⟨c, k, comp, h1, h2, h3⟩ := Cond.arrayClass_spec h
  refine ⟨c, fun n z => ⟨fun k h => (by cases h), k, h2, comp, h3⟩, ?_⟩
  cases ty with
  | object C => exact absurd rfl (hty C)
  | _ => exact h1

