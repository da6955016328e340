/-! THE CLAIM OUT OF ONE WALK OF THE LAW'S BODY. Your part is whole_start (and what it stands on); all else here is the same for every law, but numbers. -/
def R_law : String := "CommandLinkLaw"
def lw_P (b : Addr) (xs : List Int32) (args : Array Value) (s : State) : Prop := args = #[.ref b] ∧ s.IntsAt b xs ∧ xs.length ≤ 3072 ∧ (Jvm.Cond.and given_1 narrow_1).before args s = true
def lw_Q (_ : Array Value) (s : State) (o : Outcome) (t : State) : Prop := o = .returned (some (.int 1)) ∧ Framed s o t [] 600000 7302250
def lw_Z (below : List Frame) (a : Array Value) (s : State) : State → Prop := fun t => ∃ o, t.status = .running ∧ Ended t below o ∧ lw_Q a s o t
/-- the law's own end, with 1 on the stack, nothing written that was there before, its room as the claim has it -/
theorem lw_ret {p : Program} {l : Launch} {e : Env} {s : State} {m : MethodId} {below : List Frame} {meth : Method} {c : Code} {b : Nat} (hx : p.tables.exec = Jvm.exec) (hb : c.code = code) (hr : meth.sig.returnType = ret) (hlocks : meth.locks = false) {pc : Nat} {H : Heap} {ls : Array Slot} (hdg : decode code pc = .ok (.ireturn, 1)) : W p l e room_1 s m #[Value.ref b] below meth c H [] 600000 7302250 (lw_Z below #[Value.ref b] s) (F0 m pc ls [.int 1]) := by
  intro T hT X
  obtain ⟨fs, hret, hrun, hended, hW, hframe⟩ := X.leave (v := some (.int 1)) (hlocks := hlocks) (fun h => by rw [hr] at h; cases h)
  have hmeth' : T.vm.method? m = some meth := X.method'
  refine ⟨T.setFrames fs, ?_, .returned (some (.int 1)), hrun, hended, rfl, ⟨_, rfl⟩, hW, hframe⟩
  jvm_step X.here [X.here.top, hx, hb, hdg, hmeth', hr, ret, narrow_b1]
  (try refine ⟨rfl, ?_⟩); (try refine ⟨rfl, ?_⟩)
  first | (intro acts; rw [hret _ acts rfl rfl rfl]) | rw [hret _ _ rfl rfl rfl]
  exact Steps.refl _
/-- what holds at the law's entry: the machine, the code, the tables' words (any of lw_tbl by 'hts w (by decide +kernel)'), the script of L ints xs at the cell b, what the Statement gives of the start (any of its parts by flat_of_before) -/
def lw_At (p : Program) (s : State) (m : MethodId) (meth : Method) (c : Code) (b L : Nat) (xs : Nat → Int32) : Prop :=
  p.tables.exec = Jvm.exec ∧ c.code = code ∧ meth.sig.returnType = ret ∧ c.maxLocals = 4 ∧ s.vm.findClass R_law = some m.cls ∧ (∀ w ∈ lw_tbl, w.before #[Value.ref b] s = true) ∧ va_X b L xs s s.heap ∧ b < s.heap.size ∧ meth.locks = false ∧ (Jvm.Cond.and given_1 narrow_1).before #[Value.ref b] s = true
theorem law_K {args : Array Value} {s : State} (hts : ∀ w ∈ mj_T, w.before args s = true) : ∃ (D : va_G) (cI : mj_I), va_K D vwCl [(cI.1, .int), (cI.2, .byte)] s := by
  obtain ⟨ca, ha1, ha2⟩ := law_arr (ty := .int) (fun C h => by cases h) (hts _ mx_ai)
  obtain ⟨cb, hb1, hb2⟩ := law_arr (ty := .byte) (fun C h => by cases h) (hts _ mx_ab)
  have U : ∀ k : Nat, ∃ z : ClassId × (Nat → Nat), ∀ q, vwCl[k]? = some q → u_Kn s q.1 q.2.1 q.2.2 z.1 z.2 := by
    intro k
    match k with
    | 0 =>
      obtain ⟨c, iS, h⟩ := u_known (C := RJ4) (T := TJ4) (N := 4) (n := 4) hts inTJ4 (hts (Cond.instantiable RJ4 4) (by exact (mj_in2 202 rfl rfl)))
      exact ⟨(c, iS), fun q hq => by cases hq; exact h⟩
    | 1 =>
      obtain ⟨c, iS, h⟩ := u_known (C := RX0) (T := TX0) (N := 3) (n := 3) hts inTX0 (hts (Cond.instantiable RX0 3) (by exact (mj_in1 39 rfl rfl)))
      exact ⟨(c, iS), fun q hq => by cases hq; exact h⟩
    | 2 =>
      obtain ⟨c, iS, h⟩ := u_known (C := RX1) (T := TX1) (N := 7) (n := 7) hts inTX1 (hts (Cond.instantiable RX1 7) (by exact (mj_in1 102 rfl rfl)))
      exact ⟨(c, iS), fun q hq => by cases hq; exact h⟩
    | 3 =>
      obtain ⟨c, iS, h⟩ := u_known (C := RX2) (T := TX2) (N := 6) (n := 6) hts inTX2 (hts (Cond.instantiable RX2 6) (by exact (mj_in1 75 rfl rfl)))
      exact ⟨(c, iS), fun q hq => by cases hq; exact h⟩
    | 4 =>
      obtain ⟨c, iS, h⟩ := u_known (C := RX3) (T := TX3) (N := 8) (n := 8) hts inTX3 (hts (Cond.instantiable RX3 8) (by exact (mj_in1 33 rfl rfl)))
      exact ⟨(c, iS), fun q hq => by cases hq; exact h⟩
    | 5 =>
      obtain ⟨c, iS, h⟩ := u_known (C := RX4) (T := TX4) (N := 4) (n := 4) hts inTX4 (hts (Cond.instantiable RX4 4) (by exact (mj_in2 103 rfl rfl)))
      exact ⟨(c, iS), fun q hq => by cases hq; exact h⟩
    | 6 =>
      obtain ⟨c, iS, h⟩ := u_known (C := RX5) (T := TX5) (N := 9) (n := 9) hts inTX5 (hts (Cond.instantiable RX5 9) (by exact (mj_in2 162 rfl rfl)))
      exact ⟨(c, iS), fun q hq => by cases hq; exact h⟩
    | 7 =>
      obtain ⟨c, iS, h⟩ := u_known (C := RX6) (T := TX6) (N := 13) (n := 13) hts inTX6 (hts (Cond.instantiable RX6 13) (by exact (mj_in1 134 rfl rfl)))
      exact ⟨(c, iS), fun q hq => by cases hq; exact h⟩
    | 8 =>
      obtain ⟨c, iS, h⟩ := u_known (C := RX7) (T := TX7) (N := 5) (n := 5) hts inTX7 (hts (Cond.instantiable RX7 5) (by exact (mj_in1 140 rfl rfl)))
      exact ⟨(c, iS), fun q hq => by cases hq; exact h⟩
    | 9 =>
      obtain ⟨c, iS, h⟩ := u_known (C := RX8) (T := TX8) (N := 16) (n := 16) hts inTX8 (hts (Cond.instantiable RX8 16) (by exact (mj_in1 229 rfl rfl)))
      exact ⟨(c, iS), fun q hq => by cases hq; exact h⟩
    | 10 =>
      obtain ⟨c, iS, h⟩ := u_known (C := RX9) (T := TX9) (N := 11) (n := 11) hts inTX9 (hts (Cond.instantiable RX9 11) (by exact (mj_in2 59 rfl rfl)))
      exact ⟨(c, iS), fun q hq => by cases hq; exact h⟩
    | 11 =>
      obtain ⟨c, iS, h⟩ := u_known (C := RX10) (T := TX10) (N := 6) (n := 6) hts inTX10 (hts (Cond.instantiable RX10 6) (by exact (mj_in1 25 rfl rfl)))
      exact ⟨(c, iS), fun q hq => by cases hq; exact h⟩
    | 12 =>
      obtain ⟨c, iS, h⟩ := u_known (C := RX11) (T := TX11) (N := 23) (n := 23) hts inTX11 (hts (Cond.instantiable RX11 23) (by exact (mj_in6 176 rfl rfl)))
      exact ⟨(c, iS), fun q hq => by cases hq; exact h⟩
    | k + 13 => exact ⟨(ca, fun _ => 0), fun q hq => by simp at hq⟩
  obtain ⟨z, hz⟩ := Classical.axiomOfChoice U
  refine ⟨(fun k => (z k).1, fun k => (z k).2), (ca, cb), fun k q hq => hz k q hq, fun k q hq => ?_⟩
  match k, hq with
  | 0, hq => cases hq; exact ⟨ha1, ha2⟩
  | 1, hq => cases hq; exact ⟨hb1, hb2⟩
  | k + 2, hq => simp at hq
set_option maxRecDepth 100000 in
set_option maxHeartbeats 20000000 in
theorem whole_start_of {Inv : Nat → mj_M → Prop} (hCL : CL_all Inv) (hI0 : Inv 0 M1) {p : Program} {e : Env} {s : State} {m : MethodId} {below : List Frame} {meth : Method} {c : Code} (l : Launch) {b L : Nat} {xs : Nat → Int32} (hL : L ≤ 3072) (C0 : lw_At p s m meth c b L xs) : W p l e room_1 s m #[Value.ref b] below meth c s.heap [] 0 0 (lw_Z below #[Value.ref b] s) (entryFrame m ([Value.ref b] : List Value).toArray 4) := by
  obtain ⟨hx, hb, hr, hml, hown, hts0, hX, hbl, hlocks, hgv⟩ := C0
  have hts := law_T hts0
  obtain ⟨D, cI, hK⟩ := law_K hts
  obtain ⟨zs, ss, vs, hE⟩ := law_E hts0 hgv
  have hE0 : mj_E (adF 0 0 0 0 0 0 [] [] [] [] [] zs ss vs) (fun q => s.heap.size ≤ q) s := hE _ (fun _ => rfl) (fun _ => rfl) (fun _ => rfl)
  obtain ⟨κ, hκ⟩ : ∃ κ : mj_K, κ = ((p, l, e, room_1, s, m, #[Value.ref b], below, meth, c), D, cI, (adF 0 0 0 0 0 0 [] [] [] [] [] zs ss vs), (gs, []), [], (fun q => s.heap.size ≤ q), 0, 0) := ⟨_, rfl⟩
  have C : mj_C κ cL_law 4 RL := by
    rw [hκ]
    exact ⟨hx, hb, hml, hown, hts, hK, fun q h => h, hE0, hlocks, Nat.zero_le _, Nat.zero_le _⟩
  have hroom : mj_room κ = room_1 := by rw [hκ]; rfl
  have hcI : mj_cI κ = cI := by rw [hκ]; rfl
  have hmc : (mj_room κ).cells = 600000 := by rw [hroom]; rfl
  have hms : (mj_room κ).slots = 7302250 := by rw [hroom]; rfl
  rw [lg_entry_eq]
  have key : mj_R (mj_ky κ [] 0 0) (lw_Z below #[Value.ref b] s) 0 [some (mj_o (some b)), none, none, none] [] (fun _ _ _ => 0) := by
    refine mx_new (fs := [.null, .null, .null, .int 0, .null, .null]) tyX10 C (ci := 11) rfl inTX10 tyX10_ok (by exact (mj_in1 24 rfl rfl)) (by exact (mj_in1 25 rfl rfl)) (by exact (mj_in1 1 rfl rfl)) (fun j hj => by rcases (show j = 0 ∨ j = 1 ∨ j = 2 ∨ j = 3 ∨ j = 4 ∨ j = 5 by omega) with rfl | rfl | rfl | rfl | rfl | rfl <;> rfl) (mx_lc hmc rfl) (mx_ls hms rfl) dL_law_0 (fun x0 => ?_)
    show mj_R (mj_ky κ [(x0, .inr (11, [.null, .null, .null, .int 0, .null, .null]))] 1 6) _ 3 [some (mj_o (some b)), none, none, none] [mj_o (some x0)] (fun _ _ _ => 0)
    refine mj_dup (mx_D C hmc hms rfl rfl) dL_law_3 ?_
    refine mx_callI (av := []) (Y0 := []) (ce := 1) (sl := 6) C lM_L_9 lk_X10_init rfl (mj_in1 27 rfl rfl) rfl (K_X10b (a0 := x0)) rfl ⟨mj_fitL hroom rfl rfl, by rw [hmc]; exact Nat.le_of_ble_eq_true rfl, by rw [hms]; exact Nat.le_of_ble_eq_true rfl⟩ rfl (Nat.le_of_ble_eq_true rfl) dL_law_4 (fun r Y' hp => ?_)
    obtain ⟨rfl, q1, q2, q3, q4, q5, q6, l1, l2, l3, l4, hYC⟩ := hp
    show mj_R (mj_ky κ Y' 149 7912) _ 7 [some (mj_o (some b)), none, none, none] [mj_o (some x0)] (fun _ _ _ => 0)
    refine mx_astore_n (L2 := [some (mj_o (some b)), some (mj_o (some x0)), none, none]) (mx_D C hmc hms rfl rfl) dL_law_7 (Nat.le_of_ble_eq_true rfl) rfl ?_
    refine mx_new (fs := [.int 0, .null, .null, .null, .int 0, .null, .null, .int 0, .null, .int 0, .int 0, .int 0, .int 0, .int 0, .null, .int 0, .int 0, .int 0, .int 0, .int 0, .null, .int 0, .null]) tyX11 C (ci := 12) rfl inTX11 tyX11_ok (by exact (mj_in6 175 rfl rfl)) (by exact (mj_in6 176 rfl rfl)) (by exact (mj_in1 16 rfl rfl)) (fun j hj => by rcases (show j = 0 ∨ j = 1 ∨ j = 2 ∨ j = 3 ∨ j = 4 ∨ j = 5 ∨ j = 6 ∨ j = 7 ∨ j = 8 ∨ j = 9 ∨ j = 10 ∨ j = 11 ∨ j = 12 ∨ j = 13 ∨ j = 14 ∨ j = 15 ∨ j = 16 ∨ j = 17 ∨ j = 18 ∨ j = 19 ∨ j = 20 ∨ j = 21 ∨ j = 22 by omega) with rfl | rfl | rfl | rfl | rfl | rfl | rfl | rfl | rfl | rfl | rfl | rfl | rfl | rfl | rfl | rfl | rfl | rfl | rfl | rfl | rfl | rfl | rfl <;> rfl) (mx_lc hmc rfl) (mx_ls hms rfl) dL_law_8 (fun z0 => ?_)
    show mj_R (mj_ky κ (Y' ++ [(z0, .inr (12, [.int 0, .null, .null, .null, .int 0, .null, .null, .int 0, .null, .int 0, .int 0, .int 0, .int 0, .int 0, .null, .int 0, .int 0, .int 0, .int 0, .int 0, .null, .int 0, .null]))]) 150 7935) _ 11 [some (mj_o (some b)), some (mj_o (some x0)), none, none] [mj_o (some z0)] (fun _ _ _ => 0)
    refine mj_dup (mx_D C hmc hms rfl rfl) dL_law_11 ?_
    refine mx_callI (av := []) (Y0 := Y') (ce := 150) (sl := 7935) C lM_L_12 lk_X11_init rfl (mj_in6 178 rfl rfl) rfl (K_X11_init (a0 := z0)) rfl ⟨mj_fitL hroom rfl rfl, by rw [hmc]; exact Nat.le_of_ble_eq_true rfl, by rw [hms]; exact Nat.le_of_ble_eq_true rfl⟩ rfl (Nat.le_of_ble_eq_true rfl) dL_law_12 (fun r YM hp => ?_)
    obtain ⟨rfl, z1, z2, z3, z4, z5, z6, z7, z8, z9, hYM⟩ := hp
    show mj_R (mj_ky κ (Y' ++ YM) 159 14402) _ 15 [some (mj_o (some b)), some (mj_o (some x0)), none, none] [mj_o (some z0)] (fun _ _ _ => 0)
    refine mx_astore_n (L2 := [some (mj_o (some b)), some (mj_o (some x0)), some (mj_o (some z0)), none]) (mx_D C hmc hms rfl rfl) dL_law_15 (Nat.le_of_ble_eq_true rfl) rfl ?_
    refine mj_iconst (v := 0) (mx_D C hmc hms rfl rfl) dL_law_16 (by decide) ?_
    refine mj_istore_n (L2 := [some (mj_o (some b)), some (mj_o (some x0)), some (mj_o (some z0)), some (.inl 0)]) (mx_D C hmc hms rfl rfl) dL_law_17 (Nat.le_of_ble_eq_true rfl) rfl ?_
    show mj_R (mj_ky κ (Y' ++ YM) 159 14402) _ 18 [some (mj_o (some b)), some (mj_o (some x0)), some (mj_o (some z0)), some (.inl 0)] [] (fun _ _ _ => 0)
    obtain ⟨ad1, had⟩ : ∃ ad1 : Nat × Nat → Nat, ad1 = (adF x0 q1 q2 q3 q4 q5 l1 l2 l3 l4 [z0, z1, z2, z3, z4, z5, z6, z7, z8, z9] zs ss vs) := ⟨_, rfl⟩
    obtain ⟨κ1, hκ1⟩ : ∃ κ1 : mj_K, κ1 = ((p, l, e, room_1, s, m, #[Value.ref b], below, meth, c), D, cI, ad1, g1, [], (fun q => s.heap.size ≤ q), 0, 0) := ⟨_, rfl⟩
    have hE1 : mj_E ad1 (fun q => s.heap.size ≤ q) s := by
      rw [had]
      exact hE _ (fun _ => rfl) (fun _ => rfl) (fun _ => rfl)
    have C1 : mj_C κ1 cL_law 4 RL := by
      rw [hκ1]
      exact ⟨hx, hb, hml, hown, hts, hK, fun q h => h, hE1, hlocks, Nat.zero_le _, Nat.zero_le _⟩
    have hroom1 : mj_room κ1 = room_1 := by rw [hκ1]; rfl
    have hg1 : mj_g κ1 = g1 := by rw [hκ1]; rfl
    have hX1 : ∀ (Y : va_W) (ce sl : Nat), mj_X (mj_ky κ1 Y ce sl) b L xs := by
      intro Y ce sl
      rw [hκ1]
      exact ⟨hX, hbl, Nat.not_le.mpr hbl⟩
    have hpa : mj_ad κ1 (3, 9) = q5 := by
      rw [hκ1]
      show ad1 (3, 9) = q5
      rw [had]
      rfl
    have hend : ∀ (M : mj_M) (Y : va_W) (ce sl j : Nat), ce ≤ 600000 → sl ≤ 7302250 → mj_R (mj_ky κ1 Y ce sl) (lw_Z below #[Value.ref b] s) 1185 [some (mj_o (some b)), some (mj_r (3, 0)), some (mj_r (4, 0)), some (.inl (nI (6 * j)))] [] M := by
      intro M Y ce sl j h1 h2
      refine mj_iconst (v := 1) (mx_C C1 (by rw [hroom1]; exact h1) (by rw [hroom1]; exact h2)) dL_law_1185 (by decide) ?_
      rw [hκ1]
      intro H locs ls hP hD hS hl
      refine va_forget (fun q hq => hS.2.2 q hq) ?_
      refine W.widen (k := 600000) (n := 7302250) h1 h2 ?_
      exact lw_ret hx hb hr hlocks dL_law_1186
    have hJ : txJ [] 16 (fun _ => (0 : Int32)) := ⟨fun j hj => absurd hj (Nat.not_lt_zero j), sb_fit0, Nat.zero_le _, by decide⟩
    have loop := law_loop hCL (κ := κ1) (Q := (lw_Z below #[Value.ref b] s)) C1 (by rw [hg1]; exact isT1) (by rw [hg1]; exact isM1) hroom1 hX1 hL hpa hend (L + 1) 0 M1 q6 16 (fun _ => 0) 0 [] 159 14402 (by omega) (by omega) (by omega) (by omega) hI0 hJ (by decide)
    rw [hκ1] at loop
    rw [hκ]
    refine mx_refold (ad1 := ad1) (G1 := g1) (L1 := [some (mj_o (some b)), some (mj_r (3, 0)), some (mj_r (4, 0)), some (.inl (nI (6 * 0)))]) (M1 := M1) (Y1 := tx cI q5 q6 16 (fun _ => 0) 0 0) ?_ rfl (by rw [had]; rfl) loop
    have hw : mj_w cI ad1 g1 M1 = [(x0, .inr (11, [.ref q1, .ref q2, .ref q3, .int 0, .ref q4, .ref q5]))] ++ (lk3 cI q1 l1 ++ (lk3 cI q2 l2 ++ (lk3 cI q3 l3 ++ (rd5 cI q4 l4 ++ [(z0, .inr (12, [.int 0, .ref z1, .ref z2, .ref z3, .int 0, .ref z4, .ref z5, .int 0, .ref z6, .int 0, .int 0, .int 0, .int 0, .int 0, .ref z7, .int 0, .int 0, .int 0, .int (-1), .int 0, .ref z8, .int 0, .ref z9])), (z1, .inl (cI.1, 1897, .inl (fun _ => 0))), (z2, .inl (cI.1, 1897, .inl (fun _ => 0))), (z3, .inl (cI.1, 5, .inl (fun _ => 0))), (z4, .inl (cI.1, 95, .inl (mj_pre lst_X11_init_q4 95))), (z5, .inl (cI.1, 60, .inl (fun _ => 0))), (z6, .inl (cI.1, 400, .inl (fun _ => 0))), (z7, .inl (cI.1, 71, .inl (mj_pre lst_X11_init_q7 71))), (z8, .inl (cI.1, 96, .inl (fun _ => 0))), (z9, .inl (cI.1, 1946, .inl (fun _ => 0)))])))) := by
      rw [had]
      unfold mj_w g1 pl
      show List.map _ ([(3, 0)] ++ (plL0 ++ (plL1 ++ (plL2 ++ (plR ++ plM))))) = _
      rw [List.map_append, List.map_append, List.map_append, List.map_append, List.map_append, w_C, w_L0, w_L1, w_L2, w_R, w_M]
    rw [hw, hYC, hYM, hcI]
    show List.Perm ([] ++ ([] ++ (_ ++ _))) _
    rw [List.nil_append, List.nil_append]
    simp only [List.append_assoc]
    exact List.Perm.append_left _ (List.Perm.append_left _ (List.Perm.append_left _ (List.Perm.append_left _ (List.Perm.append_left _ List.perm_append_comm))))
  rw [hκ] at key
  exact key s.heap [] _ (fun k q h => by simp [mj_w] at h) ⟨fun i j p q h => by simp [mj_w] at h, fun k q h => by simp [mj_w] at h⟩ va_S.rf (mj_lh_entry (ad := (adF 0 0 0 0 0 0 [] [] [] [] [] zs ss vs)) [mj_o (some b)] (n := 4) (Nat.le_of_ble_eq_true rfl))
