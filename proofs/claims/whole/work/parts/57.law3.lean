def CL_state (Inv : Nat → mj_M → Prop) : Prop := ∀ (j : Nat) (M : mj_M) (x1 : Int32) , j < 512 → Inv j M → ∃ (r : Int32) (M1 : mj_M) (m2 : mj_m), f_X10_state x1 M = (r, M1) ∧ f_X11_state x1 (M1 4) = (r, m2) ∧ Inv (j + 1) (va_up M1 4 m2)
def CL_set (Inv : Nat → mj_M → Prop) : Prop := ∀ (j : Nat) (M : mj_M) (x1 x2 : Int32) , j < 512 → Inv j M → ∃ (r : Int32) (M1 : mj_M) (m2 : mj_m), f_X10_set x1 x2 M = some (r, M1) ∧ f_X11_set x1 x2 (M1 4) = some (r, m2) ∧ Inv (j + 1) (va_up M1 4 m2)
def CL_send (Inv : Nat → mj_M → Prop) : Prop := ∀ (j : Nat) (M : mj_M) (x1 : Int32) , j < 512 → Inv j M → ∃ (r : Int32) (M1 : mj_M) (m2 : mj_m), f_X10_send x1 M = some (r, M1) ∧ f_X11_send x1 (M1 4) = some (r, m2) ∧ Inv (j + 1) (va_up M1 4 m2)
def CL_past (Inv : Nat → mj_M → Prop) : Prop := ∀ (j : Nat) (M : mj_M) (x1 : Int32) , j < 512 → Inv j M → ∃ (r : Int32) (M1 : mj_M) (m2 : mj_m), f_X10_past x1 M = some (r, M1) ∧ f_X11_past x1 (M1 4) = some (r, m2) ∧ Inv (j + 1) (va_up M1 4 m2)
def CL_start (Inv : Nat → mj_M → Prop) : Prop := ∀ (j : Nat) (M : mj_M) (x1 x2 : Int32) , j < 512 → Inv j M → ∃ (r : Int32) (M1 : mj_M) (m2 : mj_m), f_X10_start x1 x2 M = some (r, M1) ∧ f_X11_start x1 x2 (M1 4) = some (r, m2) ∧ Inv (j + 1) (va_up M1 4 m2)
def CL_direct (Inv : Nat → mj_M → Prop) : Prop := ∀ (j : Nat) (M : mj_M) (x1 : Int32) , j < 512 → Inv j M → ∃ (r : Int32) (M1 : mj_M) (m2 : mj_m), f_X10_direct x1 M = some (r, M1) ∧ f_X11_direct x1 (M1 4) = some (r, m2) ∧ Inv (j + 1) (va_up M1 4 m2)
def CL_renumber (Inv : Nat → mj_M → Prop) : Prop := ∀ (j : Nat) (M : mj_M) (x1 : Int32) , j < 512 → Inv j M → ∃ (r : Int32) (M1 : mj_M) (m2 : mj_m), f_X10_renumber x1 M = (r, M1) ∧ f_X11_renumber x1 (M1 4) = (r, m2) ∧ Inv (j + 1) (va_up M1 4 m2)
def CL_take (Inv : Nat → mj_M → Prop) : Prop := ∀ (j : Nat) (M : mj_M) , j < 512 → Inv j M → ∃ (r : Int32) (M1 : mj_M) (m2 : mj_m), f_X10_take M = some (r, M1) ∧ f_X11_take (M1 4) = some (r, m2) ∧ Inv (j + 1) (va_up M1 4 m2)
def CL_tick (Inv : Nat → mj_M → Prop) : Prop := ∀ (j : Nat) (M : mj_M) (x1 : Int32) , j < 512 → Inv j M → ∃ (r : Int32) (M1 : mj_M) (m2 : mj_m), f_X10_tick x1 M = some (r, M1) ∧ f_X11_tick x1 (M1 4) = some (r, m2) ∧ Inv (j + 1) (va_up M1 4 m2)
def CL_drop (Inv : Nat → mj_M → Prop) : Prop := ∀ (j : Nat) (M : mj_M) (x1 x2 : Int32) , j < 512 → Inv j M → ∃ (r : Int32) (M1 : mj_M) (m2 : mj_m), f_X10_drop (lb x1) x2 M = some (r, M1) ∧ f_X11_drop (lb x1) x2 (M1 4) = some (r, m2) ∧ Inv (j + 1) (va_up M1 4 m2)
def CL_spoil (Inv : Nat → mj_M → Prop) : Prop := ∀ (j : Nat) (M : mj_M) (x1 x2 x3 x4 : Int32) , j < 512 → Inv j M → ∃ (r : Int32) (M1 : mj_M) (m2 : mj_m), f_X10_spoil (lb x1) x2 x3 x4 M = some (r, M1) ∧ f_X11_spoil (lb x1) x2 x3 x4 (M1 4) = some (r, m2) ∧ Inv (j + 1) (va_up M1 4 m2)
def CL_feed (Inv : Nat → mj_M → Prop) : Prop := ∀ (j : Nat) (M : mj_M) (x1 x2 x3 x4 x5 : Int32) , j < 512 → Inv j M → ∃ (r : Int32) (M1 : mj_M) (m2 : mj_m), f_X10_feed x1 x2 x3 x4 x5 M = some (r, M1) ∧ f_X11_feed x1 x2 x3 x4 x5 (M1 4) = some (r, m2) ∧ Inv (j + 1) (va_up M1 4 m2)
def CL_end (Inv : Nat → mj_M → Prop) : Prop := ∀ (j : Nat) (M : mj_M) (x1 : Int32) , j < 512 → Inv j M → ∃ (r : Int32) (M1 : mj_M) (m2 : mj_m), f_X10_end x1 M = (r, M1) ∧ f_X11_end x1 (M1 4) = (r, m2) ∧ Inv (j + 1) (va_up M1 4 m2)
def CL_plan (Inv : Nat → mj_M → Prop) : Prop := ∀ (j : Nat) (M : mj_M) , j < 512 → Inv j M → ∃ (r : Int32) (M1 : mj_M) (m2 : mj_m), f_X10_plan M = some (r, M1) ∧ f_X11_plan (M1 4) = some (r, m2) ∧ Inv (j + 1) (va_up M1 4 m2)
def CL_fault (Inv : Nat → mj_M → Prop) : Prop := ∀ (j : Nat) (M : mj_M) (x1 : Int32) , j < 512 → Inv j M → ∃ (r : Int32) (m2 : mj_m), f_X10_fault x1 M = r ∧ f_X11_fault x1 (M 4) = (r, m2) ∧ Inv (j + 1) (va_up M 4 m2)
def CL_run (Inv : Nat → mj_M → Prop) : Prop := ∀ (j : Nat) (M : mj_M) (x1 : Int32) , j < 512 → Inv j M → ∃ (r : Int32) (M1 : mj_M) (m2 : mj_m), f_X10_run x1 M = some (r, M1) ∧ f_X11_run x1 (M1 4) = some (r, m2) ∧ Inv (j + 1) (va_up M1 4 m2)
def CL_sender (Inv : Nat → mj_M → Prop) : Prop := ∀ (j : Nat) (M : mj_M) (x1 : Int32) , j < 512 → Inv j M → ∃ (r : Int32) (m2 : mj_m), f_X10_sender x1 M = some r ∧ f_X11_sender x1 (M 4) = some (r, m2) ∧ Inv (j + 1) (va_up M 4 m2)
def CL_receiver (Inv : Nat → mj_M → Prop) : Prop := ∀ (j : Nat) (M : mj_M) (x1 : Int32) , j < 512 → Inv j M → ∃ (r : Int32) (m2 : mj_m), f_X10_receiver x1 M = some r ∧ f_X11_receiver x1 (M 4) = some (r, m2) ∧ Inv (j + 1) (va_up M 4 m2)
def CL_way (Inv : Nat → mj_M → Prop) : Prop := ∀ (j : Nat) (M : mj_M) (x1 x2 x3 : Int32) , j < 512 → Inv j M → ∃ (r : Int32) (m2 : mj_m), f_X10_way (lb x1) x2 x3 M = some r ∧ f_X11_way (lb x1) x2 x3 (M 4) = some (r, m2) ∧ Inv (j + 1) (va_up M 4 m2)
def CL_alarm (Inv : Nat → mj_M → Prop) : Prop := ∀ (j : Nat) (M : mj_M) (x1 : Int32) , j < 512 → Inv j M → ∃ (r : Int32) (m2 : mj_m), f_X10_alarm x1 M = some r ∧ f_X11_alarm x1 (M 4) = some (r, m2) ∧ Inv (j + 1) (va_up M 4 m2)
def CL_told (Inv : Nat → mj_M → Prop) : Prop := ∀ (j : Nat) (M : mj_M) (x1 x2 : Int32) , j < 512 → Inv j M → tt_ok (M 0) ∧ ∃ m2 : mj_m, f_X11_told x1 x2 (M 4) = some (f_told x1 x2 (M 0), m2) ∧ Inv (j + 1) (va_up M 4 m2)
def CL_judge (Inv : Nat → mj_M → Prop) : Prop := ∀ (j : Nat) (M : mj_M) (x1 x2 x3 x4 x5 : Int32) , j < 512 → Inv j M → ∃ (r : Int32) (m2 : mj_m), f_X10_judge x1 x2 x3 x4 x5 = r ∧ f_X11_judge x1 x2 x3 x4 x5 (M 4) = (r, m2) ∧ Inv (j + 1) (va_up M 4 m2)
def CL_verdicts (Inv : Nat → mj_M → Prop) : Prop := ∀ (j : Nat) (M : mj_M) (x1 : Int32) , j < 512 → Inv j M → ∃ (r : Int32) (m2 : mj_m), f_X10_verdicts x1 M = some r ∧ f_X11_verdicts x1 (M 4) = some (r, m2) ∧ Inv (j + 1) (va_up M 4 m2)
def CL_diary (Inv : Nat → mj_M → Prop) : Prop := ∀ (j : Nat) (M : mj_M) (x1 x2 : Int32) , j < 512 → Inv j M → ∃ (r : Int32) (m2 : mj_m), f_X10_diary x1 x2 M = some r ∧ f_X11_diary x1 x2 (M 4) = some (r, m2) ∧ Inv (j + 1) (va_up M 4 m2)
def CL_ledger (Inv : Nat → mj_M → Prop) : Prop := ∀ (j : Nat) (M : mj_M) (x1 x2 : Int32) , j < 512 → Inv j M → ∃ (r : Int32) (m2 : mj_m), f_X10_ledger x1 x2 M = some r ∧ f_X11_ledger x1 x2 (M 4) = some (r, m2) ∧ Inv (j + 1) (va_up M 4 m2)
def CL_delays (Inv : Nat → mj_M → Prop) : Prop := ∀ (j : Nat) (M : mj_M) (x1 : Int32) , j < 512 → Inv j M → ∃ (r : Int32) (m2 : mj_m), f_X10_delays x1 M = some r ∧ f_X11_delays x1 (M 4) = some (r, m2) ∧ Inv (j + 1) (va_up M 4 m2)
def CL_zone (Inv : Nat → mj_M → Prop) : Prop := ∀ (j : Nat) (M : mj_M) (x1 : Int32) , j < 512 → Inv j M → ∃ (r : Int32) (m2 : mj_m), f_X10_zone x1 M = r ∧ f_X11_zone x1 (M 4) = some (r, m2) ∧ Inv (j + 1) (va_up M 4 m2)
def CL_fate (Inv : Nat → mj_M → Prop) : Prop := ∀ (j : Nat) (M : mj_M) (x1 x2 : Int32) , j < 512 → Inv j M → ∃ (r : Int32) (M1 : mj_M) (m2 : mj_m), f_X10_fate (lb x1) x2 M = some (r, M1) ∧ f_X11_fate (lb x1) x2 (M1 4) = some (r, m2) ∧ Inv (j + 1) (va_up M1 4 m2)
def CL_truth (Inv : Nat → mj_M → Prop) : Prop := ∀ (j : Nat) (M : mj_M) (x1 : Int32) , j < 512 → Inv j M → ∃ (r : Int32) (m2 : mj_m), f_X10_truth x1 M = some r ∧ f_X11_truth x1 (M 4) = some (r, m2) ∧ Inv (j + 1) (va_up M 4 m2)
def CL_soon (Inv : Nat → mj_M → Prop) : Prop := ∀ (j : Nat) (M : mj_M) , j < 512 → Inv j M → ∃ (r : Int32) (M1 : mj_M) (m2 : mj_m), f_X10_soon M = some (r, M1) ∧ f_X11_soon (M1 4) = some (r, m2) ∧ Inv (j + 1) (va_up M1 4 m2)
def CL_ways (Inv : Nat → mj_M → Prop) : Prop := ∀ (j : Nat) (M : mj_M) , j < 512 → Inv j M → ∃ (r : Int32) (M1 : mj_M) (m2 : mj_m), f_X10_ways M = some (r, M1) ∧ f_X11_ways (M1 4) = some (r, m2) ∧ Inv (j + 1) (va_up M1 4 m2)
def CL_image (Inv : Nat → mj_M → Prop) : Prop := ∀ (j : Nat) (M : mj_M) (x1 : Int32) , j < 512 → Inv j M → ∃ (r : Int32) (M1 : mj_M) (m2 : mj_m), f_X10_image (lb x1) M = some (r, M1) ∧ f_X11_image (lb x1) (M1 4) = some (r, m2) ∧ Inv (j + 1) (va_up M1 4 m2)
def CL_look (Inv : Nat → mj_M → Prop) : Prop := ∀ (j : Nat) (M : mj_M) (x1 : Int32) , j < 512 → Inv j M → ∃ (r : Int32) (m2 : mj_m), f_X10_look x1 M = some r ∧ f_X11_look x1 (M 4) = some (r, m2) ∧ Inv (j + 1) (va_up M 4 m2)
def CL_all (Inv : Nat → mj_M → Prop) : Prop := (∀ (j : Nat) (M : mj_M), Inv j M → Inv (j + 1) M) ∧ CL_state Inv ∧ CL_set Inv ∧ CL_send Inv ∧ CL_past Inv ∧ CL_start Inv ∧ CL_direct Inv ∧ CL_renumber Inv ∧ CL_take Inv ∧ CL_tick Inv ∧ CL_drop Inv ∧ CL_spoil Inv ∧ CL_feed Inv ∧ CL_end Inv ∧ CL_plan Inv ∧ CL_fault Inv ∧ CL_run Inv ∧ CL_sender Inv ∧ CL_receiver Inv ∧ CL_way Inv ∧ CL_alarm Inv ∧ CL_told Inv ∧ CL_judge Inv ∧ CL_verdicts Inv ∧ CL_diary Inv ∧ CL_ledger Inv ∧ CL_delays Inv ∧ CL_zone Inv ∧ CL_fate Inv ∧ CL_truth Inv ∧ CL_soon Inv ∧ CL_ways Inv ∧ CL_image Inv ∧ CL_look Inv
theorem lw_cmp {i n : Nat} (hn : n ≤ 3072) (hi : i ≤ 4000) : (nI n - 6 < nI i) ↔ n < i + 6 := by
  rw [Int32.lt_iff_toInt_lt, nI_toInt (show i < 2 ^ 31 by omega)]
  have e : (nI n - 6).toInt = (n : Int) - 6 := by
    rw [show (6 : Int32) = nI 6 from rfl, pk_sub_toInt (by omega) (by omega)]
    rfl
  rw [e]
  omega
set_option maxHeartbeats 8000000 in
set_option maxRecDepth 40000 in
theorem law_loop {Inv : Nat → mj_M → Prop} (CL : CL_all Inv) {κ : mj_K} {Q : State → Prop} {b n aS : Nat} {xs : Nat → Int32} (C0 : mj_C κ cL_law 4 RL) (hT0 : mj_isT (mj_g κ)) (hM0 : mj_isM (mj_g κ) 4) (hroom : mj_room κ = room_1) (hX1 : ∀ (Y : va_W) (ce sl : Nat), mj_X (mj_ky κ Y ce sl) b n xs) (hn : n ≤ 3072) (hpa : mj_ad κ (3, 9) = aS) (hend : ∀ (M : mj_M) (Y : va_W) (ce sl j : Nat), ce ≤ 600000 → sl ≤ 7302250 → mj_R (mj_ky κ Y ce sl) Q 1185 [some (mj_o (some b)), some (mj_r (3, 0)), some (mj_r (4, 0)), some (.inl (nI (6 * j)))] [] M) : ∀ (k j : Nat) (M : mj_M) (aV cap : Nat) (f : Nat → Int32) (ml : Int32) (l : List Nat) (ce sl : Nat), n ≤ 6 * (j + k) → j ≤ 512 → ce ≤ 200 + 10 * j → sl ≤ 20000 + 800 * j → Inv j M → txJ l cap f → l.length < 40 → mj_R (mj_ky κ (tx (mj_cI κ) aS aV cap f ml l.length) ce sl) Q 18 [some (mj_o (some b)), some (mj_r (3, 0)), some (mj_r (4, 0)), some (.inl (nI (6 * j)))] [] M := by
  obtain ⟨c_mono, c_state, c_set, c_send, c_past, c_start, c_direct, c_renumber, c_take, c_tick, c_drop, c_spoil, c_feed, c_end, c_plan, c_fault, c_run, c_sender, c_receiver, c_way, c_alarm, c_told, c_judge, c_verdicts, c_diary, c_ledger, c_delays, c_zone, c_fate, c_truth, c_soon, c_ways, c_image, c_look⟩ := CL
  intro k
  induction k with
  | zero =>
    intro j M aV cap f ml l ce sl hk hj hce hsl hI hJ hl
    have C : mj_C (mj_ky κ (tx (mj_cI κ) aS aV cap f ml l.length) ce sl) cL_law 4 RL := mx_C C0 (by rw [hroom]; show ce ≤ 600000; omega) (by rw [hroom]; show sl ≤ 7302250; omega)
    refine mj_iload_n C dL_law_18 rfl ?_
    refine mx_aload_n C dL_law_19 rfl ?_
    refine mx_slen C (hX1 _ _ _) dL_law_20 ?_
    refine mj_bipush (v := 6) C dL_law_21 (by decide) ?_
    refine mj_isub C dL_law_23 ?_
    refine mj_icmp_gt (tgt := 1185) C dL_law_24 (by decide) (fun _ => hend M _ _ _ j (by omega) (by omega)) (fun c => absurd ((lw_cmp hn (by omega)).mpr (by omega)) c)
  | succ k ih =>
    intro j M aV cap f ml l ce sl hk hj hce hsl hI hJ hl
    have C : mj_C (mj_ky κ (tx (mj_cI κ) aS aV cap f ml l.length) ce sl) cL_law 4 RL := mx_C C0 (by rw [hroom]; show ce ≤ 600000; omega) (by rw [hroom]; show sl ≤ 7302250; omega)
    have hX := hX1 (tx (mj_cI κ) aS aV cap f ml l.length) ce sl
    refine mj_iload_n C dL_law_18 rfl ?_
    refine mx_aload_n C dL_law_19 rfl ?_
    refine mx_slen C hX dL_law_20 ?_
    refine mj_bipush (v := 6) C dL_law_21 (by decide) ?_
    refine mj_isub C dL_law_23 ?_
    refine mj_icmp_gt (tgt := 1185) C dL_law_24 (by decide) (fun _ => hend M _ _ _ j (by omega) (by omega)) (fun c => ?_)
    have hi : 6 * j + 6 ≤ n := Nat.not_lt.mp (fun h => c ((lw_cmp hn (by omega)).mpr h))
    have hj' : j < 512 := by omega
    have next : ∀ (M : mj_M) (aV cap : Nat) (f : Nat → Int32) (ml : Int32) (l : List Nat) (ce sl : Nat), ce ≤ 200 + 10 * (j + 1) → sl ≤ 20000 + 800 * (j + 1) → Inv (j + 1) M → txJ l cap f → l.length < 40 → mj_R (mj_ky κ (tx (mj_cI κ) aS aV cap f ml l.length) ce sl) Q 1179 [some (mj_o (some b)), some (mj_r (3, 0)), some (mj_r (4, 0)), some (.inl (nI (6 * j)))] [] M := by
      intro M aV cap f ml l ce sl hce hsl hI hJ hl
      have C : mj_C (mj_ky κ (tx (mj_cI κ) aS aV cap f ml l.length) ce sl) cL_law 4 RL := mx_C C0 (by rw [hroom]; show ce ≤ 600000; omega) (by rw [hroom]; show sl ≤ 7302250; omega)
      refine mj_iinc (v := nI (6 * (j + 1))) (L2 := [some (mj_o (some b)), some (mj_r (3, 0)), some (mj_r (4, 0)), some (.inl (nI (6 * (j + 1))))]) C dL_law_1179 rfl (by rw [show 6 * (j + 1) = 6 * j + 6 by omega, ← nI_add]; rfl) rfl ?_
      refine mj_goto (tgt := 18) C dL_law_1182 (by decide) ?_
      exact ih (j + 1) M aV cap f ml l ce sl (by omega) (by omega) hce hsl hI hJ hl
    refine mx_aload_n C dL_law_27 rfl ?_
    refine mj_iload_n C dL_law_28 rfl ?_
    refine mx_sld C hX (by omega) hn dL_law_29 ?_
    refine mj_bipush (v := 63) C dL_law_30 (by decide) ?_
    refine mj_iand C dL_law_32 ?_
    obtain ⟨op, hop⟩ : ∃ op : Int32, xs (6 * j) &&& 63 = op := ⟨_, rfl⟩
    refine mj_nm hop ?_
    by_cases h0 : op = 0
    · refine mj_tin (off := 147) (tgt := 180) C dL_law_33 (by rw [h0]; decide) (by rw [h0]; decide) (by rw [h0]; decide) (by decide) ?_
      obtain ⟨r, M1, m2, e1, e2, hI2⟩ := c_state j M (xs (6 * j + 1)) hj' hI
      exact LC_state C hT0 hM0 hroom hX hi hn e1 e2 (next _ aV cap f ml l ce sl (by omega) (by omega) hI2 hJ hl)
    by_cases h1 : op = 1
    · refine mj_tin (off := 170) (tgt := 203) C dL_law_33 (by rw [h1]; decide) (by rw [h1]; decide) (by rw [h1]; decide) (by decide) ?_
      obtain ⟨r, M1, m2, e1, e2, hI2⟩ := c_set j M (xs (6 * j + 1)) (xs (6 * j + 2)) hj' hI
      exact LC_set C hT0 hM0 hroom hX hi hn e1 e2 (next _ aV cap f ml l ce sl (by omega) (by omega) hI2 hJ hl)
    by_cases h2 : op = 2
    · refine mj_tin (off := 203) (tgt := 236) C dL_law_33 (by rw [h2]; decide) (by rw [h2]; decide) (by rw [h2]; decide) (by decide) ?_
      obtain ⟨r, M1, m2, e1, e2, hI2⟩ := c_send j M (xs (6 * j + 1)) hj' hI
      exact LC_send C hT0 hM0 hroom hX hi hn e1 e2 (next _ aV cap f ml l ce sl (by omega) (by omega) hI2 hJ hl)
    by_cases h3 : op = 3
    · refine mj_tin (off := 226) (tgt := 259) C dL_law_33 (by rw [h3]; decide) (by rw [h3]; decide) (by rw [h3]; decide) (by decide) ?_
      obtain ⟨r, M1, m2, e1, e2, hI2⟩ := c_past j M (xs (6 * j + 1)) hj' hI
      exact LC_past C hT0 hM0 hroom hX hi hn e1 e2 (next _ aV cap f ml l ce sl (by omega) (by omega) hI2 hJ hl)
    by_cases h4 : op = 4
    · refine mj_tin (off := 249) (tgt := 282) C dL_law_33 (by rw [h4]; decide) (by rw [h4]; decide) (by rw [h4]; decide) (by decide) ?_
      obtain ⟨r, M1, m2, e1, e2, hI2⟩ := c_start j M (xs (6 * j + 1)) (xs (6 * j + 2)) hj' hI
      exact LC_start C hT0 hM0 hroom hX hi hn e1 e2 (next _ aV cap f ml l ce sl (by omega) (by omega) hI2 hJ hl)
    by_cases h5 : op = 5
    · refine mj_tin (off := 282) (tgt := 315) C dL_law_33 (by rw [h5]; decide) (by rw [h5]; decide) (by rw [h5]; decide) (by decide) ?_
      obtain ⟨r, M1, m2, e1, e2, hI2⟩ := c_direct j M (xs (6 * j + 1)) hj' hI
      exact LC_direct C hT0 hM0 hroom hX hi hn e1 e2 (next _ aV cap f ml l ce sl (by omega) (by omega) hI2 hJ hl)
    by_cases h6 : op = 6
    · refine mj_tin (off := 305) (tgt := 338) C dL_law_33 (by rw [h6]; decide) (by rw [h6]; decide) (by rw [h6]; decide) (by decide) ?_
      obtain ⟨r, M1, m2, e1, e2, hI2⟩ := c_renumber j M (xs (6 * j + 1)) hj' hI
      exact LC_renumber C hT0 hM0 hroom hX hi hn e1 e2 (next _ aV cap f ml l ce sl (by omega) (by omega) hI2 hJ hl)
    by_cases h7 : op = 7
    · refine mj_tin (off := 328) (tgt := 361) C dL_law_33 (by rw [h7]; decide) (by rw [h7]; decide) (by rw [h7]; decide) (by decide) ?_
      obtain ⟨r, M1, m2, e1, e2, hI2⟩ := c_take j M hj' hI
      exact LC_take C hT0 hM0 hroom hX hi hn e1 e2 (next _ aV cap f ml l ce sl (by omega) (by omega) hI2 hJ hl)
    by_cases h8 : op = 8
    · refine mj_tin (off := 341) (tgt := 374) C dL_law_33 (by rw [h8]; decide) (by rw [h8]; decide) (by rw [h8]; decide) (by decide) ?_
      obtain ⟨r, M1, m2, e1, e2, hI2⟩ := c_tick j M (xs (6 * j + 1)) hj' hI
      exact LC_tick C hT0 hM0 hroom hX hi hn e1 e2 (next _ aV cap f ml l ce sl (by omega) (by omega) hI2 hJ hl)
    by_cases h9 : op = 9
    · refine mj_tin (off := 364) (tgt := 397) C dL_law_33 (by rw [h9]; decide) (by rw [h9]; decide) (by rw [h9]; decide) (by decide) ?_
      obtain ⟨r, M1, m2, e1, e2, hI2⟩ := c_drop j M (xs (6 * j + 1)) (xs (6 * j + 2)) hj' hI
      exact LC_drop C hT0 hM0 hroom hX hi hn e1 e2 (next _ aV cap f ml l ce sl (by omega) (by omega) hI2 hJ hl)
    by_cases h10 : op = 10
    · refine mj_tin (off := 413) (tgt := 446) C dL_law_33 (by rw [h10]; decide) (by rw [h10]; decide) (by rw [h10]; decide) (by decide) ?_
      obtain ⟨r, M1, m2, e1, e2, hI2⟩ := c_spoil j M (xs (6 * j + 1)) (xs (6 * j + 2)) (xs (6 * j + 3)) (xs (6 * j + 4)) hj' hI
      exact LC_spoil C hT0 hM0 hroom hX hi hn e1 e2 (next _ aV cap f ml l ce sl (by omega) (by omega) hI2 hJ hl)
    by_cases h11 : op = 11
    · refine mj_tin (off := 482) (tgt := 515) C dL_law_33 (by rw [h11]; decide) (by rw [h11]; decide) (by rw [h11]; decide) (by decide) ?_
      obtain ⟨r, M1, m2, e1, e2, hI2⟩ := c_feed j M (xs (6 * j + 1)) (xs (6 * j + 2)) (xs (6 * j + 3)) (xs (6 * j + 4)) (xs (6 * j + 5)) hj' hI
      exact LC_feed C hT0 hM0 hroom hX hi hn e1 e2 (next _ aV cap f ml l ce sl (by omega) (by omega) hI2 hJ hl)
    by_cases h12 : op = 12
    · refine mj_tin (off := 545) (tgt := 578) C dL_law_33 (by rw [h12]; decide) (by rw [h12]; decide) (by rw [h12]; decide) (by decide) ?_
      obtain ⟨r, M1, m2, e1, e2, hI2⟩ := c_end j M (xs (6 * j + 1)) hj' hI
      exact LC_end C hT0 hM0 hroom hX hi hn e1 e2 (next _ aV cap f ml l ce sl (by omega) (by omega) hI2 hJ hl)
    by_cases h13 : op = 13
    · refine mj_tin (off := 568) (tgt := 601) C dL_law_33 (by rw [h13]; decide) (by rw [h13]; decide) (by rw [h13]; decide) (by decide) ?_
      obtain ⟨r, M1, m2, e1, e2, hI2⟩ := c_plan j M hj' hI
      exact LC_plan C hT0 hM0 hroom hX hi hn e1 e2 (next _ aV cap f ml l ce sl (by omega) (by omega) hI2 hJ hl)
    by_cases h14 : op = 14
    · refine mj_tin (off := 581) (tgt := 614) C dL_law_33 (by rw [h14]; decide) (by rw [h14]; decide) (by rw [h14]; decide) (by decide) ?_
      obtain ⟨r, m2, e1, e2, hI2⟩ := c_fault j M (xs (6 * j + 1)) hj' hI
      exact LC_fault (M1 := M) C hT0 hM0 hroom hX hi hn e1 e2 (next _ aV cap f ml l ce sl (by omega) (by omega) hI2 hJ hl)
    by_cases h15 : op = 15
    · refine mj_tin (off := 604) (tgt := 637) C dL_law_33 (by rw [h15]; decide) (by rw [h15]; decide) (by rw [h15]; decide) (by decide) ?_
      obtain ⟨r, M1, m2, e1, e2, hI2⟩ := c_run j M (xs (6 * j + 1)) hj' hI
      exact LC_run C hT0 hM0 hroom hX hi hn e1 e2 (next _ aV cap f ml l ce sl (by omega) (by omega) hI2 hJ hl)
    by_cases h16 : op = 16
    · refine mj_tin (off := 627) (tgt := 660) C dL_law_33 (by rw [h16]; decide) (by rw [h16]; decide) (by rw [h16]; decide) (by decide) ?_
      obtain ⟨r, m2, e1, e2, hI2⟩ := c_sender j M (xs (6 * j + 1)) hj' hI
      exact LC_sender (M1 := M) C hT0 hM0 hroom hX hi hn e1 e2 (next _ aV cap f ml l ce sl (by omega) (by omega) hI2 hJ hl)
    by_cases h17 : op = 17
    · refine mj_tin (off := 650) (tgt := 683) C dL_law_33 (by rw [h17]; decide) (by rw [h17]; decide) (by rw [h17]; decide) (by decide) ?_
      obtain ⟨r, m2, e1, e2, hI2⟩ := c_receiver j M (xs (6 * j + 1)) hj' hI
      exact LC_receiver (M1 := M) C hT0 hM0 hroom hX hi hn e1 e2 (next _ aV cap f ml l ce sl (by omega) (by omega) hI2 hJ hl)
    by_cases h18 : op = 18
    · refine mj_tin (off := 673) (tgt := 706) C dL_law_33 (by rw [h18]; decide) (by rw [h18]; decide) (by rw [h18]; decide) (by decide) ?_
      obtain ⟨r, m2, e1, e2, hI2⟩ := c_way j M (xs (6 * j + 1)) (xs (6 * j + 2)) (xs (6 * j + 3)) hj' hI
      exact LC_way (M1 := M) C hT0 hM0 hroom hX hi hn e1 e2 (next _ aV cap f ml l ce sl (by omega) (by omega) hI2 hJ hl)
    by_cases h19 : op = 19
    · refine mj_tin (off := 732) (tgt := 765) C dL_law_33 (by rw [h19]; decide) (by rw [h19]; decide) (by rw [h19]; decide) (by decide) ?_
      obtain ⟨r, m2, e1, e2, hI2⟩ := c_alarm j M (xs (6 * j + 1)) hj' hI
      exact LC_alarm (M1 := M) C hT0 hM0 hroom hX hi hn e1 e2 (next _ aV cap f ml l ce sl (by omega) (by omega) hI2 hJ hl)
    by_cases h20 : op = 20
    · refine mj_tin (off := 755) (tgt := 788) C dL_law_33 (by rw [h20]; decide) (by rw [h20]; decide) (by rw [h20]; decide) (by decide) ?_
      obtain ⟨ho, m2, e2, hI2⟩ := c_told j M (xs (6 * j + 1)) (xs (6 * j + 2)) hj' hI
      exact LC_told C hT0 hM0 hroom hX hi hn C0 hX1 hpa (by omega) (by omega) ho hJ hl e2 (fun aV cap f ml l hJ hl => next _ aV cap f ml l _ _ (by omega) (by omega) hI2 hJ hl)
    by_cases h21 : op = 21
    · refine mj_tin (off := 788) (tgt := 821) C dL_law_33 (by rw [h21]; decide) (by rw [h21]; decide) (by rw [h21]; decide) (by decide) ?_
      obtain ⟨r, m2, e1, e2, hI2⟩ := c_judge j M (xs (6 * j + 1)) (xs (6 * j + 2)) (xs (6 * j + 3)) (xs (6 * j + 4)) (xs (6 * j + 5)) hj' hI
      exact LC_judge (M1 := M) C hT0 hM0 hroom hX hi hn e1 e2 (next _ aV cap f ml l ce sl (by omega) (by omega) hI2 hJ hl)
    by_cases h22 : op = 22
    · refine mj_tin (off := 851) (tgt := 884) C dL_law_33 (by rw [h22]; decide) (by rw [h22]; decide) (by rw [h22]; decide) (by decide) ?_
      obtain ⟨r, m2, e1, e2, hI2⟩ := c_verdicts j M (xs (6 * j + 1)) hj' hI
      exact LC_verdicts (M1 := M) C hT0 hM0 hroom hX hi hn e1 e2 (next _ aV cap f ml l ce sl (by omega) (by omega) hI2 hJ hl)
    by_cases h23 : op = 23
    · refine mj_tin (off := 874) (tgt := 907) C dL_law_33 (by rw [h23]; decide) (by rw [h23]; decide) (by rw [h23]; decide) (by decide) ?_
      obtain ⟨r, m2, e1, e2, hI2⟩ := c_diary j M (xs (6 * j + 1)) (xs (6 * j + 2)) hj' hI
      exact LC_diary (M1 := M) C hT0 hM0 hroom hX hi hn e1 e2 (next _ aV cap f ml l ce sl (by omega) (by omega) hI2 hJ hl)
    by_cases h24 : op = 24
    · refine mj_tin (off := 907) (tgt := 940) C dL_law_33 (by rw [h24]; decide) (by rw [h24]; decide) (by rw [h24]; decide) (by decide) ?_
      obtain ⟨r, m2, e1, e2, hI2⟩ := c_ledger j M (xs (6 * j + 1)) (xs (6 * j + 2)) hj' hI
      exact LC_ledger (M1 := M) C hT0 hM0 hroom hX hi hn e1 e2 (next _ aV cap f ml l ce sl (by omega) (by omega) hI2 hJ hl)
    by_cases h25 : op = 25
    · refine mj_tin (off := 940) (tgt := 973) C dL_law_33 (by rw [h25]; decide) (by rw [h25]; decide) (by rw [h25]; decide) (by decide) ?_
      obtain ⟨r, m2, e1, e2, hI2⟩ := c_delays j M (xs (6 * j + 1)) hj' hI
      exact LC_delays (M1 := M) C hT0 hM0 hroom hX hi hn e1 e2 (next _ aV cap f ml l ce sl (by omega) (by omega) hI2 hJ hl)
    by_cases h26 : op = 26
    · refine mj_tin (off := 963) (tgt := 996) C dL_law_33 (by rw [h26]; decide) (by rw [h26]; decide) (by rw [h26]; decide) (by decide) ?_
      obtain ⟨r, m2, e1, e2, hI2⟩ := c_zone j M (xs (6 * j + 1)) hj' hI
      exact LC_zone (M1 := M) C hT0 hM0 hroom hX hi hn e1 e2 (next _ aV cap f ml l ce sl (by omega) (by omega) hI2 hJ hl)
    by_cases h27 : op = 27
    · refine mj_tin (off := 986) (tgt := 1019) C dL_law_33 (by rw [h27]; decide) (by rw [h27]; decide) (by rw [h27]; decide) (by decide) ?_
      obtain ⟨r, M1, m2, e1, e2, hI2⟩ := c_fate j M (xs (6 * j + 1)) (xs (6 * j + 2)) hj' hI
      exact LC_fate C hT0 hM0 hroom hX hi hn e1 e2 (next _ aV cap f ml l ce sl (by omega) (by omega) hI2 hJ hl)
    by_cases h28 : op = 28
    · refine mj_tin (off := 1035) (tgt := 1068) C dL_law_33 (by rw [h28]; decide) (by rw [h28]; decide) (by rw [h28]; decide) (by decide) ?_
      obtain ⟨r, m2, e1, e2, hI2⟩ := c_truth j M (xs (6 * j + 1)) hj' hI
      exact LC_truth (M1 := M) C hT0 hM0 hroom hX hi hn e1 e2 (next _ aV cap f ml l ce sl (by omega) (by omega) hI2 hJ hl)
    by_cases h29 : op = 29
    · refine mj_tin (off := 1058) (tgt := 1091) C dL_law_33 (by rw [h29]; decide) (by rw [h29]; decide) (by rw [h29]; decide) (by decide) ?_
      obtain ⟨r, M1, m2, e1, e2, hI2⟩ := c_soon j M hj' hI
      exact LC_soon C hT0 hM0 hroom hX hi hn e1 e2 (next _ aV cap f ml l ce sl (by omega) (by omega) hI2 hJ hl)
    by_cases h30 : op = 30
    · refine mj_tin (off := 1071) (tgt := 1104) C dL_law_33 (by rw [h30]; decide) (by rw [h30]; decide) (by rw [h30]; decide) (by decide) ?_
      obtain ⟨r, M1, m2, e1, e2, hI2⟩ := c_ways j M hj' hI
      exact LC_ways C hT0 hM0 hroom hX hi hn e1 e2 (next _ aV cap f ml l ce sl (by omega) (by omega) hI2 hJ hl)
    by_cases h31 : op = 31
    · refine mj_tin (off := 1084) (tgt := 1117) C dL_law_33 (by rw [h31]; decide) (by rw [h31]; decide) (by rw [h31]; decide) (by decide) ?_
      obtain ⟨r, M1, m2, e1, e2, hI2⟩ := c_image j M (xs (6 * j + 1)) hj' hI
      exact LC_image C hT0 hM0 hroom hX hi hn e1 e2 (next _ aV cap f ml l ce sl (by omega) (by omega) hI2 hJ hl)
    by_cases h32 : op = 32
    · refine mj_tin (off := 1123) (tgt := 1156) C dL_law_33 (by rw [h32]; decide) (by rw [h32]; decide) (by rw [h32]; decide) (by decide) ?_
      obtain ⟨r, m2, e1, e2, hI2⟩ := c_look j M (xs (6 * j + 1)) hj' hI
      exact LC_look (M1 := M) C hT0 hM0 hroom hX hi hn e1 e2 (next _ aV cap f ml l ce sl (by omega) (by omega) hI2 hJ hl)
    refine mj_tout (tgt := 1179) C dL_law_33 (by have := mj_neL 0 (by decide) h0; have := mj_neL 1 (by decide) h1; have := mj_neL 2 (by decide) h2; have := mj_neL 3 (by decide) h3; have := mj_neL 4 (by decide) h4; have := mj_neL 5 (by decide) h5; have := mj_neL 6 (by decide) h6; have := mj_neL 7 (by decide) h7; have := mj_neL 8 (by decide) h8; have := mj_neL 9 (by decide) h9; have := mj_neL 10 (by decide) h10; have := mj_neL 11 (by decide) h11; have := mj_neL 12 (by decide) h12; have := mj_neL 13 (by decide) h13; have := mj_neL 14 (by decide) h14; have := mj_neL 15 (by decide) h15; have := mj_neL 16 (by decide) h16; have := mj_neL 17 (by decide) h17; have := mj_neL 18 (by decide) h18; have := mj_neL 19 (by decide) h19; have := mj_neL 20 (by decide) h20; have := mj_neL 21 (by decide) h21; have := mj_neL 22 (by decide) h22; have := mj_neL 23 (by decide) h23; have := mj_neL 24 (by decide) h24; have := mj_neL 25 (by decide) h25; have := mj_neL 26 (by decide) h26; have := mj_neL 27 (by decide) h27; have := mj_neL 28 (by decide) h28; have := mj_neL 29 (by decide) h29; have := mj_neL 30 (by decide) h30; have := mj_neL 31 (by decide) h31; have := mj_neL 32 (by decide) h32; omega) (by decide) ?_
    exact next M aV cap f ml l ce sl (by omega) (by omega) (c_mono j M hI) hJ hl
