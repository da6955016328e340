/-! the table is followed -/
theorem sd_go {V h x w : Int32} {m : mj_m} (c : V = 1 ∨ (h = 2 ∧ ¬ V = 7)) : f_X11_isSaid V h x w m = mj_b1 (f_X11_sentGo x m) (fun m37 => f_X11_isSaid_J21 V h x w m37) := by
  unfold f_X11_isSaid f_X11_isSaid_J16
  by_cases z : V = 1
  · rw [if_pos z]
  · rw [if_neg z]
    obtain ⟨c1, c2⟩ := c.resolve_left z
    rw [if_pos c1, if_neg c2]
theorem sd_no {V h x w : Int32} {m : mj_m} (c : ¬ V = 1) (c2 : ¬ h = 2 ∨ V = 7) : f_X11_isSaid V h x w m = f_X11_isSaid_J21 V h x w m := by
  unfold f_X11_isSaid
  rw [if_neg c]
  by_cases z : h = 2
  · rw [if_pos z, if_pos (c2.resolve_left (fun y => y z))]
  · rw [if_neg z]
theorem t158 {V x : Int32} {m : mj_m} (h : ¬ 6 ≤ V) : f_X11_isSaid_J158 V x m = some (mj_wrs m 1 23 x) := by
  unfold f_X11_isSaid_J158
  rw [if_neg h, lts]
theorem t158' {V x : Int32} {m : mj_m} (h : 6 ≤ V) : f_X11_isSaid_J158 V x m = some m := by
  unfold f_X11_isSaid_J158
  rw [if_pos h]
theorem t147 {V x : Int32} {m : mj_m} (h : ¬ V = 8) : f_X11_isSaid_J147 V x m = f_X11_isSaid_J158 V x m := by
  unfold f_X11_isSaid_J147
  rw [if_neg h]
theorem t136 {V x : Int32} {m : mj_m} (h : ¬ V = 7) : f_X11_isSaid_J136 V x m = f_X11_isSaid_J147 V x m := by
  unfold f_X11_isSaid_J136
  rw [if_neg h]
theorem t125 {V x : Int32} {m : mj_m} (h : ¬ V = 6) : f_X11_isSaid_J125 V x m = f_X11_isSaid_J136 V x m := by
  unfold f_X11_isSaid_J125
  rw [if_neg h]
theorem t115 {V x : Int32} {m : mj_m} (h : ¬ V = 5) : f_X11_isSaid_J115 V x m = f_X11_isSaid_J125 V x m := by
  unfold f_X11_isSaid_J115
  rw [if_neg h]
theorem t105 {V x : Int32} {m : mj_m} (h : ¬ V = 4) : f_X11_isSaid_J105 V x m = f_X11_isSaid_J115 V x m := by
  unfold f_X11_isSaid_J105
  rw [if_neg h]
theorem t69 {V h x w : Int32} {m : mj_m} (k : ¬ V = 3) : f_X11_isSaid_J69 V h x w m = f_X11_isSaid_J105 V x m := by
  unfold f_X11_isSaid_J69
  rw [if_neg k]
theorem t39 {V h x w : Int32} {m : mj_m} (k : ¬ V = 2) : f_X11_isSaid_J39 V h x w m = f_X11_isSaid_J69 V h x w m := by
  unfold f_X11_isSaid_J39
  rw [if_neg k]
theorem t21 {V h x w : Int32} {m : mj_m} (k : ¬ V = 1) : f_X11_isSaid_J21 V h x w m = f_X11_isSaid_J39 V h x w m := by
  unfold f_X11_isSaid_J21
  rw [if_neg k]
/-- from 105 on, none of 4 .. 8 -/
theorem t105n {V x : Int32} {m : mj_m} (h : V < 4) : f_X11_isSaid_J105 V x m = some (mj_wrs m 1 23 x) := by
  rw [t105 (by grind), t115 (by grind), t125 (by grind), t136 (by grind), t147 (by grind), t158 (by grind)]
theorem sd0 {h x w : Int32} {m : mj_m} : f_X11_isSaid_J21 0 h x w m = some (mj_wrs m 1 23 x) := by
  rw [t21 (by decide), t39 (by decide), t69 (by decide), t105n (by decide)]
theorem sd1 {h x w : Int32} {m m1 : mj_m} (k : f_X11_becomes 1 m = some m1) : f_X11_isSaid_J21 1 h x w m = some (mj_wrs (mj_wrs m1 1 31 0) 1 23 x) := by
  unfold f_X11_isSaid_J21
  rw [if_pos rfl, k, b1s, lts, t39 (by decide), t69 (by decide), t105n (by decide)]
theorem sd2 {h x w : Int32} {m m1 : mj_m} (k : f_X11_becomes 1 m = some m1) : f_X11_isSaid_J21 2 h x w m = some (mj_wrs (mj_wrs (mj_wrs m1 1 30 1) 1 31 (m1 1 4 + 12)) 1 23 x) := by
  rw [t21 (by decide)]
  unfold f_X11_isSaid_J39
  rw [if_pos rfl, k, b1s, lts, set4, b1s, lts, wr_e (Or.inr (by decide)), t69 (by decide), t105n (by decide)]
theorem sd3 {h x w : Int32} {m m1 m2 : mj_m} (k : f_X11_marks (if h = 2 then mj_wrs m 1 30 0 else m) = some m1) (k2 : f_X11_becomes (if w = 0 then 2 else 3) m1 = some m2) : f_X11_isSaid_J21 3 h x w m = some (mj_wrs m2 1 23 x) := by
  rw [t21 (by decide), t39 (by decide)]
  have e : f_X11_isSaid_J69 3 h x w m = f_X11_isSaid_J87 3 x w (if h = 2 then mj_wrs m 1 30 0 else m) := by
    unfold f_X11_isSaid_J69
    rw [if_pos rfl]
    by_cases z : h = 2
    · rw [if_pos z, if_pos z, lts]
    · rw [if_neg z, if_neg z]
  rw [e]
  unfold f_X11_isSaid_J87 f_X11_isSaid_J102
  rw [k, b1s]
  by_cases z : w = 0
  · rw [if_pos z] at k2 ⊢
    rw [k2, b1s, t105n (by decide)]
  · rw [if_neg z] at k2 ⊢
    rw [k2, b1s, t105n (by decide)]
theorem sd4 {h x w : Int32} {m m1 : mj_m} (k : f_X11_becomes 3 m = some m1) : f_X11_isSaid_J21 4 h x w m = some (mj_wrs m1 1 23 x) := by
  rw [t21 (by decide), t39 (by decide), t69 (by decide)]
  unfold f_X11_isSaid_J105
  rw [if_pos rfl, k, b1s, t115 (by decide), t125 (by decide), t136 (by decide), t147 (by decide), t158 (by decide)]
theorem sd5 {h x w : Int32} {m m1 : mj_m} (k : f_X11_becomes 2 m = some m1) : f_X11_isSaid_J21 5 h x w m = some (mj_wrs m1 1 23 x) := by
  rw [t21 (by decide), t39 (by decide), t69 (by decide), t105 (by decide)]
  unfold f_X11_isSaid_J115
  rw [if_pos rfl, k, b1s, t125 (by decide), t136 (by decide), t147 (by decide), t158 (by decide)]
theorem sd6 {h x w : Int32} {m m1 : mj_m} (k : f_X11_alarms 5 m = some m1) : f_X11_isSaid_J21 6 h x w m = some m1 := by
  rw [t21 (by decide), t39 (by decide), t69 (by decide), t105 (by decide), t115 (by decide)]
  unfold f_X11_isSaid_J125
  rw [if_pos rfl, k, b1s, t136 (by decide), t147 (by decide), t158' (by decide)]
theorem sd7 {h x w : Int32} {m m1 : mj_m} (k : f_X11_alarms 4 m = some m1) : f_X11_isSaid_J21 7 h x w m = some m1 := by
  rw [t21 (by decide), t39 (by decide), t69 (by decide), t105 (by decide), t115 (by decide), t125 (by decide)]
  unfold f_X11_isSaid_J136
  rw [if_pos rfl, k, b1s, t147 (by decide), t158' (by decide)]
theorem sd8 {h x w : Int32} {m m1 : mj_m} (k : f_X11_alarms 2 m = some m1) : f_X11_isSaid_J21 8 h x w m = some m1 := by
  rw [t21 (by decide), t39 (by decide), t69 (by decide), t105 (by decide), t115 (by decide), t125 (by decide), t136 (by decide)]
  unfold f_X11_isSaid_J147
  rw [if_pos rfl, k, b1s, t158' (by decide)]
/-- the class's last step -/
theorem J163e {y V : Int32} {l l1 : mj_m} {B : Int32} (hB : f_X8_machineBehind V (if y &&& 2 = 0 then 0 else 1) l = B) (hc : f_X1_change (l 17 6) B l = some (B, l1)) : f_X8_followTable_J163 y V l = some (mj_wrs l1 17 6 B) := by
  unfold f_X8_followTable_J163
  by_cases z : y &&& 2 = 0
  · rw [if_pos z] at hB ⊢
    rw [lts, hB, hc, b2s, lts]
  · rw [if_neg z] at hB ⊢
    rw [lts, hB, hc, b2s, lts]
theorem mb (V s : Int32) (l : mj_m) : f_X8_machineBehind V s l = if V = 1 then 1 else if V = 2 then 1 else if V = 3 then (if s = 0 then 2 else 3) else if V = 4 then 3 else if V = 5 then 2 else l 17 6 := by
  unfold f_X8_machineBehind
  rfl
/-- only numbers of the machine, marks and the diary are other; it is one of the three that move -/
theorem said_fin {l l' : mj_m} {n n' pl : Nat → Int32} {pm : PM} {e u v T : Nat} {A x : Int32} (h : I_lwc l n pl pm e u v T) (hA : A = 1 ∨ A = 2 ∨ A = 3) (hx : rg 0 x 255) (hx2 : x = (n 22 - n 25) &&& 255) (held : l 17 11 = 0) (hl : ∀ k, k ≠ 5 ∧ k ≠ 6 ∧ k ≠ 17 ∧ k ≠ 27 → l' k = l k) (h5 : ∀ j, j ≠ 2 → l' 5 j = l 5 j) (hD : D_ok l' n') (l17 : ∀ j, j ≠ 6 → j ≠ 8 → j ≠ 9 → j ≠ 10 → l' 17 j = l 17 j) (k6 : l' 17 6 = A) (n21 : n' 21 = A - 6) (k8 : l' 17 8 = x) (n23 : n' 23 = x) (k9 : l' 17 9 = n' 30) (k10 : l' 17 10 = n' 31) (r31 : rg 0 (n' 31) 99) (hmk : ∀ i, i < mj_cl (n 25) → l' 27 i = n' (86 + i) ∧ rg 0 (n' (86 + i)) 1) (hn : ∀ s, s ≠ 21 ∧ s ≠ 23 ∧ s ≠ 30 ∧ s ≠ 31 ∧ s ≠ 34 ∧ (s < 86 ∨ 105 < s) ∧ (s < 179 ∨ 418 < s) → n' s = n s) : I_lk0 l' n' pl pm e u v T := by
  have g := h
  obtain ⟨-, -, ⟨g_mach, -, -, -, g_dir, g_rep⟩, -⟩ := g
  obtain ⟨-, ⟨p2, p2r⟩, -, -, -, ⟨p6, p6r⟩, p7⟩ := g_mach
  refine snd_fin h hl h5 hD ?_ ?_ ?_ ?_ hmk (fun s hs => hn s (by omega))
  · unfold I_mach
    rw [k6, n21, l17 7 (by decide) (by decide) (by decide) (by decide), hn 22 (by omega), k8, n23, k9, k10, l17 11 (by decide) (by decide) (by decide) (by decide), hn 32 (by omega), l17 15 (by decide) (by decide) (by decide) (by decide), hn 39 (by omega)]
    refine ⟨⟨by grind, ?_⟩, ⟨p2, p2r⟩, ⟨rfl, hx⟩, rfl, ⟨rfl, r31⟩, ⟨p6, p6r⟩, p7⟩
    rcases hA with rfl | rfl | rfl <;> exact ⟨by decide, by decide⟩
  · unfold I_dir at g_dir ⊢
    obtain ⟨q1, q2, q3, q4⟩ := g_dir
    rw [k6, l17 11 (by decide) (by decide) (by decide) (by decide), l17 12 (by decide) (by decide) (by decide) (by decide), l17 13 (by decide) (by decide) (by decide) (by decide), hn 26 (by omega), hn 27 (by omega), held]
    have a5 : ¬ A = 5 := by rcases hA with rfl | rfl | rfl <;> decide
    refine ⟨q1, fun z => absurd z a5, q3, fun z => ?_⟩
    rcases z with z | z
    · exact absurd z a5
    · exact absurd z (by decide)
  · exact I_rep_cg g_rep (l17 14 (by decide) (by decide) (by decide) (by decide)) (hn 45 (by omega)) (hn 46 (by omega)) (hn 47 (by omega))
  · unfold I_st
    rw [k6, l17 11 (by decide) (by decide) (by decide) (by decide), held, n23, hn 22 (by omega), hn 25 (by omega)]
    refine ⟨fun z => absurd rfl z, fun _ => hx2, fun z => ?_, fun z => ?_⟩
    · exfalso
      rcases hA with rfl | rfl | rfl <;> exact absurd z (by decide)
    · exfalso
      rcases hA with rfl | rfl | rfl <;> exact absurd z (by decide)
theorem note_pair {l m : mj_m} {pl : Nat → Int32} {pm : PM} {e u v T : Nat} (h : I_lk0 l (m 1) pl pm e u v T) {k : Nat} (hk : k < 9) : f_X1_noteVerdict (nI k) l = some (mj_wrs l 8 k (l 8 k + 1)) ∧ f_X11_more (110 + nI k) m = some (mj_wrs m 1 (110 + k) (m 1 (110 + k) + 1)) ∧ I_lk0 (mj_wrs l 8 k (l 8 k + 1)) (mj_wrs m 1 (110 + k) (m 1 (110 + k) + 1) 1) pl pm e u v T := by
  refine ⟨?_, ?_, ?_⟩
  · unfold f_X1_noteVerdict
    rw [if_neg (nI_pos (by omega)), if_neg (show ¬ (9 : Int32) ≤ nI k from nI_ge (b := 9) hk (by decide)), chk_t (okI hk (by decide)), chk_t (okI hk (by decide)), clI (by omega), lts]
  · rw [show (110 : Int32) + nI k = nI (110 + k) from nI_add 110 k, more_eq (by omega)]
  · obtain ⟨⟨g_set, g_rng, g_tick⟩, g_rec, ⟨g_mach, g_line, g_sent, g_pass, g_dir, g_rep, g_st⟩, g_led, g_dia, g_plan⟩ := h
    have hl : ∀ p, p ≠ 8 → mj_wrs l 8 k (l 8 k + 1) p = l p := fun p hp => wr_row _ _ _ _ _ hp
    have hn : ∀ s, s < 110 ∨ 118 < s → mj_wrs m 1 (110 + k) (m 1 (110 + k) + 1) 1 s = m 1 s := fun s hs => wr_e (Or.inr (by omega))
    refine ⟨⟨I_set_cg g_set (by rw [hl 1 (by omega)]) (hl 2 (by omega)) (hn 12 (by omega)) (fun s _ => hn s (by omega)), I_rng_cg g_rng (hl 2 (by omega)), I_tick_cg g_tick (by rw [hl 1 (by omega)]) (hn 11 (by omega))⟩, I_rec_cg (I_rec_mono g_rec) (fun k _ _ => hl k (by omega)) (hn 38 (by omega)) (fun s _ _ => hn s (by omega)) (fun s _ _ => hn s (by omega)) (fun s _ _ => hn s (by omega)), ⟨I_mach_cg g_mach (fun _ _ => by rw [hl 17 (by omega)]) (fun s _ => hn s (by omega)), I_line_cg g_line (by rw [hl 18 (by omega)]) (hl 19 (by omega)) (hl 21 (by omega)) (hn 24 (by omega)) (hn 40 (by omega)) (fun s _ _ => hn s (by omega)), I_sent_cg g_sent (fun k _ _ => hl k (by omega)) (hn 22 (by omega)) (hn 24 (by omega)) (hn 25 (by omega)) (hn 40 (by omega)) (fun s _ _ => hn s (by omega)), I_pass_cg g_pass (by rw [hl 28 (by omega)]) (hl 29 (by omega)) (hn 29 (by omega)) (fun s _ _ => hn s (by omega)), I_dir_cg g_dir (fun _ _ => by rw [hl 17 (by omega)]) (fun s _ => hn s (by omega)), I_rep_cg g_rep (by rw [hl 17 (by omega)]) (hn 45 (by omega)) (hn 46 (by omega)) (hn 47 (by omega)), I_st_cg g_st (by rw [hl 17 (by omega)]) (by rw [hl 17 (by omega)]) (hn 31 (by omega)) (fun s _ _ => hn s (by omega))⟩, I_led_cg (I_led_mono g_led) (fun _ _ => by rw [hl 3 (by omega)]) (hl 4 (by omega)) (hl 46 (by omega)) (hn 11 (by omega)) (hn 19 (by omega)) (hn 24 (by omega)) (hn 25 (by omega)) (hn 40 (by omega)) (fun s _ _ => hn s (by omega)), ?_, I_plan_cg g_plan (fun k _ _ => hl k (by omega)) (hn 49 (by omega))⟩
    obtain ⟨⟨d0, d0', d0''⟩, ⟨d2, d3, d4⟩, d5, d6⟩ := g_dia
    rw [I_dia]
    refine ⟨⟨?_, ?_, fun i hi => ?_⟩, ⟨?_, ?_, fun i hi h6 => ?_⟩, ?_, fun q hq => ?_⟩
    · rw [hl 5 (by decide), hn 34 (by omega)]
      exact d0
    · rw [hn 34 (by omega)]
      exact d0'
    · rw [hn 34 (by omega)] at hi
      rw [hl 6 (by decide), hn _ (by omega)]
      exact d0'' i hi
    · rw [hl 5 (by decide), hn 33 (by omega)]
      exact d2
    · rw [hn 33 (by omega)]
      exact d3
    · rw [hn 33 (by omega)] at hi
      rw [hl 7 (by decide), hn _ (by omega)]
      exact d4 i hi h6
    · rw [hl 5 (by decide), hn 48 (by omega)]
      exact d5
    · by_cases z : q = k
      · rw [z, rs, rs, d6 k hk]
      · rw [wr_e (Or.inr z), wr_e (Or.inr (by omega)), d6 q hq]
/-- behind what goes by the report -/
theorem lg_core {l m : mj_m} {pl : Nat → Int32} {pm : PM} {e u v T : Nat} (h : I_lk0 l (m 1) pl pm e u v T) (he : e ≤ 20000) {N d q x : Nat} (hN : N < 256) (gN : m 1 22 = nI N) (hq : m 1 25 = nI q) (hd : d ≤ q) (hq20 : q ≤ 20) (hx : x = (N + 256 - q + d) % 256) : ∃ l' m' : mj_m, f_X2_letGo (nI d) l = some l' ∧ f_X11_sentGo (nI x) m = some m' ∧ (d = 0 → l' 4 = l 4 → True) ∧ I_lwc l' (m' 1) pl pm e u v T ∧ (∀ k, k ≠ 4 → k < 23 ∨ 27 < k → l' k = l k) ∧ (∀ p, p ≠ 1 → m' p = m p) ∧ m' 1 25 = nI (q - d) ∧ (∀ s, s ≠ 25 → s < 66 ∨ 105 < s → s < 1097 → m' 1 s = m 1 s) := by
  obtain ⟨⟨g_set, g_rng, g_tick⟩, g_rec, ⟨g_mach, g_line, g_sent, g_pass, g_dir, g_rep, g_st⟩, g_led, g_dia, g_plan⟩ := h
  obtain ⟨l', m', a1, a2, a3, a4, a5, a6, a7, a8⟩ := letgo hN gN g_line g_sent g_led he hq hd hq20 hx
  have hl : ∀ k, k ≠ 4 ∧ (k < 23 ∨ 27 < k) → l' k = l k := fun k hk => a3 k hk.1 hk.2
  have hn : ∀ s, s ≠ 25 ∧ (s < 66 ∨ 105 < s) ∧ s < 1097 → m' 1 s = m 1 s := fun s hs => a6 s hs.1 hs.2.1 hs.2.2
  exact ⟨l', m', a1, a2, fun _ _ => trivial, ⟨⟨I_set_cg g_set (by rw [hl 1 (by omega)]) (hl 2 (by omega)) (hn 12 (by omega)) (fun s _ => hn s (by omega)), I_rng_cg g_rng (hl 2 (by omega)), I_tick_cg g_tick (by rw [hl 1 (by omega)]) (hn 11 (by omega))⟩, I_rec_cg (I_rec_mono g_rec) (fun k _ _ => hl k (by omega)) (hn 38 (by omega)) (fun s _ _ => hn s (by omega)) (fun s _ _ => hn s (by omega)) (fun s _ _ => hn s (by omega)), ⟨I_mach_cg g_mach (fun _ _ => by rw [hl 17 (by omega)]) (fun s _ => hn s (by omega)), I_line_cg g_line (by rw [hl 18 (by omega)]) (hl 19 (by omega)) (hl 21 (by omega)) (hn 24 (by omega)) (hn 40 (by omega)) (fun s _ _ => hn s (by omega)), a7, I_pass_cg g_pass (by rw [hl 28 (by omega)]) (hl 29 (by omega)) (hn 29 (by omega)) (fun s _ _ => hn s (by omega)), I_dir_cg g_dir (fun _ _ => by rw [hl 17 (by omega)]) (fun s _ => hn s (by omega)), I_rep_cg g_rep (by rw [hl 17 (by omega)]) (hn 45 (by omega)) (hn 46 (by omega)) (hn 47 (by omega))⟩, a8, I_dia_cg (I_dia_mono g_dia) (fun k _ _ => hl k (by omega)) (hn 33 (by omega)) (hn 34 (by omega)) (hn 48 (by omega)) (fun s _ _ => hn s (by omega)), I_plan_cg g_plan (fun k _ _ => hl k (by omega)) (hn 49 (by omega))⟩, a3, a4, a5, a6⟩
theorem D_of {l : mj_m} {n : Nat → Int32} {u : Nat} (h : I_dia l n u) : D_ok l n := h.1
