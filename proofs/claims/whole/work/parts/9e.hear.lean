/-! a report is heard -/
theorem bit_le {f k : Nat} (hk : k < 256) : nI f &&& nI k ≤ 0 ↔ nI f &&& nI k = 0 := by
  rw [fa_and]
  have h : f &&& k ≤ k := Nat.and_le_right
  constructor
  · intro z
    have := (nI_leI (b := 0) (by omega) (by decide)).mp z
    rw [show f &&& k = 0 by omega]
    rfl
  · intro z
    rw [z]
    decide
theorem bit_1 {f : Nat} : nI f &&& 1 = 1 ↔ ¬ nI f &&& 1 = 0 := by
  have e : nI f &&& 1 = nI (f % 2) := by
    rw [show (1 : Int32) = nI (2 ^ 1 - 1) from rfl, fa_mask]
  rw [e]
  rcases Nat.mod_two_eq_zero_or_one f with z | z <;> rw [z] <;> decide
def bw (b : Int32) (k : Int32) : Int32 := if b &&& k = 0 then 0 else 1
theorem bw01 (b k : Int32) : bw b k = 0 ∨ bw b k = 1 := by
  unfold bw
  split
  · exact Or.inl rfl
  · exact Or.inr rfl
theorem hears_e {f : Nat} {n : Int32} {m : mj_m} : f_X11_hears (nI f) n m = f_X11_hears_J38 (nI f) n (bw (nI f) 2) (bw (nI f) 4) (if m 1 21 + 6 = 5 then 1 else 0) m := by
  have e23 : ∀ a b, f_X11_hears_J23 (nI f) n a b m = f_X11_hears_J38 (nI f) n a b (if m 1 21 + 6 = 5 then 1 else 0) m := fun a b => by
    unfold f_X11_hears_J23 f_X11_machine
    rw [lts]
    by_cases z : m 1 21 + 6 = 5
    · rw [if_pos z, if_pos z]
    · rw [if_neg z, if_neg z]
  have e11 : ∀ a, f_X11_hears_J11 (nI f) n a m = f_X11_hears_J38 (nI f) n a (bw (nI f) 4) (if m 1 21 + 6 = 5 then 1 else 0) m := fun a => by
    unfold f_X11_hears_J11 bw
    have this : nI f &&& 4 ≤ 0 ↔ nI f &&& 4 = 0 := bit_le (f := f) (k := 4) (by decide)
    by_cases z : nI f &&& 4 = 0
    · rw [if_pos (this.mpr z), if_pos z, e23]
    · rw [if_neg (fun y => z (this.mp y)), if_neg z, e23]
  unfold f_X11_hears
  have this : nI f &&& 2 ≤ 0 ↔ nI f &&& 2 = 0 := bit_le (f := f) (k := 2) (by decide)
  by_cases z : nI f &&& 2 = 0
  · rw [if_pos (this.mpr z), e11, show bw (nI f) 2 = 0 from if_pos z]
  · rw [if_neg (fun y => z (this.mp y)), e11, show bw (nI f) 2 = 1 from if_neg z]
theorem hear_c {b n : Int32} {l : mj_m} : (if b &&& 4 = 0 then f_X8_hear_J98 b n 0 l else f_X8_hear_J98 b n 1 l) = f_X8_hear_J109 n (w2 (bw b 2)) (bw b 4) l := by
  have e : ∀ s, f_X8_hear_J98 b n s l = f_X8_hear_J109 n (w2 (bw b 2)) s l := fun s => by
    unfold f_X8_hear_J98 bw
    by_cases z : b &&& 2 = 0
    · rw [if_pos z, if_pos z]
      rfl
    · rw [if_neg z, if_neg z]
      rfl
  by_cases z : b &&& 4 = 0
  · rw [if_pos z, e, show bw b 4 = 0 from if_pos z]
  · rw [if_neg z, e, show bw b 4 = 1 from if_neg z]
set_option maxHeartbeats 2000000 in
theorem hears_pair {l m : mj_m} {pl : Nat → Int32} {pm : PM} {e u v T : Nat} (h : I_lk0 l (m 1) pl pm e u v T) (he : e ≤ 20000) (hu : u < 2 ^ 29) (h6 : ¬ l 17 6 = 6) {x f : Nat} (hx : x < 256) : ∃ l' m' : mj_m, (if nI f &&& 1 = 0 then (if nI f &&& 4 = 0 then f_X8_hear_J98 (nI f) (nI x) 0 l else f_X8_hear_J98 (nI f) (nI x) 1 l) else f_X8_hearLocked l) = some l' ∧ f_X11_hears (nI f) (nI x) m = some m' ∧ I_lk0 l' (m' 1) pl pm e (u + 1) v T ∧ H_ok l m l' m' := by
  have h0 := h
  obtain ⟨⟨g_set, g_rng, g_tick⟩, g_rec, ⟨g_mach, g_line, g_sent, g_pass, g_dir, g_rep, g_st⟩, g_led, g_dia, g_plan⟩ := h0
  obtain ⟨⟨p1, p1r⟩, ⟨p2, p2r⟩, ⟨p3, p3r⟩, p4, p5, ⟨p6, p6r⟩, p7⟩ := id g_mach
  obtain ⟨N, hN, eN⟩ := byN p2r
  obtain ⟨S, hS, eS⟩ := byN p3r
  have held : l 17 11 = 0 := by
    by_cases z : l 17 11 = 0
    · exact z
    · exact absurd (g_st.1 z) h6
  have Hrf : H_ok l m l m := ⟨fun _ _ _ => rfl, fun _ _ => rfl, fun _ _ => rfl⟩
  rw [hear_c, hears_e]
  obtain ⟨w, hw⟩ : ∃ w, w = bw (nI f) 2 := ⟨_, rfl⟩
  obtain ⟨r, hr⟩ : ∃ r, r = bw (nI f) 4 := ⟨_, rfl⟩
  have hw01 := bw01 (nI f) 2
  have hr01 := bw01 (nI f) 4
  rw [← hw] at hw01 ⊢
  rw [← hr] at hr01 ⊢
  have alarm : ∀ a : Int32, rg 0 a 6 → ∃ (l' m' : mj_m), f_X8_giveAlarm a l = some l' ∧ f_X11_alarms a m = some m' ∧ I_lk0 l' (m' 1) pl pm e (u + 1) v T ∧ H_ok l m l' m' := fun a ha => by
    obtain ⟨l', m', a1, a2, a3, a4, -⟩ := al_pair h.w he hu a ha
    exact ⟨l', m', a1, a2, a3, a4⟩
  have r6 : ∀ a : Int32, a = 1 ∨ a = 2 ∨ a = 3 → rg 0 a 6 := fun a ha => by rcases ha with rfl | rfl | rfl <;> exact ⟨by decide, by decide⟩
  by_cases hlk : nI f &&& 1 = 0
  · rw [if_pos hlk]
    have hlk' : ¬ nI f &&& 1 = 1 := fun z => bit_1.mp z hlk
    unfold f_X8_hear_J109 f_X11_hears_J38 f_X11_machine
    rw [if_neg hlk', lts, lts, lts, ← p1]
    have rnd : ∀ y, f_X11_round y = y &&& 255 := fun _ => rfl
    rw [rnd, rnd]
    -- in the two states that hold nothing
    have s45 : l 17 6 = 4 ∨ l 17 6 = 5 → m 1 24 = 0 ∧ m 1 25 = 0 ∧ S = N := fun z => by
      have z1 := g_st.2.2.1 (by rcases z with z | z <;> rw [z] <;> decide) (by rw [held]; unfold rg; decide)
      have z2 := g_st.2.1 (Or.inl (by rcases z with z | z <;> rw [z] <;> decide))
      rw [z1.2, eS, eN, Int32.sub_zero, and255 ⟨nI_pos' (by omega), nI_le (b := 255) (by omega) (by decide)⟩] at z2
      exact ⟨z1.1, z1.2, (nI_eq (by omega) (by omega)).mp z2⟩
    have inr : S = N → ((nI x - m 1 23) &&& 255 ≤ (m 1 22 - m 1 23) &&& 255 ↔ x = N) := fun z => by
      rw [eS, eN, z, far_eq (by omega), far_eq (by omega), nI_leI (by omega) (by omega)]
      omega
    have xN : nI x = m 1 22 ↔ x = N := by
      rw [eN, nI_eq (by omega) (by omega)]
    have x1 : r + w2 w = 0 ↔ r = 0 ∧ w = 0 := by
      rcases hr01 with rfl | rfl <;> rcases hw01 with rfl | rfl <;> decide
    have x2 : (r + w2 w) &&& 1 = 0 ↔ r = 0 := by
      rcases hr01 with rfl | rfl <;> rcases hw01 with rfl | rfl <;> decide
    have hid : ∀ y : Option mj_m, mj_b1 y (fun z => some z) = y := id1
    simp only [lts, hid]
    by_cases h4 : l 17 6 = 4
    · -- CHECKS
      obtain ⟨n24, n25, hSN⟩ := s45 (Or.inl h4)
      have d0 : ¬ (l 17 6 = 5) := by rw [h4]; decide
      rw [if_pos h4, if_neg d0]
      unfold f_X8_hearChecking
      rw [p2]
      by_cases hxN : x = N
      · rw [if_pos (xN.mpr hxN), if_pos ((inr hSN).mpr hxN), if_pos rfl, if_pos h4]
        unfold f_X11_isChecked f_X11_isChecked_J27
        by_cases r0 : r = 0
        · rw [if_pos (x2.mpr r0), if_pos r0]
          by_cases w0 : w = 0
          · rw [if_pos (x1.mpr ⟨r0, w0⟩), if_pos w0, if_pos (xN.mpr hxN), if_pos w0]
            obtain ⟨lc, mc, c1, c2, c3, c4, c5, c6, c7, c8⟩ := chg (a := l 17 6) (b := 1) (l := l) (m := m) g_dia.1 g_tick.1 p1
            rw [c1, b2s, c2, b1s]
            simp only [lts]
            refine ⟨mj_wrs (mj_wrs lc 17 6 1) 17 10 0, mj_wrs mc 1 31 0, rfl, rfl, I_lk0_mono (said_fin (A := 1) (x := m 1 23) h.w (Or.inl rfl) p3r (g_st.2.1 (Or.inl (by rw [h4]; decide))) held (fun k hk => ?_) (fun j hj => ?_) ?_ (fun j j1 j2 j3 j4 => ?_) ?_ ?_ ?_ ?_ ?_ ?_ ?_ (fun i hi => ?_) (fun s hs => ?_)), ⟨fun k k1 k2 => ?_, fun p hp => ?_, fun s hs => ?_⟩⟩
            · simp (disch := omega) only [wr_row, c3]
            · simp (disch := omega) only [wr_e, c4]
            · obtain ⟨f1, f2, f3⟩ := c8
              refine ⟨?_, ?_, fun i hi => ?_⟩
              · simp (disch := omega) only [wr_e]
                exact f1
              · simp (disch := omega) only [wr_e]
                exact f2
              · simp (disch := omega) only [wr_e] at hi
                simp (disch := omega) only [wr_e]
                exact f3 i hi
            · simp (disch := omega) only [wr_e, c3]
            · simp (disch := omega) only [wr_e, rs]
            · simp (disch := omega) only [wr_e]
              exact c7
            · simp (disch := omega) only [wr_e, c3]
              exact p3
            · simp (disch := omega) only [wr_e, c6]
            · simp (disch := omega) only [wr_e, c3, c6]
              exact p4
            · rw [rs, rs]
            · rw [rs]
              exact ⟨by decide, by decide⟩
            · rw [n25] at hi
              exact absurd hi (by rw [show mj_cl (0 : Int32) = 0 by decide]; omega)
            · simp (disch := omega) only [wr_e, c6]
            · simp (disch := omega) only [wr_row, c3]
            · simp (disch := omega) only [wr_row, c5]
            · simp (disch := omega) only [wr_e, c6]
          · rw [if_neg (fun z => w0 (x1.mp z).2), if_neg w0, if_neg w0]
            exact ⟨l, m, rfl, rfl, I_lk0_mono h, Hrf⟩
        · rw [if_neg (fun z => r0 (x2.mp z)), if_neg r0]
          rw [hid, hid]
          exact alarm 2 (r6 2 (by decide))
      · rw [if_neg (fun z => hxN (xN.mp z)), if_neg (fun z => hxN ((inr hSN).mp z)), if_pos rfl, if_pos h4]
        rw [hid]
        exact alarm 2 (r6 2 (by decide))
    · rw [if_neg h4]
      by_cases h5 : l 17 6 = 5
      · -- DIRECTS
        obtain ⟨n24, n25, hSN⟩ := s45 (Or.inr h5)
        rw [if_pos h5, if_pos h5]
        unfold f_X8_hearDirecting
        rw [p2]
        by_cases hxN : x = N
        · rw [if_pos (xN.mpr hxN), if_pos ((inr hSN).mpr hxN), if_neg one0]
          unfold f_X11_isAnswered
          by_cases r0 : r = 0
          · rw [if_pos r0]
            by_cases w0 : w = 0
            · rw [if_pos (x1.mpr ⟨r0, w0⟩), if_pos w0, if_pos (xN.mpr hxN)]
              obtain ⟨lc, mc, c1, c2, c3, c4, c5, c6, c7, c8⟩ := chg (a := l 17 6) (b := 1) (l := l) (m := m) g_dia.1 g_tick.1 p1
              rw [c1, b2s, c2, b1s]
              simp only [lts]
              have k6 : mj_wrs (mj_wrs (mj_wrs (mj_wrs lc 17 6 1) 17 12 (-1)) 17 13 0) 17 10 0 17 6 = 1 := by simp (disch := omega) only [wr_e, rs]
              have k10 : mj_wrs (mj_wrs (mj_wrs (mj_wrs lc 17 6 1) 17 12 (-1)) 17 13 0) 17 10 0 17 10 = 0 := rs _ _ _ _
              have k12 : mj_wrs (mj_wrs (mj_wrs (mj_wrs lc 17 6 1) 17 12 (-1)) 17 13 0) 17 10 0 17 12 = -1 := by simp (disch := omega) only [wr_e, rs]
              have k13 : mj_wrs (mj_wrs (mj_wrs (mj_wrs lc 17 6 1) 17 12 (-1)) 17 13 0) 17 10 0 17 13 = 0 := by simp (disch := omega) only [wr_e, rs]
              have kj : ∀ j, j ≠ 6 → j ≠ 10 → j ≠ 12 → j ≠ 13 → mj_wrs (mj_wrs (mj_wrs (mj_wrs lc 17 6 1) 17 12 (-1)) 17 13 0) 17 10 0 17 j = l 17 j := fun j a b c d => by simp (disch := omega) only [wr_e, c3]
              have kk : ∀ k, k ≠ 5 → k ≠ 6 → k ≠ 17 → mj_wrs (mj_wrs (mj_wrs (mj_wrs lc 17 6 1) 17 12 (-1)) 17 13 0) 17 10 0 k = l k := fun k a b c => by simp (disch := omega) only [wr_row, c3]
              have n26 : mj_wrs (mj_wrs mc 1 26 0) 1 31 0 1 26 = 0 := by simp (disch := omega) only [wr_e, rs]
              have n31 : mj_wrs (mj_wrs mc 1 26 0) 1 31 0 1 31 = 0 := rs _ _ _ _
              have n21 : mj_wrs (mj_wrs mc 1 26 0) 1 31 0 1 21 = 1 - 6 := by simp (disch := omega) only [wr_e, c7]
              have ns : ∀ s, s ≠ 21 ∧ s ≠ 26 ∧ s ≠ 31 ∧ s ≠ 34 ∧ (s < 179 ∨ 418 < s) → mj_wrs (mj_wrs mc 1 26 0) 1 31 0 1 s = m 1 s := fun s hs => by simp (disch := omega) only [wr_e, c6]
              have h5' : ∀ j, j ≠ 2 → mj_wrs (mj_wrs (mj_wrs (mj_wrs lc 17 6 1) 17 12 (-1)) 17 13 0) 17 10 0 5 j = l 5 j := fun j hj => by simp (disch := omega) only [wr_e, c4]
              have hD : D_ok (mj_wrs (mj_wrs (mj_wrs (mj_wrs lc 17 6 1) 17 12 (-1)) 17 13 0) 17 10 0) (mj_wrs (mj_wrs mc 1 26 0) 1 31 0 1) := by
                obtain ⟨f1, f2, f3⟩ := c8
                refine ⟨?_, ?_, fun i hi => ?_⟩
                · simp (disch := omega) only [wr_e]
                  exact f1
                · simp (disch := omega) only [wr_e]
                  exact f2
                · simp (disch := omega) only [wr_e] at hi
                  simp (disch := omega) only [wr_e]
                  exact f3 i hi
              have hp' : ∀ p, p ≠ 1 → mj_wrs (mj_wrs mc 1 26 0) 1 31 0 p = m p := fun p hp => by simp (disch := omega) only [wr_row, c5]
              generalize mj_wrs (mj_wrs (mj_wrs (mj_wrs lc 17 6 1) 17 12 (-1)) 17 13 0) 17 10 0 = L at *
              generalize mj_wrs (mj_wrs mc 1 26 0) 1 31 0 = Q at *
              refine ⟨L, Q, rfl, rfl, I_lk0_mono (snd_fin h.w (fun k hk => kk k hk.1 hk.2.1 hk.2.2.1) h5' hD ?_ ?_ ?_ ?_ (fun i hi => ?_) (fun s hs => ns s (by omega))), ⟨fun k k1 k2 => kk k (by omega) (by omega) (by omega), hp', fun s hs => ns s (by omega)⟩⟩
              · unfold I_mach
                rw [k6, n21, kj 7 (by decide) (by decide) (by decide) (by decide), ns 22 (by omega), kj 8 (by decide) (by decide) (by decide) (by decide), ns 23 (by omega), kj 9 (by decide) (by decide) (by decide) (by decide), ns 30 (by omega), k10, n31, kj 11 (by decide) (by decide) (by decide) (by decide), ns 32 (by omega), kj 15 (by decide) (by decide) (by decide) (by decide), ns 39 (by omega)]
                exact ⟨⟨by decide, by decide, by decide⟩, ⟨p2, p2r⟩, ⟨p3, p3r⟩, p4, ⟨rfl, by decide, by decide⟩, ⟨p6, p6r⟩, p7⟩
              · unfold I_dir
                rw [k6, k12, k13, n26, kj 11 (by decide) (by decide) (by decide) (by decide), held]
                refine ⟨Or.inl ⟨rfl, rfl⟩, fun z => absurd z (by decide), ⟨by decide, by decide⟩, fun z => ?_⟩
                rcases z with z | z <;> exact absurd z (by decide)
              · exact I_rep_cg g_rep (kj 14 (by decide) (by decide) (by decide) (by decide)) (ns 45 (by omega)) (ns 46 (by omega)) (ns 47 (by omega))
              · unfold I_st
                rw [k6, kj 11 (by decide) (by decide) (by decide) (by decide), held, ns 23 (by omega), ns 22 (by omega), ns 25 (by omega)]
                refine ⟨fun z => absurd rfl z, fun _ => g_st.2.1 (Or.inl (by rw [h5]; decide)), fun z => absurd z (by decide), fun z => absurd z (by decide)⟩
              · rw [n25] at hi
                exact absurd hi (by rw [show mj_cl (0 : Int32) = 0 by decide]; omega)
            · rw [if_neg (fun z => w0 (x1.mp z).2), if_neg w0]
              exact ⟨l, m, rfl, rfl, I_lk0_mono h, Hrf⟩
          · rw [if_neg (fun z => r0 (x1.mp z).1), if_neg r0]
            exact ⟨l, m, rfl, rfl, I_lk0_mono h, Hrf⟩
        · rw [if_neg (fun z => hxN (xN.mp z)), if_neg (fun z => hxN ((inr hSN).mp z)), if_neg one0]
          exact ⟨l, m, rfl, rfl, I_lk0_mono h, Hrf⟩
      · -- the three that move
        rw [if_neg h5, if_neg h5, if_pos rfl, if_neg h4, if_pos rfl, if_neg h4]
        have hM : l 17 6 = 1 ∨ l 17 6 = 2 ∨ l 17 6 = 3 := by
          obtain ⟨q1, q2⟩ := p1r
          grind
        have efar : ∀ y, f_X10_far y (l 17 8) = (y - m 1 23) &&& 255 := fun y => by rw [p3]; rfl
        rw [efar, efar, p2]
        by_cases hin : (nI x - m 1 23) &&& 255 ≤ (m 1 22 - m 1 23) &&& 255
        · rw [if_pos hin, if_pos hin]
          obtain ⟨l', m', a1, a2, a3, a4⟩ := follow h he hu hx hr01 hw01 hM hin rfl
          refine ⟨l', m', a1, ?_, a3, a4⟩
          rw [← a2]
          by_cases z : nI x = m 1 22
          · rw [if_pos z, if_pos z]
          · rw [if_neg z, if_neg z]
            by_cases z2 : nI x = m 1 23
            · rw [if_pos z2, if_pos z2]
            · rw [if_neg z2, if_neg z2]
        · rw [if_neg hin, if_neg hin]
          exact alarm 3 (r6 3 (by decide))
  · rw [if_neg hlk]
    have hlk' : nI f &&& 1 = 1 := bit_1.mpr hlk
    unfold f_X8_hearLocked f_X11_hears_J38
    rw [if_pos hlk', ← p1]
    by_cases h5 : l 17 6 = 5
    · rw [if_pos h5, if_pos h5, if_neg one0]
      obtain ⟨q1, q2, q3, q4⟩ := g_dir
      rcases q1 with ⟨z1, z2⟩ | ⟨z1, z2, z3⟩ | ⟨z1, z2, z3⟩
      · exact absurd z1 (q4 (Or.inl h5))
      · rw [if_pos z2, if_pos z1]
        exact ⟨l, m, rfl, rfl, I_lk0_mono h, Hrf⟩
      · obtain ⟨y, hy, ey⟩ := byN z3
        have nz : ¬ l 17 12 = 0 := by
          rw [z2, ey, show (256 : Int32) + nI y = nI (256 + y) from nI_add 256 y]
          exact nI_ne0 (by omega) (by omega)
        rw [if_neg nz, if_neg (by rw [z1]; decide), id1, id1]
        exact alarm 1 (r6 1 (by decide))
    · rw [if_neg h5, if_neg h5, if_pos rfl, id1, id1]
      exact alarm 1 (r6 1 (by decide))
