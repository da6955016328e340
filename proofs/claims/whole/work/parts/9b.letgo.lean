/-! what goes by a report, on both sides; verdicts -/
theorem letGo_cls {l : mj_m} {d q F : Nat} (hd : d ≤ q) (hq : q ≤ 20) (h23 : l 23 4 = nI q) (h26 : ∀ i, i < q → l 26 i = lnum (F + i)) : ∃ l' : mj_m, f_X2_letGo (nI d) l = some l' ∧ (∀ k, k ≠ 4 → k < 23 ∨ 27 < k → l' k = l k) ∧ l' 23 4 = nI (q - d) ∧ (∀ k, 24 ≤ k → k ≤ 27 → ∀ i, i < q - d → l' k i = l k (i + d)) ∧ ∀ s, l' 4 s = st3 2 (l 4) F (F + d) s := by
  obtain ⟨l1, a1, a2, a3⟩ := lg_L (F := F) hd hq d 0 mj_fu l (by omega) (by unfold mj_fu; omega) h23 h26
  have a1' : f_X2_letGo_L2 (nI d) mj_fu 0 l = some l1 := a1
  have e23 : l1 23 4 = nI q := by rw [a2 23 (by decide), h23]
  unfold f_X2_letGo f_X2_letGo_J55
  rw [a1', b1s, e23, if_neg (nI_nlt hd (by omega))]
  by_cases z : d = 0
  · subst z
    have : f_X7_removeFirst 23 (nI 0) l1 = some l1 := by
      unfold f_X7_removeFirst
      rw [if_pos (by decide)]
    rw [this, b1s]
    refine ⟨l1, rfl, fun k k4 _ => a2 k k4, by rw [e23]; rfl, fun k k1 k2 i _ => by rw [a2 k (by omega)]; rfl, a3⟩
  · obtain ⟨l2, b1, b2, b3, b4⟩ := removeFirst_eq (b := 23) (c := q) (d := d) (m := l1) e23 hq (by omega) hd
    rw [b1, b1s]
    refine ⟨l2, rfl, fun k k4 hk => by rw [b2 k (by omega), a2 k k4], b3, fun k k1 k2 i hi => ?_, fun s => by rw [b2 4 (by omega), a3 s]; rfl⟩
    have := b4 (k - 23) (by omega) (by omega) i hi
    rw [show 23 + (k - 23) = k by omega] at this
    rw [this, a2 k (by omega)]
theorem letgo {l m : mj_m} {e v N d q x : Nat} (hN : N < 256) (gN : m 1 22 = nI N) (gl : I_line l (m 1)) (gs : I_sent l (m 1)) (gd : I_led l (m 1) e v) (he : e ≤ 20000) (hq : m 1 25 = nI q) (hd : d ≤ q) (hq20 : q ≤ 20) (hx : x = (N + 256 - q + d) % 256) : ∃ l' m' : mj_m, f_X2_letGo (nI d) l = some l' ∧ f_X11_sentGo (nI x) m = some m' ∧ (∀ k, k ≠ 4 → k < 23 ∨ 27 < k → l' k = l k) ∧ (∀ p, p ≠ 1 → m' p = m p) ∧ m' 1 25 = nI (q - d) ∧ (∀ s, s ≠ 25 → s < 66 ∨ 105 < s → s < 1097 → m' 1 s = m 1 s) ∧ I_sent l' (m' 1) ∧ I_led l' (m' 1) e v := by
  obtain ⟨a1, a2, a3⟩ := id gl
  obtain ⟨b1, b2, b3⟩ := id gs
  obtain ⟨d1, d2, d3, -⟩ := id gd
  obtain ⟨p, hp, ep, cp⟩ := cn_i a2
  obtain ⟨E, hE, eE, cE⟩ := cn_i d2
  have cq : mj_cl (m 1 25) = q := by rw [hq, clI (by omega)]
  rw [cp, cq, cE] at d3
  obtain ⟨l', x1, x2, x3, x4, x5⟩ := letGo_cls (l := l) (F := E - p - q) hd hq20 (by rw [b1, hq]) (fun i hi => by
    have := (b3 i (by omega)).2.2.2.1
    rw [cE, cp, cq] at this
    exact this)
  obtain ⟨m', y1, y2, y3, y4, y5, y6⟩ := sg_L (x := x) hN (by omega) hp d q mj_fu m hd hq20 (by unfold mj_fu; omega) gN hq ep eE (by omega) hx
  have k24 : m' 1 24 = nI p := by rw [y5 24 (by decide) (by omega) (by decide), ep]
  have k40 : m' 1 40 = nI E := by rw [y5 40 (by decide) (by omega) (by decide), eE]
  have k22 : m' 1 22 = nI N := by rw [y5 22 (by decide) (by omega) (by decide), gN]
  refine ⟨l', m', x1, ?_, x2, y2, y3, y5, ⟨by rw [x3, y3], by rw [y3]; exact cn_mk (by omega) (by decide), fun i hi => ?_⟩, ?_⟩
  · unfold f_X11_sentGo
    rw [y1, b1s]
  · rw [y3, clI (by omega)] at hi
    obtain ⟨q1, q2, q3, q4, q5, q6⟩ := b3 (i + d) (by omega)
    rw [gN, hq, num_eq (by omega)] at q3
    rw [cE, cp, cq] at q4
    rw [k22, y3, k40, k24, clI (by omega), clI (by omega), clI (by omega), num_eq (by omega), x4 24 (by decide) (by decide) i hi, x4 25 (by decide) (by decide) i hi, x4 26 (by decide) (by decide) i hi, x4 27 (by decide) (by decide) i hi, (y4 i hi).1, (y4 i hi).2]
    refine ⟨?_, ?_, ?_, ?_, ?_, ?_⟩
    · rw [q1, show 66 + (i + d) = 66 + i + d by omega]
    · rw [show 66 + i + d = 66 + (i + d) by omega]
      exact q2
    · rw [q3]
      congr 2
      omega
    · rw [q4]
      congr 1
      omega
    · rw [q5, show 86 + (i + d) = 86 + i + d by omega]
    · rw [show 86 + i + d = 86 + (i + d) by omega]
      exact q6
  · refine I_led_st (v := 2) (A := E - p - q) (B := E - p - q + d) gd x5 (fun s _ => by rw [x2 3 (by decide) (by omega)]) (by rw [x2 46 (by decide) (by omega)]) (fun s s1 s2 => y6 s s1) (y5 11 (by decide) (by omega) (by decide)) (y5 19 (by decide) (by omega) (by decide)) (y5 40 (by decide) (by omega) (by decide)) ?_
    rw [k24, y3, eE, clI (by omega), clI (by omega), clI (by omega)]
    omega
def w2 (w : Int32) : Int32 := if w = 0 then 0 else 2
theorem verd {a h t L r w : Int32} (hr : r = 0 ∨ r = 1) (hw : w = 0 ∨ w = 1) : f_X8_verdictOf a h (r + w2 w) t L = f_X11_verdict a h r w t L := by
  have e00 : (0 : Int32) + w2 0 = 0 := by decide
  have e10 : (1 : Int32) + w2 0 = 1 := by decide
  have e01 : (0 : Int32) + w2 1 = 2 := by decide
  have e11 : (1 : Int32) + w2 1 = 3 := by decide
  have b0 : (0 : Int32) &&& 1 = 0 := by decide
  have b1 : (1 : Int32) &&& 1 = 1 := by decide
  have b2 : (2 : Int32) &&& 1 = 0 := by decide
  have b3 : (3 : Int32) &&& 1 = 1 := by decide
  have c0 : (0 : Int32) &&& 2 = 0 := by decide
  have c1 : (1 : Int32) &&& 2 = 0 := by decide
  have c2 : (2 : Int32) &&& 2 = 2 := by decide
  have c3 : (3 : Int32) &&& 2 = 2 := by decide
  unfold f_X8_verdictOf f_X8_verdictOf_J11 f_X8_verdictOf_J24 f_X8_verdictOf_J54 f_X11_verdict
  rcases hr with rfl | rfl <;> rcases hw with rfl | rfl <;> simp only [e00, e10, e01, e11, b0, b1, b2, b3, c0, c1, c2, c3] <;> grind
/-- what a verdict can be, by how the number stands -/
theorem verd_h {a h t L r w : Int32} (hh : h = 0 ∨ h = 1 ∨ h = 2) : (h = 0 ∧ (f_X11_verdict a h r w t L = 1 ∨ f_X11_verdict a h r w t L = 7)) ∨ (h = 1 ∧ (f_X11_verdict a h r w t L = 0 ∨ f_X11_verdict a h r w t L = 3 ∨ f_X11_verdict a h r w t L = 4 ∨ f_X11_verdict a h r w t L = 5 ∨ f_X11_verdict a h r w t L = 6 ∨ f_X11_verdict a h r w t L = 7 ∨ f_X11_verdict a h r w t L = 8)) ∨ (h = 2 ∧ (f_X11_verdict a h r w t L = 2 ∨ f_X11_verdict a h r w t L = 3 ∨ f_X11_verdict a h r w t L = 6 ∨ f_X11_verdict a h r w t L = 7)) := by
  unfold f_X11_verdict
  rcases hh with rfl | rfl | rfl <;> grind
/-- what both sides have of the ways, and of the rest, when a report was heard -/
def H_ok (l m l' m' : mj_m) : Prop := (∀ k, 33 ≤ k → k ≤ 42 → l' k = l k) ∧ (∀ p, p ≠ 1 → m' p = m p) ∧ ∀ s, s < 21 ∨ (35 ≤ s ∧ s ≤ 44 ∧ s ≠ 39) ∨ (619 ≤ s ∧ s < 1097) → m' 1 s = m 1 s
theorem H_ok.tr {l m l' m' l'' m'' : mj_m} (h : H_ok l m l' m') (h' : H_ok l' m' l'' m'') : H_ok l m l'' m'' := ⟨fun k a b => (h'.1 k a b).trans (h.1 k a b), fun p hp => (h'.2.1 p hp).trans (h.2.1 p hp), fun s hs => (h'.2.2 s hs).trans (h.2.2 s hs)⟩
theorem al_pair {l m : mj_m} {pl : Nat → Int32} {pm : PM} {e u v T : Nat} (h : I_lwc l (m 1) pl pm e u v T) (he : e ≤ 20000) (hu : u < 2 ^ 29) (a : Int32) (ha : rg 0 a 6) : ∃ (l' m' : mj_m), f_X8_giveAlarm a l = some l' ∧ f_X11_alarms a m = some m' ∧ I_lk0 l' (m' 1) pl pm e (u + 1) v T ∧ H_ok l m l' m' ∧ l' 17 6 = 6 := by
  obtain ⟨l', m', e1, e2, e3, e4, e5, e6, e7, e8⟩ := L_alarmC h he hu a ha
  exact ⟨l', m', e1, e2, e3, ⟨fun k _ _ => e4 k (by omega), e6, fun s hs => e5 s (by omega)⟩, e7⟩
