/-! rules for the text: bytes, calls of StringBuilder's own members -/
def mx_in (w : Cond) : Prop := ∀ (args : Array Value) (s : State), (∀ w ∈ mj_T, w.before args s = true) → w.before args s = true
theorem mx_in_of {w : Cond} (h : w ∈ mj_T) : mx_in w := fun _ _ hts => hts w h
theorem mx_P_sub {D : va_G} {ws ws' : va_W} {H : Heap} (h : va_P D vwCl ws H) (hs : ws'.Sublist ws) : va_P D vwCl ws' H := by
  intro k q hk
  obtain ⟨i, hi⟩ := List.getElem?_of_mem (hs.subset (List.mem_of_getElem? hk))
  exact h i q hi
theorem mx_D_iff {A : Nat → Prop} {ws : va_W} : va_D A ws ↔ (ws.map Prod.fst).Nodup ∧ ∀ q ∈ ws, A q.1 := by
  constructor
  · rintro ⟨h1, h2⟩
    refine ⟨List.nodup_iff_pairwise_ne.mpr (List.pairwise_iff_getElem.mpr (fun i j hi hj hij e => ?_)), fun q hq => ?_⟩
    · rw [List.length_map] at hi hj
      rw [List.getElem_map, List.getElem_map] at e
      have := h1 i j ws[i] ws[j] (List.getElem?_eq_getElem hi) (List.getElem?_eq_getElem hj) e
      omega
    · obtain ⟨i, hi⟩ := List.getElem?_of_mem hq
      exact h2 i q hi
  · rintro ⟨h1, h2⟩
    have hp := List.pairwise_iff_getElem.mp (List.nodup_iff_pairwise_ne.mp h1)
    refine ⟨fun i j p q hi hj e => ?_, fun k q hk => h2 q (List.mem_of_getElem? hk)⟩
    obtain ⟨hi', rfl⟩ := List.getElem?_eq_some_iff.mp hi
    obtain ⟨hj', rfl⟩ := List.getElem?_eq_some_iff.mp hj
    rcases Nat.lt_trichotomy i j with h | h | h
    · exact absurd (by rw [List.getElem_map, List.getElem_map]; exact e) (hp i j (by rw [List.length_map]; exact hi') (by rw [List.length_map]; exact hj') h)
    · exact h
    · exact absurd (by rw [List.getElem_map, List.getElem_map]; exact e.symm) (hp j i (by rw [List.length_map]; exact hj') (by rw [List.length_map]; exact hi') h)
theorem mx_D_sub {A : Nat → Prop} {ws ws' : va_W} (h : va_D A ws) (hs : ws'.Sublist ws) : va_D A ws' := by
  rw [mx_D_iff] at h ⊢
  exact ⟨List.Nodup.sublist (hs.map Prod.fst) h.1, fun q hq => h.2 q (hs.subset hq)⟩
section MT
variable {κ : mj_K} {cc : ByteArray} {nL : Nat} {own : String} {Q : State → Prop} {pc : Nat} {L : List (Option mj_V)} {st : List mj_V} {M : mj_M} {Y : va_W} {ce sl k a : Nat}
theorem mx_drop {Y' : va_W} (hs : Y'.Sublist Y) (kk : mj_R (mj_ky κ Y' ce sl) Q pc L st M) : mj_R (mj_ky κ Y ce sl) Q pc L st M := by
  obtain ⟨⟨p, l, e, R, s, m, args, below, meth, c⟩, D, cI, ad, G, X, A, ce0, sl0⟩ := κ
  intro H locs ls hP hD hS hl
  have h1 : (mj_w cI ad G M ++ (X ++ Y')).Sublist (mj_w cI ad G M ++ (X ++ Y)) := (List.Sublist.refl _).append ((List.Sublist.refl _).append hs)
  exact kk H locs ls (mx_P_sub hP h1) (mx_D_sub hD h1) hS hl
theorem mj_i2b {x v : Int32} (C : mj_C κ cc nL own) (hd : decode cc pc = .ok (.i2b, 1)) (hv : x.toInt8.toInt32 = v) (k : mj_R κ Q (pc + 1) L (.inl v :: st) M) : mj_R κ Q pc L (.inl x :: st) M := by
  obtain ⟨⟨p, l, e, R, s, m, args, below, meth, c⟩, D, cI, ad, G, X, A, ce, sl⟩ := κ
  obtain ⟨hx, hb, hml, hown, hts, hK, hA, hE, hlk, hcs⟩ := C
  intro H locs ls hP hD hS hl
  exact lv_i2b hx hb hd hv (k H locs ls hP hD hS hl)
theorem mj_ineg {x : Int32} (C : mj_C κ cc nL own) (hd : decode cc pc = .ok (.ineg, 1)) (k : mj_R κ Q (pc + 1) L (.inl (-x) :: st) M) : mj_R κ Q pc L (.inl x :: st) M := by
  obtain ⟨⟨p, l, e, R, s, m, args, below, meth, c⟩, D, cI, ad, G, X, A, ce, sl⟩ := κ
  obtain ⟨hx, hb, hml, hown, hts, hK, hA, hE, hlk, hcs⟩ := C
  intro H locs ls hP hD hS hl
  exact lv_ineg hx hb hd (k H locs ls hP hD hS hl)
theorem mj_dupx1 {v w : mj_V} (C : mj_C κ cc nL own) (hd : decode cc pc = .ok (.dup_x1, 1)) (k : mj_R κ Q (pc + 1) L (v :: w :: v :: st) M) : mj_R κ Q pc L (v :: w :: st) M := by
  obtain ⟨⟨p, l, e, R, s, m, args, below, meth, c⟩, D, cI, ad, G, X, A, ce, sl⟩ := κ
  obtain ⟨hx, hb, hml, hown, hts, hK, hA, hE, hlk, hcs⟩ := C
  intro H locs ls hP hD hS hl
  exact lv_dup_x1 hx hb hd (mj_cv_cat ad v) (mj_cv_cat ad w) (k H locs ls hP hD hS hl)
theorem mx_ifnn {q : Nat × Nat} {off : Int} {tgt : Nat} (C : mj_C κ cc nL own) (hd : decode cc pc = .ok (.ifnonnull off, 3)) (ht : (pc : Int) + off = (tgt : Int)) (k : mj_R κ Q tgt L st M) : mj_R κ Q pc L (mj_r q :: st) M := by
  obtain ⟨⟨p, l, e, R, s, m, args, below, meth, c⟩, D, cI, ad, G, X, A, ce, sl⟩ := κ
  obtain ⟨hx, hb, hml, hown, hts, hK, hA, hE, hlk, hcs⟩ := C
  intro H locs ls hP hD hS hl
  exact lv_ifnonnull hx hb hd ht (k H locs ls hP hD hS hl)
theorem mx_alen {n : Nat} {f : Nat → Int32} (C : mj_C κ cc nL own) (hY : Y[k]? = some (a, .inl ((mj_cI κ).2, n, .inl f))) (hd : decode cc pc = .ok (.arraylength, 1)) (kk : mj_R (mj_ky κ Y ce sl) Q (pc + 1) L (.inl (nI n) :: st) M) : mj_R (mj_ky κ Y ce sl) Q pc L (mj_o (some a) :: st) M := by
  obtain ⟨⟨p, l, e, R, s, m, args, below, meth, c⟩, D, cI, ad, G, X, A, ce0, sl0⟩ := κ
  obtain ⟨hx, hb, hml, hown, hts, hK, hA, hE, hlk, hcs⟩ := C
  intro H locs ls hP hD hS hl
  exact va_alen hx hb hK hP _ 1 (mx_at hY) rfl rfl hd (kk H locs ls hP hD hS hl)
theorem mx_bald {n : Nat} {f : Nat → Int32} {i : Int32} (C : mj_C κ cc nL own) (hY : Y[k]? = some (a, .inl ((mj_cI κ).2, n, .inl f))) (hin : mj_ok i n = true) (hd : decode cc pc = .ok (.baload, 1)) (kk : mj_R (mj_ky κ Y ce sl) Q (pc + 1) L (.inl (f (mj_cl i)) :: st) M) : mj_R (mj_ky κ Y ce sl) Q pc L (.inl i :: mj_o (some a) :: st) M := by
  obtain ⟨⟨p, l, e, R, s, m, args, below, meth, c⟩, D, cI, ad, G, X, A, ce0, sl0⟩ := κ
  obtain ⟨hx, hb, hml, hown, hts, hK, hA, hE, hlk, hcs⟩ := C
  intro H locs ls hP hD hS hl
  exact va_bald hx hb hK hP _ 1 (mx_at hY) rfl (mj_ok_in hin) hd (kk H locs ls hP hD hS hl)
theorem mx_bast {n : Nat} {f : Nat → Int32} {i x v : Int32} {Y' : va_W} (C : mj_C κ cc nL own) (hY : Y[k]? = some (a, .inl ((mj_cI κ).2, n, .inl f))) (hin : mj_ok i n = true) (hv : vp_nar .byte x = v) (hd : decode cc pc = .ok (.bastore, 1)) (hs : Y.set k (a, .inl ((mj_cI κ).2, n, .inl (upd f (mj_cl i) v))) = Y') (kk : mj_R (mj_ky κ Y' ce sl) Q (pc + 1) L st M) : mj_R (mj_ky κ Y ce sl) Q pc L (.inl x :: .inl i :: mj_o (some a) :: st) M := by
  subst hv
  obtain ⟨⟨p, l, e, R, s, m, args, below, meth, c⟩, D, cI, ad, G, X, A, ce0, sl0⟩ := κ
  obtain ⟨hx, hb, hml, hown, hts, hK, hA, hE, hlk, hcs⟩ := C
  intro H locs ls hP hD hS hl
  refine va_bast hx hb hK hP hD hS _ 1 (mx_at hY) rfl (mj_ok_in hin) hd (fun H1 locs1 hP1 hD1 hS1 => ?_)
  rw [mx_set, show i.toNatClampNeg = mj_cl i from rfl, hs] at hP1 hD1
  exact kk H1 locs1 ls hP1 hD1 hS1 hl
theorem mx_iret {mc ms : Nat} {post : Option mj_V → va_W → Prop} {v : Int32} {ty : FieldType} (C : mj_C κ cc nL own) (hr : mj_rt κ = some ty) (hn : narrow ty (.int v) = .int v) (h1 : ce ≤ mc) (h2 : sl ≤ ms) (hd : decode cc pc = .ok (.ireturn, 1)) (h : post (some (.inl v)) Y) : mj_R (mj_ky κ Y ce sl) (mx_F κ M mc ms post) pc L [.inl v] M := by
  obtain ⟨⟨p, l, e, R, s, m, args, below, meth, c⟩, D, cI, ad, G, X, A, ce0, sl0⟩ := κ
  obtain ⟨hx, hb, hml, hown, hts, hK, hA, hE, hlk, hcs⟩ := C
  intro H locs ls hP hD hS hl
  refine W.widen (k := mc) (n := ms) h1 h2 ?_
  exact W.zret hx hb hr hn (fun t ht hW => ⟨⟨some (.inl v), Y, rfl, h, by rw [ht]; exact hP, hD⟩, hS.F ht⟩) hS.2.2 hd
theorem mx_aret {mc ms : Nat} {post : Option mj_V → va_W → Prop} {rt : FieldType} (C : mj_C κ cc nL own) (hr : mj_rt κ = some rt) (hrt : (∃ n, rt = .object n) ∨ ∃ t, rt = .array t) (h1 : ce ≤ mc) (h2 : sl ≤ ms) (hd : decode cc pc = .ok (.areturn, 1)) (h : post (some (mj_o (some a))) Y) : mj_R (mj_ky κ Y ce sl) (mx_F κ M mc ms post) pc L [mj_o (some a)] M := by
  obtain ⟨⟨p, l, e, R, s, m, args, below, meth, c⟩, D, cI, ad, G, X, A, ce0, sl0⟩ := κ
  obtain ⟨hx, hb, hml, hown, hts, hK, hA, hE, hlk, hcs⟩ := C
  intro H locs ls hP hD hS hl
  refine W.widen (k := mc) (n := ms) h1 h2 ?_
  exact W.aret hx hb hr hrt (Or.inr ⟨_, rfl⟩) (fun t ht hW => ⟨⟨some (mj_o (some a)), Y, rfl, h, by rw [ht]; exact hP, hD⟩, hS.F ht⟩) hS.2.2 hd
/-- a call whose callee works on the last cells -/
theorem mx_callS {y : MethodName} {cy : ByteArray} {nLy dy n idx mc ms : Nat} {ret : Option FieldType} {av : List mj_V} {Y0 Yc : va_W} {post : Option mj_V → va_W → Prop} (C : mj_C κ cc nL own) (hlink : Cond.methodLink own idx y ∈ mj_T) (Kl : mj_lkS y cy nLy ret n) (hL : L.length = nL) (S : mx_Sem (mj_cI κ) y cy nLy ret dy mc ms av Yc post) (hY : Y = Y0 ++ Yc) (hF : mx_fits κ dy nLy ce sl mc ms) (hn : av.length = n) (hst : st.length ≤ 8) (hd : decode cc pc = .ok (.invokestatic idx, 3)) (kk : ∀ (r : Option mj_V) (Y' : va_W), post r Y' → mj_R (mj_ky κ (Y0 ++ Y') (ce + mc) (sl + ms)) Q (pc + 3) L (r.toList ++ st) M) : mj_R (mj_ky κ Y ce sl) Q pc L (av.reverse ++ st) M := by
  subst hY
  obtain ⟨⟨p, l, e, R, s, m, args, below, meth, c⟩, D, cI, ad, G, X, A, ce0, sl0⟩ := κ
  obtain ⟨hx, hb, hml, hown, hts, hK, hA, hE, hlk, hcs⟩ := C
  intro H locs ls hP hD hS hl
  have hP : va_P D vwCl (mj_w cI ad G M ++ (X ++ (Y0 ++ Yc))) H := hP
  have hD : va_D A (mj_w cI ad G M ++ (X ++ (Y0 ++ Yc))) := hD
  rw [← List.append_assoc X] at hP hD
  have hAH : ∀ q : Nat, H.size ≤ q → A q := fun q h => hA q (Nat.le_trans hS.1 h)
  have hin := mj_A_in hD hAH
  have hM := S l D ad G M (X ++ Y0) H.size
  refine mx_after (va_runS (As := av.map (mj_cv ad)) (rest := st.map (mj_cv ad)) ⟨hx, hb, hml, hown, hts⟩ hM ⟨callB_of n hts (mj_wsIn Kl.1) rfl rfl rfl (hts _ Kl.1.2.1) (hts _ hlink) Kl.1.2.2 hF.1, hts _ Kl.2⟩ ⟨mx_blind D cI ad G M (X ++ Y0) Yc H.size av, fun U hU hW => ⟨rfl, by rw [hU], by rw [hU]; exact hP, va_K.moved hW.alike hK, hD.weaken (fun _ _ _ _ => trivial), mj_E.go (by rw [hU]; exact hS) hW hin hE⟩⟩ rfl (by rw [List.length_map]; exact hn) (hl.1.trans hL) (by simp; try rfl) (by rw [mj_cats]; show 2 * 0 + _ ≤ 8; omega) hd hF.2) hS hin hin (fun r Y' H1 locs1 hp hP1 hD1 hS1 => ?_)
  rw [mj_tol]
  rw [List.append_assoc X] at hP1 hD1
  exact kk r Y' hp H1 locs1 ls hP1 hD1 hS1 hl
theorem mx_callU {y : MethodName} {cy : ByteArray} {nLy dy n idx mc ms kc : Nat} {ret : Option FieldType} {av : List mj_V} {Y0 Yc : va_W} {fs : List Value} {post : Option mj_V → va_W → Prop} (C : mj_C κ cc nL own) (hlink : Cond.methodLink own idx y ∈ mj_T) (h2 : Cond.sameMethod y.cls y.cls y.name y.desc ∈ mj_T) (h3 : mx_in (Cond.selects "java/lang/StringBuilder" y y)) (h4 : Cond.instanceMethod y ∈ mj_T) (Kl : mj_lk y cy nLy ret n) (hL : L.length = nL) (S : mx_Sem (mj_cI κ) y cy nLy ret dy mc ms (mj_o (some a) :: av) Yc post) (hY : Y = Y0 ++ Yc) (hc : Yc[kc]? = some (a, .inr (0, fs))) (hF : mx_fits κ dy nLy ce sl mc ms) (hn : av.length = n) (hst : st.length ≤ 8) (hd : decode cc pc = .ok (.invokevirtual idx, 3)) (kk : ∀ (r : Option mj_V) (Y' : va_W), post r Y' → mj_R (mj_ky κ (Y0 ++ Y') (ce + mc) (sl + ms)) Q (pc + 3) L (r.toList ++ st) M) : mj_R (mj_ky κ Y ce sl) Q pc L (av.reverse ++ mj_o (some a) :: st) M := by
  subst hY
  obtain ⟨⟨p, l, e, R, s, m, args, below, meth, c⟩, D, cI, ad, G, X, A, ce0, sl0⟩ := κ
  obtain ⟨hx, hb, hml, hown, hts, hK, hA, hE, hlk, hcs⟩ := C
  intro H locs ls hP hD hS hl
  have hP : va_P D vwCl (mj_w cI ad G M ++ (X ++ (Y0 ++ Yc))) H := hP
  have hD : va_D A (mj_w cI ad G M ++ (X ++ (Y0 ++ Yc))) := hD
  rw [← List.append_assoc X] at hP hD
  have hAH : ∀ q : Nat, H.size ≤ q → A q := fun q h => hA q (Nat.le_trans hS.1 h)
  have hin := mj_A_in hD hAH
  have hM := S l D ad G M (X ++ Y0) H.size
  have hrc : ∃ cellB : Cell, H[a]? = some cellB ∧ cellB.vm.isStatics = false ∧ s.vm.findClass "java/lang/StringBuilder" = some cellB.cls := va_recv (q := (RJ4, TJ4, 4)) hK hP rfl (mx_at hc)
  refine mx_after (va_runU (x := y) (owner := y.cls) (C := "java/lang/StringBuilder") (As := av.map (mj_cv ad)) (rest := st.map (mj_cv ad)) ⟨hx, hb, hml, hown, hts⟩ hM ⟨⟨rfl, rfl, hF.1.1, hF.1.2, pay_in hts (mj_wsIn Kl), List.mem_cons_self⟩, hts _ Kl.1, hts _ Kl.2.1, ⟨Kl.2.2.1, Kl.2.2.2.1⟩, (fun sig h => by have h9 := Kl.2.2.2.2; rw [h] at h9; exact (Option.some.inj h9).symm), hts _ hlink, hts _ h2, va_Decl.of (hts _ h4) (hts _ Kl.1), h3 _ _ hts, hts _ h4⟩ ⟨mx_blind D cI ad G M (X ++ Y0) Yc H.size (mj_o (some a) :: av), hrc, fun U hU hW => ⟨rfl, by rw [hU], by rw [hU]; exact hP, va_K.moved hW.alike hK, hD.weaken (fun _ _ _ _ => trivial), mj_E.go (by rw [hU]; exact hS) hW hin hE⟩⟩ rfl (by rw [List.length_map]; exact hn) (hl.1.trans hL) (by simp [mj_cv, mj_o, va_rf]; try rfl) (by rw [mj_cats]; show 2 * 0 + _ ≤ 8; omega) hd hF.2) hS hin hin (fun r Y' H1 locs1 hp hP1 hD1 hS1 => ?_)
  rw [mj_tol]
  rw [List.append_assoc X] at hP1 hD1
  exact kk r Y' hp H1 locs1 ls hP1 hD1 hS1 hl
end MT
