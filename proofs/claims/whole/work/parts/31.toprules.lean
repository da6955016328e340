/-! rules on several blocks -/
def mj_twr (M : mj_M) (b k j : Nat) (x : Int32) : mj_M := va_up M b (mj_wrs (M b) k j x)
theorem sLwv {G : mj_G} {β r : Nat} {x : Int32} (h : mj_isL G β) (e : f_X3_wayOf x = r) : mj_isWay G β r := by
  unfold f_X3_wayOf at e
  split at e
  · subst e
    exact sLw38 h
  · subst e
    exact sLw33 h
theorem mj_S1_selfR {y : MethodName} {cc : ByteArray} {nL : Nat} {ret : Option FieldType} {d : Nat} {G : mj_G} {av : List mj_V} {M : mj_M} {β : Nat} {r0 : Option mj_V} (h : mj_S1 y cc nL ret d G av (va_up M β (M β)) r0 (va_up M β (M β))) : mj_S1 y cc nL ret d G av M r0 M := by
  rw [mj_self] at h
  exact h
section MJT
variable {κ : mj_K} {cc : ByteArray} {nL : Nat} {own : String} {Q : State → Prop} {pc : Nat} {L : List (Option mj_V)} {st : List mj_V} {M M1 : mj_M} {b k0 : Nat}
theorem mj_tget {idx ci j : Nat} {t : List (Option (Nat × Nat))} (C : mj_C κ cc nL own) (F : mj_fl own idx ci j) (hq : mj_at (mj_g κ) (b, k0) (.inr (ci, t))) (hj : t[j]? = some none) (hd : decode cc pc = .ok (.getfield idx, 3)) (k : mj_R κ Q (pc + 3) L (.inl (M b k0 j) :: st) M) : mj_R κ Q pc L (mj_r (b, k0) :: st) M := mj_get C F hq hj hd k
theorem mj_tput {idx ci j : Nat} {t : List (Option (Nat × Nat))} {x : Int32} {ty : FieldType} (C : mj_C κ cc nL own) (F : mj_fl own idx ci j) (F2 : mj_fp ci j ty) (hn : narrow ty (.int x) = .int x) (hf : fits ty (.int x) = true) (hq : mj_at (mj_g κ) (b, k0) (.inr (ci, t))) (hj : t[j]? = some none) (hd : decode cc pc = .ok (.putfield idx, 3)) (hm : mj_twr M b k0 j x = M1) (k : mj_R κ Q (pc + 3) L st M1) : mj_R κ Q pc L (.inl x :: mj_r (b, k0) :: st) M := by
  refine mj_put C F F2 hn hf hq hj hd ?_
  rw [show mj_wr M (b, k0) (upd (M (b, k0).1 (b, k0).2) j x) = M1 from hm]
  exact k
theorem mj_tald {n j : Nat} {i : Int32} (C : mj_C κ cc nL own) (hq : mj_at (mj_g κ) (b, k0) (.inl n)) (hin : mj_ok i n = true) (hj : mj_cl i = j) (hd : decode cc pc = .ok (.iaload, 1)) (k : mj_R κ Q (pc + 1) L (.inl (M b k0 j) :: st) M) : mj_R κ Q pc L (.inl i :: mj_r (b, k0) :: st) M := by
  subst hj
  exact mj_ald C hq hin hd k
theorem mj_tast {n j : Nat} {i x : Int32} (C : mj_C κ cc nL own) (hq : mj_at (mj_g κ) (b, k0) (.inl n)) (hin : mj_ok i n = true) (hj : mj_cl i = j) (hd : decode cc pc = .ok (.iastore, 1)) (hm : mj_twr M b k0 j x = M1) (k : mj_R κ Q (pc + 1) L st M1) : mj_R κ Q pc L (.inl x :: .inl i :: mj_r (b, k0) :: st) M := by
  subst hj
  refine mj_ast C hq hin hd ?_
  rw [show mj_wr M (b, k0) (upd (M (b, k0).1 (b, k0).2) (mj_cl i) x) = M1 from hm]
  exact k
end MJT
