theorem mw_le (x : Int32) : f_X10_machineWord x < 31 ∧ (sw (f_X10_machineWord x)).length ≤ 7 := by
  unfold f_X10_machineWord
  repeat (first | (split; · decide) | decide)
theorem aw_le (x : Int32) : f_X10_alarmWord x < 31 := by
  unfold f_X10_alarmWord
  repeat (first | (split; · decide) | decide)
theorem sw19 : (sw 19).length = 2 := by decide
theorem sw20 : (sw 20).length = 6 := by decide
theorem rw_le (m : mj_m) : tt_rw m < 31 := by
  unfold tt_rw
  split
  · split <;> decide
  · decide
theorem tx_len {l w : List Nat} {a b c : Nat} (h1 : l.length ≤ a) (h2 : w.length ≤ b) (h3 : a + b = c) : (l ++ w).length ≤ c := by
  rw [List.length_append, ← h3]
  exact Nat.add_le_add h1 h2
theorem sn0_le (m : mj_m) : (tt_sn0 m).length ≤ 20 := by
  unfold tt_sn0
  have h1 := (mw_le (m 17 6)).2
  have h2 := tt_n_le (m 23 4)
  have h3 := tt_n_le (m 2 2)
  have h4 := tt_n_le (m 17 7)
  have h5 := sw19
  simp only [List.length_append, List.length_nil, List.length_cons]
  omega
theorem rc0_le (m : mj_m) : (tt_rc0 m).length ≤ 14 := by
  unfold tt_rc0
  have h1 := sw_le (rw_le m)
  have h2 := tt_n_le (m 9 2)
  simp only [List.length_append, List.length_nil, List.length_cons]
  omega
theorem snd_le (m : mj_m) : (tt_snd m).length < 40 := by
  unfold tt_snd
  have h1 := sn0_le m
  have h2 := (mw_le (m 17 11)).2
  have h3 := sw20
  split
  · omega
  · simp only [List.length_append]
    omega
theorem rcv_le (m : mj_m) : (tt_rcv m).length < 40 := by
  unfold tt_rcv
  have h1 := rc0_le m
  split
  · omega
  · simp only [List.length_append, List.length_nil, List.length_cons]
    omega
theorem rep_le (m : mj_m) : (tt_rep m).length < 40 := by
  unfold tt_rep
  have h1 := tt_n_le (mj_ush (mj_ush (m 17 14) 8) 3)
  have h2 := tt_n_le (m 17 14 &&& 255)
  split
  · decide
  · split
    · decide
    · simp only [List.length_append, List.length_nil, List.length_cons]
      omega
