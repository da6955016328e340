theorem mj_in1 {w : Cond} (i : Nat) (h : tables_1_1[i]? = some w) (hg : goodWord w = true) : w ∈ mj_T := List.mem_append_right _ (List.mem_filter.mpr ⟨List.mem_append_right _ (List.mem_append_left _ (List.mem_of_getElem? h)), hg⟩)
theorem mj_in2 {w : Cond} (i : Nat) (h : tables_1_2[i]? = some w) (hg : goodWord w = true) : w ∈ mj_T := List.mem_append_right _ (List.mem_filter.mpr ⟨List.mem_append_right _ (List.mem_append_right _ (List.mem_append_left _ (List.mem_of_getElem? h))), hg⟩)
theorem mj_in3 {w : Cond} (i : Nat) (h : tables_1_3[i]? = some w) (hg : goodWord w = true) : w ∈ mj_T := List.mem_append_right _ (List.mem_filter.mpr ⟨List.mem_append_right _ (List.mem_append_right _ (List.mem_append_right _ (List.mem_append_left _ (List.mem_of_getElem? h)))), hg⟩)
theorem mj_in4 {w : Cond} (i : Nat) (h : tables_1_4[i]? = some w) (hg : goodWord w = true) : w ∈ mj_T := List.mem_append_right _ (List.mem_filter.mpr ⟨List.mem_append_right _ (List.mem_append_right _ (List.mem_append_right _ (List.mem_append_right _ (List.mem_append_left _ (List.mem_of_getElem? h))))), hg⟩)
theorem mj_in5 {w : Cond} (i : Nat) (h : tables_1_5[i]? = some w) (hg : goodWord w = true) : w ∈ mj_T := List.mem_append_right _ (List.mem_filter.mpr ⟨List.mem_append_right _ (List.mem_append_right _ (List.mem_append_right _ (List.mem_append_right _ (List.mem_append_right _ (List.mem_append_left _ (List.mem_of_getElem? h)))))), hg⟩)
theorem mj_in6 {w : Cond} (i : Nat) (h : tables_1_6[i]? = some w) (hg : goodWord w = true) : w ∈ mj_T := List.mem_append_right _ (List.mem_filter.mpr ⟨List.mem_append_right _ (List.mem_append_right _ (List.mem_append_right _ (List.mem_append_right _ (List.mem_append_right _ (List.mem_append_right _ (List.mem_append_left _ (List.mem_of_getElem? h))))))), hg⟩)
theorem mj_in7 {w : Cond} (i : Nat) (h : tables_1_7[i]? = some w) (hg : goodWord w = true) : w ∈ mj_T := List.mem_append_right _ (List.mem_filter.mpr ⟨List.mem_append_right _ (List.mem_append_right _ (List.mem_append_right _ (List.mem_append_right _ (List.mem_append_right _ (List.mem_append_right _ (List.mem_append_right _ (List.mem_append_left _ (List.mem_of_getElem? h)))))))), hg⟩)
theorem mj_in8 {w : Cond} (i : Nat) (h : tables_1_8[i]? = some w) (hg : goodWord w = true) : w ∈ mj_T := List.mem_append_right _ (List.mem_filter.mpr ⟨List.mem_append_right _ (List.mem_append_right _ (List.mem_append_right _ (List.mem_append_right _ (List.mem_append_right _ (List.mem_append_right _ (List.mem_append_right _ (List.mem_append_right _ (List.mem_append_left _ (List.mem_of_getElem? h))))))))), hg⟩)
theorem mj_in9 {w : Cond} (i : Nat) (h : tables_1_9[i]? = some w) (hg : goodWord w = true) : w ∈ mj_T := List.mem_append_right _ (List.mem_filter.mpr ⟨List.mem_append_right _ (List.mem_append_right _ (List.mem_append_right _ (List.mem_append_right _ (List.mem_append_right _ (List.mem_append_right _ (List.mem_append_right _ (List.mem_append_right _ (List.mem_append_right _ (List.mem_of_getElem? h))))))))), hg⟩)
theorem mj_inP {q : MethodName × Nat} (i : Nat) (h : lw_privs[i]? = some q) : Cond.selects q.1.cls q.1 q.1 ∈ mj_T := List.mem_append_right _ (List.mem_filter.mpr ⟨List.mem_append_left _ (List.mem_map.mpr ⟨q, List.mem_of_getElem? h, rfl⟩), rfl⟩)
theorem inTJ4 : ∀ w ∈ u_ws RJ4 TJ4 4, w ∈ mj_T := mj_T_all [581, 583, 585, 587] (by decide +kernel) (by decide +kernel)
theorem fP_0_2 : mj_fp 0 2 .boolean := by
  intro C T N h
  cases h
  exact ⟨⟨tyJ4, tyJ4_ok, rfl⟩, nmJ4, rfl⟩
theorem fP_0_3 : mj_fp 0 3 .int := by
  intro C T N h
  cases h
  exact ⟨⟨tyJ4, tyJ4_ok, rfl⟩, nmJ4, rfl⟩
theorem inTX0 : ∀ w ∈ u_ws RX0 TX0 3, w ∈ mj_T := mj_T_all [184, 186, 188] (by decide +kernel) (by decide +kernel)
theorem fP_1_0 : mj_fp 1 0 .int := by
  intro C T N h
  cases h
  exact ⟨⟨tyX0, tyX0_ok, rfl⟩, nmX0, rfl⟩
theorem fP_1_1 : mj_fp 1 1 .int := by
  intro C T N h
  cases h
  exact ⟨⟨tyX0, tyX0_ok, rfl⟩, nmX0, rfl⟩
theorem inTX1 : ∀ w ∈ u_ws RX1 TX1 7, w ∈ mj_T := mj_T_all [236, 238, 240, 242, 244, 246, 248] (by decide +kernel) (by decide +kernel)
theorem fP_2_2 : mj_fp 2 2 .int := by
  intro C T N h
  cases h
  exact ⟨⟨tyX1, tyX1_ok, rfl⟩, nmX1, rfl⟩
theorem fP_2_4 : mj_fp 2 4 .int := by
  intro C T N h
  cases h
  exact ⟨⟨tyX1, tyX1_ok, rfl⟩, nmX1, rfl⟩
theorem fP_2_5 : mj_fp 2 5 .int := by
  intro C T N h
  cases h
  exact ⟨⟨tyX1, tyX1_ok, rfl⟩, nmX1, rfl⟩
theorem inTX2 : ∀ w ∈ u_ws RX2 TX2 6, w ∈ mj_T := mj_T_all [206, 208, 210, 212, 214, 216] (by decide +kernel) (by decide +kernel)
theorem fP_3_2 : mj_fp 3 2 .int := by
  intro C T N h
  cases h
  exact ⟨⟨tyX2, tyX2_ok, rfl⟩, nmX2, rfl⟩
theorem fP_3_4 : mj_fp 3 4 .int := by
  intro C T N h
  cases h
  exact ⟨⟨tyX2, tyX2_ok, rfl⟩, nmX2, rfl⟩
theorem fP_3_5 : mj_fp 3 5 .int := by
  intro C T N h
  cases h
  exact ⟨⟨tyX2, tyX2_ok, rfl⟩, nmX2, rfl⟩
theorem inTX3 : ∀ w ∈ u_ws RX3 TX3 8, w ∈ mj_T := mj_T_all [502, 504, 506, 508, 510, 512, 514, 516] (by decide +kernel) (by decide +kernel)
theorem inTX4 : ∀ w ∈ u_ws RX4 TX4 4, w ∈ mj_T := mj_T_all [477, 479, 481, 483] (by decide +kernel) (by decide +kernel)
theorem fP_5_2 : mj_fp 5 2 .int := by
  intro C T N h
  cases h
  exact ⟨⟨tyX4, tyX4_ok, rfl⟩, nmX4, rfl⟩
theorem fP_5_3 : mj_fp 5 3 .int := by
  intro C T N h
  cases h
  exact ⟨⟨tyX4, tyX4_ok, rfl⟩, nmX4, rfl⟩
theorem inTX5 : ∀ w ∈ u_ws RX5 TX5 9, w ∈ mj_T := mj_T_all [540, 542, 544, 546, 548, 550, 552, 554, 556] (by decide +kernel) (by decide +kernel)
theorem fP_6_1 : mj_fp 6 1 .int := by
  intro C T N h
  cases h
  exact ⟨⟨tyX5, tyX5_ok, rfl⟩, nmX5, rfl⟩
theorem fP_6_3 : mj_fp 6 3 .int := by
  intro C T N h
  cases h
  exact ⟨⟨tyX5, tyX5_ok, rfl⟩, nmX5, rfl⟩
theorem fP_6_4 : mj_fp 6 4 .int := by
  intro C T N h
  cases h
  exact ⟨⟨tyX5, tyX5_ok, rfl⟩, nmX5, rfl⟩
theorem fP_6_5 : mj_fp 6 5 .int := by
  intro C T N h
  cases h
  exact ⟨⟨tyX5, tyX5_ok, rfl⟩, nmX5, rfl⟩
theorem fP_6_6 : mj_fp 6 6 .int := by
  intro C T N h
  cases h
  exact ⟨⟨tyX5, tyX5_ok, rfl⟩, nmX5, rfl⟩
theorem fP_6_7 : mj_fp 6 7 .int := by
  intro C T N h
  cases h
  exact ⟨⟨tyX5, tyX5_ok, rfl⟩, nmX5, rfl⟩
theorem fP_6_8 : mj_fp 6 8 .int := by
  intro C T N h
  cases h
  exact ⟨⟨tyX5, tyX5_ok, rfl⟩, nmX5, rfl⟩
theorem inTX6 : ∀ w ∈ u_ws RX6 TX6 13, w ∈ mj_T := mj_T_all [319, 321, 323, 325, 327, 329, 331, 333, 335, 337, 339, 341, 343] (by decide +kernel) (by decide +kernel)
theorem fP_7_2 : mj_fp 7 2 .int := by
  intro C T N h
  cases h
  exact ⟨⟨tyX6, tyX6_ok, rfl⟩, nmX6, rfl⟩
theorem fP_7_3 : mj_fp 7 3 .boolean := by
  intro C T N h
  cases h
  exact ⟨⟨tyX6, tyX6_ok, rfl⟩, nmX6, rfl⟩
theorem fP_7_4 : mj_fp 7 4 .boolean := by
  intro C T N h
  cases h
  exact ⟨⟨tyX6, tyX6_ok, rfl⟩, nmX6, rfl⟩
theorem fP_7_5 : mj_fp 7 5 .boolean := by
  intro C T N h
  cases h
  exact ⟨⟨tyX6, tyX6_ok, rfl⟩, nmX6, rfl⟩
theorem fP_7_6 : mj_fp 7 6 .int := by
  intro C T N h
  cases h
  exact ⟨⟨tyX6, tyX6_ok, rfl⟩, nmX6, rfl⟩
theorem fP_7_9 : mj_fp 7 9 .int := by
  intro C T N h
  cases h
  exact ⟨⟨tyX6, tyX6_ok, rfl⟩, nmX6, rfl⟩
theorem fP_7_11 : mj_fp 7 11 .int := by
  intro C T N h
  cases h
  exact ⟨⟨tyX6, tyX6_ok, rfl⟩, nmX6, rfl⟩
theorem fP_7_12 : mj_fp 7 12 .int := by
  intro C T N h
  cases h
  exact ⟨⟨tyX6, tyX6_ok, rfl⟩, nmX6, rfl⟩
theorem inTX7 : ∀ w ∈ u_ws RX7 TX7 5, w ∈ mj_T := mj_T_all [281, 283, 285, 287, 289] (by decide +kernel) (by decide +kernel)
theorem fP_8_4 : mj_fp 8 4 .int := by
  intro C T N h
  cases h
  exact ⟨⟨tyX7, tyX7_ok, rfl⟩, nmX7, rfl⟩
theorem inTX8 : ∀ w ∈ u_ws RX8 TX8 16, w ∈ mj_T := mj_T_all [383, 385, 387, 389, 391, 393, 395, 397, 399, 401, 403, 405, 407, 409, 411, 413] (by decide +kernel) (by decide +kernel)
theorem fP_9_6 : mj_fp 9 6 .int := by
  intro C T N h
  cases h
  exact ⟨⟨tyX8, tyX8_ok, rfl⟩, nmX8, rfl⟩
theorem fP_9_7 : mj_fp 9 7 .int := by
  intro C T N h
  cases h
  exact ⟨⟨tyX8, tyX8_ok, rfl⟩, nmX8, rfl⟩
theorem fP_9_8 : mj_fp 9 8 .int := by
  intro C T N h
  cases h
  exact ⟨⟨tyX8, tyX8_ok, rfl⟩, nmX8, rfl⟩
theorem fP_9_9 : mj_fp 9 9 .int := by
  intro C T N h
  cases h
  exact ⟨⟨tyX8, tyX8_ok, rfl⟩, nmX8, rfl⟩
theorem fP_9_10 : mj_fp 9 10 .int := by
  intro C T N h
  cases h
  exact ⟨⟨tyX8, tyX8_ok, rfl⟩, nmX8, rfl⟩
theorem fP_9_11 : mj_fp 9 11 .int := by
  intro C T N h
  cases h
  exact ⟨⟨tyX8, tyX8_ok, rfl⟩, nmX8, rfl⟩
theorem fP_9_12 : mj_fp 9 12 .int := by
  intro C T N h
  cases h
  exact ⟨⟨tyX8, tyX8_ok, rfl⟩, nmX8, rfl⟩
theorem fP_9_13 : mj_fp 9 13 .boolean := by
  intro C T N h
  cases h
  exact ⟨⟨tyX8, tyX8_ok, rfl⟩, nmX8, rfl⟩
theorem fP_9_14 : mj_fp 9 14 .int := by
  intro C T N h
  cases h
  exact ⟨⟨tyX8, tyX8_ok, rfl⟩, nmX8, rfl⟩
theorem fP_9_15 : mj_fp 9 15 .int := by
  intro C T N h
  cases h
  exact ⟨⟨tyX8, tyX8_ok, rfl⟩, nmX8, rfl⟩
theorem inTX9 : ∀ w ∈ u_ws RX9 TX9 11, w ∈ mj_T := mj_T_all [437, 439, 441, 443, 445, 447, 449, 451, 453, 455, 457] (by decide +kernel) (by decide +kernel)
theorem fP_10_7 : mj_fp 10 7 .int := by
  intro C T N h
  cases h
  exact ⟨⟨tyX9, tyX9_ok, rfl⟩, nmX9, rfl⟩
theorem fP_10_8 : mj_fp 10 8 .int := by
  intro C T N h
  cases h
  exact ⟨⟨tyX9, tyX9_ok, rfl⟩, nmX9, rfl⟩
theorem fP_10_9 : mj_fp 10 9 .int := by
  intro C T N h
  cases h
  exact ⟨⟨tyX9, tyX9_ok, rfl⟩, nmX9, rfl⟩
theorem fP_10_10 : mj_fp 10 10 .int := by
  intro C T N h
  cases h
  exact ⟨⟨tyX9, tyX9_ok, rfl⟩, nmX9, rfl⟩
theorem inTX10 : ∀ w ∈ u_ws RX10 TX10 6, w ∈ mj_T := mj_T_all [597, 599, 601, 603, 605, 607] (by decide +kernel) (by decide +kernel)
theorem fP_11_3 : mj_fp 11 3 .boolean := by
  intro C T N h
  cases h
  exact ⟨⟨tyX10, tyX10_ok, rfl⟩, nmX10, rfl⟩
theorem inTX11 : ∀ w ∈ u_ws RX11 TX11 23, w ∈ mj_T := mj_T_all [1522, 1524, 1526, 1528, 1530, 1532, 1534, 1536, 1538, 1540, 1542, 1544, 1546, 1548, 1550, 1552, 1554, 1556, 1558, 1560, 1562, 1564, 1566] (by decide +kernel) (by decide +kernel)
theorem fP_12_0 : mj_fp 12 0 .int := by
  intro C T N h
  cases h
  exact ⟨⟨tyX11, tyX11_ok, rfl⟩, nmX11, rfl⟩
theorem fP_12_4 : mj_fp 12 4 .int := by
  intro C T N h
  cases h
  exact ⟨⟨tyX11, tyX11_ok, rfl⟩, nmX11, rfl⟩
theorem fP_12_7 : mj_fp 12 7 .int := by
  intro C T N h
  cases h
  exact ⟨⟨tyX11, tyX11_ok, rfl⟩, nmX11, rfl⟩
theorem fP_12_9 : mj_fp 12 9 .int := by
  intro C T N h
  cases h
  exact ⟨⟨tyX11, tyX11_ok, rfl⟩, nmX11, rfl⟩
theorem fP_12_10 : mj_fp 12 10 .int := by
  intro C T N h
  cases h
  exact ⟨⟨tyX11, tyX11_ok, rfl⟩, nmX11, rfl⟩
theorem fP_12_11 : mj_fp 12 11 .int := by
  intro C T N h
  cases h
  exact ⟨⟨tyX11, tyX11_ok, rfl⟩, nmX11, rfl⟩
theorem fP_12_12 : mj_fp 12 12 .int := by
  intro C T N h
  cases h
  exact ⟨⟨tyX11, tyX11_ok, rfl⟩, nmX11, rfl⟩
theorem fP_12_13 : mj_fp 12 13 .int := by
  intro C T N h
  cases h
  exact ⟨⟨tyX11, tyX11_ok, rfl⟩, nmX11, rfl⟩
theorem fP_12_15 : mj_fp 12 15 .int := by
  intro C T N h
  cases h
  exact ⟨⟨tyX11, tyX11_ok, rfl⟩, nmX11, rfl⟩
theorem fP_12_16 : mj_fp 12 16 .int := by
  intro C T N h
  cases h
  exact ⟨⟨tyX11, tyX11_ok, rfl⟩, nmX11, rfl⟩
theorem fP_12_17 : mj_fp 12 17 .int := by
  intro C T N h
  cases h
  exact ⟨⟨tyX11, tyX11_ok, rfl⟩, nmX11, rfl⟩
theorem fP_12_18 : mj_fp 12 18 .int := by
  intro C T N h
  cases h
  exact ⟨⟨tyX11, tyX11_ok, rfl⟩, nmX11, rfl⟩
theorem fP_12_19 : mj_fp 12 19 .int := by
  intro C T N h
  cases h
  exact ⟨⟨tyX11, tyX11_ok, rfl⟩, nmX11, rfl⟩
theorem fP_12_21 : mj_fp 12 21 .boolean := by
  intro C T N h
  cases h
  exact ⟨⟨tyX11, tyX11_ok, rfl⟩, nmX11, rfl⟩
set_option maxRecDepth 20000 in
theorem lF_X0_9 : mj_fl RX0 9 1 0 := ⟨_, _, _, rfl, Nat.le_of_ble_eq_true rfl, inTX0, (mj_in1 53 rfl rfl)⟩
set_option maxRecDepth 20000 in
theorem lF_X1_35 : mj_fl RX1 35 1 0 := ⟨_, _, _, rfl, Nat.le_of_ble_eq_true rfl, inTX0, (mj_in1 54 rfl rfl)⟩
set_option maxRecDepth 20000 in
theorem lF_X3_75 : mj_fl RX3 75 1 0 := ⟨_, _, _, rfl, Nat.le_of_ble_eq_true rfl, inTX0, (mj_in1 55 rfl rfl)⟩
set_option maxRecDepth 20000 in
theorem lF_X9_47 : mj_fl RX9 47 1 0 := ⟨_, _, _, rfl, Nat.le_of_ble_eq_true rfl, inTX0, (mj_in1 56 rfl rfl)⟩
set_option maxRecDepth 20000 in
theorem lF_X2_36 : mj_fl RX2 36 1 0 := ⟨_, _, _, rfl, Nat.le_of_ble_eq_true rfl, inTX0, (mj_in1 57 rfl rfl)⟩
set_option maxRecDepth 20000 in
theorem lF_X10_98 : mj_fl RX10 98 1 0 := ⟨_, _, _, rfl, Nat.le_of_ble_eq_true rfl, inTX0, (mj_in1 58 rfl rfl)⟩
set_option maxRecDepth 20000 in
theorem lF_X0_15 : mj_fl RX0 15 1 1 := ⟨_, _, _, rfl, Nat.le_of_ble_eq_true rfl, inTX0, (mj_in1 59 rfl rfl)⟩
set_option maxRecDepth 20000 in
theorem lF_X10_44 : mj_fl RX10 44 1 1 := ⟨_, _, _, rfl, Nat.le_of_ble_eq_true rfl, inTX0, (mj_in1 60 rfl rfl)⟩
set_option maxRecDepth 20000 in
theorem lF_X0_27 : mj_fl RX0 27 1 2 := ⟨_, _, _, rfl, Nat.le_of_ble_eq_true rfl, inTX0, (mj_in1 61 rfl rfl)⟩
set_option maxRecDepth 20000 in
theorem lF_X8_96 : mj_fl RX8 96 1 2 := ⟨_, _, _, rfl, Nat.le_of_ble_eq_true rfl, inTX0, (mj_in1 62 rfl rfl)⟩
set_option maxRecDepth 20000 in
theorem lF_X6_93 : mj_fl RX6 93 1 2 := ⟨_, _, _, rfl, Nat.le_of_ble_eq_true rfl, inTX0, (mj_in1 63 rfl rfl)⟩
set_option maxRecDepth 20000 in
theorem lF_X9_78 : mj_fl RX9 78 1 2 := ⟨_, _, _, rfl, Nat.le_of_ble_eq_true rfl, inTX0, (mj_in1 64 rfl rfl)⟩
set_option maxRecDepth 20000 in
theorem lF_X10_362 : mj_fl RX10 362 1 2 := ⟨_, _, _, rfl, Nat.le_of_ble_eq_true rfl, inTX0, (mj_in1 65 rfl rfl)⟩
set_option maxRecDepth 20000 in
theorem lF_X2_28 : mj_fl RX2 28 3 0 := ⟨_, _, _, rfl, Nat.le_of_ble_eq_true rfl, inTX2, (mj_in1 80 rfl rfl)⟩
set_option maxRecDepth 20000 in
theorem lF_X2_11 : mj_fl RX2 11 3 1 := ⟨_, _, _, rfl, Nat.le_of_ble_eq_true rfl, inTX2, (mj_in1 81 rfl rfl)⟩
set_option maxRecDepth 20000 in
theorem lF_X2_15 : mj_fl RX2 15 3 2 := ⟨_, _, _, rfl, Nat.le_of_ble_eq_true rfl, inTX2, (mj_in1 82 rfl rfl)⟩
set_option maxRecDepth 20000 in
theorem lF_X10_307 : mj_fl RX10 307 3 2 := ⟨_, _, _, rfl, Nat.le_of_ble_eq_true rfl, inTX2, (mj_in1 83 rfl rfl)⟩
set_option maxRecDepth 20000 in
theorem lF_X2_19 : mj_fl RX2 19 3 3 := ⟨_, _, _, rfl, Nat.le_of_ble_eq_true rfl, inTX2, (mj_in1 84 rfl rfl)⟩
set_option maxRecDepth 20000 in
theorem lF_X2_22 : mj_fl RX2 22 3 4 := ⟨_, _, _, rfl, Nat.le_of_ble_eq_true rfl, inTX2, (mj_in1 85 rfl rfl)⟩
set_option maxRecDepth 20000 in
theorem lF_X2_25 : mj_fl RX2 25 3 5 := ⟨_, _, _, rfl, Nat.le_of_ble_eq_true rfl, inTX2, (mj_in1 86 rfl rfl)⟩
set_option maxRecDepth 20000 in
theorem lF_X10_341 : mj_fl RX10 341 3 5 := ⟨_, _, _, rfl, Nat.le_of_ble_eq_true rfl, inTX2, (mj_in1 87 rfl rfl)⟩
set_option maxRecDepth 20000 in
theorem lF_X1_31 : mj_fl RX1 31 2 0 := ⟨_, _, _, rfl, Nat.le_of_ble_eq_true rfl, inTX1, (mj_in1 107 rfl rfl)⟩
set_option maxRecDepth 20000 in
theorem lF_X1_11 : mj_fl RX1 11 2 1 := ⟨_, _, _, rfl, Nat.le_of_ble_eq_true rfl, inTX1, (mj_in1 108 rfl rfl)⟩
set_option maxRecDepth 20000 in
theorem lF_X1_15 : mj_fl RX1 15 2 2 := ⟨_, _, _, rfl, Nat.le_of_ble_eq_true rfl, inTX1, (mj_in1 109 rfl rfl)⟩
set_option maxRecDepth 20000 in
theorem lF_X10_299 : mj_fl RX10 299 2 2 := ⟨_, _, _, rfl, Nat.le_of_ble_eq_true rfl, inTX1, (mj_in1 110 rfl rfl)⟩
set_option maxRecDepth 20000 in
theorem lF_X1_19 : mj_fl RX1 19 2 3 := ⟨_, _, _, rfl, Nat.le_of_ble_eq_true rfl, inTX1, (mj_in1 111 rfl rfl)⟩
set_option maxRecDepth 20000 in
theorem lF_X1_22 : mj_fl RX1 22 2 4 := ⟨_, _, _, rfl, Nat.le_of_ble_eq_true rfl, inTX1, (mj_in1 112 rfl rfl)⟩
set_option maxRecDepth 20000 in
theorem lF_X10_252 : mj_fl RX10 252 2 4 := ⟨_, _, _, rfl, Nat.le_of_ble_eq_true rfl, inTX1, (mj_in1 113 rfl rfl)⟩
set_option maxRecDepth 20000 in
theorem lF_X1_25 : mj_fl RX1 25 2 5 := ⟨_, _, _, rfl, Nat.le_of_ble_eq_true rfl, inTX1, (mj_in1 114 rfl rfl)⟩
set_option maxRecDepth 20000 in
theorem lF_X10_271 : mj_fl RX10 271 2 5 := ⟨_, _, _, rfl, Nat.le_of_ble_eq_true rfl, inTX1, (mj_in1 115 rfl rfl)⟩
set_option maxRecDepth 20000 in
theorem lF_X1_28 : mj_fl RX1 28 2 6 := ⟨_, _, _, rfl, Nat.le_of_ble_eq_true rfl, inTX1, (mj_in1 116 rfl rfl)⟩
set_option maxRecDepth 20000 in
theorem lF_X10_296 : mj_fl RX10 296 2 6 := ⟨_, _, _, rfl, Nat.le_of_ble_eq_true rfl, inTX1, (mj_in1 117 rfl rfl)⟩
set_option maxRecDepth 20000 in
theorem lF_X7_11 : mj_fl RX7 11 8 0 := ⟨_, _, _, rfl, Nat.le_of_ble_eq_true rfl, inTX7, (mj_in1 145 rfl rfl)⟩
set_option maxRecDepth 20000 in
theorem lF_X6_112 : mj_fl RX6 112 8 0 := ⟨_, _, _, rfl, Nat.le_of_ble_eq_true rfl, inTX7, (mj_in1 146 rfl rfl)⟩
set_option maxRecDepth 20000 in
theorem lF_X8_123 : mj_fl RX8 123 8 0 := ⟨_, _, _, rfl, Nat.le_of_ble_eq_true rfl, inTX7, (mj_in1 147 rfl rfl)⟩
set_option maxRecDepth 20000 in
theorem lF_X10_196 : mj_fl RX10 196 8 0 := ⟨_, _, _, rfl, Nat.le_of_ble_eq_true rfl, inTX7, (mj_in1 148 rfl rfl)⟩
set_option maxRecDepth 20000 in
theorem lF_X7_15 : mj_fl RX7 15 8 1 := ⟨_, _, _, rfl, Nat.le_of_ble_eq_true rfl, inTX7, (mj_in1 149 rfl rfl)⟩
set_option maxRecDepth 20000 in
theorem lF_X8_152 : mj_fl RX8 152 8 1 := ⟨_, _, _, rfl, Nat.le_of_ble_eq_true rfl, inTX7, (mj_in1 150 rfl rfl)⟩
set_option maxRecDepth 20000 in
theorem lF_X10_200 : mj_fl RX10 200 8 1 := ⟨_, _, _, rfl, Nat.le_of_ble_eq_true rfl, inTX7, (mj_in1 151 rfl rfl)⟩
set_option maxRecDepth 20000 in
theorem lF_X7_18 : mj_fl RX7 18 8 2 := ⟨_, _, _, rfl, Nat.le_of_ble_eq_true rfl, inTX7, (mj_in1 152 rfl rfl)⟩
set_option maxRecDepth 20000 in
theorem lF_X2_44 : mj_fl RX2 44 8 2 := ⟨_, _, _, rfl, Nat.le_of_ble_eq_true rfl, inTX7, (mj_in1 153 rfl rfl)⟩
set_option maxRecDepth 20000 in
theorem lF_X8_146 : mj_fl RX8 146 8 2 := ⟨_, _, _, rfl, Nat.le_of_ble_eq_true rfl, inTX7, (mj_in1 154 rfl rfl)⟩
set_option maxRecDepth 20000 in
theorem lF_X7_21 : mj_fl RX7 21 8 3 := ⟨_, _, _, rfl, Nat.le_of_ble_eq_true rfl, inTX7, (mj_in1 155 rfl rfl)⟩
set_option maxRecDepth 20000 in
theorem lF_X8_143 : mj_fl RX8 143 8 3 := ⟨_, _, _, rfl, Nat.le_of_ble_eq_true rfl, inTX7, (mj_in1 156 rfl rfl)⟩
set_option maxRecDepth 20000 in
theorem lF_X7_24 : mj_fl RX7 24 8 4 := ⟨_, _, _, rfl, Nat.le_of_ble_eq_true rfl, inTX7, (mj_in1 157 rfl rfl)⟩
set_option maxRecDepth 20000 in
theorem lF_X8_72 : mj_fl RX8 72 8 4 := ⟨_, _, _, rfl, Nat.le_of_ble_eq_true rfl, inTX7, (mj_in1 158 rfl rfl)⟩
set_option maxRecDepth 20000 in
theorem lF_X3_117 : mj_fl RX3 117 8 4 := ⟨_, _, _, rfl, Nat.le_of_ble_eq_true rfl, inTX7, (mj_in1 159 rfl rfl)⟩
set_option maxRecDepth 20000 in
theorem lF_X6_92 : mj_fl RX6 92 8 4 := ⟨_, _, _, rfl, Nat.le_of_ble_eq_true rfl, inTX7, (mj_in1 160 rfl rfl)⟩
set_option maxRecDepth 20000 in
theorem lF_X2_41 : mj_fl RX2 41 8 4 := ⟨_, _, _, rfl, Nat.le_of_ble_eq_true rfl, inTX7, (mj_in1 161 rfl rfl)⟩
set_option maxRecDepth 20000 in
theorem lF_X10_168 : mj_fl RX10 168 8 4 := ⟨_, _, _, rfl, Nat.le_of_ble_eq_true rfl, inTX7, (mj_in1 162 rfl rfl)⟩
set_option maxRecDepth 20000 in
theorem lF_X6_51 : mj_fl RX6 51 7 0 := ⟨_, _, _, rfl, Nat.le_of_ble_eq_true rfl, inTX6, (mj_in1 174 rfl rfl)⟩
set_option maxRecDepth 20000 in
theorem lF_X6_55 : mj_fl RX6 55 7 1 := ⟨_, _, _, rfl, Nat.le_of_ble_eq_true rfl, inTX6, (mj_in1 175 rfl rfl)⟩
set_option maxRecDepth 20000 in
theorem lF_X6_9 : mj_fl RX6 9 7 2 := ⟨_, _, _, rfl, Nat.le_of_ble_eq_true rfl, inTX6, (mj_in1 176 rfl rfl)⟩
set_option maxRecDepth 20000 in
theorem lF_X3_132 : mj_fl RX3 132 7 2 := ⟨_, _, _, rfl, Nat.le_of_ble_eq_true rfl, inTX6, (mj_in1 177 rfl rfl)⟩
set_option maxRecDepth 20000 in
theorem lF_X10_203 : mj_fl RX10 203 7 2 := ⟨_, _, _, rfl, Nat.le_of_ble_eq_true rfl, inTX6, (mj_in1 178 rfl rfl)⟩
set_option maxRecDepth 20000 in
theorem lF_X6_15 : mj_fl RX6 15 7 3 := ⟨_, _, _, rfl, Nat.le_of_ble_eq_true rfl, inTX6, (mj_in1 179 rfl rfl)⟩
set_option maxRecDepth 20000 in
theorem lF_X3_139 : mj_fl RX3 139 7 3 := ⟨_, _, _, rfl, Nat.le_of_ble_eq_true rfl, inTX6, (mj_in1 180 rfl rfl)⟩
set_option maxRecDepth 20000 in
theorem lF_X10_206 : mj_fl RX10 206 7 3 := ⟨_, _, _, rfl, Nat.le_of_ble_eq_true rfl, inTX6, (mj_in1 181 rfl rfl)⟩
set_option maxRecDepth 20000 in
theorem lF_X6_19 : mj_fl RX6 19 7 4 := ⟨_, _, _, rfl, Nat.le_of_ble_eq_true rfl, inTX6, (mj_in1 182 rfl rfl)⟩
set_option maxRecDepth 20000 in
theorem lF_X10_209 : mj_fl RX10 209 7 4 := ⟨_, _, _, rfl, Nat.le_of_ble_eq_true rfl, inTX6, (mj_in1 183 rfl rfl)⟩
set_option maxRecDepth 20000 in
theorem lF_X6_22 : mj_fl RX6 22 7 5 := ⟨_, _, _, rfl, Nat.le_of_ble_eq_true rfl, inTX6, (mj_in1 184 rfl rfl)⟩
set_option maxRecDepth 20000 in
theorem lF_X10_212 : mj_fl RX10 212 7 5 := ⟨_, _, _, rfl, Nat.le_of_ble_eq_true rfl, inTX6, (mj_in1 185 rfl rfl)⟩
set_option maxRecDepth 20000 in
theorem lF_X6_25 : mj_fl RX6 25 7 6 := ⟨_, _, _, rfl, Nat.le_of_ble_eq_true rfl, inTX6, (mj_in1 186 rfl rfl)⟩
set_option maxRecDepth 20000 in
theorem lF_X10_215 : mj_fl RX10 215 7 6 := ⟨_, _, _, rfl, Nat.le_of_ble_eq_true rfl, inTX6, (mj_in1 187 rfl rfl)⟩
set_option maxRecDepth 20000 in
theorem lF_X6_31 : mj_fl RX6 31 7 7 := ⟨_, _, _, rfl, Nat.le_of_ble_eq_true rfl, inTX6, (mj_in1 188 rfl rfl)⟩
set_option maxRecDepth 20000 in
theorem lF_X3_113 : mj_fl RX3 113 7 7 := ⟨_, _, _, rfl, Nat.le_of_ble_eq_true rfl, inTX6, (mj_in1 189 rfl rfl)⟩
set_option maxRecDepth 20000 in
theorem lF_X10_216 : mj_fl RX10 216 7 7 := ⟨_, _, _, rfl, Nat.le_of_ble_eq_true rfl, inTX6, (mj_in1 190 rfl rfl)⟩
set_option maxRecDepth 20000 in
theorem lF_X6_35 : mj_fl RX6 35 7 8 := ⟨_, _, _, rfl, Nat.le_of_ble_eq_true rfl, inTX6, (mj_in1 191 rfl rfl)⟩
set_option maxRecDepth 20000 in
theorem lF_X10_235 : mj_fl RX10 235 7 8 := ⟨_, _, _, rfl, Nat.le_of_ble_eq_true rfl, inTX6, (mj_in1 192 rfl rfl)⟩
set_option maxRecDepth 20000 in
theorem lF_X6_39 : mj_fl RX6 39 7 9 := ⟨_, _, _, rfl, Nat.le_of_ble_eq_true rfl, inTX6, (mj_in1 193 rfl rfl)⟩
set_option maxRecDepth 20000 in
theorem lF_X10_219 : mj_fl RX10 219 7 9 := ⟨_, _, _, rfl, Nat.le_of_ble_eq_true rfl, inTX6, (mj_in1 194 rfl rfl)⟩
set_option maxRecDepth 20000 in
theorem lF_X6_42 : mj_fl RX6 42 7 10 := ⟨_, _, _, rfl, Nat.le_of_ble_eq_true rfl, inTX6, (mj_in1 195 rfl rfl)⟩
set_option maxRecDepth 20000 in
theorem lF_X10_238 : mj_fl RX10 238 7 10 := ⟨_, _, _, rfl, Nat.le_of_ble_eq_true rfl, inTX6, (mj_in1 196 rfl rfl)⟩
set_option maxRecDepth 20000 in
theorem lF_X6_45 : mj_fl RX6 45 7 11 := ⟨_, _, _, rfl, Nat.le_of_ble_eq_true rfl, inTX6, (mj_in1 197 rfl rfl)⟩
set_option maxRecDepth 20000 in
theorem lF_X10_222 : mj_fl RX10 222 7 11 := ⟨_, _, _, rfl, Nat.le_of_ble_eq_true rfl, inTX6, (mj_in1 198 rfl rfl)⟩
set_option maxRecDepth 20000 in
theorem lF_X6_48 : mj_fl RX6 48 7 12 := ⟨_, _, _, rfl, Nat.le_of_ble_eq_true rfl, inTX6, (mj_in1 199 rfl rfl)⟩
set_option maxRecDepth 20000 in
theorem lF_X10_378 : mj_fl RX10 378 7 12 := ⟨_, _, _, rfl, Nat.le_of_ble_eq_true rfl, inTX6, (mj_in1 200 rfl rfl)⟩
set_option maxRecDepth 20000 in
theorem lF_X8_56 : mj_fl RX8 56 9 0 := ⟨_, _, _, rfl, Nat.le_of_ble_eq_true rfl, inTX8, (mj_in1 236 rfl rfl)⟩
set_option maxRecDepth 20000 in
theorem lF_X8_60 : mj_fl RX8 60 9 1 := ⟨_, _, _, rfl, Nat.le_of_ble_eq_true rfl, inTX8, (mj_in1 237 rfl rfl)⟩
set_option maxRecDepth 20000 in
theorem lF_X8_64 : mj_fl RX8 64 9 2 := ⟨_, _, _, rfl, Nat.le_of_ble_eq_true rfl, inTX8, (mj_in1 238 rfl rfl)⟩
set_option maxRecDepth 20000 in
theorem lF_X8_12 : mj_fl RX8 12 9 3 := ⟨_, _, _, rfl, Nat.le_of_ble_eq_true rfl, inTX8, (mj_in1 239 rfl rfl)⟩
set_option maxRecDepth 20000 in
theorem lF_X10_164 : mj_fl RX10 164 9 3 := ⟨_, _, _, rfl, Nat.le_of_ble_eq_true rfl, inTX8, (mj_in2 0 rfl rfl)⟩
set_option maxRecDepth 20000 in
theorem lF_X8_18 : mj_fl RX8 18 9 4 := ⟨_, _, _, rfl, Nat.le_of_ble_eq_true rfl, inTX8, (mj_in2 1 rfl rfl)⟩
set_option maxRecDepth 20000 in
theorem lF_X3_143 : mj_fl RX3 143 9 4 := ⟨_, _, _, rfl, Nat.le_of_ble_eq_true rfl, inTX8, (mj_in2 2 rfl rfl)⟩
set_option maxRecDepth 20000 in
theorem lF_X10_171 : mj_fl RX10 171 9 4 := ⟨_, _, _, rfl, Nat.le_of_ble_eq_true rfl, inTX8, (mj_in2 3 rfl rfl)⟩
set_option maxRecDepth 20000 in
theorem lF_X8_21 : mj_fl RX8 21 9 5 := ⟨_, _, _, rfl, Nat.le_of_ble_eq_true rfl, inTX8, (mj_in2 4 rfl rfl)⟩
set_option maxRecDepth 20000 in
theorem lF_X10_177 : mj_fl RX10 177 9 5 := ⟨_, _, _, rfl, Nat.le_of_ble_eq_true rfl, inTX8, (mj_in2 5 rfl rfl)⟩
set_option maxRecDepth 20000 in
theorem lF_X8_24 : mj_fl RX8 24 9 6 := ⟨_, _, _, rfl, Nat.le_of_ble_eq_true rfl, inTX8, (mj_in2 6 rfl rfl)⟩
set_option maxRecDepth 20000 in
theorem lF_X3_126 : mj_fl RX3 126 9 6 := ⟨_, _, _, rfl, Nat.le_of_ble_eq_true rfl, inTX8, (mj_in2 7 rfl rfl)⟩
set_option maxRecDepth 20000 in
theorem lF_X10_155 : mj_fl RX10 155 9 6 := ⟨_, _, _, rfl, Nat.le_of_ble_eq_true rfl, inTX8, (mj_in2 8 rfl rfl)⟩
set_option maxRecDepth 20000 in
theorem lF_X8_28 : mj_fl RX8 28 9 7 := ⟨_, _, _, rfl, Nat.le_of_ble_eq_true rfl, inTX8, (mj_in2 9 rfl rfl)⟩
set_option maxRecDepth 20000 in
theorem lF_X3_146 : mj_fl RX3 146 9 7 := ⟨_, _, _, rfl, Nat.le_of_ble_eq_true rfl, inTX8, (mj_in2 10 rfl rfl)⟩
set_option maxRecDepth 20000 in
theorem lF_X10_158 : mj_fl RX10 158 9 7 := ⟨_, _, _, rfl, Nat.le_of_ble_eq_true rfl, inTX8, (mj_in2 11 rfl rfl)⟩
set_option maxRecDepth 20000 in
theorem lF_X8_31 : mj_fl RX8 31 9 8 := ⟨_, _, _, rfl, Nat.le_of_ble_eq_true rfl, inTX8, (mj_in2 12 rfl rfl)⟩
set_option maxRecDepth 20000 in
theorem lF_X10_161 : mj_fl RX10 161 9 8 := ⟨_, _, _, rfl, Nat.le_of_ble_eq_true rfl, inTX8, (mj_in2 13 rfl rfl)⟩
set_option maxRecDepth 20000 in
theorem lF_X8_34 : mj_fl RX8 34 9 9 := ⟨_, _, _, rfl, Nat.le_of_ble_eq_true rfl, inTX8, (mj_in2 14 rfl rfl)⟩
set_option maxRecDepth 20000 in
theorem lF_X10_180 : mj_fl RX10 180 9 9 := ⟨_, _, _, rfl, Nat.le_of_ble_eq_true rfl, inTX8, (mj_in2 15 rfl rfl)⟩
set_option maxRecDepth 20000 in
theorem lF_X8_37 : mj_fl RX8 37 9 10 := ⟨_, _, _, rfl, Nat.le_of_ble_eq_true rfl, inTX8, (mj_in2 16 rfl rfl)⟩
set_option maxRecDepth 20000 in
theorem lF_X10_183 : mj_fl RX10 183 9 10 := ⟨_, _, _, rfl, Nat.le_of_ble_eq_true rfl, inTX8, (mj_in2 17 rfl rfl)⟩
set_option maxRecDepth 20000 in
theorem lF_X8_40 : mj_fl RX8 40 9 11 := ⟨_, _, _, rfl, Nat.le_of_ble_eq_true rfl, inTX8, (mj_in2 18 rfl rfl)⟩
set_option maxRecDepth 20000 in
theorem lF_X10_186 : mj_fl RX10 186 9 11 := ⟨_, _, _, rfl, Nat.le_of_ble_eq_true rfl, inTX8, (mj_in2 19 rfl rfl)⟩
set_option maxRecDepth 20000 in
theorem lF_X8_43 : mj_fl RX8 43 9 12 := ⟨_, _, _, rfl, Nat.le_of_ble_eq_true rfl, inTX8, (mj_in2 20 rfl rfl)⟩
set_option maxRecDepth 20000 in
theorem lF_X8_46 : mj_fl RX8 46 9 13 := ⟨_, _, _, rfl, Nat.le_of_ble_eq_true rfl, inTX8, (mj_in2 21 rfl rfl)⟩
set_option maxRecDepth 20000 in
theorem lF_X8_50 : mj_fl RX8 50 9 14 := ⟨_, _, _, rfl, Nat.le_of_ble_eq_true rfl, inTX8, (mj_in2 22 rfl rfl)⟩
set_option maxRecDepth 20000 in
theorem lF_X8_53 : mj_fl RX8 53 9 15 := ⟨_, _, _, rfl, Nat.le_of_ble_eq_true rfl, inTX8, (mj_in2 23 rfl rfl)⟩
set_option maxRecDepth 20000 in
theorem lF_X10_381 : mj_fl RX10 381 9 15 := ⟨_, _, _, rfl, Nat.le_of_ble_eq_true rfl, inTX8, (mj_in2 24 rfl rfl)⟩
set_option maxRecDepth 20000 in
theorem lF_X9_37 : mj_fl RX9 37 10 0 := ⟨_, _, _, rfl, Nat.le_of_ble_eq_true rfl, inTX9, (mj_in2 64 rfl rfl)⟩
set_option maxRecDepth 20000 in
theorem lF_X9_41 : mj_fl RX9 41 10 1 := ⟨_, _, _, rfl, Nat.le_of_ble_eq_true rfl, inTX9, (mj_in2 65 rfl rfl)⟩
set_option maxRecDepth 20000 in
theorem lF_X9_44 : mj_fl RX9 44 10 2 := ⟨_, _, _, rfl, Nat.le_of_ble_eq_true rfl, inTX9, (mj_in2 66 rfl rfl)⟩
set_option maxRecDepth 20000 in
theorem lF_X9_11 : mj_fl RX9 11 10 3 := ⟨_, _, _, rfl, Nat.le_of_ble_eq_true rfl, inTX9, (mj_in2 67 rfl rfl)⟩
set_option maxRecDepth 20000 in
theorem lF_X9_15 : mj_fl RX9 15 10 4 := ⟨_, _, _, rfl, Nat.le_of_ble_eq_true rfl, inTX9, (mj_in2 68 rfl rfl)⟩
set_option maxRecDepth 20000 in
theorem lF_X9_18 : mj_fl RX9 18 10 5 := ⟨_, _, _, rfl, Nat.le_of_ble_eq_true rfl, inTX9, (mj_in2 69 rfl rfl)⟩
set_option maxRecDepth 20000 in
theorem lF_X9_21 : mj_fl RX9 21 10 6 := ⟨_, _, _, rfl, Nat.le_of_ble_eq_true rfl, inTX9, (mj_in2 70 rfl rfl)⟩
set_option maxRecDepth 20000 in
theorem lF_X9_24 : mj_fl RX9 24 10 7 := ⟨_, _, _, rfl, Nat.le_of_ble_eq_true rfl, inTX9, (mj_in2 71 rfl rfl)⟩
set_option maxRecDepth 20000 in
theorem lF_X3_170 : mj_fl RX3 170 10 7 := ⟨_, _, _, rfl, Nat.le_of_ble_eq_true rfl, inTX9, (mj_in2 72 rfl rfl)⟩
set_option maxRecDepth 20000 in
theorem lF_X10_241 : mj_fl RX10 241 10 7 := ⟨_, _, _, rfl, Nat.le_of_ble_eq_true rfl, inTX9, (mj_in2 73 rfl rfl)⟩
set_option maxRecDepth 20000 in
theorem lF_X9_28 : mj_fl RX9 28 10 8 := ⟨_, _, _, rfl, Nat.le_of_ble_eq_true rfl, inTX9, (mj_in2 74 rfl rfl)⟩
set_option maxRecDepth 20000 in
theorem lF_X9_31 : mj_fl RX9 31 10 9 := ⟨_, _, _, rfl, Nat.le_of_ble_eq_true rfl, inTX9, (mj_in2 75 rfl rfl)⟩
set_option maxRecDepth 20000 in
theorem lF_X10_369 : mj_fl RX10 369 10 9 := ⟨_, _, _, rfl, Nat.le_of_ble_eq_true rfl, inTX9, (mj_in2 76 rfl rfl)⟩
set_option maxRecDepth 20000 in
theorem lF_X9_34 : mj_fl RX9 34 10 10 := ⟨_, _, _, rfl, Nat.le_of_ble_eq_true rfl, inTX9, (mj_in2 77 rfl rfl)⟩
set_option maxRecDepth 20000 in
theorem lF_X10_375 : mj_fl RX10 375 10 10 := ⟨_, _, _, rfl, Nat.le_of_ble_eq_true rfl, inTX9, (mj_in2 78 rfl rfl)⟩
set_option maxRecDepth 20000 in
theorem lF_X4_9 : mj_fl RX4 9 5 0 := ⟨_, _, _, rfl, Nat.le_of_ble_eq_true rfl, inTX4, (mj_in2 108 rfl rfl)⟩
set_option maxRecDepth 20000 in
theorem lF_X3_157 : mj_fl RX3 157 5 0 := ⟨_, _, _, rfl, Nat.le_of_ble_eq_true rfl, inTX4, (mj_in2 109 rfl rfl)⟩
set_option maxRecDepth 20000 in
theorem lF_X4_15 : mj_fl RX4 15 5 1 := ⟨_, _, _, rfl, Nat.le_of_ble_eq_true rfl, inTX4, (mj_in2 110 rfl rfl)⟩
set_option maxRecDepth 20000 in
theorem lF_X3_153 : mj_fl RX3 153 5 1 := ⟨_, _, _, rfl, Nat.le_of_ble_eq_true rfl, inTX4, (mj_in2 111 rfl rfl)⟩
set_option maxRecDepth 20000 in
theorem lF_X4_18 : mj_fl RX4 18 5 2 := ⟨_, _, _, rfl, Nat.le_of_ble_eq_true rfl, inTX4, (mj_in2 112 rfl rfl)⟩
set_option maxRecDepth 20000 in
theorem lF_X5_57 : mj_fl RX5 57 5 2 := ⟨_, _, _, rfl, Nat.le_of_ble_eq_true rfl, inTX4, (mj_in2 113 rfl rfl)⟩
set_option maxRecDepth 20000 in
theorem lF_X3_152 : mj_fl RX3 152 5 2 := ⟨_, _, _, rfl, Nat.le_of_ble_eq_true rfl, inTX4, (mj_in2 114 rfl rfl)⟩
set_option maxRecDepth 20000 in
theorem lF_X10_140 : mj_fl RX10 140 5 2 := ⟨_, _, _, rfl, Nat.le_of_ble_eq_true rfl, inTX4, (mj_in2 115 rfl rfl)⟩
set_option maxRecDepth 20000 in
theorem lF_X4_22 : mj_fl RX4 22 5 3 := ⟨_, _, _, rfl, Nat.le_of_ble_eq_true rfl, inTX4, (mj_in2 116 rfl rfl)⟩
set_option maxRecDepth 20000 in
theorem lF_X3_149 : mj_fl RX3 149 5 3 := ⟨_, _, _, rfl, Nat.le_of_ble_eq_true rfl, inTX4, (mj_in2 117 rfl rfl)⟩
set_option maxRecDepth 20000 in
theorem lF_X10_149 : mj_fl RX10 149 5 3 := ⟨_, _, _, rfl, Nat.le_of_ble_eq_true rfl, inTX4, (mj_in2 118 rfl rfl)⟩
set_option maxRecDepth 20000 in
theorem lF_X3_12 : mj_fl RX3 12 4 0 := ⟨_, _, _, rfl, Nat.le_of_ble_eq_true rfl, inTX3, (mj_in2 128 rfl rfl)⟩
set_option maxRecDepth 20000 in
theorem lF_X10_40 : mj_fl RX10 40 4 0 := ⟨_, _, _, rfl, Nat.le_of_ble_eq_true rfl, inTX3, (mj_in2 129 rfl rfl)⟩
set_option maxRecDepth 20000 in
theorem lF_X3_23 : mj_fl RX3 23 4 1 := ⟨_, _, _, rfl, Nat.le_of_ble_eq_true rfl, inTX3, (mj_in2 130 rfl rfl)⟩
set_option maxRecDepth 20000 in
theorem lF_X10_303 : mj_fl RX10 303 4 1 := ⟨_, _, _, rfl, Nat.le_of_ble_eq_true rfl, inTX3, (mj_in2 131 rfl rfl)⟩
set_option maxRecDepth 20000 in
theorem lF_X3_30 : mj_fl RX3 30 4 2 := ⟨_, _, _, rfl, Nat.le_of_ble_eq_true rfl, inTX3, (mj_in2 132 rfl rfl)⟩
set_option maxRecDepth 20000 in
theorem lF_X10_248 : mj_fl RX10 248 4 2 := ⟨_, _, _, rfl, Nat.le_of_ble_eq_true rfl, inTX3, (mj_in2 133 rfl rfl)⟩
set_option maxRecDepth 20000 in
theorem lF_X3_39 : mj_fl RX3 39 4 3 := ⟨_, _, _, rfl, Nat.le_of_ble_eq_true rfl, inTX3, (mj_in2 134 rfl rfl)⟩
set_option maxRecDepth 20000 in
theorem lF_X10_81 : mj_fl RX10 81 4 3 := ⟨_, _, _, rfl, Nat.le_of_ble_eq_true rfl, inTX3, (mj_in2 135 rfl rfl)⟩
set_option maxRecDepth 20000 in
theorem lF_X3_48 : mj_fl RX3 48 4 4 := ⟨_, _, _, rfl, Nat.le_of_ble_eq_true rfl, inTX3, (mj_in2 136 rfl rfl)⟩
set_option maxRecDepth 20000 in
theorem lF_X10_54 : mj_fl RX10 54 4 4 := ⟨_, _, _, rfl, Nat.le_of_ble_eq_true rfl, inTX3, (mj_in2 137 rfl rfl)⟩
set_option maxRecDepth 20000 in
theorem lF_X3_57 : mj_fl RX3 57 4 5 := ⟨_, _, _, rfl, Nat.le_of_ble_eq_true rfl, inTX3, (mj_in2 138 rfl rfl)⟩
set_option maxRecDepth 20000 in
theorem lF_X10_365 : mj_fl RX10 365 4 5 := ⟨_, _, _, rfl, Nat.le_of_ble_eq_true rfl, inTX3, (mj_in2 139 rfl rfl)⟩
set_option maxRecDepth 20000 in
theorem lF_X3_61 : mj_fl RX3 61 4 6 := ⟨_, _, _, rfl, Nat.le_of_ble_eq_true rfl, inTX3, (mj_in2 140 rfl rfl)⟩
set_option maxRecDepth 20000 in
theorem lF_X10_372 : mj_fl RX10 372 4 6 := ⟨_, _, _, rfl, Nat.le_of_ble_eq_true rfl, inTX3, (mj_in2 141 rfl rfl)⟩
set_option maxRecDepth 20000 in
theorem lF_X3_67 : mj_fl RX3 67 4 7 := ⟨_, _, _, rfl, Nat.le_of_ble_eq_true rfl, inTX3, (mj_in2 142 rfl rfl)⟩
set_option maxRecDepth 20000 in
theorem lF_X10_127 : mj_fl RX10 127 4 7 := ⟨_, _, _, rfl, Nat.le_of_ble_eq_true rfl, inTX3, (mj_in2 143 rfl rfl)⟩
set_option maxRecDepth 20000 in
theorem lF_X5_11 : mj_fl RX5 11 6 0 := ⟨_, _, _, rfl, Nat.le_of_ble_eq_true rfl, inTX5, (mj_in2 169 rfl rfl)⟩
set_option maxRecDepth 20000 in
theorem lF_X5_15 : mj_fl RX5 15 6 1 := ⟨_, _, _, rfl, Nat.le_of_ble_eq_true rfl, inTX5, (mj_in2 170 rfl rfl)⟩
set_option maxRecDepth 20000 in
theorem lF_X10_121 : mj_fl RX10 121 6 1 := ⟨_, _, _, rfl, Nat.le_of_ble_eq_true rfl, inTX5, (mj_in2 171 rfl rfl)⟩
set_option maxRecDepth 20000 in
theorem lF_X5_22 : mj_fl RX5 22 6 2 := ⟨_, _, _, rfl, Nat.le_of_ble_eq_true rfl, inTX5, (mj_in2 172 rfl rfl)⟩
set_option maxRecDepth 20000 in
theorem lF_X10_131 : mj_fl RX10 131 6 2 := ⟨_, _, _, rfl, Nat.le_of_ble_eq_true rfl, inTX5, (mj_in2 173 rfl rfl)⟩
set_option maxRecDepth 20000 in
theorem lF_X5_26 : mj_fl RX5 26 6 3 := ⟨_, _, _, rfl, Nat.le_of_ble_eq_true rfl, inTX5, (mj_in2 174 rfl rfl)⟩
set_option maxRecDepth 20000 in
theorem lF_X10_143 : mj_fl RX10 143 6 3 := ⟨_, _, _, rfl, Nat.le_of_ble_eq_true rfl, inTX5, (mj_in2 175 rfl rfl)⟩
set_option maxRecDepth 20000 in
theorem lF_X5_29 : mj_fl RX5 29 6 4 := ⟨_, _, _, rfl, Nat.le_of_ble_eq_true rfl, inTX5, (mj_in2 176 rfl rfl)⟩
set_option maxRecDepth 20000 in
theorem lF_X10_146 : mj_fl RX10 146 6 4 := ⟨_, _, _, rfl, Nat.le_of_ble_eq_true rfl, inTX5, (mj_in2 177 rfl rfl)⟩
set_option maxRecDepth 20000 in
theorem lF_X5_32 : mj_fl RX5 32 6 5 := ⟨_, _, _, rfl, Nat.le_of_ble_eq_true rfl, inTX5, (mj_in2 178 rfl rfl)⟩
set_option maxRecDepth 20000 in
theorem lF_X5_35 : mj_fl RX5 35 6 6 := ⟨_, _, _, rfl, Nat.le_of_ble_eq_true rfl, inTX5, (mj_in2 179 rfl rfl)⟩
set_option maxRecDepth 20000 in
theorem lF_X5_38 : mj_fl RX5 38 6 7 := ⟨_, _, _, rfl, Nat.le_of_ble_eq_true rfl, inTX5, (mj_in2 180 rfl rfl)⟩
set_option maxRecDepth 20000 in
theorem lF_X5_41 : mj_fl RX5 41 6 8 := ⟨_, _, _, rfl, Nat.le_of_ble_eq_true rfl, inTX5, (mj_in2 181 rfl rfl)⟩
set_option maxRecDepth 20000 in
theorem lF_X10_12 : mj_fl RX10 12 11 0 := ⟨_, _, _, rfl, Nat.le_of_ble_eq_true rfl, inTX10, (mj_in2 233 rfl rfl)⟩
set_option maxRecDepth 20000 in
theorem lF_X10_16 : mj_fl RX10 16 11 1 := ⟨_, _, _, rfl, Nat.le_of_ble_eq_true rfl, inTX10, (mj_in2 234 rfl rfl)⟩
set_option maxRecDepth 20000 in
theorem lF_X10_19 : mj_fl RX10 19 11 2 := ⟨_, _, _, rfl, Nat.le_of_ble_eq_true rfl, inTX10, (mj_in2 235 rfl rfl)⟩
set_option maxRecDepth 20000 in
theorem lF_X10_22 : mj_fl RX10 22 11 3 := ⟨_, _, _, rfl, Nat.le_of_ble_eq_true rfl, inTX10, (mj_in2 236 rfl rfl)⟩
set_option maxRecDepth 20000 in
theorem lF_X10_29 : mj_fl RX10 29 11 4 := ⟨_, _, _, rfl, Nat.le_of_ble_eq_true rfl, inTX10, (mj_in2 237 rfl rfl)⟩
set_option maxRecDepth 20000 in
theorem lF_X10_36 : mj_fl RX10 36 11 5 := ⟨_, _, _, rfl, Nat.le_of_ble_eq_true rfl, inTX10, (mj_in2 238 rfl rfl)⟩
set_option maxRecDepth 20000 in
theorem lF_X11_41 : mj_fl RX11 41 12 0 := ⟨_, _, _, rfl, Nat.le_of_ble_eq_true rfl, inTX11, (mj_in6 181 rfl rfl)⟩
set_option maxRecDepth 20000 in
theorem lF_X11_7 : mj_fl RX11 7 12 1 := ⟨_, _, _, rfl, Nat.le_of_ble_eq_true rfl, inTX11, (mj_in6 182 rfl rfl)⟩
set_option maxRecDepth 20000 in
theorem lF_X11_13 : mj_fl RX11 13 12 2 := ⟨_, _, _, rfl, Nat.le_of_ble_eq_true rfl, inTX11, (mj_in6 183 rfl rfl)⟩
set_option maxRecDepth 20000 in
theorem lF_X11_16 : mj_fl RX11 16 12 3 := ⟨_, _, _, rfl, Nat.le_of_ble_eq_true rfl, inTX11, (mj_in6 184 rfl rfl)⟩
set_option maxRecDepth 20000 in
theorem lF_X11_158 : mj_fl RX11 158 12 4 := ⟨_, _, _, rfl, Nat.le_of_ble_eq_true rfl, inTX11, (mj_in6 185 rfl rfl)⟩
set_option maxRecDepth 20000 in
theorem lF_X11_19 : mj_fl RX11 19 12 5 := ⟨_, _, _, rfl, Nat.le_of_ble_eq_true rfl, inTX11, (mj_in6 186 rfl rfl)⟩
set_option maxRecDepth 20000 in
theorem lF_X11_22 : mj_fl RX11 22 12 6 := ⟨_, _, _, rfl, Nat.le_of_ble_eq_true rfl, inTX11, (mj_in6 187 rfl rfl)⟩
set_option maxRecDepth 20000 in
theorem lF_X11_291 : mj_fl RX11 291 12 7 := ⟨_, _, _, rfl, Nat.le_of_ble_eq_true rfl, inTX11, (mj_in6 188 rfl rfl)⟩
set_option maxRecDepth 20000 in
theorem lF_X11_25 : mj_fl RX11 25 12 8 := ⟨_, _, _, rfl, Nat.le_of_ble_eq_true rfl, inTX11, (mj_in6 189 rfl rfl)⟩
set_option maxRecDepth 20000 in
theorem lF_X11_325 : mj_fl RX11 325 12 9 := ⟨_, _, _, rfl, Nat.le_of_ble_eq_true rfl, inTX11, (mj_in6 190 rfl rfl)⟩
set_option maxRecDepth 20000 in
theorem lF_X11_331 : mj_fl RX11 331 12 10 := ⟨_, _, _, rfl, Nat.le_of_ble_eq_true rfl, inTX11, (mj_in6 191 rfl rfl)⟩
set_option maxRecDepth 20000 in
theorem lF_X11_337 : mj_fl RX11 337 12 11 := ⟨_, _, _, rfl, Nat.le_of_ble_eq_true rfl, inTX11, (mj_in6 192 rfl rfl)⟩
set_option maxRecDepth 20000 in
theorem lF_X11_340 : mj_fl RX11 340 12 12 := ⟨_, _, _, rfl, Nat.le_of_ble_eq_true rfl, inTX11, (mj_in6 193 rfl rfl)⟩
set_option maxRecDepth 20000 in
theorem lF_X11_349 : mj_fl RX11 349 12 13 := ⟨_, _, _, rfl, Nat.le_of_ble_eq_true rfl, inTX11, (mj_in6 194 rfl rfl)⟩
set_option maxRecDepth 20000 in
theorem lF_X11_28 : mj_fl RX11 28 12 14 := ⟨_, _, _, rfl, Nat.le_of_ble_eq_true rfl, inTX11, (mj_in6 195 rfl rfl)⟩
set_option maxRecDepth 20000 in
theorem lF_X11_355 : mj_fl RX11 355 12 15 := ⟨_, _, _, rfl, Nat.le_of_ble_eq_true rfl, inTX11, (mj_in6 196 rfl rfl)⟩
set_option maxRecDepth 20000 in
theorem lF_X11_358 : mj_fl RX11 358 12 16 := ⟨_, _, _, rfl, Nat.le_of_ble_eq_true rfl, inTX11, (mj_in6 197 rfl rfl)⟩
set_option maxRecDepth 20000 in
theorem lF_X11_376 : mj_fl RX11 376 12 17 := ⟨_, _, _, rfl, Nat.le_of_ble_eq_true rfl, inTX11, (mj_in6 198 rfl rfl)⟩
set_option maxRecDepth 20000 in
theorem lF_X11_31 : mj_fl RX11 31 12 18 := ⟨_, _, _, rfl, Nat.le_of_ble_eq_true rfl, inTX11, (mj_in6 199 rfl rfl)⟩
set_option maxRecDepth 20000 in
theorem lF_X11_321 : mj_fl RX11 321 12 19 := ⟨_, _, _, rfl, Nat.le_of_ble_eq_true rfl, inTX11, (mj_in6 200 rfl rfl)⟩
set_option maxRecDepth 20000 in
theorem lF_X11_35 : mj_fl RX11 35 12 20 := ⟨_, _, _, rfl, Nat.le_of_ble_eq_true rfl, inTX11, (mj_in6 201 rfl rfl)⟩
set_option maxRecDepth 20000 in
theorem lF_X11_400 : mj_fl RX11 400 12 21 := ⟨_, _, _, rfl, Nat.le_of_ble_eq_true rfl, inTX11, (mj_in6 202 rfl rfl)⟩
set_option maxRecDepth 20000 in
theorem lF_X11_38 : mj_fl RX11 38 12 22 := ⟨_, _, _, rfl, Nat.le_of_ble_eq_true rfl, inTX11, (mj_in6 203 rfl rfl)⟩
set_option maxRecDepth 20000 in
theorem lM_L_9 : Cond.methodLink RL 9 yX10_init ∈ mj_T := (mj_in1 26 rfl rfl)
set_option maxRecDepth 20000 in
theorem lM_X10_3 : Cond.methodLink RX10 3 ⟨"java/lang/Object", "<init>", "()V"⟩ ∈ mj_T := (mj_in1 29 rfl rfl)
set_option maxRecDepth 20000 in
theorem lM_X3_3 : Cond.methodLink RX3 3 ⟨"java/lang/Object", "<init>", "()V"⟩ ∈ mj_T := (mj_in1 37 rfl rfl)
set_option maxRecDepth 20000 in
theorem lM_X0_3 : Cond.methodLink RX0 3 ⟨"java/lang/Object", "<init>", "()V"⟩ ∈ mj_T := (mj_in1 43 rfl rfl)
set_option maxRecDepth 20000 in
theorem lM_X0_22 : Cond.methodLink RX0 22 ⟨"[I", "clone", "()Ljava/lang/Object;"⟩ ∈ mj_T := (mj_in1 46 rfl rfl)
set_option maxRecDepth 20000 in
theorem lM_X3_20 : Cond.methodLink RX3 20 yX2_init ∈ mj_T := (mj_in1 76 rfl rfl)
set_option maxRecDepth 20000 in
theorem lM_X2_3 : Cond.methodLink RX2 3 ⟨"java/lang/Object", "<init>", "()V"⟩ ∈ mj_T := (mj_in1 79 rfl rfl)
set_option maxRecDepth 20000 in
theorem lM_X3_29 : Cond.methodLink RX3 29 yX1_init ∈ mj_T := (mj_in1 103 rfl rfl)
set_option maxRecDepth 20000 in
theorem lM_X1_3 : Cond.methodLink RX1 3 ⟨"java/lang/Object", "<init>", "()V"⟩ ∈ mj_T := (mj_in1 106 rfl rfl)
set_option maxRecDepth 20000 in
theorem lM_X3_36 : Cond.methodLink RX3 36 yX6_init ∈ mj_T := (mj_in1 135 rfl rfl)
set_option maxRecDepth 20000 in
theorem lM_X6_3 : Cond.methodLink RX6 3 ⟨"java/lang/Object", "<init>", "()V"⟩ ∈ mj_T := (mj_in1 138 rfl rfl)
set_option maxRecDepth 20000 in
theorem lM_X7_3 : Cond.methodLink RX7 3 ⟨"java/lang/Object", "<init>", "()V"⟩ ∈ mj_T := (mj_in1 144 rfl rfl)
set_option maxRecDepth 20000 in
theorem lM_X3_45 : Cond.methodLink RX3 45 yX8_init ∈ mj_T := (mj_in1 230 rfl rfl)
set_option maxRecDepth 20000 in
theorem lM_X8_3 : Cond.methodLink RX8 3 ⟨"java/lang/Object", "<init>", "()V"⟩ ∈ mj_T := (mj_in1 233 rfl rfl)
set_option maxRecDepth 20000 in
theorem lM_X3_54 : Cond.methodLink RX3 54 yX9_init ∈ mj_T := (mj_in2 60 rfl rfl)
set_option maxRecDepth 20000 in
theorem lM_X9_3 : Cond.methodLink RX9 3 ⟨"java/lang/Object", "<init>", "()V"⟩ ∈ mj_T := (mj_in2 63 rfl rfl)
set_option maxRecDepth 20000 in
theorem lM_X4_3 : Cond.methodLink RX4 3 ⟨"java/lang/Object", "<init>", "()V"⟩ ∈ mj_T := (mj_in2 107 rfl rfl)
set_option maxRecDepth 20000 in
theorem lM_X5_3 : Cond.methodLink RX5 3 ⟨"java/lang/Object", "<init>", "()V"⟩ ∈ mj_T := (mj_in2 166 rfl rfl)
set_option maxRecDepth 20000 in
theorem lM_X10_35 : Cond.methodLink RX10 35 yJ4_init_da8c8 ∈ mj_T := (mj_in2 203 rfl rfl)
set_option maxRecDepth 20000 in
theorem lM_L_13 : Cond.methodLink RL 13 yX10_state ∈ mj_T := (mj_in3 12 rfl rfl)
set_option maxRecDepth 20000 in
theorem lM_L_18 : Cond.methodLink RL 18 yX10_set ∈ mj_T := (mj_in3 16 rfl rfl)
set_option maxRecDepth 20000 in
theorem lM_X10_50 : Cond.methodLink RX10 50 yX0_change ∈ mj_T := (mj_in3 20 rfl rfl)
set_option maxRecDepth 20000 in
theorem lM_L_23 : Cond.methodLink RL 23 yX10_send ∈ mj_T := (mj_in3 31 rfl rfl)
set_option maxRecDepth 20000 in
theorem lM_X10_58 : Cond.methodLink RX10 58 yX8_queue ∈ mj_T := (mj_in3 35 rfl rfl)
set_option maxRecDepth 20000 in
theorem lM_X10_289 : Cond.methodLink RX10 289 yX10_isWithin ∈ mj_T := (mj_in3 42 rfl rfl)
set_option maxRecDepth 20000 in
theorem lM_X8_75 : Cond.methodLink RX8 75 yX2_open ∈ mj_T := (mj_in3 43 rfl rfl)
set_option maxRecDepth 20000 in
theorem lM_X8_81 : Cond.methodLink RX8 81 yX7_add ∈ mj_T := (mj_in3 47 rfl rfl)
set_option maxRecDepth 20000 in
theorem lM_L_27 : Cond.methodLink RL 27 yX10_past ∈ mj_T := (mj_in3 51 rfl rfl)
set_option maxRecDepth 20000 in
theorem lM_X10_64 : Cond.methodLink RX10 64 yX8_queuePast ∈ mj_T := (mj_in3 55 rfl rfl)
set_option maxRecDepth 20000 in
theorem lM_L_31 : Cond.methodLink RL 31 yX10_start ∈ mj_T := (mj_in3 59 rfl rfl)
set_option maxRecDepth 20000 in
theorem lM_X10_67 : Cond.methodLink RX10 67 yX8_begin ∈ mj_T := (mj_in3 63 rfl rfl)
set_option maxRecDepth 20000 in
theorem lM_X8_92 : Cond.methodLink RX8 92 yX2_lose ∈ mj_T := (mj_in3 71 rfl rfl)
set_option maxRecDepth 20000 in
theorem lM_X8_102 : Cond.methodLink RX8 102 yX1_change ∈ mj_T := (mj_in3 75 rfl rfl)
set_option maxRecDepth 20000 in
theorem lM_L_35 : Cond.methodLink RL 35 yX10_direct ∈ mj_T := (mj_in3 79 rfl rfl)
set_option maxRecDepth 20000 in
theorem lM_X10_70 : Cond.methodLink RX10 70 yX8_halt ∈ mj_T := (mj_in3 83 rfl rfl)
set_option maxRecDepth 20000 in
theorem lM_X8_108 : Cond.methodLink RX8 108 yX8_giveAlarm ∈ mj_T := (mj_in3 87 rfl rfl)
set_option maxRecDepth 20000 in
theorem lM_X8_115 : Cond.methodLink RX8 115 yX1_noteAlarm ∈ mj_T := (mj_in3 91 rfl rfl)
set_option maxRecDepth 20000 in
theorem lM_X10_74 : Cond.methodLink RX10 74 yX8_goOn ∈ mj_T := (mj_in3 95 rfl rfl)
set_option maxRecDepth 20000 in
theorem lM_X8_112 : Cond.methodLink RX8 112 yX8_markAll ∈ mj_T := (mj_in3 99 rfl rfl)
set_option maxRecDepth 20000 in
theorem lM_X8_118 : Cond.methodLink RX8 118 yX7_markAll ∈ mj_T := (mj_in3 103 rfl rfl)
set_option maxRecDepth 20000 in
theorem lM_L_40 : Cond.methodLink RL 40 yX10_renumber ∈ mj_T := (mj_in3 107 rfl rfl)
set_option maxRecDepth 20000 in
theorem lM_X10_77 : Cond.methodLink RX10 77 yX8_countFrom ∈ mj_T := (mj_in3 111 rfl rfl)
set_option maxRecDepth 20000 in
theorem lM_L_44 : Cond.methodLink RL 44 yX10_take ∈ mj_T := (mj_in3 115 rfl rfl)
set_option maxRecDepth 20000 in
theorem lM_X10_85 : Cond.methodLink RX10 85 yX6_handOver ∈ mj_T := (mj_in3 119 rfl rfl)
set_option maxRecDepth 20000 in
theorem lM_X6_115 : Cond.methodLink RX6 115 yX7_removeFirst ∈ mj_T := (mj_in3 123 rfl rfl)
set_option maxRecDepth 20000 in
theorem lM_X7_28 : Cond.methodLink RX7 28 arraycopyName ∈ mj_T := (mj_in3 127 rfl rfl)
set_option maxRecDepth 20000 in
theorem lM_L_49 : Cond.methodLink RL 49 yX10_tick ∈ mj_T := (mj_in3 130 rfl rfl)
set_option maxRecDepth 20000 in
theorem lM_X10_91 : Cond.methodLink RX10 91 yX3_hasTimeFor ∈ mj_T := (mj_in3 134 rfl rfl)
set_option maxRecDepth 20000 in
theorem lM_X10_94 : Cond.methodLink RX10 94 yX3_passTicks ∈ mj_T := (mj_in3 139 rfl rfl)
set_option maxRecDepth 20000 in
theorem lM_X3_79 : Cond.methodLink RX3 79 yX9_isDue ∈ mj_T := (mj_in3 143 rfl rfl)
set_option maxRecDepth 20000 in
theorem lM_X3_83 : Cond.methodLink RX3 83 yX6_meet ∈ mj_T := (mj_in3 147 rfl rfl)
set_option maxRecDepth 20000 in
theorem lM_X6_59 : Cond.methodLink RX6 59 yX9_byteOf ∈ mj_T := (mj_in3 151 rfl rfl)
set_option maxRecDepth 20000 in
theorem lM_X9_56 : Cond.methodLink RX9 56 yX9_hasByte ∈ mj_T := (mj_in3 155 rfl rfl)
set_option maxRecDepth 20000 in
theorem lM_X6_65 : Cond.methodLink RX6 65 yX6_isGood ∈ mj_T := (mj_in3 159 rfl rfl)
set_option maxRecDepth 20000 in
theorem lM_X6_69 : Cond.methodLink RX6 69 yX9_lineOf ∈ mj_T := (mj_in3 163 rfl rfl)
set_option maxRecDepth 20000 in
theorem lM_X9_52 : Cond.methodLink RX9 52 yX9_has ∈ mj_T := (mj_in3 167 rfl rfl)
set_option maxRecDepth 20000 in
theorem lM_X6_73 : Cond.methodLink RX6 73 yX6_meetInOrder ∈ mj_T := (mj_in3 171 rfl rfl)
set_option maxRecDepth 20000 in
theorem lM_X6_89 : Cond.methodLink RX6 89 yX6_zoneOf ∈ mj_T := (mj_in3 175 rfl rfl)
set_option maxRecDepth 20000 in
theorem lM_X6_98 : Cond.methodLink RX6 98 yX6_takeIn ∈ mj_T := (mj_in3 182 rfl rfl)
set_option maxRecDepth 20000 in
theorem lM_X6_101 : Cond.methodLink RX6 101 yX7_add ∈ mj_T := (mj_in3 186 rfl rfl)
set_option maxRecDepth 20000 in
theorem lM_X6_104 : Cond.methodLink RX6 104 yX2_noteTakenIn ∈ mj_T := (mj_in3 187 rfl rfl)
set_option maxRecDepth 20000 in
theorem lM_X2_32 : Cond.methodLink RX2 32 yX2_has ∈ mj_T := (mj_in3 191 rfl rfl)
set_option maxRecDepth 20000 in
theorem lM_X6_77 : Cond.methodLink RX6 77 yX6_keepPast ∈ mj_T := (mj_in3 195 rfl rfl)
set_option maxRecDepth 20000 in
theorem lM_X6_81 : Cond.methodLink RX6 81 yX6_obey ∈ mj_T := (mj_in3 199 rfl rfl)
set_option maxRecDepth 20000 in
theorem lM_X3_87 : Cond.methodLink RX3 87 yX9_takeOff ∈ mj_T := (mj_in3 203 rfl rfl)
set_option maxRecDepth 20000 in
theorem lM_X9_64 : Cond.methodLink RX9 64 arraycopyName ∈ mj_T := (mj_in3 207 rfl rfl)
set_option maxRecDepth 20000 in
theorem lM_X3_91 : Cond.methodLink RX3 91 yX0_isReportTime ∈ mj_T := (mj_in3 208 rfl rfl)
set_option maxRecDepth 20000 in
theorem lM_X3_94 : Cond.methodLink RX3 94 yX6_reportWord ∈ mj_T := (mj_in3 212 rfl rfl)
set_option maxRecDepth 20000 in
theorem lM_X3_98 : Cond.methodLink RX3 98 yX9_goes ∈ mj_T := (mj_in3 216 rfl rfl)
set_option maxRecDepth 20000 in
theorem lM_X9_70 : Cond.methodLink RX9 70 yX9_meetsFate ∈ mj_T := (mj_in3 220 rfl rfl)
set_option maxRecDepth 20000 in
theorem lM_X9_74 : Cond.methodLink RX9 74 yX0_draw ∈ mj_T := (mj_in3 224 rfl rfl)
set_option maxRecDepth 20000 in
theorem lM_X9_81 : Cond.methodLink RX9 81 yX9_put ∈ mj_T := (mj_in3 230 rfl rfl)
set_option maxRecDepth 20000 in
theorem lM_X3_102 : Cond.methodLink RX3 102 yX8_hear ∈ mj_T := (mj_in3 234 rfl rfl)
set_option maxRecDepth 20000 in
theorem lM_X8_155 : Cond.methodLink RX8 155 yX9_byteOf ∈ mj_T := (mj_in3 238 rfl rfl)
set_option maxRecDepth 20000 in
theorem lM_X8_158 : Cond.methodLink RX8 158 yX8_hearLocked ∈ mj_T := (mj_in3 239 rfl rfl)
set_option maxRecDepth 20000 in
theorem lM_X8_161 : Cond.methodLink RX8 161 yX8_hearChecking ∈ mj_T := (mj_in4 3 rfl rfl)
set_option maxRecDepth 20000 in
theorem lM_X8_164 : Cond.methodLink RX8 164 yX8_hearDirecting ∈ mj_T := (mj_in4 7 rfl rfl)
set_option maxRecDepth 20000 in
theorem lM_X8_170 : Cond.methodLink RX8 170 yX8_followTable ∈ mj_T := (mj_in4 12 rfl rfl)
set_option maxRecDepth 20000 in
theorem lM_X8_173 : Cond.methodLink RX8 173 yX8_standingOf ∈ mj_T := (mj_in4 16 rfl rfl)
set_option maxRecDepth 20000 in
theorem lM_X8_176 : Cond.methodLink RX8 176 yX8_verdictOf ∈ mj_T := (mj_in4 20 rfl rfl)
set_option maxRecDepth 20000 in
theorem lM_X8_180 : Cond.methodLink RX8 180 yX1_noteVerdict ∈ mj_T := (mj_in4 23 rfl rfl)
set_option maxRecDepth 20000 in
theorem lM_X8_183 : Cond.methodLink RX8 183 yX2_letGo ∈ mj_T := (mj_in4 27 rfl rfl)
set_option maxRecDepth 20000 in
theorem lM_X2_47 : Cond.methodLink RX2 47 Lib.Math.min.name ∈ mj_T := (mj_in4 31 rfl rfl)
set_option maxRecDepth 20000 in
theorem lM_X2_53 : Cond.methodLink RX2 53 yX7_removeFirst ∈ mj_T := (mj_in4 34 rfl rfl)
set_option maxRecDepth 20000 in
theorem lM_X8_187 : Cond.methodLink RX8 187 yX8_machineBehind ∈ mj_T := (mj_in4 35 rfl rfl)
set_option maxRecDepth 20000 in
theorem lM_X3_105 : Cond.methodLink RX3 105 yX8_runTimer ∈ mj_T := (mj_in4 39 rfl rfl)
set_option maxRecDepth 20000 in
theorem lM_X8_119 : Cond.methodLink RX8 119 yX8_giveUp ∈ mj_T := (mj_in4 43 rfl rfl)
set_option maxRecDepth 20000 in
theorem lM_X3_108 : Cond.methodLink RX3 108 yX8_haveTurn ∈ mj_T := (mj_in4 47 rfl rfl)
set_option maxRecDepth 20000 in
theorem lM_X8_126 : Cond.methodLink RX8 126 yX9_goes ∈ mj_T := (mj_in4 52 rfl rfl)
set_option maxRecDepth 20000 in
theorem lM_X8_132 : Cond.methodLink RX8 132 yX7_removeFirst ∈ mj_T := (mj_in4 53 rfl rfl)
set_option maxRecDepth 20000 in
theorem lM_X8_136 : Cond.methodLink RX8 136 yX7_firstMarked ∈ mj_T := (mj_in4 55 rfl rfl)
set_option maxRecDepth 20000 in
theorem lM_X8_140 : Cond.methodLink RX8 140 yX8_makeNewFrame ∈ mj_T := (mj_in4 59 rfl rfl)
set_option maxRecDepth 20000 in
theorem lM_X8_149 : Cond.methodLink RX8 149 yX2_noteWent ∈ mj_T := (mj_in4 63 rfl rfl)
set_option maxRecDepth 20000 in
theorem lM_X3_120 : Cond.methodLink RX3 120 yX6_handOver ∈ mj_T := (mj_in4 67 rfl rfl)
set_option maxRecDepth 20000 in
theorem lM_L_53 : Cond.methodLink RL 53 yX10_drop ∈ mj_T := (mj_in4 68 rfl rfl)
set_option maxRecDepth 20000 in
theorem lM_X10_101 : Cond.methodLink RX10 101 yX3_wayOf ∈ mj_T := (mj_in4 72 rfl rfl)
set_option maxRecDepth 20000 in
theorem lM_X10_105 : Cond.methodLink RX10 105 yX9_takeOff ∈ mj_T := (mj_in4 76 rfl rfl)
set_option maxRecDepth 20000 in
theorem lM_L_58 : Cond.methodLink RL 58 yX10_spoil ∈ mj_T := (mj_in4 77 rfl rfl)
set_option maxRecDepth 20000 in
theorem lM_X10_110 : Cond.methodLink RX10 110 yX9_putByte ∈ mj_T := (mj_in4 81 rfl rfl)
set_option maxRecDepth 20000 in
theorem lM_L_63 : Cond.methodLink RL 63 yX10_feed ∈ mj_T := (mj_in4 86 rfl rfl)
set_option maxRecDepth 20000 in
theorem lM_X10_114 : Cond.methodLink RX10 114 yX5_hasRoom ∈ mj_T := (mj_in4 90 rfl rfl)
set_option maxRecDepth 20000 in
theorem lM_X10_117 : Cond.methodLink RX10 117 yX5_putFour ∈ mj_T := (mj_in4 94 rfl rfl)
set_option maxRecDepth 20000 in
theorem lM_L_68 : Cond.methodLink RL 68 yX10_end ∈ mj_T := (mj_in4 98 rfl rfl)
set_option maxRecDepth 20000 in
theorem lM_L_72 : Cond.methodLink RL 72 yX10_plan ∈ mj_T := (mj_in4 102 rfl rfl)
set_option maxRecDepth 20000 in
theorem lM_X10_124 : Cond.methodLink RX10 124 yX5_readAll ∈ mj_T := (mj_in4 106 rfl rfl)
set_option maxRecDepth 20000 in
theorem lM_X5_44 : Cond.methodLink RX5 44 yX4_clear ∈ mj_T := (mj_in4 110 rfl rfl)
set_option maxRecDepth 20000 in
theorem lM_X5_47 : Cond.methodLink RX5 47 yX5_nextToken ∈ mj_T := (mj_in4 114 rfl rfl)
set_option maxRecDepth 20000 in
theorem lM_X5_75 : Cond.methodLink RX5 75 yX5_isBlank ∈ mj_T := (mj_in4 118 rfl rfl)
set_option maxRecDepth 20000 in
theorem lM_X5_79 : Cond.methodLink RX5 79 yX5_isLetter ∈ mj_T := (mj_in4 121 rfl rfl)
set_option maxRecDepth 20000 in
theorem lM_X5_82 : Cond.methodLink RX5 82 yX5_readWord ∈ mj_T := (mj_in4 125 rfl rfl)
set_option maxRecDepth 20000 in
theorem lM_X5_91 : Cond.methodLink RX5 91 yX5_planWord ∈ mj_T := (mj_in4 129 rfl rfl)
set_option maxRecDepth 20000 in
theorem lM_X5_95 : Cond.methodLink RX5 95 yX5_isTokenText ∈ mj_T := (mj_in4 145 rfl rfl)
set_option maxRecDepth 20000 in
theorem lM_X5_99 : Cond.methodLink RX5 99 yJ0_length_8abf5 ∈ mj_T := (mj_in4 149 rfl rfl)
set_option maxRecDepth 20000 in
theorem lM_X5_105 : Cond.methodLink RX5 105 yJ0_charAt_5068e ∈ mj_T := (mj_in4 158 rfl rfl)
set_option maxRecDepth 20000 in
theorem lM_X5_85 : Cond.methodLink RX5 85 yX5_isDigit ∈ mj_T := (mj_in4 196 rfl rfl)
set_option maxRecDepth 20000 in
theorem lM_X5_88 : Cond.methodLink RX5 88 yX5_readNumber ∈ mj_T := (mj_in4 199 rfl rfl)
set_option maxRecDepth 20000 in
theorem lM_X5_50 : Cond.methodLink RX5 50 yX5_readLine ∈ mj_T := (mj_in4 204 rfl rfl)
set_option maxRecDepth 20000 in
theorem lM_X5_53 : Cond.methodLink RX5 53 yX5_noteFault ∈ mj_T := (mj_in4 208 rfl rfl)
set_option maxRecDepth 20000 in
theorem lM_X5_60 : Cond.methodLink RX5 60 yX5_mostOf ∈ mj_T := (mj_in4 212 rfl rfl)
set_option maxRecDepth 20000 in
theorem lM_X5_64 : Cond.methodLink RX5 64 yX5_leastOf ∈ mj_T := (mj_in4 215 rfl rfl)
set_option maxRecDepth 20000 in
theorem lM_X5_71 : Cond.methodLink RX5 71 yX4_add ∈ mj_T := (mj_in4 218 rfl rfl)
set_option maxRecDepth 20000 in
theorem lM_X10_134 : Cond.methodLink RX10 134 yX4_copyFrom ∈ mj_T := (mj_in4 222 rfl rfl)
set_option maxRecDepth 20000 in
theorem lM_X4_25 : Cond.methodLink RX4 25 arraycopyName ∈ mj_T := (mj_in4 226 rfl rfl)
set_option maxRecDepth 20000 in
theorem lM_L_76 : Cond.methodLink RL 76 yX10_fault ∈ mj_T := (mj_in4 227 rfl rfl)
set_option maxRecDepth 20000 in
theorem lM_L_80 : Cond.methodLink RL 80 yX10_run ∈ mj_T := (mj_in4 231 rfl rfl)
set_option maxRecDepth 20000 in
theorem lM_X10_152 : Cond.methodLink RX10 152 yX3_runNextLine ∈ mj_T := (mj_in4 235 rfl rfl)
set_option maxRecDepth 20000 in
theorem lM_X3_160 : Cond.methodLink RX3 160 yX8_queue ∈ mj_T := (mj_in4 239 rfl rfl)
set_option maxRecDepth 20000 in
theorem lM_X3_164 : Cond.methodLink RX3 164 yX8_queuePast ∈ mj_T := (mj_in5 0 rfl rfl)
set_option maxRecDepth 20000 in
theorem lM_X3_135 : Cond.methodLink RX3 135 yX8_begin ∈ mj_T := (mj_in5 1 rfl rfl)
set_option maxRecDepth 20000 in
theorem lM_X3_129 : Cond.methodLink RX3 129 yX8_halt ∈ mj_T := (mj_in5 2 rfl rfl)
set_option maxRecDepth 20000 in
theorem lM_X3_123 : Cond.methodLink RX3 123 yX8_goOn ∈ mj_T := (mj_in5 3 rfl rfl)
set_option maxRecDepth 20000 in
theorem lM_X3_167 : Cond.methodLink RX3 167 yX8_countFrom ∈ mj_T := (mj_in5 4 rfl rfl)
set_option maxRecDepth 20000 in
theorem lM_X3_171 : Cond.methodLink RX3 171 yX3_hasTimeFor ∈ mj_T := (mj_in5 5 rfl rfl)
set_option maxRecDepth 20000 in
theorem lM_X3_174 : Cond.methodLink RX3 174 yX3_passTicks ∈ mj_T := (mj_in5 6 rfl rfl)
set_option maxRecDepth 20000 in
theorem lM_L_84 : Cond.methodLink RL 84 yX10_sender ∈ mj_T := (mj_in5 7 rfl rfl)
set_option maxRecDepth 20000 in
theorem lM_X10_174 : Cond.methodLink RX10 174 yX7_marked ∈ mj_T := (mj_in5 11 rfl rfl)
set_option maxRecDepth 20000 in
theorem lM_X10_189 : Cond.methodLink RX10 189 yX8_directiveKind ∈ mj_T := (mj_in5 15 rfl rfl)
set_option maxRecDepth 20000 in
theorem lM_X10_192 : Cond.methodLink RX10 192 yX10_sentFrame ∈ mj_T := (mj_in5 19 rfl rfl)
set_option maxRecDepth 20000 in
theorem lM_L_88 : Cond.methodLink RL 88 yX10_receiver ∈ mj_T := (mj_in5 22 rfl rfl)
set_option maxRecDepth 20000 in
theorem lM_X10_225 : Cond.methodLink RX10 225 yX10_commandKept ∈ mj_T := (mj_in5 26 rfl rfl)
set_option maxRecDepth 20000 in
theorem lM_X10_229 : Cond.methodLink RX10 229 Lib.Math.min.name ∈ mj_T := (mj_in5 29 rfl rfl)
set_option maxRecDepth 20000 in
theorem lM_L_92 : Cond.methodLink RL 92 yX10_way ∈ mj_T := (mj_in5 30 rfl rfl)
set_option maxRecDepth 20000 in
theorem lM_X10_242 : Cond.methodLink RX10 242 yX9_tickOf ∈ mj_T := (mj_in5 34 rfl rfl)
set_option maxRecDepth 20000 in
theorem lM_X10_245 : Cond.methodLink RX10 245 yX9_byteOf ∈ mj_T := (mj_in5 38 rfl rfl)
set_option maxRecDepth 20000 in
theorem lM_L_97 : Cond.methodLink RL 97 yX10_alarm ∈ mj_T := (mj_in5 39 rfl rfl)
set_option maxRecDepth 20000 in
theorem lM_X10_257 : Cond.methodLink RX10 257 yX1_alarmAt ∈ mj_T := (mj_in5 43 rfl rfl)
set_option maxRecDepth 20000 in
theorem lM_L_101 : Cond.methodLink RL 101 yX10_told ∈ mj_T := (mj_in5 47 rfl rfl)
set_option maxRecDepth 20000 in
theorem lM_X10_260 : Cond.methodLink RX10 260 yJ4_setLength_d00df ∈ mj_T := (mj_in5 51 rfl rfl)
set_option maxRecDepth 20000 in
theorem lM_X10_263 : Cond.methodLink RX10 263 yX8_tellReport ∈ mj_T := (mj_in5 105 rfl rfl)
set_option maxRecDepth 20000 in
theorem lM_X8_191 : Cond.methodLink RX8 191 yJ4_append_cf468 ∈ mj_T := (mj_in5 109 rfl rfl)
set_option maxRecDepth 20000 in
theorem lM_X8_197 : Cond.methodLink RX8 197 yJ4_append_bf812 ∈ mj_T := (mj_in5 144 rfl rfl)
set_option maxRecDepth 20000 in
theorem lM_X10_267 : Cond.methodLink RX10 267 yX8_tellSelf ∈ mj_T := (mj_in5 178 rfl rfl)
set_option maxRecDepth 20000 in
theorem lM_X8_204 : Cond.methodLink RX8 204 yJ4_append_15ec4 ∈ mj_T := (mj_in5 191 rfl rfl)
set_option maxRecDepth 20000 in
theorem lM_X10_270 : Cond.methodLink RX10 270 yX6_tellSelf ∈ mj_T := (mj_in5 223 rfl rfl)
set_option maxRecDepth 20000 in
theorem lM_X6_124 : Cond.methodLink RX6 124 yJ4_append_15ec4 ∈ mj_T := (mj_in5 230 rfl rfl)
set_option maxRecDepth 20000 in
theorem lM_X6_130 : Cond.methodLink RX6 130 yJ4_append_cf468 ∈ mj_T := (mj_in5 231 rfl rfl)
set_option maxRecDepth 20000 in
theorem lM_X6_133 : Cond.methodLink RX6 133 yJ4_append_bf812 ∈ mj_T := (mj_in5 232 rfl rfl)
set_option maxRecDepth 20000 in
theorem lM_X10_274 : Cond.methodLink RX10 274 yX10_alarmWord ∈ mj_T := (mj_in5 233 rfl rfl)
set_option maxRecDepth 20000 in
theorem lM_X10_278 : Cond.methodLink RX10 278 yJ4_append_15ec4 ∈ mj_T := (mj_in6 3 rfl rfl)
set_option maxRecDepth 20000 in
theorem lM_X10_282 : Cond.methodLink RX10 282 yJ4_length_8abf5 ∈ mj_T := (mj_in6 4 rfl rfl)
set_option maxRecDepth 20000 in
theorem lM_X10_285 : Cond.methodLink RX10 285 yJ4_charAt_5068e ∈ mj_T := (mj_in6 11 rfl rfl)
set_option maxRecDepth 20000 in
theorem lM_L_106 : Cond.methodLink RL 106 yX10_judge ∈ mj_T := (mj_in6 21 rfl rfl)
set_option maxRecDepth 20000 in
theorem lM_X10_292 : Cond.methodLink RX10 292 yX8_verdictOf ∈ mj_T := (mj_in6 25 rfl rfl)
set_option maxRecDepth 20000 in
theorem lM_L_110 : Cond.methodLink RL 110 yX10_verdicts ∈ mj_T := (mj_in6 26 rfl rfl)
set_option maxRecDepth 20000 in
theorem lM_L_114 : Cond.methodLink RL 114 yX10_diary ∈ mj_T := (mj_in6 30 rfl rfl)
set_option maxRecDepth 20000 in
theorem lM_X10_300 : Cond.methodLink RX10 300 yX1_cell ∈ mj_T := (mj_in6 34 rfl rfl)
set_option maxRecDepth 20000 in
theorem lM_L_118 : Cond.methodLink RL 118 yX10_ledger ∈ mj_T := (mj_in6 38 rfl rfl)
set_option maxRecDepth 20000 in
theorem lM_X10_310 : Cond.methodLink RX10 310 yX2_cell ∈ mj_T := (mj_in6 42 rfl rfl)
set_option maxRecDepth 20000 in
theorem lM_L_122 : Cond.methodLink RL 122 yX10_delays ∈ mj_T := (mj_in6 46 rfl rfl)
set_option maxRecDepth 20000 in
theorem lM_X10_311 : Cond.methodLink RX10 311 yX2_howManyReach ∈ mj_T := (mj_in6 50 rfl rfl)
set_option maxRecDepth 20000 in
theorem lM_X2_57 : Cond.methodLink RX2 57 yX2_cell ∈ mj_T := (mj_in6 54 rfl rfl)
set_option maxRecDepth 20000 in
theorem lM_X10_314 : Cond.methodLink RX10 314 yX2_longestWait ∈ mj_T := (mj_in6 55 rfl rfl)
set_option maxRecDepth 20000 in
theorem lM_X2_60 : Cond.methodLink RX2 60 yX2_waitOf ∈ mj_T := (mj_in6 59 rfl rfl)
set_option maxRecDepth 20000 in
theorem lM_X2_64 : Cond.methodLink RX2 64 Lib.Math.max.name ∈ mj_T := (mj_in6 63 rfl rfl)
set_option maxRecDepth 20000 in
theorem lM_X10_317 : Cond.methodLink RX10 317 yX2_allWaits ∈ mj_T := (mj_in6 64 rfl rfl)
set_option maxRecDepth 20000 in
theorem lM_X10_320 : Cond.methodLink RX10 320 yX2_howManyVanished ∈ mj_T := (mj_in6 68 rfl rfl)
set_option maxRecDepth 20000 in
theorem lM_X10_323 : Cond.methodLink RX10 323 yX2_howManyOvertaken ∈ mj_T := (mj_in6 72 rfl rfl)
set_option maxRecDepth 20000 in
theorem lM_L_126 : Cond.methodLink RL 126 yX10_zone ∈ mj_T := (mj_in6 76 rfl rfl)
set_option maxRecDepth 20000 in
theorem lM_X10_326 : Cond.methodLink RX10 326 yX10_isNumber ∈ mj_T := (mj_in6 80 rfl rfl)
set_option maxRecDepth 20000 in
theorem lM_X10_329 : Cond.methodLink RX10 329 yX6_zoneOf ∈ mj_T := (mj_in6 81 rfl rfl)
set_option maxRecDepth 20000 in
theorem lM_L_130 : Cond.methodLink RL 130 yX10_fate ∈ mj_T := (mj_in6 82 rfl rfl)
set_option maxRecDepth 20000 in
theorem lM_X10_332 : Cond.methodLink RX10 332 yX9_doom ∈ mj_T := (mj_in6 86 rfl rfl)
set_option maxRecDepth 20000 in
theorem lM_L_135 : Cond.methodLink RL 135 yX10_truth ∈ mj_T := (mj_in6 90 rfl rfl)
set_option maxRecDepth 20000 in
theorem lM_X10_335 : Cond.methodLink RX10 335 yX10_far ∈ mj_T := (mj_in6 94 rfl rfl)
set_option maxRecDepth 20000 in
theorem lM_X10_338 : Cond.methodLink RX10 338 yX7_nearer ∈ mj_T := (mj_in6 95 rfl rfl)
set_option maxRecDepth 20000 in
theorem lM_L_139 : Cond.methodLink RL 139 yX10_soon ∈ mj_T := (mj_in6 100 rfl rfl)
set_option maxRecDepth 20000 in
theorem lM_X10_344 : Cond.methodLink RX10 344 yX3_copyFrom ∈ mj_T := (mj_in6 104 rfl rfl)
set_option maxRecDepth 20000 in
theorem lM_X3_178 : Cond.methodLink RX3 178 yX0_copyFrom ∈ mj_T := (mj_in6 108 rfl rfl)
set_option maxRecDepth 20000 in
theorem lM_X0_42 : Cond.methodLink RX0 42 arraycopyName ∈ mj_T := (mj_in6 112 rfl rfl)
set_option maxRecDepth 20000 in
theorem lM_X3_181 : Cond.methodLink RX3 181 yX2_copyFrom ∈ mj_T := (mj_in6 113 rfl rfl)
set_option maxRecDepth 20000 in
theorem lM_X2_67 : Cond.methodLink RX2 67 arraycopyName ∈ mj_T := (mj_in6 117 rfl rfl)
set_option maxRecDepth 20000 in
theorem lM_X3_184 : Cond.methodLink RX3 184 yX1_copyFrom ∈ mj_T := (mj_in6 118 rfl rfl)
set_option maxRecDepth 20000 in
theorem lM_X1_40 : Cond.methodLink RX1 40 arraycopyName ∈ mj_T := (mj_in6 122 rfl rfl)
set_option maxRecDepth 20000 in
theorem lM_X3_187 : Cond.methodLink RX3 187 yX6_copyFrom ∈ mj_T := (mj_in6 123 rfl rfl)
set_option maxRecDepth 20000 in
theorem lM_X6_136 : Cond.methodLink RX6 136 yX7_copyFrom ∈ mj_T := (mj_in6 127 rfl rfl)
set_option maxRecDepth 20000 in
theorem lM_X6_140 : Cond.methodLink RX6 140 arraycopyName ∈ mj_T := (mj_in6 131 rfl rfl)
set_option maxRecDepth 20000 in
theorem lM_X3_190 : Cond.methodLink RX3 190 yX8_copyFrom ∈ mj_T := (mj_in6 132 rfl rfl)
set_option maxRecDepth 20000 in
theorem lM_X8_211 : Cond.methodLink RX8 211 yX7_copyFrom ∈ mj_T := (mj_in6 136 rfl rfl)
set_option maxRecDepth 20000 in
theorem lM_X3_193 : Cond.methodLink RX3 193 yX9_copyFrom ∈ mj_T := (mj_in6 137 rfl rfl)
set_option maxRecDepth 20000 in
theorem lM_X3_195 : Cond.methodLink RX3 195 yX4_copyFrom ∈ mj_T := (mj_in6 141 rfl rfl)
set_option maxRecDepth 20000 in
theorem lM_X10_347 : Cond.methodLink RX10 347 yX0_freeOfHurt ∈ mj_T := (mj_in6 142 rfl rfl)
set_option maxRecDepth 20000 in
theorem lM_X10_350 : Cond.methodLink RX10 350 yX8_isIdle ∈ mj_T := (mj_in6 146 rfl rfl)
set_option maxRecDepth 20000 in
theorem lM_L_143 : Cond.methodLink RL 143 yX10_ways ∈ mj_T := (mj_in6 150 rfl rfl)
set_option maxRecDepth 20000 in
theorem lM_X10_353 : Cond.methodLink RX10 353 yX10_leadsOut ∈ mj_T := (mj_in6 154 rfl rfl)
set_option maxRecDepth 20000 in
theorem lM_X10_356 : Cond.methodLink RX10 356 yX3_directed ∈ mj_T := (mj_in6 158 rfl rfl)
set_option maxRecDepth 20000 in
theorem lM_X10_359 : Cond.methodLink RX10 359 yX3_isInStep ∈ mj_T := (mj_in6 162 rfl rfl)
set_option maxRecDepth 20000 in
theorem lM_L_147 : Cond.methodLink RL 147 yX10_image ∈ mj_T := (mj_in6 166 rfl rfl)
set_option maxRecDepth 20000 in
theorem lM_L_152 : Cond.methodLink RL 152 yX10_look ∈ mj_T := (mj_in6 170 rfl rfl)
set_option maxRecDepth 20000 in
theorem lM_L_12 : Cond.methodLink RL 12 yX11_init ∈ mj_T := (mj_in6 177 rfl rfl)
set_option maxRecDepth 20000 in
theorem lM_X11_1 : Cond.methodLink RX11 1 ⟨"java/lang/Object", "<init>", "()V"⟩ ∈ mj_T := (mj_in6 180 rfl rfl)
set_option maxRecDepth 20000 in
theorem lM_L_22 : Cond.methodLink RL 22 yX11_set ∈ mj_T := (mj_in7 11 rfl rfl)
set_option maxRecDepth 20000 in
theorem lM_X11_52 : Cond.methodLink RX11 52 yX11_canSet ∈ mj_T := (mj_in7 15 rfl rfl)
set_option maxRecDepth 20000 in
theorem lM_X11_48 : Cond.methodLink RX11 48 yX11_isIn ∈ mj_T := (mj_in7 19 rfl rfl)
set_option maxRecDepth 20000 in
theorem lM_X11_44 : Cond.methodLink RX11 44 yX11_firstOf ∈ mj_T := (mj_in7 23 rfl rfl)
set_option maxRecDepth 20000 in
theorem lM_L_17 : Cond.methodLink RL 17 yX11_state ∈ mj_T := (mj_in7 27 rfl rfl)
set_option maxRecDepth 20000 in
theorem lM_L_121 : Cond.methodLink RL 121 yX11_ledger ∈ mj_T := (mj_in7 31 rfl rfl)
set_option maxRecDepth 20000 in
theorem lM_X11_73 : Cond.methodLink RX11 73 yX11_ledgerMany ∈ mj_T := (mj_in7 35 rfl rfl)
set_option maxRecDepth 20000 in
theorem lM_X11_62 : Cond.methodLink RX11 62 yX11_ledgerAt ∈ mj_T := (mj_in7 39 rfl rfl)
set_option maxRecDepth 20000 in
theorem lM_L_125 : Cond.methodLink RL 125 yX11_delays ∈ mj_T := (mj_in7 43 rfl rfl)
set_option maxRecDepth 20000 in
theorem lM_X11_84 : Cond.methodLink RX11 84 yX11_isDelayed ∈ mj_T := (mj_in7 47 rfl rfl)
set_option maxRecDepth 20000 in
theorem lM_X11_76 : Cond.methodLink RX11 76 yX11_ledgerOf ∈ mj_T := (mj_in7 51 rfl rfl)
set_option maxRecDepth 20000 in
theorem lM_X11_80 : Cond.methodLink RX11 80 yX11_isBehindLater ∈ mj_T := (mj_in7 55 rfl rfl)
set_option maxRecDepth 20000 in
theorem lM_L_26 : Cond.methodLink RL 26 yX11_send ∈ mj_T := (mj_in7 59 rfl rfl)
set_option maxRecDepth 20000 in
theorem lM_X11_105 : Cond.methodLink RX11 105 yX11_isMoving ∈ mj_T := (mj_in7 63 rfl rfl)
set_option maxRecDepth 20000 in
theorem lM_X11_87 : Cond.methodLink RX11 87 yX11_machine ∈ mj_T := (mj_in7 67 rfl rfl)
set_option maxRecDepth 20000 in
theorem lM_X11_109 : Cond.methodLink RX11 109 yX11_puts ∈ mj_T := (mj_in7 71 rfl rfl)
set_option maxRecDepth 20000 in
theorem lM_X11_58 : Cond.methodLink RX11 58 yX11_more ∈ mj_T := (mj_in7 75 rfl rfl)
set_option maxRecDepth 20000 in
theorem lM_X11_113 : Cond.methodLink RX11 113 yX11_isLedgered ∈ mj_T := (mj_in7 79 rfl rfl)
set_option maxRecDepth 20000 in
theorem lM_L_30 : Cond.methodLink RL 30 yX11_past ∈ mj_T := (mj_in7 83 rfl rfl)
set_option maxRecDepth 20000 in
theorem lM_L_34 : Cond.methodLink RL 34 yX11_start ∈ mj_T := (mj_in7 87 rfl rfl)
set_option maxRecDepth 20000 in
theorem lM_X11_93 : Cond.methodLink RX11 93 yX11_empties ∈ mj_T := (mj_in7 91 rfl rfl)
set_option maxRecDepth 20000 in
theorem lM_X11_65 : Cond.methodLink RX11 65 yX11_firstSent ∈ mj_T := (mj_in7 95 rfl rfl)
set_option maxRecDepth 20000 in
theorem lM_X11_69 : Cond.methodLink RX11 69 yX11_stands ∈ mj_T := (mj_in7 99 rfl rfl)
set_option maxRecDepth 20000 in
theorem lM_X11_90 : Cond.methodLink RX11 90 yX11_becomes ∈ mj_T := (mj_in7 103 rfl rfl)
set_option maxRecDepth 20000 in
theorem lM_X11_102 : Cond.methodLink RX11 102 yX11_settingOf ∈ mj_T := (mj_in7 107 rfl rfl)
set_option maxRecDepth 20000 in
theorem lM_X11_116 : Cond.methodLink RX11 116 yX11_directs ∈ mj_T := (mj_in7 111 rfl rfl)
set_option maxRecDepth 20000 in
theorem lM_L_39 : Cond.methodLink RL 39 yX11_direct ∈ mj_T := (mj_in7 115 rfl rfl)
set_option maxRecDepth 20000 in
theorem lM_X11_96 : Cond.methodLink RX11 96 yX11_alarms ∈ mj_T := (mj_in7 119 rfl rfl)
set_option maxRecDepth 20000 in
theorem lM_X11_122 : Cond.methodLink RX11 122 yX11_goesOn ∈ mj_T := (mj_in7 123 rfl rfl)
set_option maxRecDepth 20000 in
theorem lM_X11_119 : Cond.methodLink RX11 119 yX11_marks ∈ mj_T := (mj_in7 127 rfl rfl)
set_option maxRecDepth 20000 in
theorem lM_L_43 : Cond.methodLink RL 43 yX11_renumber ∈ mj_T := (mj_in7 131 rfl rfl)
set_option maxRecDepth 20000 in
theorem lM_L_134 : Cond.methodLink RL 134 yX11_fate ∈ mj_T := (mj_in7 135 rfl rfl)
set_option maxRecDepth 20000 in
theorem lM_X11_136 : Cond.methodLink RX11 136 yX11_fateMany ∈ mj_T := (mj_in7 139 rfl rfl)
set_option maxRecDepth 20000 in
theorem lM_X11_142 : Cond.methodLink RX11 142 yX11_fateOf ∈ mj_T := (mj_in7 143 rfl rfl)
set_option maxRecDepth 20000 in
theorem lM_X11_139 : Cond.methodLink RX11 139 yX11_fateAt ∈ mj_T := (mj_in7 147 rfl rfl)
set_option maxRecDepth 20000 in
theorem lM_L_57 : Cond.methodLink RL 57 yX11_drop ∈ mj_T := (mj_in7 151 rfl rfl)
set_option maxRecDepth 20000 in
theorem lM_X11_169 : Cond.methodLink RX11 169 yX11_isOnWay ∈ mj_T := (mj_in7 155 rfl rfl)
set_option maxRecDepth 20000 in
theorem lM_X11_125 : Cond.methodLink RX11 125 yX11_wayMany ∈ mj_T := (mj_in7 159 rfl rfl)
set_option maxRecDepth 20000 in
theorem lM_X11_165 : Cond.methodLink RX11 165 yX11_drops ∈ mj_T := (mj_in7 163 rfl rfl)
set_option maxRecDepth 20000 in
theorem lM_X11_129 : Cond.methodLink RX11 129 yX11_wayAt ∈ mj_T := (mj_in7 167 rfl rfl)
set_option maxRecDepth 20000 in
theorem lM_X11_133 : Cond.methodLink RX11 133 yX11_wayLong ∈ mj_T := (mj_in7 171 rfl rfl)
set_option maxRecDepth 20000 in
theorem lM_L_62 : Cond.methodLink RL 62 yX11_spoil ∈ mj_T := (mj_in7 175 rfl rfl)
set_option maxRecDepth 20000 in
theorem lM_X11_152 : Cond.methodLink RX11 152 yX11_byteMany ∈ mj_T := (mj_in7 179 rfl rfl)
set_option maxRecDepth 20000 in
theorem lM_L_96 : Cond.methodLink RL 96 yX11_way ∈ mj_T := (mj_in7 183 rfl rfl)
set_option maxRecDepth 20000 in
theorem lM_L_48 : Cond.methodLink RL 48 yX11_take ∈ mj_T := (mj_in7 187 rfl rfl)
set_option maxRecDepth 20000 in
theorem lM_X11_200 : Cond.methodLink RX11 200 yX11_takesOne ∈ mj_T := (mj_in7 191 rfl rfl)
set_option maxRecDepth 20000 in
theorem lM_X11_197 : Cond.methodLink RX11 197 yX11_takesFirst ∈ mj_T := (mj_in7 195 rfl rfl)
set_option maxRecDepth 20000 in
theorem lM_L_129 : Cond.methodLink RL 129 yX11_zone ∈ mj_T := (mj_in7 199 rfl rfl)
set_option maxRecDepth 20000 in
theorem lM_X11_173 : Cond.methodLink RX11 173 yX11_far ∈ mj_T := (mj_in7 203 rfl rfl)
set_option maxRecDepth 20000 in
theorem lM_X11_155 : Cond.methodLink RX11 155 yX11_round ∈ mj_T := (mj_in7 207 rfl rfl)
set_option maxRecDepth 20000 in
theorem lM_X11_176 : Cond.methodLink RX11 176 yX11_zoneOf ∈ mj_T := (mj_in7 211 rfl rfl)
set_option maxRecDepth 20000 in
theorem lM_L_109 : Cond.methodLink RL 109 yX11_judge ∈ mj_T := (mj_in7 215 rfl rfl)
set_option maxRecDepth 20000 in
theorem lM_X11_203 : Cond.methodLink RX11 203 yX11_verdict ∈ mj_T := (mj_in7 219 rfl rfl)
set_option maxRecDepth 20000 in
theorem lM_L_113 : Cond.methodLink RL 113 yX11_verdicts ∈ mj_T := (mj_in7 223 rfl rfl)
set_option maxRecDepth 20000 in
theorem lM_L_52 : Cond.methodLink RL 52 yX11_tick ∈ mj_T := (mj_in7 227 rfl rfl)
set_option maxRecDepth 20000 in
theorem lM_X11_270 : Cond.methodLink RX11 270 yX11_ticksOn ∈ mj_T := (mj_in7 231 rfl rfl)
set_option maxRecDepth 20000 in
theorem lM_X11_267 : Cond.methodLink RX11 267 yX11_ticks ∈ mj_T := (mj_in7 235 rfl rfl)
set_option maxRecDepth 20000 in
theorem lM_X11_249 : Cond.methodLink RX11 249 yX11_comes ∈ mj_T := (mj_in7 239 rfl rfl)
set_option maxRecDepth 20000 in
theorem lM_X11_252 : Cond.methodLink RX11 252 yX11_comesFrame ∈ mj_T := (mj_in8 3 rfl rfl)
set_option maxRecDepth 20000 in
theorem lM_X11_188 : Cond.methodLink RX11 188 yX11_isGoodFrame ∈ mj_T := (mj_in8 7 rfl rfl)
set_option maxRecDepth 20000 in
theorem lM_X11_191 : Cond.methodLink RX11 191 yX11_takesIn ∈ mj_T := (mj_in8 11 rfl rfl)
set_option maxRecDepth 20000 in
theorem lM_X11_179 : Cond.methodLink RX11 179 yX11_keeps ∈ mj_T := (mj_in8 15 rfl rfl)
set_option maxRecDepth 20000 in
theorem lM_X11_182 : Cond.methodLink RX11 182 yX11_takenOf ∈ mj_T := (mj_in8 19 rfl rfl)
set_option maxRecDepth 20000 in
theorem lM_X11_185 : Cond.methodLink RX11 185 yX11_counts ∈ mj_T := (mj_in8 23 rfl rfl)
set_option maxRecDepth 20000 in
theorem lM_X11_194 : Cond.methodLink RX11 194 yX11_isDirected ∈ mj_T := (mj_in8 27 rfl rfl)
set_option maxRecDepth 20000 in
theorem lM_X11_255 : Cond.methodLink RX11 255 yX11_reports ∈ mj_T := (mj_in8 31 rfl rfl)
set_option maxRecDepth 20000 in
theorem lM_X11_161 : Cond.methodLink RX11 161 yX11_goes ∈ mj_T := (mj_in8 35 rfl rfl)
set_option maxRecDepth 20000 in
theorem lM_X11_145 : Cond.methodLink RX11 145 yX11_isFated ∈ mj_T := (mj_in8 39 rfl rfl)
set_option maxRecDepth 20000 in
theorem lM_X11_149 : Cond.methodLink RX11 149 yX11_draw ∈ mj_T := (mj_in8 43 rfl rfl)
set_option maxRecDepth 20000 in
theorem lM_X11_258 : Cond.methodLink RX11 258 yX11_comesReport ∈ mj_T := (mj_in8 49 rfl rfl)
set_option maxRecDepth 20000 in
theorem lM_X11_224 : Cond.methodLink RX11 224 yX11_hears ∈ mj_T := (mj_in8 53 rfl rfl)
set_option maxRecDepth 20000 in
theorem lM_X11_213 : Cond.methodLink RX11 213 yX11_isAnswered ∈ mj_T := (mj_in8 57 rfl rfl)
set_option maxRecDepth 20000 in
theorem lM_X11_217 : Cond.methodLink RX11 217 yX11_isChecked ∈ mj_T := (mj_in8 61 rfl rfl)
set_option maxRecDepth 20000 in
theorem lM_X11_220 : Cond.methodLink RX11 220 yX11_isSaid ∈ mj_T := (mj_in8 65 rfl rfl)
set_option maxRecDepth 20000 in
theorem lM_X11_210 : Cond.methodLink RX11 210 yX11_sentGo ∈ mj_T := (mj_in8 69 rfl rfl)
set_option maxRecDepth 20000 in
theorem lM_X11_207 : Cond.methodLink RX11 207 yX11_numberOf ∈ mj_T := (mj_in8 73 rfl rfl)
set_option maxRecDepth 20000 in
theorem lM_X11_261 : Cond.methodLink RX11 261 yX11_runsOut ∈ mj_T := (mj_in8 77 rfl rfl)
set_option maxRecDepth 20000 in
theorem lM_X11_227 : Cond.methodLink RX11 227 yX11_givesUp ∈ mj_T := (mj_in8 81 rfl rfl)
set_option maxRecDepth 20000 in
theorem lM_X11_99 : Cond.methodLink RX11 99 yX11_suspends ∈ mj_T := (mj_in8 85 rfl rfl)
set_option maxRecDepth 20000 in
theorem lM_X11_264 : Cond.methodLink RX11 264 yX11_turns ∈ mj_T := (mj_in8 89 rfl rfl)
set_option maxRecDepth 20000 in
theorem lM_X11_230 : Cond.methodLink RX11 230 yX11_goesFrame ∈ mj_T := (mj_in8 93 rfl rfl)
set_option maxRecDepth 20000 in
theorem lM_X11_240 : Cond.methodLink RX11 240 yX11_goesDirective ∈ mj_T := (mj_in8 97 rfl rfl)
set_option maxRecDepth 20000 in
theorem lM_X11_243 : Cond.methodLink RX11 243 yX11_firstMarked ∈ mj_T := (mj_in8 101 rfl rfl)
set_option maxRecDepth 20000 in
theorem lM_X11_237 : Cond.methodLink RX11 237 yX11_goesSent ∈ mj_T := (mj_in8 105 rfl rfl)
set_option maxRecDepth 20000 in
theorem lM_X11_234 : Cond.methodLink RX11 234 yX11_goesOf ∈ mj_T := (mj_in8 109 rfl rfl)
set_option maxRecDepth 20000 in
theorem lM_X11_246 : Cond.methodLink RX11 246 yX11_goesNew ∈ mj_T := (mj_in8 113 rfl rfl)
set_option maxRecDepth 20000 in
theorem lM_L_142 : Cond.methodLink RL 142 yX11_soon ∈ mj_T := (mj_in8 117 rfl rfl)
set_option maxRecDepth 20000 in
theorem lM_X11_273 : Cond.methodLink RX11 273 yX11_thinks ∈ mj_T := (mj_in8 121 rfl rfl)
set_option maxRecDepth 20000 in
theorem lM_X11_276 : Cond.methodLink RX11 276 yX11_isThrough ∈ mj_T := (mj_in8 125 rfl rfl)
set_option maxRecDepth 20000 in
theorem lM_X11_279 : Cond.methodLink RX11 279 yX11_ticksTaking ∈ mj_T := (mj_in8 129 rfl rfl)
set_option maxRecDepth 20000 in
theorem lM_X11_282 : Cond.methodLink RX11 282 yX11_forgets ∈ mj_T := (mj_in8 133 rfl rfl)
set_option maxRecDepth 20000 in
theorem lM_L_146 : Cond.methodLink RL 146 yX11_ways ∈ mj_T := (mj_in8 137 rfl rfl)
set_option maxRecDepth 20000 in
theorem lM_X11_288 : Cond.methodLink RX11 288 yX11_leads ∈ mj_T := (mj_in8 141 rfl rfl)
set_option maxRecDepth 20000 in
theorem lM_X11_285 : Cond.methodLink RX11 285 yX11_start ∈ mj_T := (mj_in8 145 rfl rfl)
set_option maxRecDepth 20000 in
theorem lM_L_105 : Cond.methodLink RL 105 yX11_told ∈ mj_T := (mj_in8 146 rfl rfl)
set_option maxRecDepth 20000 in
theorem lM_X11_303 : Cond.methodLink RX11 303 yX11_saysReport ∈ mj_T := (mj_in8 150 rfl rfl)
set_option maxRecDepth 20000 in
theorem lM_X11_294 : Cond.methodLink RX11 294 yX11_says ∈ mj_T := (mj_in8 154 rfl rfl)
set_option maxRecDepth 20000 in
theorem lM_X11_297 : Cond.methodLink RX11 297 yX11_saysNumber ∈ mj_T := (mj_in8 158 rfl rfl)
set_option maxRecDepth 20000 in
theorem lM_X11_306 : Cond.methodLink RX11 306 yX11_saysSender ∈ mj_T := (mj_in8 162 rfl rfl)
set_option maxRecDepth 20000 in
theorem lM_X11_300 : Cond.methodLink RX11 300 yX11_saysName ∈ mj_T := (mj_in8 166 rfl rfl)
set_option maxRecDepth 20000 in
theorem lM_X11_309 : Cond.methodLink RX11 309 yX11_saysReceiver ∈ mj_T := (mj_in8 170 rfl rfl)
set_option maxRecDepth 20000 in
theorem lM_L_87 : Cond.methodLink RL 87 yX11_sender ∈ mj_T := (mj_in8 174 rfl rfl)
set_option maxRecDepth 20000 in
theorem lM_X11_312 : Cond.methodLink RX11 312 yX11_markedMany ∈ mj_T := (mj_in8 178 rfl rfl)
set_option maxRecDepth 20000 in
theorem lM_L_91 : Cond.methodLink RL 91 yX11_receiver ∈ mj_T := (mj_in8 182 rfl rfl)
set_option maxRecDepth 20000 in
theorem lM_X11_315 : Cond.methodLink RX11 315 yX11_keptOf ∈ mj_T := (mj_in8 186 rfl rfl)
set_option maxRecDepth 20000 in
theorem lM_L_100 : Cond.methodLink RL 100 yX11_alarm ∈ mj_T := (mj_in8 190 rfl rfl)
set_option maxRecDepth 20000 in
theorem lM_L_117 : Cond.methodLink RL 117 yX11_diary ∈ mj_T := (mj_in8 194 rfl rfl)
set_option maxRecDepth 20000 in
theorem lM_L_138 : Cond.methodLink RL 138 yX11_truth ∈ mj_T := (mj_in8 198 rfl rfl)
set_option maxRecDepth 20000 in
theorem lM_X11_318 : Cond.methodLink RX11 318 yX11_takenMany ∈ mj_T := (mj_in8 202 rfl rfl)
set_option maxRecDepth 20000 in
theorem lM_L_155 : Cond.methodLink RL 155 yX11_look ∈ mj_T := (mj_in8 206 rfl rfl)
set_option maxRecDepth 20000 in
theorem lM_L_67 : Cond.methodLink RL 67 yX11_feed ∈ mj_T := (mj_in8 211 rfl rfl)
set_option maxRecDepth 20000 in
theorem lM_X11_328 : Cond.methodLink RX11 328 yX11_types ∈ mj_T := (mj_in8 215 rfl rfl)
set_option maxRecDepth 20000 in
theorem lM_L_71 : Cond.methodLink RL 71 yX11_end ∈ mj_T := (mj_in8 219 rfl rfl)
set_option maxRecDepth 20000 in
theorem lM_L_75 : Cond.methodLink RL 75 yX11_plan ∈ mj_T := (mj_in8 223 rfl rfl)
set_option maxRecDepth 20000 in
theorem lM_X11_379 : Cond.methodLink RX11 379 yX11_readPlan ∈ mj_T := (mj_in8 227 rfl rfl)
set_option maxRecDepth 20000 in
theorem lM_X11_364 : Cond.methodLink RX11 364 yX11_reads ∈ mj_T := (mj_in8 231 rfl rfl)
set_option maxRecDepth 20000 in
theorem lM_X11_334 : Cond.methodLink RX11 334 yX11_raw ∈ mj_T := (mj_in8 235 rfl rfl)
set_option maxRecDepth 20000 in
theorem lM_X11_343 : Cond.methodLink RX11 343 yX11_isLetter ∈ mj_T := (mj_in8 239 rfl rfl)
set_option maxRecDepth 20000 in
theorem lM_X11_346 : Cond.methodLink RX11 346 yX11_wordAt ∈ mj_T := (mj_in9 3 rfl rfl)
set_option maxRecDepth 20000 in
theorem lM_X11_352 : Cond.methodLink RX11 352 yX11_isDigit ∈ mj_T := (mj_in9 7 rfl rfl)
set_option maxRecDepth 20000 in
theorem lM_X11_373 : Cond.methodLink RX11 373 yX11_readLine ∈ mj_T := (mj_in9 11 rfl rfl)
set_option maxRecDepth 20000 in
theorem lM_X11_361 : Cond.methodLink RX11 361 yX11_errs ∈ mj_T := (mj_in9 15 rfl rfl)
set_option maxRecDepth 20000 in
theorem lM_X11_367 : Cond.methodLink RX11 367 yX11_lowOf ∈ mj_T := (mj_in9 19 rfl rfl)
set_option maxRecDepth 20000 in
theorem lM_X11_370 : Cond.methodLink RX11 370 yX11_highOf ∈ mj_T := (mj_in9 23 rfl rfl)
set_option maxRecDepth 20000 in
theorem lM_L_79 : Cond.methodLink RL 79 yX11_fault ∈ mj_T := (mj_in9 27 rfl rfl)
set_option maxRecDepth 20000 in
theorem lM_L_83 : Cond.methodLink RL 83 yX11_run ∈ mj_T := (mj_in9 31 rfl rfl)
set_option maxRecDepth 20000 in
theorem lM_X11_397 : Cond.methodLink RX11 397 yX11_runsLine ∈ mj_T := (mj_in9 35 rfl rfl)
set_option maxRecDepth 20000 in
theorem lM_X11_382 : Cond.methodLink RX11 382 yX11_send ∈ mj_T := (mj_in9 39 rfl rfl)
set_option maxRecDepth 20000 in
theorem lM_X11_385 : Cond.methodLink RX11 385 yX11_past ∈ mj_T := (mj_in9 40 rfl rfl)
set_option maxRecDepth 20000 in
theorem lM_X11_388 : Cond.methodLink RX11 388 yX11_renumber ∈ mj_T := (mj_in9 41 rfl rfl)
set_option maxRecDepth 20000 in
theorem lM_X11_391 : Cond.methodLink RX11 391 yX11_drop ∈ mj_T := (mj_in9 42 rfl rfl)
set_option maxRecDepth 20000 in
theorem lM_X11_394 : Cond.methodLink RX11 394 yX11_direct ∈ mj_T := (mj_in9 43 rfl rfl)
set_option maxRecDepth 20000 in
theorem lM_L_151 : Cond.methodLink RL 151 yX11_image ∈ mj_T := (mj_in9 44 rfl rfl)
theorem lN_X10_11 : (RX10, 11, yX3_init, "CommandLink") ∈ mj_mn := List.mem_of_getElem? (i := 0) rfl
theorem lN_X3_11 : (RX3, 11, yX0_init, "CommandLink") ∈ mj_mn := List.mem_of_getElem? (i := 1) rfl
theorem lN_X6_30 : (RX6, 30, yX7_init, "CommandLink") ∈ mj_mn := List.mem_of_getElem? (i := 2) rfl
theorem lN_X8_11 : (RX8, 11, yX7_init, "CommandLink") ∈ mj_mn := List.mem_of_getElem? (i := 3) rfl
theorem lN_X3_66 : (RX3, 66, yX4_init, "CommandLink") ∈ mj_mn := List.mem_of_getElem? (i := 4) rfl
theorem lN_X10_28 : (RX10, 28, yX5_init, "CommandLink") ∈ mj_mn := List.mem_of_getElem? (i := 5) rfl
theorem lN_X5_21 : (RX5, 21, yX4_init, "CommandLink") ∈ mj_mn := List.mem_of_getElem? (i := 6) rfl
theorem lN_X0_38 : (RX0, 38, yX10_isWithin, "CommandLink") ∈ mj_mn := List.mem_of_getElem? (i := 7) rfl
theorem lN_X8_68 : (RX8, 68, yX10_isCommand, "CommandLink") ∈ mj_mn := List.mem_of_getElem? (i := 8) rfl
theorem lN_X8_85 : (RX8, 85, yX10_isWithin, "CommandLink") ∈ mj_mn := List.mem_of_getElem? (i := 9) rfl
theorem lN_X8_89 : (RX8, 89, yX10_isNumber, "CommandLink") ∈ mj_mn := List.mem_of_getElem? (i := 10) rfl
theorem lN_X3_71 : (RX3, 71, yX10_isWithin, "CommandLink") ∈ mj_mn := List.mem_of_getElem? (i := 11) rfl
theorem lN_X6_85 : (RX6, 85, yX10_isCommand, "CommandLink") ∈ mj_mn := List.mem_of_getElem? (i := 12) rfl
theorem lN_X6_109 : (RX6, 109, yX10_far, "CommandLink") ∈ mj_mn := List.mem_of_getElem? (i := 13) rfl
theorem lN_X8_167 : (RX8, 167, yX10_far, "CommandLink") ∈ mj_mn := List.mem_of_getElem? (i := 14) rfl
theorem lN_X9_60 : (RX9, 60, yX10_isWithin, "CommandLink") ∈ mj_mn := List.mem_of_getElem? (i := 15) rfl
theorem lN_X5_67 : (RX5, 67, yX10_isWithin, "CommandLink") ∈ mj_mn := List.mem_of_getElem? (i := 16) rfl
theorem lN_X8_200 : (RX8, 200, yX10_machineWord, "CommandLink") ∈ mj_mn := List.mem_of_getElem? (i := 17) rfl
theorem lN_X7_34 : (RX7, 34, yX10_far, "CommandLink") ∈ mj_mn := List.mem_of_getElem? (i := 18) rfl
set_option maxRecDepth 20000 in
theorem lk_X0_init : mj_lk yX0_init cX0_init 1 none 0 := ⟨(mj_in1 42 rfl rfl), (mj_in1 3 rfl rfl), by decide, by decide, by decide⟩
set_option maxRecDepth 20000 in
theorem lk_X0_draw : mj_lk yX0_draw cX0_draw 2 (some .int) 1 := ⟨(mj_in3 227 rfl rfl), (mj_in1 3 rfl rfl), by decide, by decide, by decide⟩
set_option maxRecDepth 20000 in
theorem lV_X0_draw : mj_lkV yX0_draw cX0_draw 2 (some .int) 1 := ⟨lk_X0_draw, (mj_in3 225 rfl rfl), (mj_in3 226 rfl rfl)⟩
set_option maxRecDepth 20000 in
theorem lk_X0_change : mj_lk yX0_change cX0_change 3 (some .boolean) 2 := ⟨(mj_in3 23 rfl rfl), (mj_in1 3 rfl rfl), by decide, by decide, by decide⟩
set_option maxRecDepth 20000 in
theorem lV_X0_change : mj_lkV yX0_change cX0_change 3 (some .boolean) 2 := ⟨lk_X0_change, (mj_in3 21 rfl rfl), (mj_in3 22 rfl rfl)⟩
set_option maxRecDepth 20000 in
theorem lk_X0_freeOfHurt : mj_lk yX0_freeOfHurt cX0_freeOfHurt 1 none 0 := ⟨(mj_in6 145 rfl rfl), (mj_in1 3 rfl rfl), by decide, by decide, by decide⟩
set_option maxRecDepth 20000 in
theorem lV_X0_freeOfHurt : mj_lkV yX0_freeOfHurt cX0_freeOfHurt 1 none 0 := ⟨lk_X0_freeOfHurt, (mj_in6 143 rfl rfl), (mj_in6 144 rfl rfl)⟩
set_option maxRecDepth 20000 in
theorem lk_X0_isReportTime : mj_lk yX0_isReportTime cX0_isReportTime 2 (some .boolean) 0 := ⟨(mj_in3 211 rfl rfl), (mj_in1 3 rfl rfl), by decide, by decide, by decide⟩
set_option maxRecDepth 20000 in
theorem lV_X0_isReportTime : mj_lkV yX0_isReportTime cX0_isReportTime 2 (some .boolean) 0 := ⟨lk_X0_isReportTime, (mj_in3 209 rfl rfl), (mj_in3 210 rfl rfl)⟩
set_option maxRecDepth 20000 in
theorem lk_X0_copyFrom : mj_lk yX0_copyFrom cX0_copyFrom 2 none 1 := ⟨(mj_in6 111 rfl rfl), (mj_in1 3 rfl rfl), by decide, by decide, by decide⟩
set_option maxRecDepth 20000 in
theorem lV_X0_copyFrom : mj_lkV yX0_copyFrom cX0_copyFrom 2 none 1 := ⟨lk_X0_copyFrom, (mj_in6 109 rfl rfl), (mj_in6 110 rfl rfl)⟩
set_option maxRecDepth 20000 in
theorem lk_X1_init : mj_lk yX1_init cX1_init 2 none 1 := ⟨(mj_in1 105 rfl rfl), (mj_in1 5 rfl rfl), by decide, by decide, by decide⟩
set_option maxRecDepth 20000 in
theorem lk_X1_change : mj_lk yX1_change cX1_change 4 (some .int) 2 := ⟨(mj_in3 78 rfl rfl), (mj_in1 5 rfl rfl), by decide, by decide, by decide⟩
set_option maxRecDepth 20000 in
theorem lV_X1_change : mj_lkV yX1_change cX1_change 4 (some .int) 2 := ⟨lk_X1_change, (mj_in3 76 rfl rfl), (mj_in3 77 rfl rfl)⟩
set_option maxRecDepth 20000 in
theorem lk_X1_cell : mj_lk yX1_cell cX1_cell 3 (some .int) 2 := ⟨(mj_in6 37 rfl rfl), (mj_in1 5 rfl rfl), by decide, by decide, by decide⟩
set_option maxRecDepth 20000 in
theorem lV_X1_cell : mj_lkV yX1_cell cX1_cell 3 (some .int) 2 := ⟨lk_X1_cell, (mj_in6 35 rfl rfl), (mj_in6 36 rfl rfl)⟩
set_option maxRecDepth 20000 in
theorem lk_X1_noteAlarm : mj_lk yX1_noteAlarm cX1_noteAlarm 2 none 1 := ⟨(mj_in3 94 rfl rfl), (mj_in1 5 rfl rfl), by decide, by decide, by decide⟩
set_option maxRecDepth 20000 in
theorem lV_X1_noteAlarm : mj_lkV yX1_noteAlarm cX1_noteAlarm 2 none 1 := ⟨lk_X1_noteAlarm, (mj_in3 92 rfl rfl), (mj_in3 93 rfl rfl)⟩
set_option maxRecDepth 20000 in
theorem lk_X1_alarmAt : mj_lk yX1_alarmAt cX1_alarmAt 2 (some .int) 1 := ⟨(mj_in5 46 rfl rfl), (mj_in1 5 rfl rfl), by decide, by decide, by decide⟩
set_option maxRecDepth 20000 in
theorem lV_X1_alarmAt : mj_lkV yX1_alarmAt cX1_alarmAt 2 (some .int) 1 := ⟨lk_X1_alarmAt, (mj_in5 44 rfl rfl), (mj_in5 45 rfl rfl)⟩
set_option maxRecDepth 20000 in
theorem lk_X1_noteVerdict : mj_lk yX1_noteVerdict cX1_noteVerdict 2 none 1 := ⟨(mj_in4 26 rfl rfl), (mj_in1 5 rfl rfl), by decide, by decide, by decide⟩
set_option maxRecDepth 20000 in
theorem lV_X1_noteVerdict : mj_lkV yX1_noteVerdict cX1_noteVerdict 2 none 1 := ⟨lk_X1_noteVerdict, (mj_in4 24 rfl rfl), (mj_in4 25 rfl rfl)⟩
set_option maxRecDepth 20000 in
theorem lk_X1_copyFrom : mj_lk yX1_copyFrom cX1_copyFrom 2 none 1 := ⟨(mj_in6 121 rfl rfl), (mj_in1 5 rfl rfl), by decide, by decide, by decide⟩
set_option maxRecDepth 20000 in
theorem lV_X1_copyFrom : mj_lkV yX1_copyFrom cX1_copyFrom 2 none 1 := ⟨lk_X1_copyFrom, (mj_in6 119 rfl rfl), (mj_in6 120 rfl rfl)⟩
set_option maxRecDepth 20000 in
theorem lk_X2_init : mj_lk yX2_init cX2_init 2 none 1 := ⟨(mj_in1 78 rfl rfl), (mj_in1 4 rfl rfl), by decide, by decide, by decide⟩
set_option maxRecDepth 20000 in
theorem lk_X2_has : mj_lk yX2_has cX2_has 2 (some .boolean) 1 := ⟨(mj_in3 194 rfl rfl), (mj_in1 4 rfl rfl), by decide, by decide, by decide⟩
set_option maxRecDepth 20000 in
theorem lV_X2_has : mj_lkV yX2_has cX2_has 2 (some .boolean) 1 := ⟨lk_X2_has, (mj_in3 192 rfl rfl), (mj_in3 193 rfl rfl)⟩
set_option maxRecDepth 20000 in
theorem lk_X2_cell : mj_lk yX2_cell cX2_cell 3 (some .int) 2 := ⟨(mj_in6 45 rfl rfl), (mj_in1 4 rfl rfl), by decide, by decide, by decide⟩
set_option maxRecDepth 20000 in
theorem lV_X2_cell : mj_lkV yX2_cell cX2_cell 3 (some .int) 2 := ⟨lk_X2_cell, (mj_in6 43 rfl rfl), (mj_in6 44 rfl rfl)⟩
set_option maxRecDepth 20000 in
theorem lk_X2_open : mj_lk yX2_open cX2_open 3 (some .int) 1 := ⟨(mj_in3 46 rfl rfl), (mj_in1 4 rfl rfl), by decide, by decide, by decide⟩
set_option maxRecDepth 20000 in
theorem lV_X2_open : mj_lkV yX2_open cX2_open 3 (some .int) 1 := ⟨lk_X2_open, (mj_in3 44 rfl rfl), (mj_in3 45 rfl rfl)⟩
set_option maxRecDepth 20000 in
theorem lk_X2_noteWent : mj_lk yX2_noteWent cX2_noteWent 3 none 1 := ⟨(mj_in4 66 rfl rfl), (mj_in1 4 rfl rfl), by decide, by decide, by decide⟩
set_option maxRecDepth 20000 in
theorem lV_X2_noteWent : mj_lkV yX2_noteWent cX2_noteWent 3 none 1 := ⟨lk_X2_noteWent, (mj_in4 64 rfl rfl), (mj_in4 65 rfl rfl)⟩
set_option maxRecDepth 20000 in
theorem lk_X2_noteTakenIn : mj_lk yX2_noteTakenIn cX2_noteTakenIn 3 none 1 := ⟨(mj_in3 190 rfl rfl), (mj_in1 4 rfl rfl), by decide, by decide, by decide⟩
set_option maxRecDepth 20000 in
theorem lV_X2_noteTakenIn : mj_lkV yX2_noteTakenIn cX2_noteTakenIn 3 none 1 := ⟨lk_X2_noteTakenIn, (mj_in3 188 rfl rfl), (mj_in3 189 rfl rfl)⟩
set_option maxRecDepth 20000 in
theorem lk_X2_lose : mj_lk yX2_lose cX2_lose 4 none 1 := ⟨(mj_in3 74 rfl rfl), (mj_in1 4 rfl rfl), by decide, by decide, by decide⟩
set_option maxRecDepth 20000 in
theorem lV_X2_lose : mj_lkV yX2_lose cX2_lose 4 none 1 := ⟨lk_X2_lose, (mj_in3 72 rfl rfl), (mj_in3 73 rfl rfl)⟩
set_option maxRecDepth 20000 in
theorem lk_X2_letGo : mj_lk yX2_letGo cX2_letGo 5 none 2 := ⟨(mj_in4 30 rfl rfl), (mj_in1 4 rfl rfl), by decide, by decide, by decide⟩
set_option maxRecDepth 20000 in
theorem lV_X2_letGo : mj_lkV yX2_letGo cX2_letGo 5 none 2 := ⟨lk_X2_letGo, (mj_in4 28 rfl rfl), (mj_in4 29 rfl rfl)⟩
set_option maxRecDepth 20000 in
theorem lk_X2_howManyReach : mj_lk yX2_howManyReach cX2_howManyReach 5 (some .int) 2 := ⟨(mj_in6 53 rfl rfl), (mj_in1 4 rfl rfl), by decide, by decide, by decide⟩
set_option maxRecDepth 20000 in
theorem lV_X2_howManyReach : mj_lkV yX2_howManyReach cX2_howManyReach 5 (some .int) 2 := ⟨lk_X2_howManyReach, (mj_in6 51 rfl rfl), (mj_in6 52 rfl rfl)⟩
set_option maxRecDepth 20000 in
theorem lk_X2_waitOf : mj_lk yX2_waitOf cX2_waitOf 3 (some .int) 1 := ⟨(mj_in6 62 rfl rfl), (mj_in1 4 rfl rfl), by decide, by decide, by decide⟩
set_option maxRecDepth 20000 in
theorem lV_X2_waitOf : mj_lkV yX2_waitOf cX2_waitOf 3 (some .int) 1 := ⟨lk_X2_waitOf, (mj_in6 61 rfl rfl), (mj_inP 22 rfl)⟩
set_option maxRecDepth 20000 in
theorem lk_X2_longestWait : mj_lk yX2_longestWait cX2_longestWait 3 (some .int) 0 := ⟨(mj_in6 58 rfl rfl), (mj_in1 4 rfl rfl), by decide, by decide, by decide⟩
set_option maxRecDepth 20000 in
theorem lV_X2_longestWait : mj_lkV yX2_longestWait cX2_longestWait 3 (some .int) 0 := ⟨lk_X2_longestWait, (mj_in6 56 rfl rfl), (mj_in6 57 rfl rfl)⟩
set_option maxRecDepth 20000 in
theorem lk_X2_allWaits : mj_lk yX2_allWaits cX2_allWaits 3 (some .int) 0 := ⟨(mj_in6 67 rfl rfl), (mj_in1 4 rfl rfl), by decide, by decide, by decide⟩
set_option maxRecDepth 20000 in
theorem lV_X2_allWaits : mj_lkV yX2_allWaits cX2_allWaits 3 (some .int) 0 := ⟨lk_X2_allWaits, (mj_in6 65 rfl rfl), (mj_in6 66 rfl rfl)⟩
set_option maxRecDepth 20000 in
theorem lk_X2_howManyVanished : mj_lk yX2_howManyVanished cX2_howManyVanished 3 (some .int) 0 := ⟨(mj_in6 71 rfl rfl), (mj_in1 4 rfl rfl), by decide, by decide, by decide⟩
set_option maxRecDepth 20000 in
theorem lV_X2_howManyVanished : mj_lkV yX2_howManyVanished cX2_howManyVanished 3 (some .int) 0 := ⟨lk_X2_howManyVanished, (mj_in6 69 rfl rfl), (mj_in6 70 rfl rfl)⟩
set_option maxRecDepth 20000 in
theorem lk_X2_howManyOvertaken : mj_lk yX2_howManyOvertaken cX2_howManyOvertaken 4 (some .int) 0 := ⟨(mj_in6 75 rfl rfl), (mj_in1 4 rfl rfl), by decide, by decide, by decide⟩
set_option maxRecDepth 20000 in
theorem lV_X2_howManyOvertaken : mj_lkV yX2_howManyOvertaken cX2_howManyOvertaken 4 (some .int) 0 := ⟨lk_X2_howManyOvertaken, (mj_in6 73 rfl rfl), (mj_in6 74 rfl rfl)⟩
set_option maxRecDepth 20000 in
theorem lk_X2_copyFrom : mj_lk yX2_copyFrom cX2_copyFrom 2 none 1 := ⟨(mj_in6 116 rfl rfl), (mj_in1 4 rfl rfl), by decide, by decide, by decide⟩
set_option maxRecDepth 20000 in
theorem lV_X2_copyFrom : mj_lkV yX2_copyFrom cX2_copyFrom 2 none 1 := ⟨lk_X2_copyFrom, (mj_in6 114 rfl rfl), (mj_in6 115 rfl rfl)⟩
set_option maxRecDepth 20000 in
theorem lk_X3_init : mj_lk yX3_init cX3_init 1 none 0 := ⟨(mj_in1 36 rfl rfl), (mj_in1 2 rfl rfl), by decide, by decide, by decide⟩
set_option maxRecDepth 20000 in
theorem lk_X3_wayOf : mj_lk yX3_wayOf cX3_wayOf 2 (some (.object "CommandLink$Way")) 1 := ⟨(mj_in4 75 rfl rfl), (mj_in1 2 rfl rfl), by decide, by decide, by decide⟩
set_option maxRecDepth 20000 in
theorem lV_X3_wayOf : mj_lkV yX3_wayOf cX3_wayOf 2 (some (.object "CommandLink$Way")) 1 := ⟨lk_X3_wayOf, (mj_in4 73 rfl rfl), (mj_in4 74 rfl rfl)⟩
set_option maxRecDepth 20000 in
theorem lk_X3_hasTimeFor : mj_lk yX3_hasTimeFor cX3_hasTimeFor 2 (some .boolean) 1 := ⟨(mj_in3 137 rfl rfl), (mj_in1 2 rfl rfl), by decide, by decide, by decide⟩
set_option maxRecDepth 20000 in
theorem lV_X3_hasTimeFor : mj_lkV yX3_hasTimeFor cX3_hasTimeFor 2 (some .boolean) 1 := ⟨lk_X3_hasTimeFor, (mj_in3 135 rfl rfl), (mj_in3 136 rfl rfl)⟩
set_option maxRecDepth 20000 in
theorem lk_X3_passTicks : mj_lk yX3_passTicks cX3_passTicks 5 none 2 := ⟨(mj_in3 142 rfl rfl), (mj_in1 2 rfl rfl), by decide, by decide, by decide⟩
set_option maxRecDepth 20000 in
theorem lV_X3_passTicks : mj_lkV yX3_passTicks cX3_passTicks 5 none 2 := ⟨lk_X3_passTicks, (mj_in3 140 rfl rfl), (mj_in3 141 rfl rfl)⟩
set_option maxRecDepth 20000 in
theorem lk_X3_directed : mj_lk yX3_directed cX3_directed 2 (some .boolean) 1 := ⟨(mj_in6 161 rfl rfl), (mj_in1 2 rfl rfl), by decide, by decide, by decide⟩
set_option maxRecDepth 20000 in
theorem lV_X3_directed : mj_lkV yX3_directed cX3_directed 2 (some .boolean) 1 := ⟨lk_X3_directed, (mj_in6 159 rfl rfl), (mj_in6 160 rfl rfl)⟩
set_option maxRecDepth 20000 in
theorem lk_X3_isInStep : mj_lk yX3_isInStep cX3_isInStep 1 (some .boolean) 0 := ⟨(mj_in6 165 rfl rfl), (mj_in1 2 rfl rfl), by decide, by decide, by decide⟩
set_option maxRecDepth 20000 in
theorem lV_X3_isInStep : mj_lkV yX3_isInStep cX3_isInStep 1 (some .boolean) 0 := ⟨lk_X3_isInStep, (mj_in6 163 rfl rfl), (mj_in6 164 rfl rfl)⟩
set_option maxRecDepth 20000 in
theorem lk_X3_runNextLine : mj_lk yX3_runNextLine cX3_runNextLine 3 (some .boolean) 0 := ⟨(mj_in4 238 rfl rfl), (mj_in1 2 rfl rfl), by decide, by decide, by decide⟩
set_option maxRecDepth 20000 in
theorem lV_X3_runNextLine : mj_lkV yX3_runNextLine cX3_runNextLine 3 (some .boolean) 0 := ⟨lk_X3_runNextLine, (mj_in4 236 rfl rfl), (mj_in4 237 rfl rfl)⟩
set_option maxRecDepth 20000 in
theorem lk_X3_copyFrom : mj_lk yX3_copyFrom cX3_copyFrom 2 none 1 := ⟨(mj_in6 107 rfl rfl), (mj_in1 2 rfl rfl), by decide, by decide, by decide⟩
set_option maxRecDepth 20000 in
theorem lV_X3_copyFrom : mj_lkV yX3_copyFrom cX3_copyFrom 2 none 1 := ⟨lk_X3_copyFrom, (mj_in6 105 rfl rfl), (mj_in6 106 rfl rfl)⟩
set_option maxRecDepth 20000 in
theorem lk_X4_init : mj_lk yX4_init cX4_init 1 none 0 := ⟨(mj_in2 106 rfl rfl), (mj_in1 10 rfl rfl), by decide, by decide, by decide⟩
set_option maxRecDepth 20000 in
theorem lk_X4_clear : mj_lk yX4_clear cX4_clear 1 none 0 := ⟨(mj_in4 113 rfl rfl), (mj_in1 10 rfl rfl), by decide, by decide, by decide⟩
set_option maxRecDepth 20000 in
theorem lV_X4_clear : mj_lkV yX4_clear cX4_clear 1 none 0 := ⟨lk_X4_clear, (mj_in4 111 rfl rfl), (mj_in4 112 rfl rfl)⟩
set_option maxRecDepth 20000 in
theorem lk_X4_add : mj_lk yX4_add cX4_add 3 none 2 := ⟨(mj_in4 221 rfl rfl), (mj_in1 10 rfl rfl), by decide, by decide, by decide⟩
set_option maxRecDepth 20000 in
theorem lV_X4_add : mj_lkV yX4_add cX4_add 3 none 2 := ⟨lk_X4_add, (mj_in4 219 rfl rfl), (mj_in4 220 rfl rfl)⟩
set_option maxRecDepth 20000 in
theorem lk_X4_copyFrom : mj_lk yX4_copyFrom cX4_copyFrom 2 none 1 := ⟨(mj_in4 225 rfl rfl), (mj_in1 10 rfl rfl), by decide, by decide, by decide⟩
set_option maxRecDepth 20000 in
theorem lV_X4_copyFrom : mj_lkV yX4_copyFrom cX4_copyFrom 2 none 1 := ⟨lk_X4_copyFrom, (mj_in4 223 rfl rfl), (mj_in4 224 rfl rfl)⟩
set_option maxRecDepth 20000 in
theorem lk_X5_init : mj_lk yX5_init cX5_init 1 none 0 := ⟨(mj_in2 165 rfl rfl), (mj_in1 11 rfl rfl), by decide, by decide, by decide⟩
set_option maxRecDepth 20000 in
theorem lk_X5_hasRoom : mj_lk yX5_hasRoom cX5_hasRoom 1 (some .boolean) 0 := ⟨(mj_in4 93 rfl rfl), (mj_in1 11 rfl rfl), by decide, by decide, by decide⟩
set_option maxRecDepth 20000 in
theorem lV_X5_hasRoom : mj_lkV yX5_hasRoom cX5_hasRoom 1 (some .boolean) 0 := ⟨lk_X5_hasRoom, (mj_in4 91 rfl rfl), (mj_in4 92 rfl rfl)⟩
set_option maxRecDepth 20000 in
theorem lk_X5_putFour : mj_lk yX5_putFour cX5_putFour 3 none 1 := ⟨(mj_in4 97 rfl rfl), (mj_in1 11 rfl rfl), by decide, by decide, by decide⟩
set_option maxRecDepth 20000 in
theorem lV_X5_putFour : mj_lkV yX5_putFour cX5_putFour 3 none 1 := ⟨lk_X5_putFour, (mj_in4 95 rfl rfl), (mj_in4 96 rfl rfl)⟩
set_option maxRecDepth 20000 in
theorem lk_X5_readAll : mj_lk yX5_readAll cX5_readAll 2 (some .boolean) 0 := ⟨(mj_in4 109 rfl rfl), (mj_in1 11 rfl rfl), by decide, by decide, by decide⟩
set_option maxRecDepth 20000 in
theorem lV_X5_readAll : mj_lkV yX5_readAll cX5_readAll 2 (some .boolean) 0 := ⟨lk_X5_readAll, (mj_in4 107 rfl rfl), (mj_in4 108 rfl rfl)⟩
set_option maxRecDepth 20000 in
theorem lk_X5_readLine : mj_lk yX5_readLine cX5_readLine 3 none 0 := ⟨(mj_in4 207 rfl rfl), (mj_in1 11 rfl rfl), by decide, by decide, by decide⟩
set_option maxRecDepth 20000 in
theorem lV_X5_readLine : mj_lkV yX5_readLine cX5_readLine 3 none 0 := ⟨lk_X5_readLine, (mj_in4 206 rfl rfl), (mj_inP 20 rfl)⟩
set_option maxRecDepth 20000 in
theorem lk_X5_noteFault : mj_lk yX5_noteFault cX5_noteFault 2 none 1 := ⟨(mj_in4 211 rfl rfl), (mj_in1 11 rfl rfl), by decide, by decide, by decide⟩
set_option maxRecDepth 20000 in
theorem lV_X5_noteFault : mj_lkV yX5_noteFault cX5_noteFault 2 none 1 := ⟨lk_X5_noteFault, (mj_in4 210 rfl rfl), (mj_inP 21 rfl)⟩
set_option maxRecDepth 20000 in
theorem lk_X5_nextToken : mj_lk yX5_nextToken cX5_nextToken 1 none 0 := ⟨(mj_in4 117 rfl rfl), (mj_in1 11 rfl rfl), by decide, by decide, by decide⟩
set_option maxRecDepth 20000 in
theorem lV_X5_nextToken : mj_lkV yX5_nextToken cX5_nextToken 1 none 0 := ⟨lk_X5_nextToken, (mj_in4 116 rfl rfl), (mj_inP 16 rfl)⟩
set_option maxRecDepth 20000 in
theorem lk_X5_readWord : mj_lk yX5_readWord cX5_readWord 2 none 0 := ⟨(mj_in4 128 rfl rfl), (mj_in1 11 rfl rfl), by decide, by decide, by decide⟩
set_option maxRecDepth 20000 in
theorem lV_X5_readWord : mj_lkV yX5_readWord cX5_readWord 2 none 0 := ⟨lk_X5_readWord, (mj_in4 127 rfl rfl), (mj_inP 17 rfl)⟩
set_option maxRecDepth 20000 in
theorem lk_X5_isTokenText : mj_lk yX5_isTokenText cX5_isTokenText 3 (some .boolean) 1 := ⟨(mj_in4 148 rfl rfl), (mj_in1 11 rfl rfl), by decide, by decide, by decide⟩
set_option maxRecDepth 20000 in
theorem lV_X5_isTokenText : mj_lkV yX5_isTokenText cX5_isTokenText 3 (some .boolean) 1 := ⟨lk_X5_isTokenText, (mj_in4 147 rfl rfl), (mj_inP 18 rfl)⟩
set_option maxRecDepth 20000 in
theorem lk_X5_readNumber : mj_lk yX5_readNumber cX5_readNumber 1 none 0 := ⟨(mj_in4 202 rfl rfl), (mj_in1 11 rfl rfl), by decide, by decide, by decide⟩
set_option maxRecDepth 20000 in
theorem lV_X5_readNumber : mj_lkV yX5_readNumber cX5_readNumber 1 none 0 := ⟨lk_X5_readNumber, (mj_in4 201 rfl rfl), (mj_inP 19 rfl)⟩
set_option maxRecDepth 20000 in
theorem lk_X5_isBlank : mj_lk yX5_isBlank cX5_isBlank 1 (some .boolean) 1 := ⟨(mj_in4 120 rfl rfl), (mj_in1 11 rfl rfl), by decide, by decide, by decide⟩
set_option maxRecDepth 20000 in
theorem lS_X5_isBlank : mj_lkS yX5_isBlank cX5_isBlank 1 (some .boolean) 1 := ⟨lk_X5_isBlank, (mj_in4 119 rfl rfl)⟩
set_option maxRecDepth 20000 in
theorem lk_X5_isLetter : mj_lk yX5_isLetter cX5_isLetter 1 (some .boolean) 1 := ⟨(mj_in4 123 rfl rfl), (mj_in1 11 rfl rfl), by decide, by decide, by decide⟩
set_option maxRecDepth 20000 in
theorem lS_X5_isLetter : mj_lkS yX5_isLetter cX5_isLetter 1 (some .boolean) 1 := ⟨lk_X5_isLetter, (mj_in4 122 rfl rfl)⟩
set_option maxRecDepth 20000 in
theorem lk_X5_isDigit : mj_lk yX5_isDigit cX5_isDigit 1 (some .boolean) 1 := ⟨(mj_in4 198 rfl rfl), (mj_in1 11 rfl rfl), by decide, by decide, by decide⟩
set_option maxRecDepth 20000 in
theorem lS_X5_isDigit : mj_lkS yX5_isDigit cX5_isDigit 1 (some .boolean) 1 := ⟨lk_X5_isDigit, (mj_in4 197 rfl rfl)⟩
set_option maxRecDepth 20000 in
theorem lk_X5_leastOf : mj_lk yX5_leastOf cX5_leastOf 1 (some .int) 1 := ⟨(mj_in4 217 rfl rfl), (mj_in1 11 rfl rfl), by decide, by decide, by decide⟩
set_option maxRecDepth 20000 in
theorem lS_X5_leastOf : mj_lkS yX5_leastOf cX5_leastOf 1 (some .int) 1 := ⟨lk_X5_leastOf, (mj_in4 216 rfl rfl)⟩
set_option maxRecDepth 20000 in
theorem lk_X5_mostOf : mj_lk yX5_mostOf cX5_mostOf 1 (some .int) 1 := ⟨(mj_in4 214 rfl rfl), (mj_in1 11 rfl rfl), by decide, by decide, by decide⟩
set_option maxRecDepth 20000 in
theorem lS_X5_mostOf : mj_lkS yX5_mostOf cX5_mostOf 1 (some .int) 1 := ⟨lk_X5_mostOf, (mj_in4 213 rfl rfl)⟩
set_option maxRecDepth 20000 in
theorem lk_X5_planWord : mj_lk yX5_planWord cX5_planWord 1 (some (.object "java/lang/String")) 1 := ⟨(mj_in4 131 rfl rfl), (mj_in1 11 rfl rfl), by decide, by decide, by decide⟩
set_option maxRecDepth 20000 in
theorem lS_X5_planWord : mj_lkS yX5_planWord cX5_planWord 1 (some (.object "java/lang/String")) 1 := ⟨lk_X5_planWord, (mj_in4 130 rfl rfl)⟩
set_option maxRecDepth 20000 in
theorem lk_X6_init : mj_lk yX6_init cX6_init 3 none 2 := ⟨(mj_in1 137 rfl rfl), (mj_in1 6 rfl rfl), by decide, by decide, by decide⟩
set_option maxRecDepth 20000 in
theorem lk_X6_meet : mj_lk yX6_meet cX6_meet 7 none 1 := ⟨(mj_in3 150 rfl rfl), (mj_in1 6 rfl rfl), by decide, by decide, by decide⟩
set_option maxRecDepth 20000 in
theorem lV_X6_meet : mj_lkV yX6_meet cX6_meet 7 none 1 := ⟨lk_X6_meet, (mj_in3 148 rfl rfl), (mj_in3 149 rfl rfl)⟩
set_option maxRecDepth 20000 in
theorem lk_X6_isGood : mj_lk yX6_isGood cX6_isGood 3 (some .boolean) 3 := ⟨(mj_in3 161 rfl rfl), (mj_in1 6 rfl rfl), by decide, by decide, by decide⟩
set_option maxRecDepth 20000 in
theorem lS_X6_isGood : mj_lkS yX6_isGood cX6_isGood 3 (some .boolean) 3 := ⟨lk_X6_isGood, (mj_in3 160 rfl rfl)⟩
set_option maxRecDepth 20000 in
theorem lk_X6_keepPast : mj_lk yX6_keepPast cX6_keepPast 2 none 1 := ⟨(mj_in3 198 rfl rfl), (mj_in1 6 rfl rfl), by decide, by decide, by decide⟩
set_option maxRecDepth 20000 in
theorem lV_X6_keepPast : mj_lkV yX6_keepPast cX6_keepPast 2 none 1 := ⟨lk_X6_keepPast, (mj_in3 197 rfl rfl), (mj_inP 4 rfl)⟩
set_option maxRecDepth 20000 in
theorem lk_X6_obey : mj_lk yX6_obey cX6_obey 4 none 2 := ⟨(mj_in3 202 rfl rfl), (mj_in1 6 rfl rfl), by decide, by decide, by decide⟩
set_option maxRecDepth 20000 in
theorem lV_X6_obey : mj_lkV yX6_obey cX6_obey 4 none 2 := ⟨lk_X6_obey, (mj_in3 201 rfl rfl), (mj_inP 5 rfl)⟩
set_option maxRecDepth 20000 in
theorem lk_X6_meetInOrder : mj_lk yX6_meetInOrder cX6_meetInOrder 5 none 3 := ⟨(mj_in3 174 rfl rfl), (mj_in1 6 rfl rfl), by decide, by decide, by decide⟩
set_option maxRecDepth 20000 in
theorem lV_X6_meetInOrder : mj_lkV yX6_meetInOrder cX6_meetInOrder 5 none 3 := ⟨lk_X6_meetInOrder, (mj_in3 173 rfl rfl), (mj_inP 2 rfl)⟩
set_option maxRecDepth 20000 in
theorem lk_X6_takeIn : mj_lk yX6_takeIn cX6_takeIn 3 none 2 := ⟨(mj_in3 185 rfl rfl), (mj_in1 6 rfl rfl), by decide, by decide, by decide⟩
set_option maxRecDepth 20000 in
theorem lV_X6_takeIn : mj_lkV yX6_takeIn cX6_takeIn 3 none 2 := ⟨lk_X6_takeIn, (mj_in3 184 rfl rfl), (mj_inP 3 rfl)⟩
set_option maxRecDepth 20000 in
theorem lk_X6_zoneOf : mj_lk yX6_zoneOf cX6_zoneOf 4 (some .int) 1 := ⟨(mj_in3 178 rfl rfl), (mj_in1 6 rfl rfl), by decide, by decide, by decide⟩
set_option maxRecDepth 20000 in
theorem lV_X6_zoneOf : mj_lkV yX6_zoneOf cX6_zoneOf 4 (some .int) 1 := ⟨lk_X6_zoneOf, (mj_in3 176 rfl rfl), (mj_in3 177 rfl rfl)⟩
set_option maxRecDepth 20000 in
theorem lk_X6_handOver : mj_lk yX6_handOver cX6_handOver 2 (some .int) 0 := ⟨(mj_in3 122 rfl rfl), (mj_in1 6 rfl rfl), by decide, by decide, by decide⟩
set_option maxRecDepth 20000 in
theorem lV_X6_handOver : mj_lkV yX6_handOver cX6_handOver 2 (some .int) 0 := ⟨lk_X6_handOver, (mj_in3 120 rfl rfl), (mj_in3 121 rfl rfl)⟩
set_option maxRecDepth 20000 in
theorem lk_X6_reportWord : mj_lk yX6_reportWord cX6_reportWord 2 (some .int) 0 := ⟨(mj_in3 215 rfl rfl), (mj_in1 6 rfl rfl), by decide, by decide, by decide⟩
set_option maxRecDepth 20000 in
theorem lV_X6_reportWord : mj_lkV yX6_reportWord cX6_reportWord 2 (some .int) 0 := ⟨lk_X6_reportWord, (mj_in3 213 rfl rfl), (mj_in3 214 rfl rfl)⟩
set_option maxRecDepth 20000 in
theorem lk_X6_tellSelf : mj_lk yX6_tellSelf cX6_tellSelf 2 none 1 := ⟨(mj_in5 226 rfl rfl), (mj_in1 6 rfl rfl), by decide, by decide, by decide⟩
set_option maxRecDepth 20000 in
theorem lV_X6_tellSelf : mj_lkV yX6_tellSelf cX6_tellSelf 2 none 1 := ⟨lk_X6_tellSelf, (mj_in5 224 rfl rfl), (mj_in5 225 rfl rfl)⟩
set_option maxRecDepth 20000 in
theorem lk_X6_copyFrom : mj_lk yX6_copyFrom cX6_copyFrom 2 none 1 := ⟨(mj_in6 126 rfl rfl), (mj_in1 6 rfl rfl), by decide, by decide, by decide⟩
set_option maxRecDepth 20000 in
theorem lV_X6_copyFrom : mj_lkV yX6_copyFrom cX6_copyFrom 2 none 1 := ⟨lk_X6_copyFrom, (mj_in6 124 rfl rfl), (mj_in6 125 rfl rfl)⟩
set_option maxRecDepth 20000 in
theorem lk_X7_init : mj_lk yX7_init cX7_init 1 none 0 := ⟨(mj_in1 143 rfl rfl), (mj_in1 7 rfl rfl), by decide, by decide, by decide⟩
set_option maxRecDepth 20000 in
theorem lk_X7_add : mj_lk yX7_add cX7_add 4 none 3 := ⟨(mj_in3 50 rfl rfl), (mj_in1 7 rfl rfl), by decide, by decide, by decide⟩
set_option maxRecDepth 20000 in
theorem lV_X7_add : mj_lkV yX7_add cX7_add 4 none 3 := ⟨lk_X7_add, (mj_in3 48 rfl rfl), (mj_in3 49 rfl rfl)⟩
set_option maxRecDepth 20000 in
theorem lk_X7_removeFirst : mj_lk yX7_removeFirst cX7_removeFirst 2 none 1 := ⟨(mj_in3 126 rfl rfl), (mj_in1 7 rfl rfl), by decide, by decide, by decide⟩
set_option maxRecDepth 20000 in
theorem lV_X7_removeFirst : mj_lkV yX7_removeFirst cX7_removeFirst 2 none 1 := ⟨lk_X7_removeFirst, (mj_in3 124 rfl rfl), (mj_in3 125 rfl rfl)⟩
set_option maxRecDepth 20000 in
theorem lk_X7_markAll : mj_lk yX7_markAll cX7_markAll 2 none 0 := ⟨(mj_in3 106 rfl rfl), (mj_in1 7 rfl rfl), by decide, by decide, by decide⟩
set_option maxRecDepth 20000 in
theorem lV_X7_markAll : mj_lkV yX7_markAll cX7_markAll 2 none 0 := ⟨lk_X7_markAll, (mj_in3 104 rfl rfl), (mj_in3 105 rfl rfl)⟩
set_option maxRecDepth 20000 in
theorem lk_X7_marked : mj_lk yX7_marked cX7_marked 3 (some .int) 0 := ⟨(mj_in5 14 rfl rfl), (mj_in1 7 rfl rfl), by decide, by decide, by decide⟩
set_option maxRecDepth 20000 in
theorem lV_X7_marked : mj_lkV yX7_marked cX7_marked 3 (some .int) 0 := ⟨lk_X7_marked, (mj_in5 12 rfl rfl), (mj_in5 13 rfl rfl)⟩
set_option maxRecDepth 20000 in
theorem lk_X7_firstMarked : mj_lk yX7_firstMarked cX7_firstMarked 2 (some .int) 0 := ⟨(mj_in4 58 rfl rfl), (mj_in1 7 rfl rfl), by decide, by decide, by decide⟩
set_option maxRecDepth 20000 in
theorem lV_X7_firstMarked : mj_lkV yX7_firstMarked cX7_firstMarked 2 (some .int) 0 := ⟨lk_X7_firstMarked, (mj_in4 56 rfl rfl), (mj_in4 57 rfl rfl)⟩
set_option maxRecDepth 20000 in
theorem lk_X7_nearer : mj_lk yX7_nearer cX7_nearer 5 (some .int) 2 := ⟨(mj_in6 98 rfl rfl), (mj_in1 7 rfl rfl), by decide, by decide, by decide⟩
set_option maxRecDepth 20000 in
theorem lV_X7_nearer : mj_lkV yX7_nearer cX7_nearer 5 (some .int) 2 := ⟨lk_X7_nearer, (mj_in6 96 rfl rfl), (mj_in6 97 rfl rfl)⟩
set_option maxRecDepth 20000 in
theorem lk_X7_copyFrom : mj_lk yX7_copyFrom cX7_copyFrom 2 none 1 := ⟨(mj_in6 130 rfl rfl), (mj_in1 7 rfl rfl), by decide, by decide, by decide⟩
set_option maxRecDepth 20000 in
theorem lV_X7_copyFrom : mj_lkV yX7_copyFrom cX7_copyFrom 2 none 1 := ⟨lk_X7_copyFrom, (mj_in6 128 rfl rfl), (mj_in6 129 rfl rfl)⟩
set_option maxRecDepth 20000 in
theorem lk_X8_init : mj_lk yX8_init cX8_init 4 none 3 := ⟨(mj_in1 232 rfl rfl), (mj_in1 8 rfl rfl), by decide, by decide, by decide⟩
set_option maxRecDepth 20000 in
theorem lk_X8_queue : mj_lk yX8_queue cX8_queue 2 (some .int) 1 := ⟨(mj_in3 38 rfl rfl), (mj_in1 8 rfl rfl), by decide, by decide, by decide⟩
set_option maxRecDepth 20000 in
theorem lV_X8_queue : mj_lkV yX8_queue cX8_queue 2 (some .int) 1 := ⟨lk_X8_queue, (mj_in3 36 rfl rfl), (mj_in3 37 rfl rfl)⟩
set_option maxRecDepth 20000 in
theorem lk_X8_queuePast : mj_lk yX8_queuePast cX8_queuePast 2 (some .int) 1 := ⟨(mj_in3 58 rfl rfl), (mj_in1 8 rfl rfl), by decide, by decide, by decide⟩
set_option maxRecDepth 20000 in
theorem lV_X8_queuePast : mj_lkV yX8_queuePast cX8_queuePast 2 (some .int) 1 := ⟨lk_X8_queuePast, (mj_in3 56 rfl rfl), (mj_in3 57 rfl rfl)⟩
set_option maxRecDepth 20000 in
theorem lk_X8_begin : mj_lk yX8_begin cX8_begin 3 (some .boolean) 2 := ⟨(mj_in3 66 rfl rfl), (mj_in1 8 rfl rfl), by decide, by decide, by decide⟩
set_option maxRecDepth 20000 in
theorem lV_X8_begin : mj_lkV yX8_begin cX8_begin 3 (some .boolean) 2 := ⟨lk_X8_begin, (mj_in3 64 rfl rfl), (mj_in3 65 rfl rfl)⟩
set_option maxRecDepth 20000 in
theorem lk_X8_halt : mj_lk yX8_halt cX8_halt 1 (some .boolean) 0 := ⟨(mj_in3 86 rfl rfl), (mj_in1 8 rfl rfl), by decide, by decide, by decide⟩
set_option maxRecDepth 20000 in
theorem lV_X8_halt : mj_lkV yX8_halt cX8_halt 1 (some .boolean) 0 := ⟨lk_X8_halt, (mj_in3 84 rfl rfl), (mj_in3 85 rfl rfl)⟩
set_option maxRecDepth 20000 in
theorem lk_X8_goOn : mj_lk yX8_goOn cX8_goOn 1 (some .boolean) 0 := ⟨(mj_in3 98 rfl rfl), (mj_in1 8 rfl rfl), by decide, by decide, by decide⟩
set_option maxRecDepth 20000 in
theorem lV_X8_goOn : mj_lkV yX8_goOn cX8_goOn 1 (some .boolean) 0 := ⟨lk_X8_goOn, (mj_in3 96 rfl rfl), (mj_in3 97 rfl rfl)⟩
set_option maxRecDepth 20000 in
theorem lk_X8_countFrom : mj_lk yX8_countFrom cX8_countFrom 2 (some .boolean) 1 := ⟨(mj_in3 114 rfl rfl), (mj_in1 8 rfl rfl), by decide, by decide, by decide⟩
set_option maxRecDepth 20000 in
theorem lV_X8_countFrom : mj_lkV yX8_countFrom cX8_countFrom 2 (some .boolean) 1 := ⟨lk_X8_countFrom, (mj_in3 112 rfl rfl), (mj_in3 113 rfl rfl)⟩
set_option maxRecDepth 20000 in
theorem lk_X8_giveAlarm : mj_lk yX8_giveAlarm cX8_giveAlarm 2 none 1 := ⟨(mj_in3 90 rfl rfl), (mj_in1 8 rfl rfl), by decide, by decide, by decide⟩
set_option maxRecDepth 20000 in
theorem lV_X8_giveAlarm : mj_lkV yX8_giveAlarm cX8_giveAlarm 2 none 1 := ⟨lk_X8_giveAlarm, (mj_in3 89 rfl rfl), (mj_inP 0 rfl)⟩
set_option maxRecDepth 20000 in
theorem lk_X8_markAll : mj_lk yX8_markAll cX8_markAll 1 none 0 := ⟨(mj_in3 102 rfl rfl), (mj_in1 8 rfl rfl), by decide, by decide, by decide⟩
set_option maxRecDepth 20000 in
theorem lV_X8_markAll : mj_lkV yX8_markAll cX8_markAll 1 none 0 := ⟨lk_X8_markAll, (mj_in3 101 rfl rfl), (mj_inP 1 rfl)⟩
set_option maxRecDepth 20000 in
theorem lk_X8_giveUp : mj_lk yX8_giveUp cX8_giveUp 1 none 0 := ⟨(mj_in4 46 rfl rfl), (mj_in1 8 rfl rfl), by decide, by decide, by decide⟩
set_option maxRecDepth 20000 in
theorem lV_X8_giveUp : mj_lkV yX8_giveUp cX8_giveUp 1 none 0 := ⟨lk_X8_giveUp, (mj_in4 45 rfl rfl), (mj_inP 14 rfl)⟩
set_option maxRecDepth 20000 in
theorem lk_X8_runTimer : mj_lk yX8_runTimer cX8_runTimer 1 none 0 := ⟨(mj_in4 42 rfl rfl), (mj_in1 8 rfl rfl), by decide, by decide, by decide⟩
set_option maxRecDepth 20000 in
theorem lV_X8_runTimer : mj_lkV yX8_runTimer cX8_runTimer 1 none 0 := ⟨lk_X8_runTimer, (mj_in4 40 rfl rfl), (mj_in4 41 rfl rfl)⟩
set_option maxRecDepth 20000 in
theorem lk_X8_haveTurn : mj_lk yX8_haveTurn cX8_haveTurn 3 none 1 := ⟨(mj_in4 50 rfl rfl), (mj_in1 8 rfl rfl), by decide, by decide, by decide⟩
set_option maxRecDepth 20000 in
theorem lV_X8_haveTurn : mj_lkV yX8_haveTurn cX8_haveTurn 3 none 1 := ⟨lk_X8_haveTurn, (mj_in4 48 rfl rfl), (mj_in4 49 rfl rfl)⟩
set_option maxRecDepth 20000 in
theorem lk_X8_makeNewFrame : mj_lk yX8_makeNewFrame cX8_makeNewFrame 1 (some .int) 0 := ⟨(mj_in4 62 rfl rfl), (mj_in1 8 rfl rfl), by decide, by decide, by decide⟩
set_option maxRecDepth 20000 in
theorem lV_X8_makeNewFrame : mj_lkV yX8_makeNewFrame cX8_makeNewFrame 1 (some .int) 0 := ⟨lk_X8_makeNewFrame, (mj_in4 61 rfl rfl), (mj_inP 15 rfl)⟩
set_option maxRecDepth 20000 in
theorem lk_X8_hear : mj_lk yX8_hear cX8_hear 5 none 1 := ⟨(mj_in3 237 rfl rfl), (mj_in1 8 rfl rfl), by decide, by decide, by decide⟩
set_option maxRecDepth 20000 in
theorem lV_X8_hear : mj_lkV yX8_hear cX8_hear 5 none 1 := ⟨lk_X8_hear, (mj_in3 235 rfl rfl), (mj_in3 236 rfl rfl)⟩
set_option maxRecDepth 20000 in
theorem lk_X8_hearLocked : mj_lk yX8_hearLocked cX8_hearLocked 1 none 0 := ⟨(mj_in4 2 rfl rfl), (mj_in1 8 rfl rfl), by decide, by decide, by decide⟩
set_option maxRecDepth 20000 in
theorem lV_X8_hearLocked : mj_lkV yX8_hearLocked cX8_hearLocked 1 none 0 := ⟨lk_X8_hearLocked, (mj_in4 1 rfl rfl), (mj_inP 8 rfl)⟩
set_option maxRecDepth 20000 in
theorem lk_X8_hearChecking : mj_lk yX8_hearChecking cX8_hearChecking 3 none 2 := ⟨(mj_in4 6 rfl rfl), (mj_in1 8 rfl rfl), by decide, by decide, by decide⟩
set_option maxRecDepth 20000 in
theorem lV_X8_hearChecking : mj_lkV yX8_hearChecking cX8_hearChecking 3 none 2 := ⟨lk_X8_hearChecking, (mj_in4 5 rfl rfl), (mj_inP 9 rfl)⟩
set_option maxRecDepth 20000 in
theorem lk_X8_hearDirecting : mj_lk yX8_hearDirecting cX8_hearDirecting 3 none 2 := ⟨(mj_in4 10 rfl rfl), (mj_in1 8 rfl rfl), by decide, by decide, by decide⟩
set_option maxRecDepth 20000 in
theorem lV_X8_hearDirecting : mj_lkV yX8_hearDirecting cX8_hearDirecting 3 none 2 := ⟨lk_X8_hearDirecting, (mj_in4 9 rfl rfl), (mj_inP 10 rfl)⟩
set_option maxRecDepth 20000 in
theorem lk_X8_standingOf : mj_lk yX8_standingOf cX8_standingOf 2 (some .int) 1 := ⟨(mj_in4 19 rfl rfl), (mj_in1 8 rfl rfl), by decide, by decide, by decide⟩
set_option maxRecDepth 20000 in
theorem lV_X8_standingOf : mj_lkV yX8_standingOf cX8_standingOf 2 (some .int) 1 := ⟨lk_X8_standingOf, (mj_in4 18 rfl rfl), (mj_inP 12 rfl)⟩
set_option maxRecDepth 20000 in
theorem lk_X8_verdictOf : mj_lk yX8_verdictOf cX8_verdictOf 7 (some .int) 5 := ⟨(mj_in4 22 rfl rfl), (mj_in1 8 rfl rfl), by decide, by decide, by decide⟩
set_option maxRecDepth 20000 in
theorem lS_X8_verdictOf : mj_lkS yX8_verdictOf cX8_verdictOf 7 (some .int) 5 := ⟨lk_X8_verdictOf, (mj_in4 21 rfl rfl)⟩
set_option maxRecDepth 20000 in
theorem lk_X8_followTable : mj_lk yX8_followTable cX8_followTable 5 none 2 := ⟨(mj_in4 15 rfl rfl), (mj_in1 8 rfl rfl), by decide, by decide, by decide⟩
set_option maxRecDepth 20000 in
theorem lV_X8_followTable : mj_lkV yX8_followTable cX8_followTable 5 none 2 := ⟨lk_X8_followTable, (mj_in4 14 rfl rfl), (mj_inP 11 rfl)⟩
set_option maxRecDepth 20000 in
theorem lk_X8_machineBehind : mj_lk yX8_machineBehind cX8_machineBehind 3 (some .int) 2 := ⟨(mj_in4 38 rfl rfl), (mj_in1 8 rfl rfl), by decide, by decide, by decide⟩
set_option maxRecDepth 20000 in
theorem lV_X8_machineBehind : mj_lkV yX8_machineBehind cX8_machineBehind 3 (some .int) 2 := ⟨lk_X8_machineBehind, (mj_in4 37 rfl rfl), (mj_inP 13 rfl)⟩
set_option maxRecDepth 20000 in
theorem lk_X8_isIdle : mj_lk yX8_isIdle cX8_isIdle 1 (some .boolean) 0 := ⟨(mj_in6 149 rfl rfl), (mj_in1 8 rfl rfl), by decide, by decide, by decide⟩
set_option maxRecDepth 20000 in
theorem lV_X8_isIdle : mj_lkV yX8_isIdle cX8_isIdle 1 (some .boolean) 0 := ⟨lk_X8_isIdle, (mj_in6 147 rfl rfl), (mj_in6 148 rfl rfl)⟩
set_option maxRecDepth 20000 in
theorem lk_X8_directiveKind : mj_lk yX8_directiveKind cX8_directiveKind 1 (some .int) 0 := ⟨(mj_in5 18 rfl rfl), (mj_in1 8 rfl rfl), by decide, by decide, by decide⟩
set_option maxRecDepth 20000 in
theorem lV_X8_directiveKind : mj_lkV yX8_directiveKind cX8_directiveKind 1 (some .int) 0 := ⟨lk_X8_directiveKind, (mj_in5 16 rfl rfl), (mj_in5 17 rfl rfl)⟩
set_option maxRecDepth 20000 in
theorem lk_X8_tellReport : mj_lk yX8_tellReport cX8_tellReport 3 none 1 := ⟨(mj_in5 108 rfl rfl), (mj_in1 8 rfl rfl), by decide, by decide, by decide⟩
set_option maxRecDepth 20000 in
theorem lV_X8_tellReport : mj_lkV yX8_tellReport cX8_tellReport 3 none 1 := ⟨lk_X8_tellReport, (mj_in5 106 rfl rfl), (mj_in5 107 rfl rfl)⟩
set_option maxRecDepth 20000 in
theorem lk_X8_tellSelf : mj_lk yX8_tellSelf cX8_tellSelf 2 none 1 := ⟨(mj_in5 181 rfl rfl), (mj_in1 8 rfl rfl), by decide, by decide, by decide⟩
set_option maxRecDepth 20000 in
theorem lV_X8_tellSelf : mj_lkV yX8_tellSelf cX8_tellSelf 2 none 1 := ⟨lk_X8_tellSelf, (mj_in5 179 rfl rfl), (mj_in5 180 rfl rfl)⟩
set_option maxRecDepth 20000 in
theorem lk_X8_copyFrom : mj_lk yX8_copyFrom cX8_copyFrom 2 none 1 := ⟨(mj_in6 135 rfl rfl), (mj_in1 8 rfl rfl), by decide, by decide, by decide⟩
set_option maxRecDepth 20000 in
theorem lV_X8_copyFrom : mj_lkV yX8_copyFrom cX8_copyFrom 2 none 1 := ⟨lk_X8_copyFrom, (mj_in6 133 rfl rfl), (mj_in6 134 rfl rfl)⟩
set_option maxRecDepth 20000 in
theorem lk_X9_init : mj_lk yX9_init cX9_init 4 none 3 := ⟨(mj_in2 62 rfl rfl), (mj_in1 9 rfl rfl), by decide, by decide, by decide⟩
set_option maxRecDepth 20000 in
theorem lk_X9_has : mj_lk yX9_has cX9_has 2 (some .boolean) 1 := ⟨(mj_in3 170 rfl rfl), (mj_in1 9 rfl rfl), by decide, by decide, by decide⟩
set_option maxRecDepth 20000 in
theorem lV_X9_has : mj_lkV yX9_has cX9_has 2 (some .boolean) 1 := ⟨lk_X9_has, (mj_in3 168 rfl rfl), (mj_in3 169 rfl rfl)⟩
set_option maxRecDepth 20000 in
theorem lk_X9_hasByte : mj_lk yX9_hasByte cX9_hasByte 3 (some .boolean) 2 := ⟨(mj_in3 158 rfl rfl), (mj_in1 9 rfl rfl), by decide, by decide, by decide⟩
set_option maxRecDepth 20000 in
theorem lV_X9_hasByte : mj_lkV yX9_hasByte cX9_hasByte 3 (some .boolean) 2 := ⟨lk_X9_hasByte, (mj_in3 156 rfl rfl), (mj_in3 157 rfl rfl)⟩
set_option maxRecDepth 20000 in
theorem lk_X9_isDue : mj_lk yX9_isDue cX9_isDue 1 (some .boolean) 0 := ⟨(mj_in3 146 rfl rfl), (mj_in1 9 rfl rfl), by decide, by decide, by decide⟩
set_option maxRecDepth 20000 in
theorem lV_X9_isDue : mj_lkV yX9_isDue cX9_isDue 1 (some .boolean) 0 := ⟨lk_X9_isDue, (mj_in3 144 rfl rfl), (mj_in3 145 rfl rfl)⟩
set_option maxRecDepth 20000 in
theorem lk_X9_tickOf : mj_lk yX9_tickOf cX9_tickOf 2 (some .int) 1 := ⟨(mj_in5 37 rfl rfl), (mj_in1 9 rfl rfl), by decide, by decide, by decide⟩
set_option maxRecDepth 20000 in
theorem lV_X9_tickOf : mj_lkV yX9_tickOf cX9_tickOf 2 (some .int) 1 := ⟨lk_X9_tickOf, (mj_in5 35 rfl rfl), (mj_in5 36 rfl rfl)⟩
set_option maxRecDepth 20000 in
theorem lk_X9_byteOf : mj_lk yX9_byteOf cX9_byteOf 3 (some .int) 2 := ⟨(mj_in3 154 rfl rfl), (mj_in1 9 rfl rfl), by decide, by decide, by decide⟩
set_option maxRecDepth 20000 in
theorem lV_X9_byteOf : mj_lkV yX9_byteOf cX9_byteOf 3 (some .int) 2 := ⟨lk_X9_byteOf, (mj_in3 152 rfl rfl), (mj_in3 153 rfl rfl)⟩
set_option maxRecDepth 20000 in
theorem lk_X9_lineOf : mj_lk yX9_lineOf cX9_lineOf 2 (some .int) 1 := ⟨(mj_in3 166 rfl rfl), (mj_in1 9 rfl rfl), by decide, by decide, by decide⟩
set_option maxRecDepth 20000 in
theorem lV_X9_lineOf : mj_lkV yX9_lineOf cX9_lineOf 2 (some .int) 1 := ⟨lk_X9_lineOf, (mj_in3 164 rfl rfl), (mj_in3 165 rfl rfl)⟩
set_option maxRecDepth 20000 in
theorem lk_X9_putByte : mj_lk yX9_putByte cX9_putByte 4 (some .boolean) 3 := ⟨(mj_in4 84 rfl rfl), (mj_in1 9 rfl rfl), by decide, by decide, by decide⟩
set_option maxRecDepth 20000 in
theorem lV_X9_putByte : mj_lkV yX9_putByte cX9_putByte 4 (some .boolean) 3 := ⟨lk_X9_putByte, (mj_in4 82 rfl rfl), (mj_in4 83 rfl rfl)⟩
set_option maxRecDepth 20000 in
theorem lk_X9_takeOff : mj_lk yX9_takeOff cX9_takeOff 3 (some .boolean) 1 := ⟨(mj_in3 206 rfl rfl), (mj_in1 9 rfl rfl), by decide, by decide, by decide⟩
set_option maxRecDepth 20000 in
theorem lV_X9_takeOff : mj_lkV yX9_takeOff cX9_takeOff 3 (some .boolean) 1 := ⟨lk_X9_takeOff, (mj_in3 204 rfl rfl), (mj_in3 205 rfl rfl)⟩
set_option maxRecDepth 20000 in
theorem lk_X9_doom : mj_lk yX9_doom cX9_doom 3 (some .int) 1 := ⟨(mj_in6 89 rfl rfl), (mj_in1 9 rfl rfl), by decide, by decide, by decide⟩
set_option maxRecDepth 20000 in
theorem lV_X9_doom : mj_lkV yX9_doom cX9_doom 3 (some .int) 1 := ⟨lk_X9_doom, (mj_in6 87 rfl rfl), (mj_in6 88 rfl rfl)⟩
set_option maxRecDepth 20000 in
theorem lk_X9_meetsFate : mj_lk yX9_meetsFate cX9_meetsFate 2 (some .boolean) 0 := ⟨(mj_in3 223 rfl rfl), (mj_in1 9 rfl rfl), by decide, by decide, by decide⟩
set_option maxRecDepth 20000 in
theorem lV_X9_meetsFate : mj_lkV yX9_meetsFate cX9_meetsFate 2 (some .boolean) 0 := ⟨lk_X9_meetsFate, (mj_in3 222 rfl rfl), (mj_inP 6 rfl)⟩
set_option maxRecDepth 20000 in
theorem lk_X9_goes : mj_lk yX9_goes cX9_goes 6 none 2 := ⟨(mj_in3 219 rfl rfl), (mj_in1 9 rfl rfl), by decide, by decide, by decide⟩
set_option maxRecDepth 20000 in
theorem lV_X9_goes : mj_lkV yX9_goes cX9_goes 6 none 2 := ⟨lk_X9_goes, (mj_in3 217 rfl rfl), (mj_in3 218 rfl rfl)⟩
set_option maxRecDepth 20000 in
theorem lk_X9_put : mj_lk yX9_put cX9_put 7 none 2 := ⟨(mj_in3 233 rfl rfl), (mj_in1 9 rfl rfl), by decide, by decide, by decide⟩
set_option maxRecDepth 20000 in
theorem lV_X9_put : mj_lkV yX9_put cX9_put 7 none 2 := ⟨lk_X9_put, (mj_in3 232 rfl rfl), (mj_inP 7 rfl)⟩
set_option maxRecDepth 20000 in
theorem lk_X9_copyFrom : mj_lk yX9_copyFrom cX9_copyFrom 2 none 1 := ⟨(mj_in6 140 rfl rfl), (mj_in1 9 rfl rfl), by decide, by decide, by decide⟩
set_option maxRecDepth 20000 in
theorem lV_X9_copyFrom : mj_lkV yX9_copyFrom cX9_copyFrom 2 none 1 := ⟨lk_X9_copyFrom, (mj_in6 138 rfl rfl), (mj_in6 139 rfl rfl)⟩
set_option maxRecDepth 20000 in
theorem lk_X10_init : mj_lk yX10_init cX10_init 1 none 0 := ⟨(mj_in1 28 rfl rfl), (mj_in1 1 rfl rfl), by decide, by decide, by decide⟩
set_option maxRecDepth 20000 in
theorem lk_X10_state : mj_lk yX10_state cX10_state 3 (some .int) 1 := ⟨(mj_in3 15 rfl rfl), (mj_in1 1 rfl rfl), by decide, by decide, by decide⟩
set_option maxRecDepth 20000 in
theorem lV_X10_state : mj_lkV yX10_state cX10_state 3 (some .int) 1 := ⟨lk_X10_state, (mj_in3 13 rfl rfl), (mj_in3 14 rfl rfl)⟩
set_option maxRecDepth 20000 in
theorem lk_X10_set : mj_lk yX10_set cX10_set 3 (some .boolean) 2 := ⟨(mj_in3 19 rfl rfl), (mj_in1 1 rfl rfl), by decide, by decide, by decide⟩
set_option maxRecDepth 20000 in
theorem lV_X10_set : mj_lkV yX10_set cX10_set 3 (some .boolean) 2 := ⟨lk_X10_set, (mj_in3 17 rfl rfl), (mj_in3 18 rfl rfl)⟩
set_option maxRecDepth 20000 in
theorem lk_X10_send : mj_lk yX10_send cX10_send 2 (some .int) 1 := ⟨(mj_in3 34 rfl rfl), (mj_in1 1 rfl rfl), by decide, by decide, by decide⟩
set_option maxRecDepth 20000 in
theorem lV_X10_send : mj_lkV yX10_send cX10_send 2 (some .int) 1 := ⟨lk_X10_send, (mj_in3 32 rfl rfl), (mj_in3 33 rfl rfl)⟩
set_option maxRecDepth 20000 in
theorem lk_X10_past : mj_lk yX10_past cX10_past 2 (some .int) 1 := ⟨(mj_in3 54 rfl rfl), (mj_in1 1 rfl rfl), by decide, by decide, by decide⟩
set_option maxRecDepth 20000 in
theorem lV_X10_past : mj_lkV yX10_past cX10_past 2 (some .int) 1 := ⟨lk_X10_past, (mj_in3 52 rfl rfl), (mj_in3 53 rfl rfl)⟩
set_option maxRecDepth 20000 in
theorem lk_X10_start : mj_lk yX10_start cX10_start 3 (some .boolean) 2 := ⟨(mj_in3 62 rfl rfl), (mj_in1 1 rfl rfl), by decide, by decide, by decide⟩
set_option maxRecDepth 20000 in
theorem lV_X10_start : mj_lkV yX10_start cX10_start 3 (some .boolean) 2 := ⟨lk_X10_start, (mj_in3 60 rfl rfl), (mj_in3 61 rfl rfl)⟩
set_option maxRecDepth 20000 in
theorem lk_X10_direct : mj_lk yX10_direct cX10_direct 2 (some .boolean) 1 := ⟨(mj_in3 82 rfl rfl), (mj_in1 1 rfl rfl), by decide, by decide, by decide⟩
set_option maxRecDepth 20000 in
theorem lV_X10_direct : mj_lkV yX10_direct cX10_direct 2 (some .boolean) 1 := ⟨lk_X10_direct, (mj_in3 80 rfl rfl), (mj_in3 81 rfl rfl)⟩
set_option maxRecDepth 20000 in
theorem lk_X10_renumber : mj_lk yX10_renumber cX10_renumber 2 (some .boolean) 1 := ⟨(mj_in3 110 rfl rfl), (mj_in1 1 rfl rfl), by decide, by decide, by decide⟩
set_option maxRecDepth 20000 in
theorem lV_X10_renumber : mj_lkV yX10_renumber cX10_renumber 2 (some .boolean) 1 := ⟨lk_X10_renumber, (mj_in3 108 rfl rfl), (mj_in3 109 rfl rfl)⟩
set_option maxRecDepth 20000 in
theorem lk_X10_take : mj_lk yX10_take cX10_take 1 (some .int) 0 := ⟨(mj_in3 118 rfl rfl), (mj_in1 1 rfl rfl), by decide, by decide, by decide⟩
set_option maxRecDepth 20000 in
theorem lV_X10_take : mj_lkV yX10_take cX10_take 1 (some .int) 0 := ⟨lk_X10_take, (mj_in3 116 rfl rfl), (mj_in3 117 rfl rfl)⟩
set_option maxRecDepth 20000 in
theorem lk_X10_tick : mj_lk yX10_tick cX10_tick 2 (some .int) 1 := ⟨(mj_in3 133 rfl rfl), (mj_in1 1 rfl rfl), by decide, by decide, by decide⟩
set_option maxRecDepth 20000 in
theorem lV_X10_tick : mj_lkV yX10_tick cX10_tick 2 (some .int) 1 := ⟨lk_X10_tick, (mj_in3 131 rfl rfl), (mj_in3 132 rfl rfl)⟩
set_option maxRecDepth 20000 in
theorem lk_X10_drop : mj_lk yX10_drop cX10_drop 3 (some .boolean) 2 := ⟨(mj_in4 71 rfl rfl), (mj_in1 1 rfl rfl), by decide, by decide, by decide⟩
set_option maxRecDepth 20000 in
theorem lV_X10_drop : mj_lkV yX10_drop cX10_drop 3 (some .boolean) 2 := ⟨lk_X10_drop, (mj_in4 69 rfl rfl), (mj_in4 70 rfl rfl)⟩
set_option maxRecDepth 20000 in
theorem lk_X10_spoil : mj_lk yX10_spoil cX10_spoil 5 (some .boolean) 4 := ⟨(mj_in4 80 rfl rfl), (mj_in1 1 rfl rfl), by decide, by decide, by decide⟩
set_option maxRecDepth 20000 in
theorem lV_X10_spoil : mj_lkV yX10_spoil cX10_spoil 5 (some .boolean) 4 := ⟨lk_X10_spoil, (mj_in4 78 rfl rfl), (mj_in4 79 rfl rfl)⟩
set_option maxRecDepth 20000 in
theorem lk_X10_feed : mj_lk yX10_feed cX10_feed 6 (some .int) 5 := ⟨(mj_in4 89 rfl rfl), (mj_in1 1 rfl rfl), by decide, by decide, by decide⟩
set_option maxRecDepth 20000 in
theorem lV_X10_feed : mj_lkV yX10_feed cX10_feed 6 (some .int) 5 := ⟨lk_X10_feed, (mj_in4 87 rfl rfl), (mj_in4 88 rfl rfl)⟩
set_option maxRecDepth 20000 in
theorem lk_X10_end : mj_lk yX10_end cX10_end 2 (some .boolean) 1 := ⟨(mj_in4 101 rfl rfl), (mj_in1 1 rfl rfl), by decide, by decide, by decide⟩
set_option maxRecDepth 20000 in
theorem lV_X10_end : mj_lkV yX10_end cX10_end 2 (some .boolean) 1 := ⟨lk_X10_end, (mj_in4 99 rfl rfl), (mj_in4 100 rfl rfl)⟩
set_option maxRecDepth 20000 in
theorem lk_X10_plan : mj_lk yX10_plan cX10_plan 1 (some .int) 0 := ⟨(mj_in4 105 rfl rfl), (mj_in1 1 rfl rfl), by decide, by decide, by decide⟩
set_option maxRecDepth 20000 in
theorem lV_X10_plan : mj_lkV yX10_plan cX10_plan 1 (some .int) 0 := ⟨lk_X10_plan, (mj_in4 103 rfl rfl), (mj_in4 104 rfl rfl)⟩
set_option maxRecDepth 20000 in
theorem lk_X10_fault : mj_lk yX10_fault cX10_fault 2 (some .int) 1 := ⟨(mj_in4 230 rfl rfl), (mj_in1 1 rfl rfl), by decide, by decide, by decide⟩
set_option maxRecDepth 20000 in
theorem lV_X10_fault : mj_lkV yX10_fault cX10_fault 2 (some .int) 1 := ⟨lk_X10_fault, (mj_in4 228 rfl rfl), (mj_in4 229 rfl rfl)⟩
set_option maxRecDepth 20000 in
theorem lk_X10_run : mj_lk yX10_run cX10_run 4 (some .int) 1 := ⟨(mj_in4 234 rfl rfl), (mj_in1 1 rfl rfl), by decide, by decide, by decide⟩
set_option maxRecDepth 20000 in
theorem lV_X10_run : mj_lkV yX10_run cX10_run 4 (some .int) 1 := ⟨lk_X10_run, (mj_in4 232 rfl rfl), (mj_in4 233 rfl rfl)⟩
set_option maxRecDepth 20000 in
theorem lk_X10_sender : mj_lk yX10_sender cX10_sender 3 (some .int) 1 := ⟨(mj_in5 10 rfl rfl), (mj_in1 1 rfl rfl), by decide, by decide, by decide⟩
set_option maxRecDepth 20000 in
theorem lV_X10_sender : mj_lkV yX10_sender cX10_sender 3 (some .int) 1 := ⟨lk_X10_sender, (mj_in5 8 rfl rfl), (mj_in5 9 rfl rfl)⟩
set_option maxRecDepth 20000 in
theorem lk_X10_sentFrame : mj_lk yX10_sentFrame cX10_sentFrame 2 (some .int) 2 := ⟨(mj_in5 21 rfl rfl), (mj_in1 1 rfl rfl), by decide, by decide, by decide⟩
set_option maxRecDepth 20000 in
theorem lS_X10_sentFrame : mj_lkS yX10_sentFrame cX10_sentFrame 2 (some .int) 2 := ⟨lk_X10_sentFrame, (mj_in5 20 rfl rfl)⟩
set_option maxRecDepth 20000 in
theorem lk_X10_receiver : mj_lk yX10_receiver cX10_receiver 3 (some .int) 1 := ⟨(mj_in5 25 rfl rfl), (mj_in1 1 rfl rfl), by decide, by decide, by decide⟩
set_option maxRecDepth 20000 in
theorem lV_X10_receiver : mj_lkV yX10_receiver cX10_receiver 3 (some .int) 1 := ⟨lk_X10_receiver, (mj_in5 23 rfl rfl), (mj_in5 24 rfl rfl)⟩
set_option maxRecDepth 20000 in
theorem lk_X10_commandKept : mj_lk yX10_commandKept cX10_commandKept 4 (some .int) 2 := ⟨(mj_in5 28 rfl rfl), (mj_in1 1 rfl rfl), by decide, by decide, by decide⟩
set_option maxRecDepth 20000 in
theorem lS_X10_commandKept : mj_lkS yX10_commandKept cX10_commandKept 4 (some .int) 2 := ⟨lk_X10_commandKept, (mj_in5 27 rfl rfl)⟩
set_option maxRecDepth 20000 in
theorem lk_X10_way : mj_lk yX10_way cX10_way 5 (some .int) 3 := ⟨(mj_in5 33 rfl rfl), (mj_in1 1 rfl rfl), by decide, by decide, by decide⟩
set_option maxRecDepth 20000 in
theorem lV_X10_way : mj_lkV yX10_way cX10_way 5 (some .int) 3 := ⟨lk_X10_way, (mj_in5 31 rfl rfl), (mj_in5 32 rfl rfl)⟩
set_option maxRecDepth 20000 in
theorem lk_X10_alarm : mj_lk yX10_alarm cX10_alarm 2 (some .int) 1 := ⟨(mj_in5 42 rfl rfl), (mj_in1 1 rfl rfl), by decide, by decide, by decide⟩
set_option maxRecDepth 20000 in
theorem lV_X10_alarm : mj_lkV yX10_alarm cX10_alarm 2 (some .int) 1 := ⟨lk_X10_alarm, (mj_in5 40 rfl rfl), (mj_in5 41 rfl rfl)⟩
set_option maxRecDepth 20000 in
theorem lk_X10_told : mj_lk yX10_told cX10_told 3 (some .int) 2 := ⟨(mj_in5 50 rfl rfl), (mj_in1 1 rfl rfl), by decide, by decide, by decide⟩
set_option maxRecDepth 20000 in
theorem lV_X10_told : mj_lkV yX10_told cX10_told 3 (some .int) 2 := ⟨lk_X10_told, (mj_in5 48 rfl rfl), (mj_in5 49 rfl rfl)⟩
set_option maxRecDepth 20000 in
theorem lk_X10_judge : mj_lk yX10_judge cX10_judge 7 (some .int) 5 := ⟨(mj_in6 24 rfl rfl), (mj_in1 1 rfl rfl), by decide, by decide, by decide⟩
set_option maxRecDepth 20000 in
theorem lV_X10_judge : mj_lkV yX10_judge cX10_judge 7 (some .int) 5 := ⟨lk_X10_judge, (mj_in6 22 rfl rfl), (mj_in6 23 rfl rfl)⟩
set_option maxRecDepth 20000 in
theorem lk_X10_verdicts : mj_lk yX10_verdicts cX10_verdicts 2 (some .int) 1 := ⟨(mj_in6 29 rfl rfl), (mj_in1 1 rfl rfl), by decide, by decide, by decide⟩
set_option maxRecDepth 20000 in
theorem lV_X10_verdicts : mj_lkV yX10_verdicts cX10_verdicts 2 (some .int) 1 := ⟨lk_X10_verdicts, (mj_in6 27 rfl rfl), (mj_in6 28 rfl rfl)⟩
set_option maxRecDepth 20000 in
theorem lk_X10_diary : mj_lk yX10_diary cX10_diary 3 (some .int) 2 := ⟨(mj_in6 33 rfl rfl), (mj_in1 1 rfl rfl), by decide, by decide, by decide⟩
set_option maxRecDepth 20000 in
theorem lV_X10_diary : mj_lkV yX10_diary cX10_diary 3 (some .int) 2 := ⟨lk_X10_diary, (mj_in6 31 rfl rfl), (mj_in6 32 rfl rfl)⟩
set_option maxRecDepth 20000 in
theorem lk_X10_ledger : mj_lk yX10_ledger cX10_ledger 3 (some .int) 2 := ⟨(mj_in6 41 rfl rfl), (mj_in1 1 rfl rfl), by decide, by decide, by decide⟩
set_option maxRecDepth 20000 in
theorem lV_X10_ledger : mj_lkV yX10_ledger cX10_ledger 3 (some .int) 2 := ⟨lk_X10_ledger, (mj_in6 39 rfl rfl), (mj_in6 40 rfl rfl)⟩
set_option maxRecDepth 20000 in
theorem lk_X10_delays : mj_lk yX10_delays cX10_delays 3 (some .int) 1 := ⟨(mj_in6 49 rfl rfl), (mj_in1 1 rfl rfl), by decide, by decide, by decide⟩
set_option maxRecDepth 20000 in
theorem lV_X10_delays : mj_lkV yX10_delays cX10_delays 3 (some .int) 1 := ⟨lk_X10_delays, (mj_in6 47 rfl rfl), (mj_in6 48 rfl rfl)⟩
set_option maxRecDepth 20000 in
theorem lk_X10_zone : mj_lk yX10_zone cX10_zone 2 (some .int) 1 := ⟨(mj_in6 79 rfl rfl), (mj_in1 1 rfl rfl), by decide, by decide, by decide⟩
set_option maxRecDepth 20000 in
theorem lV_X10_zone : mj_lkV yX10_zone cX10_zone 2 (some .int) 1 := ⟨lk_X10_zone, (mj_in6 77 rfl rfl), (mj_in6 78 rfl rfl)⟩
set_option maxRecDepth 20000 in
theorem lk_X10_fate : mj_lk yX10_fate cX10_fate 3 (some .int) 2 := ⟨(mj_in6 85 rfl rfl), (mj_in1 1 rfl rfl), by decide, by decide, by decide⟩
set_option maxRecDepth 20000 in
theorem lV_X10_fate : mj_lkV yX10_fate cX10_fate 3 (some .int) 2 := ⟨lk_X10_fate, (mj_in6 83 rfl rfl), (mj_in6 84 rfl rfl)⟩
set_option maxRecDepth 20000 in
theorem lk_X10_truth : mj_lk yX10_truth cX10_truth 4 (some .int) 1 := ⟨(mj_in6 93 rfl rfl), (mj_in1 1 rfl rfl), by decide, by decide, by decide⟩
set_option maxRecDepth 20000 in
theorem lV_X10_truth : mj_lkV yX10_truth cX10_truth 4 (some .int) 1 := ⟨lk_X10_truth, (mj_in6 91 rfl rfl), (mj_in6 92 rfl rfl)⟩
set_option maxRecDepth 20000 in
theorem lk_X10_soon : mj_lk yX10_soon cX10_soon 2 (some .int) 0 := ⟨(mj_in6 103 rfl rfl), (mj_in1 1 rfl rfl), by decide, by decide, by decide⟩
set_option maxRecDepth 20000 in
theorem lV_X10_soon : mj_lkV yX10_soon cX10_soon 2 (some .int) 0 := ⟨lk_X10_soon, (mj_in6 101 rfl rfl), (mj_in6 102 rfl rfl)⟩
set_option maxRecDepth 20000 in
theorem lk_X10_ways : mj_lk yX10_ways cX10_ways 3 (some .int) 0 := ⟨(mj_in6 153 rfl rfl), (mj_in1 1 rfl rfl), by decide, by decide, by decide⟩
set_option maxRecDepth 20000 in
theorem lV_X10_ways : mj_lkV yX10_ways cX10_ways 3 (some .int) 0 := ⟨lk_X10_ways, (mj_in6 151 rfl rfl), (mj_in6 152 rfl rfl)⟩
set_option maxRecDepth 20000 in
theorem lk_X10_leadsOut : mj_lk yX10_leadsOut cX10_leadsOut 2 (some .boolean) 1 := ⟨(mj_in6 157 rfl rfl), (mj_in1 1 rfl rfl), by decide, by decide, by decide⟩
set_option maxRecDepth 20000 in
theorem lV_X10_leadsOut : mj_lkV yX10_leadsOut cX10_leadsOut 2 (some .boolean) 1 := ⟨lk_X10_leadsOut, (mj_in6 156 rfl rfl), (mj_inP 23 rfl)⟩
set_option maxRecDepth 20000 in
theorem lk_X10_image : mj_lk yX10_image cX10_image 2 (some .boolean) 1 := ⟨(mj_in6 169 rfl rfl), (mj_in1 1 rfl rfl), by decide, by decide, by decide⟩
set_option maxRecDepth 20000 in
theorem lV_X10_image : mj_lkV yX10_image cX10_image 2 (some .boolean) 1 := ⟨lk_X10_image, (mj_in6 167 rfl rfl), (mj_in6 168 rfl rfl)⟩
set_option maxRecDepth 20000 in
theorem lk_X10_look : mj_lk yX10_look cX10_look 2 (some .int) 1 := ⟨(mj_in6 173 rfl rfl), (mj_in1 1 rfl rfl), by decide, by decide, by decide⟩
set_option maxRecDepth 20000 in
theorem lV_X10_look : mj_lkV yX10_look cX10_look 2 (some .int) 1 := ⟨lk_X10_look, (mj_in6 171 rfl rfl), (mj_in6 172 rfl rfl)⟩
set_option maxRecDepth 20000 in
theorem lk_X10_far : mj_lk yX10_far cX10_far 2 (some .int) 2 := ⟨(mj_in3 181 rfl rfl), (mj_in1 1 rfl rfl), by decide, by decide, by decide⟩
set_option maxRecDepth 20000 in
theorem lS_X10_far : mj_lkS yX10_far cX10_far 2 (some .int) 2 := ⟨lk_X10_far, (mj_in3 180 rfl rfl)⟩
set_option maxRecDepth 20000 in
theorem lk_X10_isWithin : mj_lk yX10_isWithin cX10_isWithin 3 (some .boolean) 3 := ⟨(mj_in3 30 rfl rfl), (mj_in1 1 rfl rfl), by decide, by decide, by decide⟩
set_option maxRecDepth 20000 in
theorem lS_X10_isWithin : mj_lkS yX10_isWithin cX10_isWithin 3 (some .boolean) 3 := ⟨lk_X10_isWithin, (mj_in3 29 rfl rfl)⟩
set_option maxRecDepth 20000 in
theorem lk_X10_isNumber : mj_lk yX10_isNumber cX10_isNumber 1 (some .boolean) 1 := ⟨(mj_in3 70 rfl rfl), (mj_in1 1 rfl rfl), by decide, by decide, by decide⟩
set_option maxRecDepth 20000 in
theorem lS_X10_isNumber : mj_lkS yX10_isNumber cX10_isNumber 1 (some .boolean) 1 := ⟨lk_X10_isNumber, (mj_in3 69 rfl rfl)⟩
set_option maxRecDepth 20000 in
theorem lk_X10_isCommand : mj_lk yX10_isCommand cX10_isCommand 1 (some .boolean) 1 := ⟨(mj_in3 41 rfl rfl), (mj_in1 1 rfl rfl), by decide, by decide, by decide⟩
set_option maxRecDepth 20000 in
theorem lS_X10_isCommand : mj_lkS yX10_isCommand cX10_isCommand 1 (some .boolean) 1 := ⟨lk_X10_isCommand, (mj_in3 40 rfl rfl)⟩
set_option maxRecDepth 20000 in
theorem lk_X10_machineWord : mj_lk yX10_machineWord cX10_machineWord 1 (some (.object "java/lang/String")) 1 := ⟨(mj_in5 184 rfl rfl), (mj_in1 1 rfl rfl), by decide, by decide, by decide⟩
set_option maxRecDepth 20000 in
theorem lS_X10_machineWord : mj_lkS yX10_machineWord cX10_machineWord 1 (some (.object "java/lang/String")) 1 := ⟨lk_X10_machineWord, (mj_in5 183 rfl rfl)⟩
set_option maxRecDepth 20000 in
theorem lk_X10_alarmWord : mj_lk yX10_alarmWord cX10_alarmWord 1 (some (.object "java/lang/String")) 1 := ⟨(mj_in5 235 rfl rfl), (mj_in1 1 rfl rfl), by decide, by decide, by decide⟩
set_option maxRecDepth 20000 in
theorem lS_X10_alarmWord : mj_lkS yX10_alarmWord cX10_alarmWord 1 (some (.object "java/lang/String")) 1 := ⟨lk_X10_alarmWord, (mj_in5 234 rfl rfl)⟩
set_option maxRecDepth 20000 in
theorem lk_X11_init : mj_lk yX11_init cX11_init 1 none 0 := ⟨(mj_in6 179 rfl rfl), (mj_in1 16 rfl rfl), by decide, by decide, by decide⟩
set_option maxRecDepth 20000 in
theorem lk_X11_isIn : mj_lk yX11_isIn cX11_isIn 4 (some .boolean) 3 := ⟨(mj_in7 22 rfl rfl), (mj_in1 16 rfl rfl), by decide, by decide, by decide⟩
set_option maxRecDepth 20000 in
theorem lV_X11_isIn : mj_lkV yX11_isIn cX11_isIn 4 (some .boolean) 3 := ⟨lk_X11_isIn, (mj_in7 21 rfl rfl), (mj_inP 25 rfl)⟩
set_option maxRecDepth 20000 in
theorem lk_X11_round : mj_lk yX11_round cX11_round 2 (some .int) 1 := ⟨(mj_in7 210 rfl rfl), (mj_in1 16 rfl rfl), by decide, by decide, by decide⟩
set_option maxRecDepth 20000 in
theorem lV_X11_round : mj_lkV yX11_round cX11_round 2 (some .int) 1 := ⟨lk_X11_round, (mj_in7 209 rfl rfl), (mj_inP 58 rfl)⟩
set_option maxRecDepth 20000 in
theorem lk_X11_more : mj_lk yX11_more cX11_more 2 none 1 := ⟨(mj_in7 78 rfl rfl), (mj_in1 16 rfl rfl), by decide, by decide, by decide⟩
set_option maxRecDepth 20000 in
theorem lV_X11_more : mj_lkV yX11_more cX11_more 2 none 1 := ⟨lk_X11_more, (mj_in7 77 rfl rfl), (mj_inP 35 rfl)⟩
set_option maxRecDepth 20000 in
theorem lk_X11_firstOf : mj_lk yX11_firstOf cX11_firstOf 2 (some .int) 1 := ⟨(mj_in7 26 rfl rfl), (mj_in1 16 rfl rfl), by decide, by decide, by decide⟩
set_option maxRecDepth 20000 in
theorem lV_X11_firstOf : mj_lkV yX11_firstOf cX11_firstOf 2 (some .int) 1 := ⟨lk_X11_firstOf, (mj_in7 25 rfl rfl), (mj_inP 26 rfl)⟩
set_option maxRecDepth 20000 in
theorem lk_X11_settingOf : mj_lk yX11_settingOf cX11_settingOf 2 (some .int) 1 := ⟨(mj_in7 110 rfl rfl), (mj_in1 16 rfl rfl), by decide, by decide, by decide⟩
set_option maxRecDepth 20000 in
theorem lV_X11_settingOf : mj_lkV yX11_settingOf cX11_settingOf 2 (some .int) 1 := ⟨lk_X11_settingOf, (mj_in7 109 rfl rfl), (mj_inP 41 rfl)⟩
set_option maxRecDepth 20000 in
theorem lk_X11_canSet : mj_lk yX11_canSet cX11_canSet 3 (some .boolean) 2 := ⟨(mj_in7 18 rfl rfl), (mj_in1 16 rfl rfl), by decide, by decide, by decide⟩
set_option maxRecDepth 20000 in
theorem lV_X11_canSet : mj_lkV yX11_canSet cX11_canSet 3 (some .boolean) 2 := ⟨lk_X11_canSet, (mj_in7 17 rfl rfl), (mj_inP 24 rfl)⟩
set_option maxRecDepth 20000 in
theorem lk_X11_set : mj_lk yX11_set cX11_set 3 (some .boolean) 2 := ⟨(mj_in7 14 rfl rfl), (mj_in1 16 rfl rfl), by decide, by decide, by decide⟩
set_option maxRecDepth 20000 in
theorem lV_X11_set : mj_lkV yX11_set cX11_set 3 (some .boolean) 2 := ⟨lk_X11_set, (mj_in7 12 rfl rfl), (mj_in7 13 rfl rfl)⟩
set_option maxRecDepth 20000 in
theorem lk_X11_state : mj_lk yX11_state cX11_state 3 (some .int) 1 := ⟨(mj_in7 30 rfl rfl), (mj_in1 16 rfl rfl), by decide, by decide, by decide⟩
set_option maxRecDepth 20000 in
theorem lV_X11_state : mj_lkV yX11_state cX11_state 3 (some .int) 1 := ⟨lk_X11_state, (mj_in7 28 rfl rfl), (mj_in7 29 rfl rfl)⟩
set_option maxRecDepth 20000 in
theorem lk_X11_draw : mj_lk yX11_draw cX11_draw 2 (some .int) 1 := ⟨(mj_in8 46 rfl rfl), (mj_in1 16 rfl rfl), by decide, by decide, by decide⟩
set_option maxRecDepth 20000 in
theorem lV_X11_draw : mj_lkV yX11_draw cX11_draw 2 (some .int) 1 := ⟨lk_X11_draw, (mj_in8 45 rfl rfl), (mj_inP 74 rfl)⟩
set_option maxRecDepth 20000 in
theorem lk_X11_takesFirst : mj_lk yX11_takesFirst cX11_takesFirst 5 (some .int) 2 := ⟨(mj_in7 198 rfl rfl), (mj_in1 16 rfl rfl), by decide, by decide, by decide⟩
set_option maxRecDepth 20000 in
theorem lV_X11_takesFirst : mj_lkV yX11_takesFirst cX11_takesFirst 5 (some .int) 2 := ⟨lk_X11_takesFirst, (mj_in7 197 rfl rfl), (mj_inP 56 rfl)⟩
set_option maxRecDepth 20000 in
theorem lk_X11_puts : mj_lk yX11_puts cX11_puts 4 none 3 := ⟨(mj_in7 74 rfl rfl), (mj_in1 16 rfl rfl), by decide, by decide, by decide⟩
set_option maxRecDepth 20000 in
theorem lV_X11_puts : mj_lkV yX11_puts cX11_puts 4 none 3 := ⟨lk_X11_puts, (mj_in7 73 rfl rfl), (mj_inP 34 rfl)⟩
set_option maxRecDepth 20000 in
theorem lk_X11_ledgerAt : mj_lk yX11_ledgerAt cX11_ledgerAt 2 (some .int) 1 := ⟨(mj_in7 42 rfl rfl), (mj_in1 16 rfl rfl), by decide, by decide, by decide⟩
set_option maxRecDepth 20000 in
theorem lV_X11_ledgerAt : mj_lkV yX11_ledgerAt cX11_ledgerAt 2 (some .int) 1 := ⟨lk_X11_ledgerAt, (mj_in7 41 rfl rfl), (mj_inP 28 rfl)⟩
set_option maxRecDepth 20000 in
theorem lk_X11_ledgerMany : mj_lk yX11_ledgerMany cX11_ledgerMany 1 (some .int) 0 := ⟨(mj_in7 38 rfl rfl), (mj_in1 16 rfl rfl), by decide, by decide, by decide⟩
set_option maxRecDepth 20000 in
theorem lV_X11_ledgerMany : mj_lkV yX11_ledgerMany cX11_ledgerMany 1 (some .int) 0 := ⟨lk_X11_ledgerMany, (mj_in7 37 rfl rfl), (mj_inP 27 rfl)⟩
set_option maxRecDepth 20000 in
theorem lk_X11_firstSent : mj_lk yX11_firstSent cX11_firstSent 1 (some .int) 0 := ⟨(mj_in7 98 rfl rfl), (mj_in1 16 rfl rfl), by decide, by decide, by decide⟩
set_option maxRecDepth 20000 in
theorem lV_X11_firstSent : mj_lkV yX11_firstSent cX11_firstSent 1 (some .int) 0 := ⟨lk_X11_firstSent, (mj_in7 97 rfl rfl), (mj_inP 38 rfl)⟩
set_option maxRecDepth 20000 in
theorem lk_X11_stands : mj_lk yX11_stands cX11_stands 3 none 2 := ⟨(mj_in7 102 rfl rfl), (mj_in1 16 rfl rfl), by decide, by decide, by decide⟩
set_option maxRecDepth 20000 in
theorem lV_X11_stands : mj_lkV yX11_stands cX11_stands 3 none 2 := ⟨lk_X11_stands, (mj_in7 101 rfl rfl), (mj_inP 39 rfl)⟩
set_option maxRecDepth 20000 in
theorem lk_X11_isLedgered : mj_lk yX11_isLedgered cX11_isLedgered 4 none 1 := ⟨(mj_in7 82 rfl rfl), (mj_in1 16 rfl rfl), by decide, by decide, by decide⟩
set_option maxRecDepth 20000 in
theorem lV_X11_isLedgered : mj_lkV yX11_isLedgered cX11_isLedgered 4 none 1 := ⟨lk_X11_isLedgered, (mj_in7 81 rfl rfl), (mj_inP 36 rfl)⟩
set_option maxRecDepth 20000 in
theorem lk_X11_goesOf : mj_lk yX11_goesOf cX11_goesOf 3 none 1 := ⟨(mj_in8 112 rfl rfl), (mj_in1 16 rfl rfl), by decide, by decide, by decide⟩
set_option maxRecDepth 20000 in
theorem lV_X11_goesOf : mj_lkV yX11_goesOf cX11_goesOf 3 none 1 := ⟨lk_X11_goesOf, (mj_in8 111 rfl rfl), (mj_inP 90 rfl)⟩
set_option maxRecDepth 20000 in
theorem lk_X11_takenOf : mj_lk yX11_takenOf cX11_takenOf 3 none 1 := ⟨(mj_in8 22 rfl rfl), (mj_in1 16 rfl rfl), by decide, by decide, by decide⟩
set_option maxRecDepth 20000 in
theorem lV_X11_takenOf : mj_lkV yX11_takenOf cX11_takenOf 3 none 1 := ⟨lk_X11_takenOf, (mj_in8 21 rfl rfl), (mj_inP 68 rfl)⟩
set_option maxRecDepth 20000 in
theorem lk_X11_empties : mj_lk yX11_empties cX11_empties 2 none 0 := ⟨(mj_in7 94 rfl rfl), (mj_in1 16 rfl rfl), by decide, by decide, by decide⟩
set_option maxRecDepth 20000 in
theorem lV_X11_empties : mj_lkV yX11_empties cX11_empties 2 none 0 := ⟨lk_X11_empties, (mj_in7 93 rfl rfl), (mj_inP 37 rfl)⟩
set_option maxRecDepth 20000 in
theorem lk_X11_ledger : mj_lk yX11_ledger cX11_ledger 4 (some .int) 2 := ⟨(mj_in7 34 rfl rfl), (mj_in1 16 rfl rfl), by decide, by decide, by decide⟩
set_option maxRecDepth 20000 in
theorem lV_X11_ledger : mj_lkV yX11_ledger cX11_ledger 4 (some .int) 2 := ⟨lk_X11_ledger, (mj_in7 32 rfl rfl), (mj_in7 33 rfl rfl)⟩
set_option maxRecDepth 20000 in
theorem lk_X11_ledgerOf : mj_lk yX11_ledgerOf cX11_ledgerOf 3 (some .int) 2 := ⟨(mj_in7 54 rfl rfl), (mj_in1 16 rfl rfl), by decide, by decide, by decide⟩
set_option maxRecDepth 20000 in
theorem lV_X11_ledgerOf : mj_lkV yX11_ledgerOf cX11_ledgerOf 3 (some .int) 2 := ⟨lk_X11_ledgerOf, (mj_in7 53 rfl rfl), (mj_inP 30 rfl)⟩
set_option maxRecDepth 20000 in
theorem lk_X11_isBehindLater : mj_lk yX11_isBehindLater cX11_isBehindLater 3 (some .boolean) 1 := ⟨(mj_in7 58 rfl rfl), (mj_in1 16 rfl rfl), by decide, by decide, by decide⟩
set_option maxRecDepth 20000 in
theorem lV_X11_isBehindLater : mj_lkV yX11_isBehindLater cX11_isBehindLater 3 (some .boolean) 1 := ⟨lk_X11_isBehindLater, (mj_in7 57 rfl rfl), (mj_inP 31 rfl)⟩
set_option maxRecDepth 20000 in
theorem lk_X11_isDelayed : mj_lk yX11_isDelayed cX11_isDelayed 4 (some .boolean) 2 := ⟨(mj_in7 50 rfl rfl), (mj_in1 16 rfl rfl), by decide, by decide, by decide⟩
set_option maxRecDepth 20000 in
theorem lV_X11_isDelayed : mj_lkV yX11_isDelayed cX11_isDelayed 4 (some .boolean) 2 := ⟨lk_X11_isDelayed, (mj_in7 49 rfl rfl), (mj_inP 29 rfl)⟩
set_option maxRecDepth 20000 in
theorem lk_X11_delays : mj_lk yX11_delays cX11_delays 7 (some .int) 1 := ⟨(mj_in7 46 rfl rfl), (mj_in1 16 rfl rfl), by decide, by decide, by decide⟩
set_option maxRecDepth 20000 in
theorem lV_X11_delays : mj_lkV yX11_delays cX11_delays 7 (some .int) 1 := ⟨lk_X11_delays, (mj_in7 44 rfl rfl), (mj_in7 45 rfl rfl)⟩
set_option maxRecDepth 20000 in
theorem lk_X11_machine : mj_lk yX11_machine cX11_machine 1 (some .int) 0 := ⟨(mj_in7 70 rfl rfl), (mj_in1 16 rfl rfl), by decide, by decide, by decide⟩
set_option maxRecDepth 20000 in
theorem lV_X11_machine : mj_lkV yX11_machine cX11_machine 1 (some .int) 0 := ⟨lk_X11_machine, (mj_in7 69 rfl rfl), (mj_inP 33 rfl)⟩
set_option maxRecDepth 20000 in
theorem lk_X11_isMoving : mj_lk yX11_isMoving cX11_isMoving 1 (some .boolean) 0 := ⟨(mj_in7 66 rfl rfl), (mj_in1 16 rfl rfl), by decide, by decide, by decide⟩
set_option maxRecDepth 20000 in
theorem lV_X11_isMoving : mj_lkV yX11_isMoving cX11_isMoving 1 (some .boolean) 0 := ⟨lk_X11_isMoving, (mj_in7 65 rfl rfl), (mj_inP 32 rfl)⟩
set_option maxRecDepth 20000 in
theorem lk_X11_becomes : mj_lk yX11_becomes cX11_becomes 3 none 1 := ⟨(mj_in7 106 rfl rfl), (mj_in1 16 rfl rfl), by decide, by decide, by decide⟩
set_option maxRecDepth 20000 in
theorem lV_X11_becomes : mj_lkV yX11_becomes cX11_becomes 3 none 1 := ⟨lk_X11_becomes, (mj_in7 105 rfl rfl), (mj_inP 40 rfl)⟩
set_option maxRecDepth 20000 in
theorem lk_X11_alarms : mj_lk yX11_alarms cX11_alarms 2 none 1 := ⟨(mj_in7 122 rfl rfl), (mj_in1 16 rfl rfl), by decide, by decide, by decide⟩
set_option maxRecDepth 20000 in
theorem lV_X11_alarms : mj_lkV yX11_alarms cX11_alarms 2 none 1 := ⟨lk_X11_alarms, (mj_in7 121 rfl rfl), (mj_inP 43 rfl)⟩
set_option maxRecDepth 20000 in
theorem lk_X11_suspends : mj_lk yX11_suspends cX11_suspends 1 none 0 := ⟨(mj_in8 88 rfl rfl), (mj_in1 16 rfl rfl), by decide, by decide, by decide⟩
set_option maxRecDepth 20000 in
theorem lV_X11_suspends : mj_lkV yX11_suspends cX11_suspends 1 none 0 := ⟨lk_X11_suspends, (mj_in8 87 rfl rfl), (mj_inP 84 rfl)⟩
set_option maxRecDepth 20000 in
theorem lk_X11_givesUp : mj_lk yX11_givesUp cX11_givesUp 1 none 0 := ⟨(mj_in8 84 rfl rfl), (mj_in1 16 rfl rfl), by decide, by decide, by decide⟩
set_option maxRecDepth 20000 in
theorem lV_X11_givesUp : mj_lkV yX11_givesUp cX11_givesUp 1 none 0 := ⟨lk_X11_givesUp, (mj_in8 83 rfl rfl), (mj_inP 83 rfl)⟩
set_option maxRecDepth 20000 in
theorem lk_X11_marks : mj_lk yX11_marks cX11_marks 2 none 0 := ⟨(mj_in7 130 rfl rfl), (mj_in1 16 rfl rfl), by decide, by decide, by decide⟩
set_option maxRecDepth 20000 in
theorem lV_X11_marks : mj_lkV yX11_marks cX11_marks 2 none 0 := ⟨lk_X11_marks, (mj_in7 129 rfl rfl), (mj_inP 45 rfl)⟩
set_option maxRecDepth 20000 in
theorem lk_X11_send : mj_lk yX11_send cX11_send 2 (some .int) 1 := ⟨(mj_in7 62 rfl rfl), (mj_in1 16 rfl rfl), by decide, by decide, by decide⟩
set_option maxRecDepth 20000 in
theorem lV_X11_send : mj_lkV yX11_send cX11_send 2 (some .int) 1 := ⟨lk_X11_send, (mj_in7 60 rfl rfl), (mj_in7 61 rfl rfl)⟩
set_option maxRecDepth 20000 in
theorem lk_X11_past : mj_lk yX11_past cX11_past 2 (some .int) 1 := ⟨(mj_in7 86 rfl rfl), (mj_in1 16 rfl rfl), by decide, by decide, by decide⟩
set_option maxRecDepth 20000 in
theorem lV_X11_past : mj_lkV yX11_past cX11_past 2 (some .int) 1 := ⟨lk_X11_past, (mj_in7 84 rfl rfl), (mj_in7 85 rfl rfl)⟩
set_option maxRecDepth 20000 in
theorem lk_X11_directs : mj_lk yX11_directs cX11_directs 3 none 2 := ⟨(mj_in7 114 rfl rfl), (mj_in1 16 rfl rfl), by decide, by decide, by decide⟩
set_option maxRecDepth 20000 in
theorem lV_X11_directs : mj_lkV yX11_directs cX11_directs 3 none 2 := ⟨lk_X11_directs, (mj_in7 113 rfl rfl), (mj_inP 42 rfl)⟩
set_option maxRecDepth 20000 in
theorem lk_X11_start : mj_lk yX11_start cX11_start 3 (some .boolean) 2 := ⟨(mj_in7 90 rfl rfl), (mj_in1 16 rfl rfl), by decide, by decide, by decide⟩
set_option maxRecDepth 20000 in
theorem lV_X11_start : mj_lkV yX11_start cX11_start 3 (some .boolean) 2 := ⟨lk_X11_start, (mj_in7 88 rfl rfl), (mj_in7 89 rfl rfl)⟩
set_option maxRecDepth 20000 in
theorem lk_X11_goesOn : mj_lk yX11_goesOn cX11_goesOn 2 none 0 := ⟨(mj_in7 126 rfl rfl), (mj_in1 16 rfl rfl), by decide, by decide, by decide⟩
set_option maxRecDepth 20000 in
theorem lV_X11_goesOn : mj_lkV yX11_goesOn cX11_goesOn 2 none 0 := ⟨lk_X11_goesOn, (mj_in7 125 rfl rfl), (mj_inP 44 rfl)⟩
set_option maxRecDepth 20000 in
theorem lk_X11_direct : mj_lk yX11_direct cX11_direct 2 (some .boolean) 1 := ⟨(mj_in7 118 rfl rfl), (mj_in1 16 rfl rfl), by decide, by decide, by decide⟩
set_option maxRecDepth 20000 in
theorem lV_X11_direct : mj_lkV yX11_direct cX11_direct 2 (some .boolean) 1 := ⟨lk_X11_direct, (mj_in7 116 rfl rfl), (mj_in7 117 rfl rfl)⟩
set_option maxRecDepth 20000 in
theorem lk_X11_renumber : mj_lk yX11_renumber cX11_renumber 2 (some .boolean) 1 := ⟨(mj_in7 134 rfl rfl), (mj_in1 16 rfl rfl), by decide, by decide, by decide⟩
set_option maxRecDepth 20000 in
theorem lV_X11_renumber : mj_lkV yX11_renumber cX11_renumber 2 (some .boolean) 1 := ⟨lk_X11_renumber, (mj_in7 132 rfl rfl), (mj_in7 133 rfl rfl)⟩
set_option maxRecDepth 20000 in
theorem lk_X11_wayAt : mj_lk yX11_wayAt cX11_wayAt 3 (some .int) 2 := ⟨(mj_in7 170 rfl rfl), (mj_in1 16 rfl rfl), by decide, by decide, by decide⟩
set_option maxRecDepth 20000 in
theorem lV_X11_wayAt : mj_lkV yX11_wayAt cX11_wayAt 3 (some .int) 2 := ⟨lk_X11_wayAt, (mj_in7 169 rfl rfl), (mj_inP 52 rfl)⟩
set_option maxRecDepth 20000 in
theorem lk_X11_wayMany : mj_lk yX11_wayMany cX11_wayMany 2 (some .int) 1 := ⟨(mj_in7 162 rfl rfl), (mj_in1 16 rfl rfl), by decide, by decide, by decide⟩
set_option maxRecDepth 20000 in
theorem lV_X11_wayMany : mj_lkV yX11_wayMany cX11_wayMany 2 (some .int) 1 := ⟨lk_X11_wayMany, (mj_in7 161 rfl rfl), (mj_inP 50 rfl)⟩
set_option maxRecDepth 20000 in
theorem lk_X11_wayLong : mj_lk yX11_wayLong cX11_wayLong 2 (some .int) 1 := ⟨(mj_in7 174 rfl rfl), (mj_in1 16 rfl rfl), by decide, by decide, by decide⟩
set_option maxRecDepth 20000 in
theorem lV_X11_wayLong : mj_lkV yX11_wayLong cX11_wayLong 2 (some .int) 1 := ⟨lk_X11_wayLong, (mj_in7 173 rfl rfl), (mj_inP 53 rfl)⟩
set_option maxRecDepth 20000 in
theorem lk_X11_byteMany : mj_lk yX11_byteMany cX11_byteMany 2 (some .int) 1 := ⟨(mj_in7 182 rfl rfl), (mj_in1 16 rfl rfl), by decide, by decide, by decide⟩
set_option maxRecDepth 20000 in
theorem lV_X11_byteMany : mj_lkV yX11_byteMany cX11_byteMany 2 (some .int) 1 := ⟨lk_X11_byteMany, (mj_in7 181 rfl rfl), (mj_inP 54 rfl)⟩
set_option maxRecDepth 20000 in
theorem lk_X11_drops : mj_lk yX11_drops cX11_drops 5 none 2 := ⟨(mj_in7 166 rfl rfl), (mj_in1 16 rfl rfl), by decide, by decide, by decide⟩
set_option maxRecDepth 20000 in
theorem lV_X11_drops : mj_lkV yX11_drops cX11_drops 5 none 2 := ⟨lk_X11_drops, (mj_in7 165 rfl rfl), (mj_inP 51 rfl)⟩
set_option maxRecDepth 20000 in
theorem lk_X11_fateMany : mj_lk yX11_fateMany cX11_fateMany 2 (some .int) 1 := ⟨(mj_in7 142 rfl rfl), (mj_in1 16 rfl rfl), by decide, by decide, by decide⟩
set_option maxRecDepth 20000 in
theorem lV_X11_fateMany : mj_lkV yX11_fateMany cX11_fateMany 2 (some .int) 1 := ⟨lk_X11_fateMany, (mj_in7 141 rfl rfl), (mj_inP 46 rfl)⟩
set_option maxRecDepth 20000 in
theorem lk_X11_fateAt : mj_lk yX11_fateAt cX11_fateAt 3 (some .int) 2 := ⟨(mj_in7 150 rfl rfl), (mj_in1 16 rfl rfl), by decide, by decide, by decide⟩
set_option maxRecDepth 20000 in
theorem lV_X11_fateAt : mj_lkV yX11_fateAt cX11_fateAt 3 (some .int) 2 := ⟨lk_X11_fateAt, (mj_in7 149 rfl rfl), (mj_inP 48 rfl)⟩
set_option maxRecDepth 20000 in
theorem lk_X11_fateOf : mj_lk yX11_fateOf cX11_fateOf 4 (some .int) 2 := ⟨(mj_in7 146 rfl rfl), (mj_in1 16 rfl rfl), by decide, by decide, by decide⟩
set_option maxRecDepth 20000 in
theorem lV_X11_fateOf : mj_lkV yX11_fateOf cX11_fateOf 4 (some .int) 2 := ⟨lk_X11_fateOf, (mj_in7 145 rfl rfl), (mj_inP 47 rfl)⟩
set_option maxRecDepth 20000 in
theorem lk_X11_isFated : mj_lk yX11_isFated cX11_isFated 5 (some .boolean) 1 := ⟨(mj_in8 42 rfl rfl), (mj_in1 16 rfl rfl), by decide, by decide, by decide⟩
set_option maxRecDepth 20000 in
theorem lV_X11_isFated : mj_lkV yX11_isFated cX11_isFated 5 (some .boolean) 1 := ⟨lk_X11_isFated, (mj_in8 41 rfl rfl), (mj_inP 73 rfl)⟩
set_option maxRecDepth 20000 in
theorem lk_X11_fate : mj_lk yX11_fate cX11_fate 4 (some .int) 2 := ⟨(mj_in7 138 rfl rfl), (mj_in1 16 rfl rfl), by decide, by decide, by decide⟩
set_option maxRecDepth 20000 in
theorem lV_X11_fate : mj_lkV yX11_fate cX11_fate 4 (some .int) 2 := ⟨lk_X11_fate, (mj_in7 136 rfl rfl), (mj_in7 137 rfl rfl)⟩
set_option maxRecDepth 20000 in
theorem lk_X11_goes : mj_lk yX11_goes cX11_goes 7 none 1 := ⟨(mj_in8 38 rfl rfl), (mj_in1 16 rfl rfl), by decide, by decide, by decide⟩
set_option maxRecDepth 20000 in
theorem lV_X11_goes : mj_lkV yX11_goes cX11_goes 7 none 1 := ⟨lk_X11_goes, (mj_in8 37 rfl rfl), (mj_inP 72 rfl)⟩
set_option maxRecDepth 20000 in
theorem lk_X11_goesFrame : mj_lk yX11_goesFrame cX11_goesFrame 6 none 5 := ⟨(mj_in8 96 rfl rfl), (mj_in1 16 rfl rfl), by decide, by decide, by decide⟩
set_option maxRecDepth 20000 in
theorem lV_X11_goesFrame : mj_lkV yX11_goesFrame cX11_goesFrame 6 none 5 := ⟨lk_X11_goesFrame, (mj_in8 95 rfl rfl), (mj_inP 86 rfl)⟩
set_option maxRecDepth 20000 in
theorem lk_X11_comes : mj_lk yX11_comes cX11_comes 3 (some .boolean) 1 := ⟨(mj_in8 2 rfl rfl), (mj_in1 16 rfl rfl), by decide, by decide, by decide⟩
set_option maxRecDepth 20000 in
theorem lV_X11_comes : mj_lkV yX11_comes cX11_comes 3 (some .boolean) 1 := ⟨lk_X11_comes, (mj_in8 1 rfl rfl), (mj_inP 63 rfl)⟩
set_option maxRecDepth 20000 in
theorem lk_X11_isOnWay : mj_lk yX11_isOnWay cX11_isOnWay 3 (some .boolean) 2 := ⟨(mj_in7 158 rfl rfl), (mj_in1 16 rfl rfl), by decide, by decide, by decide⟩
set_option maxRecDepth 20000 in
theorem lV_X11_isOnWay : mj_lkV yX11_isOnWay cX11_isOnWay 3 (some .boolean) 2 := ⟨lk_X11_isOnWay, (mj_in7 157 rfl rfl), (mj_inP 49 rfl)⟩
set_option maxRecDepth 20000 in
theorem lk_X11_drop : mj_lk yX11_drop cX11_drop 3 (some .boolean) 2 := ⟨(mj_in7 154 rfl rfl), (mj_in1 16 rfl rfl), by decide, by decide, by decide⟩
set_option maxRecDepth 20000 in
theorem lV_X11_drop : mj_lkV yX11_drop cX11_drop 3 (some .boolean) 2 := ⟨lk_X11_drop, (mj_in7 152 rfl rfl), (mj_in7 153 rfl rfl)⟩
set_option maxRecDepth 20000 in
theorem lk_X11_spoil : mj_lk yX11_spoil cX11_spoil 5 (some .boolean) 4 := ⟨(mj_in7 178 rfl rfl), (mj_in1 16 rfl rfl), by decide, by decide, by decide⟩
set_option maxRecDepth 20000 in
theorem lV_X11_spoil : mj_lkV yX11_spoil cX11_spoil 5 (some .boolean) 4 := ⟨lk_X11_spoil, (mj_in7 176 rfl rfl), (mj_in7 177 rfl rfl)⟩
set_option maxRecDepth 20000 in
theorem lk_X11_way : mj_lk yX11_way cX11_way 4 (some .int) 3 := ⟨(mj_in7 186 rfl rfl), (mj_in1 16 rfl rfl), by decide, by decide, by decide⟩
set_option maxRecDepth 20000 in
theorem lV_X11_way : mj_lkV yX11_way cX11_way 4 (some .int) 3 := ⟨lk_X11_way, (mj_in7 184 rfl rfl), (mj_in7 185 rfl rfl)⟩
set_option maxRecDepth 20000 in
theorem lk_X11_isGoodFrame : mj_lk yX11_isGoodFrame cX11_isGoodFrame 1 (some .boolean) 0 := ⟨(mj_in8 10 rfl rfl), (mj_in1 16 rfl rfl), by decide, by decide, by decide⟩
set_option maxRecDepth 20000 in
theorem lV_X11_isGoodFrame : mj_lkV yX11_isGoodFrame cX11_isGoodFrame 1 (some .boolean) 0 := ⟨lk_X11_isGoodFrame, (mj_in8 9 rfl rfl), (mj_inP 65 rfl)⟩
set_option maxRecDepth 20000 in
theorem lk_X11_far : mj_lk yX11_far cX11_far 2 (some .int) 1 := ⟨(mj_in7 206 rfl rfl), (mj_in1 16 rfl rfl), by decide, by decide, by decide⟩
set_option maxRecDepth 20000 in
theorem lV_X11_far : mj_lkV yX11_far cX11_far 2 (some .int) 1 := ⟨lk_X11_far, (mj_in7 205 rfl rfl), (mj_inP 57 rfl)⟩
set_option maxRecDepth 20000 in
theorem lk_X11_zoneOf : mj_lk yX11_zoneOf cX11_zoneOf 3 (some .int) 1 := ⟨(mj_in7 214 rfl rfl), (mj_in1 16 rfl rfl), by decide, by decide, by decide⟩
set_option maxRecDepth 20000 in
theorem lV_X11_zoneOf : mj_lkV yX11_zoneOf cX11_zoneOf 3 (some .int) 1 := ⟨lk_X11_zoneOf, (mj_in7 213 rfl rfl), (mj_inP 59 rfl)⟩
set_option maxRecDepth 20000 in
theorem lk_X11_keeps : mj_lk yX11_keeps cX11_keeps 4 none 3 := ⟨(mj_in8 18 rfl rfl), (mj_in1 16 rfl rfl), by decide, by decide, by decide⟩
set_option maxRecDepth 20000 in
theorem lV_X11_keeps : mj_lkV yX11_keeps cX11_keeps 4 none 3 := ⟨lk_X11_keeps, (mj_in8 17 rfl rfl), (mj_inP 67 rfl)⟩
set_option maxRecDepth 20000 in
theorem lk_X11_counts : mj_lk yX11_counts cX11_counts 1 none 0 := ⟨(mj_in8 26 rfl rfl), (mj_in1 16 rfl rfl), by decide, by decide, by decide⟩
set_option maxRecDepth 20000 in
theorem lV_X11_counts : mj_lkV yX11_counts cX11_counts 1 none 0 := ⟨lk_X11_counts, (mj_in8 25 rfl rfl), (mj_inP 69 rfl)⟩
set_option maxRecDepth 20000 in
theorem lk_X11_takesIn : mj_lk yX11_takesIn cX11_takesIn 4 (some .boolean) 2 := ⟨(mj_in8 14 rfl rfl), (mj_in1 16 rfl rfl), by decide, by decide, by decide⟩
set_option maxRecDepth 20000 in
theorem lV_X11_takesIn : mj_lkV yX11_takesIn cX11_takesIn 4 (some .boolean) 2 := ⟨lk_X11_takesIn, (mj_in8 13 rfl rfl), (mj_inP 66 rfl)⟩
set_option maxRecDepth 20000 in
theorem lk_X11_isDirected : mj_lk yX11_isDirected cX11_isDirected 3 none 2 := ⟨(mj_in8 30 rfl rfl), (mj_in1 16 rfl rfl), by decide, by decide, by decide⟩
set_option maxRecDepth 20000 in
theorem lV_X11_isDirected : mj_lkV yX11_isDirected cX11_isDirected 3 none 2 := ⟨lk_X11_isDirected, (mj_in8 29 rfl rfl), (mj_inP 70 rfl)⟩
set_option maxRecDepth 20000 in
theorem lk_X11_comesFrame : mj_lk yX11_comesFrame cX11_comesFrame 2 none 0 := ⟨(mj_in8 6 rfl rfl), (mj_in1 16 rfl rfl), by decide, by decide, by decide⟩
set_option maxRecDepth 20000 in
theorem lV_X11_comesFrame : mj_lkV yX11_comesFrame cX11_comesFrame 2 none 0 := ⟨lk_X11_comesFrame, (mj_in8 5 rfl rfl), (mj_inP 64 rfl)⟩
set_option maxRecDepth 20000 in
theorem lk_X11_reports : mj_lk yX11_reports cX11_reports 1 none 0 := ⟨(mj_in8 34 rfl rfl), (mj_in1 16 rfl rfl), by decide, by decide, by decide⟩
set_option maxRecDepth 20000 in
theorem lV_X11_reports : mj_lkV yX11_reports cX11_reports 1 none 0 := ⟨lk_X11_reports, (mj_in8 33 rfl rfl), (mj_inP 71 rfl)⟩
set_option maxRecDepth 20000 in
theorem lk_X11_takesOne : mj_lk yX11_takesOne cX11_takesOne 1 (some .int) 0 := ⟨(mj_in7 194 rfl rfl), (mj_in1 16 rfl rfl), by decide, by decide, by decide⟩
set_option maxRecDepth 20000 in
theorem lV_X11_takesOne : mj_lkV yX11_takesOne cX11_takesOne 1 (some .int) 0 := ⟨lk_X11_takesOne, (mj_in7 193 rfl rfl), (mj_inP 55 rfl)⟩
set_option maxRecDepth 20000 in
theorem lk_X11_take : mj_lk yX11_take cX11_take 1 (some .int) 0 := ⟨(mj_in7 190 rfl rfl), (mj_in1 16 rfl rfl), by decide, by decide, by decide⟩
set_option maxRecDepth 20000 in
theorem lV_X11_take : mj_lkV yX11_take cX11_take 1 (some .int) 0 := ⟨lk_X11_take, (mj_in7 188 rfl rfl), (mj_in7 189 rfl rfl)⟩
set_option maxRecDepth 20000 in
theorem lk_X11_zone : mj_lk yX11_zone cX11_zone 2 (some .int) 1 := ⟨(mj_in7 202 rfl rfl), (mj_in1 16 rfl rfl), by decide, by decide, by decide⟩
set_option maxRecDepth 20000 in
theorem lV_X11_zone : mj_lkV yX11_zone cX11_zone 2 (some .int) 1 := ⟨lk_X11_zone, (mj_in7 200 rfl rfl), (mj_in7 201 rfl rfl)⟩
set_option maxRecDepth 20000 in
theorem lk_X11_verdict : mj_lk yX11_verdict cX11_verdict 7 (some .int) 6 := ⟨(mj_in7 222 rfl rfl), (mj_in1 16 rfl rfl), by decide, by decide, by decide⟩
set_option maxRecDepth 20000 in
theorem lV_X11_verdict : mj_lkV yX11_verdict cX11_verdict 7 (some .int) 6 := ⟨lk_X11_verdict, (mj_in7 221 rfl rfl), (mj_inP 60 rfl)⟩
set_option maxRecDepth 20000 in
theorem lk_X11_judge : mj_lk yX11_judge cX11_judge 6 (some .int) 5 := ⟨(mj_in7 218 rfl rfl), (mj_in1 16 rfl rfl), by decide, by decide, by decide⟩
set_option maxRecDepth 20000 in
theorem lV_X11_judge : mj_lkV yX11_judge cX11_judge 6 (some .int) 5 := ⟨lk_X11_judge, (mj_in7 216 rfl rfl), (mj_in7 217 rfl rfl)⟩
set_option maxRecDepth 20000 in
theorem lk_X11_verdicts : mj_lk yX11_verdicts cX11_verdicts 2 (some .int) 1 := ⟨(mj_in7 226 rfl rfl), (mj_in1 16 rfl rfl), by decide, by decide, by decide⟩
set_option maxRecDepth 20000 in
theorem lV_X11_verdicts : mj_lkV yX11_verdicts cX11_verdicts 2 (some .int) 1 := ⟨lk_X11_verdicts, (mj_in7 224 rfl rfl), (mj_in7 225 rfl rfl)⟩
set_option maxRecDepth 20000 in
theorem lk_X11_numberOf : mj_lk yX11_numberOf cX11_numberOf 2 (some .int) 1 := ⟨(mj_in8 76 rfl rfl), (mj_in1 16 rfl rfl), by decide, by decide, by decide⟩
set_option maxRecDepth 20000 in
theorem lV_X11_numberOf : mj_lkV yX11_numberOf cX11_numberOf 2 (some .int) 1 := ⟨lk_X11_numberOf, (mj_in8 75 rfl rfl), (mj_inP 81 rfl)⟩
set_option maxRecDepth 20000 in
theorem lk_X11_sentGo : mj_lk yX11_sentGo cX11_sentGo 3 none 1 := ⟨(mj_in8 72 rfl rfl), (mj_in1 16 rfl rfl), by decide, by decide, by decide⟩
set_option maxRecDepth 20000 in
theorem lV_X11_sentGo : mj_lkV yX11_sentGo cX11_sentGo 3 none 1 := ⟨lk_X11_sentGo, (mj_in8 71 rfl rfl), (mj_inP 80 rfl)⟩
set_option maxRecDepth 20000 in
theorem lk_X11_isSaid : mj_lk yX11_isSaid cX11_isSaid 5 none 4 := ⟨(mj_in8 68 rfl rfl), (mj_in1 16 rfl rfl), by decide, by decide, by decide⟩
set_option maxRecDepth 20000 in
theorem lV_X11_isSaid : mj_lkV yX11_isSaid cX11_isSaid 5 none 4 := ⟨lk_X11_isSaid, (mj_in8 67 rfl rfl), (mj_inP 79 rfl)⟩
set_option maxRecDepth 20000 in
theorem lk_X11_isChecked : mj_lk yX11_isChecked cX11_isChecked 4 none 3 := ⟨(mj_in8 64 rfl rfl), (mj_in1 16 rfl rfl), by decide, by decide, by decide⟩
set_option maxRecDepth 20000 in
theorem lV_X11_isChecked : mj_lkV yX11_isChecked cX11_isChecked 4 none 3 := ⟨lk_X11_isChecked, (mj_in8 63 rfl rfl), (mj_inP 78 rfl)⟩
set_option maxRecDepth 20000 in
theorem lk_X11_isAnswered : mj_lk yX11_isAnswered cX11_isAnswered 4 none 3 := ⟨(mj_in8 60 rfl rfl), (mj_in1 16 rfl rfl), by decide, by decide, by decide⟩
set_option maxRecDepth 20000 in
theorem lV_X11_isAnswered : mj_lkV yX11_isAnswered cX11_isAnswered 4 none 3 := ⟨lk_X11_isAnswered, (mj_in8 59 rfl rfl), (mj_inP 77 rfl)⟩
set_option maxRecDepth 20000 in
theorem lk_X11_hears : mj_lk yX11_hears cX11_hears 8 none 2 := ⟨(mj_in8 56 rfl rfl), (mj_in1 16 rfl rfl), by decide, by decide, by decide⟩
set_option maxRecDepth 20000 in
theorem lV_X11_hears : mj_lkV yX11_hears cX11_hears 8 none 2 := ⟨lk_X11_hears, (mj_in8 55 rfl rfl), (mj_inP 76 rfl)⟩
set_option maxRecDepth 20000 in
theorem lk_X11_comesReport : mj_lk yX11_comesReport cX11_comesReport 2 none 0 := ⟨(mj_in8 52 rfl rfl), (mj_in1 16 rfl rfl), by decide, by decide, by decide⟩
set_option maxRecDepth 20000 in
theorem lV_X11_comesReport : mj_lkV yX11_comesReport cX11_comesReport 2 none 0 := ⟨lk_X11_comesReport, (mj_in8 51 rfl rfl), (mj_inP 75 rfl)⟩
set_option maxRecDepth 20000 in
theorem lk_X11_runsOut : mj_lk yX11_runsOut cX11_runsOut 3 none 0 := ⟨(mj_in8 80 rfl rfl), (mj_in1 16 rfl rfl), by decide, by decide, by decide⟩
set_option maxRecDepth 20000 in
theorem lV_X11_runsOut : mj_lkV yX11_runsOut cX11_runsOut 3 none 0 := ⟨lk_X11_runsOut, (mj_in8 79 rfl rfl), (mj_inP 82 rfl)⟩
set_option maxRecDepth 20000 in
theorem lk_X11_goesDirective : mj_lk yX11_goesDirective cX11_goesDirective 1 none 0 := ⟨(mj_in8 100 rfl rfl), (mj_in1 16 rfl rfl), by decide, by decide, by decide⟩
set_option maxRecDepth 20000 in
theorem lV_X11_goesDirective : mj_lkV yX11_goesDirective cX11_goesDirective 1 none 0 := ⟨lk_X11_goesDirective, (mj_in8 99 rfl rfl), (mj_inP 87 rfl)⟩
set_option maxRecDepth 20000 in
theorem lk_X11_goesSent : mj_lk yX11_goesSent cX11_goesSent 2 none 1 := ⟨(mj_in8 108 rfl rfl), (mj_in1 16 rfl rfl), by decide, by decide, by decide⟩
set_option maxRecDepth 20000 in
theorem lV_X11_goesSent : mj_lkV yX11_goesSent cX11_goesSent 2 none 1 := ⟨lk_X11_goesSent, (mj_in8 107 rfl rfl), (mj_inP 89 rfl)⟩
set_option maxRecDepth 20000 in
theorem lk_X11_goesNew : mj_lk yX11_goesNew cX11_goesNew 1 none 0 := ⟨(mj_in8 116 rfl rfl), (mj_in1 16 rfl rfl), by decide, by decide, by decide⟩
set_option maxRecDepth 20000 in
theorem lV_X11_goesNew : mj_lkV yX11_goesNew cX11_goesNew 1 none 0 := ⟨lk_X11_goesNew, (mj_in8 115 rfl rfl), (mj_inP 91 rfl)⟩
set_option maxRecDepth 20000 in
theorem lk_X11_firstMarked : mj_lk yX11_firstMarked cX11_firstMarked 2 (some .int) 0 := ⟨(mj_in8 104 rfl rfl), (mj_in1 16 rfl rfl), by decide, by decide, by decide⟩
set_option maxRecDepth 20000 in
theorem lV_X11_firstMarked : mj_lkV yX11_firstMarked cX11_firstMarked 2 (some .int) 0 := ⟨lk_X11_firstMarked, (mj_in8 103 rfl rfl), (mj_inP 88 rfl)⟩
set_option maxRecDepth 20000 in
theorem lk_X11_turns : mj_lk yX11_turns cX11_turns 3 none 0 := ⟨(mj_in8 92 rfl rfl), (mj_in1 16 rfl rfl), by decide, by decide, by decide⟩
set_option maxRecDepth 20000 in
theorem lV_X11_turns : mj_lkV yX11_turns cX11_turns 3 none 0 := ⟨lk_X11_turns, (mj_in8 91 rfl rfl), (mj_inP 85 rfl)⟩
set_option maxRecDepth 20000 in
theorem lk_X11_ticks : mj_lk yX11_ticks cX11_ticks 1 none 0 := ⟨(mj_in7 238 rfl rfl), (mj_in1 16 rfl rfl), by decide, by decide, by decide⟩
set_option maxRecDepth 20000 in
theorem lV_X11_ticks : mj_lkV yX11_ticks cX11_ticks 1 none 0 := ⟨lk_X11_ticks, (mj_in7 237 rfl rfl), (mj_inP 62 rfl)⟩
set_option maxRecDepth 20000 in
theorem lk_X11_ticksOn : mj_lk yX11_ticksOn cX11_ticksOn 3 (some .int) 1 := ⟨(mj_in7 234 rfl rfl), (mj_in1 16 rfl rfl), by decide, by decide, by decide⟩
set_option maxRecDepth 20000 in
theorem lV_X11_ticksOn : mj_lkV yX11_ticksOn cX11_ticksOn 3 (some .int) 1 := ⟨lk_X11_ticksOn, (mj_in7 233 rfl rfl), (mj_inP 61 rfl)⟩
set_option maxRecDepth 20000 in
theorem lk_X11_tick : mj_lk yX11_tick cX11_tick 2 (some .int) 1 := ⟨(mj_in7 230 rfl rfl), (mj_in1 16 rfl rfl), by decide, by decide, by decide⟩
set_option maxRecDepth 20000 in
theorem lV_X11_tick : mj_lkV yX11_tick cX11_tick 2 (some .int) 1 := ⟨lk_X11_tick, (mj_in7 228 rfl rfl), (mj_in7 229 rfl rfl)⟩
set_option maxRecDepth 20000 in
theorem lk_X11_thinks : mj_lk yX11_thinks cX11_thinks 2 none 0 := ⟨(mj_in8 124 rfl rfl), (mj_in1 16 rfl rfl), by decide, by decide, by decide⟩
set_option maxRecDepth 20000 in
theorem lV_X11_thinks : mj_lkV yX11_thinks cX11_thinks 2 none 0 := ⟨lk_X11_thinks, (mj_in8 123 rfl rfl), (mj_inP 92 rfl)⟩
set_option maxRecDepth 20000 in
theorem lk_X11_forgets : mj_lk yX11_forgets cX11_forgets 2 none 0 := ⟨(mj_in8 136 rfl rfl), (mj_in1 16 rfl rfl), by decide, by decide, by decide⟩
set_option maxRecDepth 20000 in
theorem lV_X11_forgets : mj_lkV yX11_forgets cX11_forgets 2 none 0 := ⟨lk_X11_forgets, (mj_in8 135 rfl rfl), (mj_inP 95 rfl)⟩
set_option maxRecDepth 20000 in
theorem lk_X11_ticksTaking : mj_lk yX11_ticksTaking cX11_ticksTaking 1 none 0 := ⟨(mj_in8 132 rfl rfl), (mj_in1 16 rfl rfl), by decide, by decide, by decide⟩
set_option maxRecDepth 20000 in
theorem lV_X11_ticksTaking : mj_lkV yX11_ticksTaking cX11_ticksTaking 1 none 0 := ⟨lk_X11_ticksTaking, (mj_in8 131 rfl rfl), (mj_inP 94 rfl)⟩
set_option maxRecDepth 20000 in
theorem lk_X11_isThrough : mj_lk yX11_isThrough cX11_isThrough 1 (some .boolean) 0 := ⟨(mj_in8 128 rfl rfl), (mj_in1 16 rfl rfl), by decide, by decide, by decide⟩
set_option maxRecDepth 20000 in
theorem lV_X11_isThrough : mj_lkV yX11_isThrough cX11_isThrough 1 (some .boolean) 0 := ⟨lk_X11_isThrough, (mj_in8 127 rfl rfl), (mj_inP 93 rfl)⟩
set_option maxRecDepth 20000 in
theorem lk_X11_soon : mj_lk yX11_soon cX11_soon 3 (some .int) 0 := ⟨(mj_in8 120 rfl rfl), (mj_in1 16 rfl rfl), by decide, by decide, by decide⟩
set_option maxRecDepth 20000 in
theorem lV_X11_soon : mj_lkV yX11_soon cX11_soon 3 (some .int) 0 := ⟨lk_X11_soon, (mj_in8 118 rfl rfl), (mj_in8 119 rfl rfl)⟩
set_option maxRecDepth 20000 in
theorem lk_X11_leads : mj_lk yX11_leads cX11_leads 3 (some .boolean) 1 := ⟨(mj_in8 144 rfl rfl), (mj_in1 16 rfl rfl), by decide, by decide, by decide⟩
set_option maxRecDepth 20000 in
theorem lV_X11_leads : mj_lkV yX11_leads cX11_leads 3 (some .boolean) 1 := ⟨lk_X11_leads, (mj_in8 143 rfl rfl), (mj_inP 96 rfl)⟩
set_option maxRecDepth 20000 in
theorem lk_X11_ways : mj_lk yX11_ways cX11_ways 3 (some .int) 0 := ⟨(mj_in8 140 rfl rfl), (mj_in1 16 rfl rfl), by decide, by decide, by decide⟩
set_option maxRecDepth 20000 in
theorem lV_X11_ways : mj_lkV yX11_ways cX11_ways 3 (some .int) 0 := ⟨lk_X11_ways, (mj_in8 138 rfl rfl), (mj_in8 139 rfl rfl)⟩
set_option maxRecDepth 20000 in
theorem lk_X11_says : mj_lk yX11_says cX11_says 2 none 1 := ⟨(mj_in8 157 rfl rfl), (mj_in1 16 rfl rfl), by decide, by decide, by decide⟩
set_option maxRecDepth 20000 in
theorem lV_X11_says : mj_lkV yX11_says cX11_says 2 none 1 := ⟨lk_X11_says, (mj_in8 156 rfl rfl), (mj_inP 98 rfl)⟩
set_option maxRecDepth 20000 in
theorem lk_X11_saysName : mj_lk yX11_saysName cX11_saysName 4 none 1 := ⟨(mj_in8 169 rfl rfl), (mj_in1 16 rfl rfl), by decide, by decide, by decide⟩
set_option maxRecDepth 20000 in
theorem lV_X11_saysName : mj_lkV yX11_saysName cX11_saysName 4 none 1 := ⟨lk_X11_saysName, (mj_in8 168 rfl rfl), (mj_inP 101 rfl)⟩
set_option maxRecDepth 20000 in
theorem lk_X11_saysNumber : mj_lk yX11_saysNumber cX11_saysNumber 2 none 1 := ⟨(mj_in8 161 rfl rfl), (mj_in1 16 rfl rfl), by decide, by decide, by decide⟩
set_option maxRecDepth 20000 in
theorem lV_X11_saysNumber : mj_lkV yX11_saysNumber cX11_saysNumber 2 none 1 := ⟨lk_X11_saysNumber, (mj_in8 160 rfl rfl), (mj_inP 99 rfl)⟩
set_option maxRecDepth 20000 in
theorem lk_X11_saysReport : mj_lk yX11_saysReport cX11_saysReport 2 none 0 := ⟨(mj_in8 153 rfl rfl), (mj_in1 16 rfl rfl), by decide, by decide, by decide⟩
set_option maxRecDepth 20000 in
theorem lV_X11_saysReport : mj_lkV yX11_saysReport cX11_saysReport 2 none 0 := ⟨lk_X11_saysReport, (mj_in8 152 rfl rfl), (mj_inP 97 rfl)⟩
set_option maxRecDepth 20000 in
theorem lk_X11_saysSender : mj_lk yX11_saysSender cX11_saysSender 1 none 0 := ⟨(mj_in8 165 rfl rfl), (mj_in1 16 rfl rfl), by decide, by decide, by decide⟩
set_option maxRecDepth 20000 in
theorem lV_X11_saysSender : mj_lkV yX11_saysSender cX11_saysSender 1 none 0 := ⟨lk_X11_saysSender, (mj_in8 164 rfl rfl), (mj_inP 100 rfl)⟩
set_option maxRecDepth 20000 in
theorem lk_X11_saysReceiver : mj_lk yX11_saysReceiver cX11_saysReceiver 1 none 0 := ⟨(mj_in8 173 rfl rfl), (mj_in1 16 rfl rfl), by decide, by decide, by decide⟩
set_option maxRecDepth 20000 in
theorem lV_X11_saysReceiver : mj_lkV yX11_saysReceiver cX11_saysReceiver 1 none 0 := ⟨lk_X11_saysReceiver, (mj_in8 172 rfl rfl), (mj_inP 102 rfl)⟩
set_option maxRecDepth 20000 in
theorem lk_X11_told : mj_lk yX11_told cX11_told 3 (some .int) 2 := ⟨(mj_in8 149 rfl rfl), (mj_in1 16 rfl rfl), by decide, by decide, by decide⟩
set_option maxRecDepth 20000 in
theorem lV_X11_told : mj_lkV yX11_told cX11_told 3 (some .int) 2 := ⟨lk_X11_told, (mj_in8 147 rfl rfl), (mj_in8 148 rfl rfl)⟩
set_option maxRecDepth 20000 in
theorem lk_X11_sender : mj_lk yX11_sender cX11_sender 2 (some .int) 1 := ⟨(mj_in8 177 rfl rfl), (mj_in1 16 rfl rfl), by decide, by decide, by decide⟩
set_option maxRecDepth 20000 in
theorem lV_X11_sender : mj_lkV yX11_sender cX11_sender 2 (some .int) 1 := ⟨lk_X11_sender, (mj_in8 175 rfl rfl), (mj_in8 176 rfl rfl)⟩
set_option maxRecDepth 20000 in
theorem lk_X11_markedMany : mj_lk yX11_markedMany cX11_markedMany 3 (some .int) 0 := ⟨(mj_in8 181 rfl rfl), (mj_in1 16 rfl rfl), by decide, by decide, by decide⟩
set_option maxRecDepth 20000 in
theorem lV_X11_markedMany : mj_lkV yX11_markedMany cX11_markedMany 3 (some .int) 0 := ⟨lk_X11_markedMany, (mj_in8 180 rfl rfl), (mj_inP 103 rfl)⟩
set_option maxRecDepth 20000 in
theorem lk_X11_keptOf : mj_lk yX11_keptOf cX11_keptOf 2 (some .int) 1 := ⟨(mj_in8 189 rfl rfl), (mj_in1 16 rfl rfl), by decide, by decide, by decide⟩
set_option maxRecDepth 20000 in
theorem lV_X11_keptOf : mj_lkV yX11_keptOf cX11_keptOf 2 (some .int) 1 := ⟨lk_X11_keptOf, (mj_in8 188 rfl rfl), (mj_inP 104 rfl)⟩
set_option maxRecDepth 20000 in
theorem lk_X11_receiver : mj_lk yX11_receiver cX11_receiver 2 (some .int) 1 := ⟨(mj_in8 185 rfl rfl), (mj_in1 16 rfl rfl), by decide, by decide, by decide⟩
set_option maxRecDepth 20000 in
theorem lV_X11_receiver : mj_lkV yX11_receiver cX11_receiver 2 (some .int) 1 := ⟨lk_X11_receiver, (mj_in8 183 rfl rfl), (mj_in8 184 rfl rfl)⟩
set_option maxRecDepth 20000 in
theorem lk_X11_alarm : mj_lk yX11_alarm cX11_alarm 2 (some .int) 1 := ⟨(mj_in8 193 rfl rfl), (mj_in1 16 rfl rfl), by decide, by decide, by decide⟩
set_option maxRecDepth 20000 in
theorem lV_X11_alarm : mj_lkV yX11_alarm cX11_alarm 2 (some .int) 1 := ⟨lk_X11_alarm, (mj_in8 191 rfl rfl), (mj_in8 192 rfl rfl)⟩
set_option maxRecDepth 20000 in
theorem lk_X11_diary : mj_lk yX11_diary cX11_diary 3 (some .int) 2 := ⟨(mj_in8 197 rfl rfl), (mj_in1 16 rfl rfl), by decide, by decide, by decide⟩
set_option maxRecDepth 20000 in
theorem lV_X11_diary : mj_lkV yX11_diary cX11_diary 3 (some .int) 2 := ⟨lk_X11_diary, (mj_in8 195 rfl rfl), (mj_in8 196 rfl rfl)⟩
set_option maxRecDepth 20000 in
theorem lk_X11_takenMany : mj_lk yX11_takenMany cX11_takenMany 3 (some .int) 0 := ⟨(mj_in8 205 rfl rfl), (mj_in1 16 rfl rfl), by decide, by decide, by decide⟩
set_option maxRecDepth 20000 in
theorem lV_X11_takenMany : mj_lkV yX11_takenMany cX11_takenMany 3 (some .int) 0 := ⟨lk_X11_takenMany, (mj_in8 204 rfl rfl), (mj_inP 105 rfl)⟩
set_option maxRecDepth 20000 in
theorem lk_X11_truth : mj_lk yX11_truth cX11_truth 2 (some .int) 1 := ⟨(mj_in8 201 rfl rfl), (mj_in1 16 rfl rfl), by decide, by decide, by decide⟩
set_option maxRecDepth 20000 in
theorem lV_X11_truth : mj_lkV yX11_truth cX11_truth 2 (some .int) 1 := ⟨lk_X11_truth, (mj_in8 199 rfl rfl), (mj_in8 200 rfl rfl)⟩
set_option maxRecDepth 20000 in
theorem lk_X11_look : mj_lk yX11_look cX11_look 2 (some .int) 1 := ⟨(mj_in8 209 rfl rfl), (mj_in1 16 rfl rfl), by decide, by decide, by decide⟩
set_option maxRecDepth 20000 in
theorem lV_X11_look : mj_lkV yX11_look cX11_look 2 (some .int) 1 := ⟨lk_X11_look, (mj_in8 207 rfl rfl), (mj_in8 208 rfl rfl)⟩
set_option maxRecDepth 20000 in
theorem lk_X11_types : mj_lk yX11_types cX11_types 3 none 1 := ⟨(mj_in8 218 rfl rfl), (mj_in1 16 rfl rfl), by decide, by decide, by decide⟩
set_option maxRecDepth 20000 in
theorem lV_X11_types : mj_lkV yX11_types cX11_types 3 none 1 := ⟨lk_X11_types, (mj_in8 217 rfl rfl), (mj_inP 106 rfl)⟩
set_option maxRecDepth 20000 in
theorem lk_X11_feed : mj_lk yX11_feed cX11_feed 6 (some .int) 5 := ⟨(mj_in8 214 rfl rfl), (mj_in1 16 rfl rfl), by decide, by decide, by decide⟩
set_option maxRecDepth 20000 in
theorem lV_X11_feed : mj_lkV yX11_feed cX11_feed 6 (some .int) 5 := ⟨lk_X11_feed, (mj_in8 212 rfl rfl), (mj_in8 213 rfl rfl)⟩
set_option maxRecDepth 20000 in
theorem lk_X11_end : mj_lk yX11_end cX11_end 2 (some .boolean) 1 := ⟨(mj_in8 222 rfl rfl), (mj_in1 16 rfl rfl), by decide, by decide, by decide⟩
set_option maxRecDepth 20000 in
theorem lV_X11_end : mj_lkV yX11_end cX11_end 2 (some .boolean) 1 := ⟨lk_X11_end, (mj_in8 220 rfl rfl), (mj_in8 221 rfl rfl)⟩
set_option maxRecDepth 20000 in
theorem lk_X11_raw : mj_lk yX11_raw cX11_raw 2 (some .int) 1 := ⟨(mj_in8 238 rfl rfl), (mj_in1 16 rfl rfl), by decide, by decide, by decide⟩
set_option maxRecDepth 20000 in
theorem lV_X11_raw : mj_lkV yX11_raw cX11_raw 2 (some .int) 1 := ⟨lk_X11_raw, (mj_in8 237 rfl rfl), (mj_inP 109 rfl)⟩
set_option maxRecDepth 20000 in
theorem lk_X11_isLetter : mj_lk yX11_isLetter cX11_isLetter 2 (some .boolean) 1 := ⟨(mj_in9 2 rfl rfl), (mj_in1 16 rfl rfl), by decide, by decide, by decide⟩
set_option maxRecDepth 20000 in
theorem lV_X11_isLetter : mj_lkV yX11_isLetter cX11_isLetter 2 (some .boolean) 1 := ⟨lk_X11_isLetter, (mj_in9 1 rfl rfl), (mj_inP 110 rfl)⟩
set_option maxRecDepth 20000 in
theorem lk_X11_isDigit : mj_lk yX11_isDigit cX11_isDigit 2 (some .boolean) 1 := ⟨(mj_in9 10 rfl rfl), (mj_in1 16 rfl rfl), by decide, by decide, by decide⟩
set_option maxRecDepth 20000 in
theorem lV_X11_isDigit : mj_lkV yX11_isDigit cX11_isDigit 2 (some .boolean) 1 := ⟨lk_X11_isDigit, (mj_in9 9 rfl rfl), (mj_inP 112 rfl)⟩
set_option maxRecDepth 20000 in
theorem lk_X11_wordAt : mj_lk yX11_wordAt cX11_wordAt 6 (some .int) 2 := ⟨(mj_in9 6 rfl rfl), (mj_in1 16 rfl rfl), by decide, by decide, by decide⟩
set_option maxRecDepth 20000 in
theorem lV_X11_wordAt : mj_lkV yX11_wordAt cX11_wordAt 6 (some .int) 2 := ⟨lk_X11_wordAt, (mj_in9 5 rfl rfl), (mj_inP 111 rfl)⟩
set_option maxRecDepth 20000 in
theorem lk_X11_reads : mj_lk yX11_reads cX11_reads 2 none 0 := ⟨(mj_in8 234 rfl rfl), (mj_in1 16 rfl rfl), by decide, by decide, by decide⟩
set_option maxRecDepth 20000 in
theorem lV_X11_reads : mj_lkV yX11_reads cX11_reads 2 none 0 := ⟨lk_X11_reads, (mj_in8 233 rfl rfl), (mj_inP 108 rfl)⟩
set_option maxRecDepth 20000 in
theorem lk_X11_errs : mj_lk yX11_errs cX11_errs 2 (some .int) 1 := ⟨(mj_in9 18 rfl rfl), (mj_in1 16 rfl rfl), by decide, by decide, by decide⟩
set_option maxRecDepth 20000 in
theorem lV_X11_errs : mj_lkV yX11_errs cX11_errs 2 (some .int) 1 := ⟨lk_X11_errs, (mj_in9 17 rfl rfl), (mj_inP 114 rfl)⟩
set_option maxRecDepth 20000 in
theorem lk_X11_lowOf : mj_lk yX11_lowOf cX11_lowOf 2 (some .int) 1 := ⟨(mj_in9 22 rfl rfl), (mj_in1 16 rfl rfl), by decide, by decide, by decide⟩
set_option maxRecDepth 20000 in
theorem lV_X11_lowOf : mj_lkV yX11_lowOf cX11_lowOf 2 (some .int) 1 := ⟨lk_X11_lowOf, (mj_in9 21 rfl rfl), (mj_inP 115 rfl)⟩
set_option maxRecDepth 20000 in
theorem lk_X11_highOf : mj_lk yX11_highOf cX11_highOf 2 (some .int) 1 := ⟨(mj_in9 26 rfl rfl), (mj_in1 16 rfl rfl), by decide, by decide, by decide⟩
set_option maxRecDepth 20000 in
theorem lV_X11_highOf : mj_lkV yX11_highOf cX11_highOf 2 (some .int) 1 := ⟨lk_X11_highOf, (mj_in9 25 rfl rfl), (mj_inP 116 rfl)⟩
set_option maxRecDepth 20000 in
theorem lk_X11_readLine : mj_lk yX11_readLine cX11_readLine 3 (some .int) 1 := ⟨(mj_in9 14 rfl rfl), (mj_in1 16 rfl rfl), by decide, by decide, by decide⟩
set_option maxRecDepth 20000 in
theorem lV_X11_readLine : mj_lkV yX11_readLine cX11_readLine 3 (some .int) 1 := ⟨lk_X11_readLine, (mj_in9 13 rfl rfl), (mj_inP 113 rfl)⟩
set_option maxRecDepth 20000 in
theorem lk_X11_readPlan : mj_lk yX11_readPlan cX11_readPlan 2 (some .int) 0 := ⟨(mj_in8 230 rfl rfl), (mj_in1 16 rfl rfl), by decide, by decide, by decide⟩
set_option maxRecDepth 20000 in
theorem lV_X11_readPlan : mj_lkV yX11_readPlan cX11_readPlan 2 (some .int) 0 := ⟨lk_X11_readPlan, (mj_in8 229 rfl rfl), (mj_inP 107 rfl)⟩
set_option maxRecDepth 20000 in
theorem lk_X11_plan : mj_lk yX11_plan cX11_plan 3 (some .int) 0 := ⟨(mj_in8 226 rfl rfl), (mj_in1 16 rfl rfl), by decide, by decide, by decide⟩
set_option maxRecDepth 20000 in
theorem lV_X11_plan : mj_lkV yX11_plan cX11_plan 3 (some .int) 0 := ⟨lk_X11_plan, (mj_in8 224 rfl rfl), (mj_in8 225 rfl rfl)⟩
set_option maxRecDepth 20000 in
theorem lk_X11_fault : mj_lk yX11_fault cX11_fault 2 (some .int) 1 := ⟨(mj_in9 30 rfl rfl), (mj_in1 16 rfl rfl), by decide, by decide, by decide⟩
set_option maxRecDepth 20000 in
theorem lV_X11_fault : mj_lkV yX11_fault cX11_fault 2 (some .int) 1 := ⟨lk_X11_fault, (mj_in9 28 rfl rfl), (mj_in9 29 rfl rfl)⟩
set_option maxRecDepth 20000 in
theorem lk_X11_runsLine : mj_lk yX11_runsLine cX11_runsLine 3 (some .boolean) 2 := ⟨(mj_in9 38 rfl rfl), (mj_in1 16 rfl rfl), by decide, by decide, by decide⟩
set_option maxRecDepth 20000 in
theorem lV_X11_runsLine : mj_lkV yX11_runsLine cX11_runsLine 3 (some .boolean) 2 := ⟨lk_X11_runsLine, (mj_in9 37 rfl rfl), (mj_inP 117 rfl)⟩
set_option maxRecDepth 20000 in
theorem lk_X11_run : mj_lk yX11_run cX11_run 5 (some .int) 1 := ⟨(mj_in9 34 rfl rfl), (mj_in1 16 rfl rfl), by decide, by decide, by decide⟩
set_option maxRecDepth 20000 in
theorem lV_X11_run : mj_lkV yX11_run cX11_run 5 (some .int) 1 := ⟨lk_X11_run, (mj_in9 32 rfl rfl), (mj_in9 33 rfl rfl)⟩
set_option maxRecDepth 20000 in
theorem lk_X11_image : mj_lk yX11_image cX11_image 3 (some .boolean) 1 := ⟨(mj_in9 47 rfl rfl), (mj_in1 16 rfl rfl), by decide, by decide, by decide⟩
set_option maxRecDepth 20000 in
theorem lV_X11_image : mj_lkV yX11_image cX11_image 3 (some .boolean) 1 := ⟨lk_X11_image, (mj_in9 45 rfl rfl), (mj_in9 46 rfl rfl)⟩
set_option maxRecDepth 20000 in
theorem lC_X0_30 : Cond.constant RX0 30 (1664525) ∈ mj_T := (mj_in3 228 rfl rfl)
set_option maxRecDepth 20000 in
theorem lC_X0_31 : Cond.constant RX0 31 (1013904223) ∈ mj_T := (mj_in3 229 rfl rfl)
set_option maxRecDepth 20000 in
theorem lC_X8_122 : Cond.constant RX8 122 (16777216) ∈ mj_T := (mj_in4 51 rfl rfl)
set_option maxRecDepth 20000 in
theorem lC_X8_135 : Cond.constant RX8 135 (33554432) ∈ mj_T := (mj_in4 54 rfl rfl)
set_option maxRecDepth 20000 in
theorem lC_X5_109 : Cond.constant RX5 109 (65535) ∈ mj_T := (mj_in4 203 rfl rfl)
set_option maxRecDepth 20000 in
theorem lC_X10_384 : Cond.constant RX10 384 (-100000) ∈ mj_T := (mj_in6 174 rfl rfl)
set_option maxRecDepth 20000 in
theorem lC_X11_56 : Cond.constant RX11 56 (1664525) ∈ mj_T := (mj_in8 47 rfl rfl)
set_option maxRecDepth 20000 in
theorem lC_X11_57 : Cond.constant RX11 57 (1013904223) ∈ mj_T := (mj_in8 48 rfl rfl)
set_option maxRecDepth 20000 in
theorem lC_X11_324 : Cond.constant RX11 324 (-100000) ∈ mj_T := (mj_in8 210 rfl rfl)
