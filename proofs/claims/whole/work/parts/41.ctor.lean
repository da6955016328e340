set_option maxRecDepth 20000 in
theorem mx_oi : Cond.instanceMethod Lib.objectInit ∈ mj_T := (mj_in1 30 rfl rfl)
set_option maxRecDepth 20000 in
theorem mx_oc : Cond.code Lib.objectInit ⟨#[0xb1]⟩ 1 none ∈ mj_T := (mj_in1 31 rfl rfl)
set_option maxRecDepth 20000 in
theorem mx_ai : Cond.arrayClass .int ∈ mj_T := (mj_in1 73 rfl rfl)
theorem fR_1_0 : mj_fr 1 0 .int false := by
  intro C T N h
  cases h
  exact ⟨⟨tyX0, tyX0_ok, rfl⟩, nmX0, rfl, rfl⟩
theorem fR_1_1 : mj_fr 1 1 .int false := by
  intro C T N h
  cases h
  exact ⟨⟨tyX0, tyX0_ok, rfl⟩, nmX0, rfl, rfl⟩
theorem fR_1_2 : mj_fr 1 2 (.array .int) true := by
  intro C T N h
  cases h
  exact ⟨⟨tyX0, tyX0_ok, rfl⟩, nmX0, rfl, rfl⟩
theorem fR_2_0 : mj_fr 2 0 (.object "CommandLink$Common") true := by
  intro C T N h
  cases h
  exact ⟨⟨tyX1, tyX1_ok, rfl⟩, nmX1, rfl, rfl⟩
theorem fR_2_1 : mj_fr 2 1 (.array .int) true := by
  intro C T N h
  cases h
  exact ⟨⟨tyX1, tyX1_ok, rfl⟩, nmX1, rfl, rfl⟩
theorem fR_2_2 : mj_fr 2 2 .int false := by
  intro C T N h
  cases h
  exact ⟨⟨tyX1, tyX1_ok, rfl⟩, nmX1, rfl, rfl⟩
theorem fR_2_3 : mj_fr 2 3 (.array .int) true := by
  intro C T N h
  cases h
  exact ⟨⟨tyX1, tyX1_ok, rfl⟩, nmX1, rfl, rfl⟩
theorem fR_2_4 : mj_fr 2 4 .int false := by
  intro C T N h
  cases h
  exact ⟨⟨tyX1, tyX1_ok, rfl⟩, nmX1, rfl, rfl⟩
theorem fR_2_5 : mj_fr 2 5 .int false := by
  intro C T N h
  cases h
  exact ⟨⟨tyX1, tyX1_ok, rfl⟩, nmX1, rfl, rfl⟩
theorem fR_2_6 : mj_fr 2 6 (.array .int) true := by
  intro C T N h
  cases h
  exact ⟨⟨tyX1, tyX1_ok, rfl⟩, nmX1, rfl, rfl⟩
theorem fR_3_0 : mj_fr 3 0 (.object "CommandLink$Common") true := by
  intro C T N h
  cases h
  exact ⟨⟨tyX2, tyX2_ok, rfl⟩, nmX2, rfl, rfl⟩
theorem fR_3_1 : mj_fr 3 1 (.array .int) true := by
  intro C T N h
  cases h
  exact ⟨⟨tyX2, tyX2_ok, rfl⟩, nmX2, rfl, rfl⟩
theorem fR_3_2 : mj_fr 3 2 .int false := by
  intro C T N h
  cases h
  exact ⟨⟨tyX2, tyX2_ok, rfl⟩, nmX2, rfl, rfl⟩
theorem fR_3_3 : mj_fr 3 3 .int false := by
  intro C T N h
  cases h
  exact ⟨⟨tyX2, tyX2_ok, rfl⟩, nmX2, rfl, rfl⟩
theorem fR_4_0 : mj_fr 4 0 (.object "CommandLink$Common") true := by
  intro C T N h
  cases h
  exact ⟨⟨tyX3, tyX3_ok, rfl⟩, nmX3, rfl, rfl⟩
theorem fR_4_1 : mj_fr 4 1 (.object "CommandLink$Ledger") true := by
  intro C T N h
  cases h
  exact ⟨⟨tyX3, tyX3_ok, rfl⟩, nmX3, rfl, rfl⟩
theorem fR_4_2 : mj_fr 4 2 (.object "CommandLink$Diary") true := by
  intro C T N h
  cases h
  exact ⟨⟨tyX3, tyX3_ok, rfl⟩, nmX3, rfl, rfl⟩
theorem fR_4_3 : mj_fr 4 3 (.object "CommandLink$Receiver") true := by
  intro C T N h
  cases h
  exact ⟨⟨tyX3, tyX3_ok, rfl⟩, nmX3, rfl, rfl⟩
theorem fR_4_4 : mj_fr 4 4 (.object "CommandLink$Sender") true := by
  intro C T N h
  cases h
  exact ⟨⟨tyX3, tyX3_ok, rfl⟩, nmX3, rfl, rfl⟩
theorem fR_4_5 : mj_fr 4 5 (.object "CommandLink$Way") true := by
  intro C T N h
  cases h
  exact ⟨⟨tyX3, tyX3_ok, rfl⟩, nmX3, rfl, rfl⟩
theorem fR_4_6 : mj_fr 4 6 (.object "CommandLink$Way") true := by
  intro C T N h
  cases h
  exact ⟨⟨tyX3, tyX3_ok, rfl⟩, nmX3, rfl, rfl⟩
theorem fR_4_7 : mj_fr 4 7 (.object "CommandLink$Plan") true := by
  intro C T N h
  cases h
  exact ⟨⟨tyX3, tyX3_ok, rfl⟩, nmX3, rfl, rfl⟩
theorem fR_5_0 : mj_fr 5 0 (.array .int) true := by
  intro C T N h
  cases h
  exact ⟨⟨tyX4, tyX4_ok, rfl⟩, nmX4, rfl, rfl⟩
theorem fR_5_1 : mj_fr 5 1 (.array .int) true := by
  intro C T N h
  cases h
  exact ⟨⟨tyX4, tyX4_ok, rfl⟩, nmX4, rfl, rfl⟩
theorem fR_5_2 : mj_fr 5 2 .int false := by
  intro C T N h
  cases h
  exact ⟨⟨tyX4, tyX4_ok, rfl⟩, nmX4, rfl, rfl⟩
theorem fR_5_3 : mj_fr 5 3 .int false := by
  intro C T N h
  cases h
  exact ⟨⟨tyX4, tyX4_ok, rfl⟩, nmX4, rfl, rfl⟩
theorem fR_6_0 : mj_fr 6 0 (.array .int) true := by
  intro C T N h
  cases h
  exact ⟨⟨tyX5, tyX5_ok, rfl⟩, nmX5, rfl, rfl⟩
theorem fR_6_1 : mj_fr 6 1 .int false := by
  intro C T N h
  cases h
  exact ⟨⟨tyX5, tyX5_ok, rfl⟩, nmX5, rfl, rfl⟩
theorem fR_6_2 : mj_fr 6 2 (.object "CommandLink$Plan") true := by
  intro C T N h
  cases h
  exact ⟨⟨tyX5, tyX5_ok, rfl⟩, nmX5, rfl, rfl⟩
theorem fR_6_3 : mj_fr 6 3 .int false := by
  intro C T N h
  cases h
  exact ⟨⟨tyX5, tyX5_ok, rfl⟩, nmX5, rfl, rfl⟩
theorem fR_6_4 : mj_fr 6 4 .int false := by
  intro C T N h
  cases h
  exact ⟨⟨tyX5, tyX5_ok, rfl⟩, nmX5, rfl, rfl⟩
theorem fR_6_5 : mj_fr 6 5 .int false := by
  intro C T N h
  cases h
  exact ⟨⟨tyX5, tyX5_ok, rfl⟩, nmX5, rfl, rfl⟩
theorem fR_6_6 : mj_fr 6 6 .int false := by
  intro C T N h
  cases h
  exact ⟨⟨tyX5, tyX5_ok, rfl⟩, nmX5, rfl, rfl⟩
theorem fR_6_7 : mj_fr 6 7 .int false := by
  intro C T N h
  cases h
  exact ⟨⟨tyX5, tyX5_ok, rfl⟩, nmX5, rfl, rfl⟩
theorem fR_6_8 : mj_fr 6 8 .int false := by
  intro C T N h
  cases h
  exact ⟨⟨tyX5, tyX5_ok, rfl⟩, nmX5, rfl, rfl⟩
theorem fR_7_0 : mj_fr 7 0 (.object "CommandLink$Common") true := by
  intro C T N h
  cases h
  exact ⟨⟨tyX6, tyX6_ok, rfl⟩, nmX6, rfl, rfl⟩
theorem fR_7_1 : mj_fr 7 1 (.object "CommandLink$Ledger") true := by
  intro C T N h
  cases h
  exact ⟨⟨tyX6, tyX6_ok, rfl⟩, nmX6, rfl, rfl⟩
theorem fR_7_2 : mj_fr 7 2 .int false := by
  intro C T N h
  cases h
  exact ⟨⟨tyX6, tyX6_ok, rfl⟩, nmX6, rfl, rfl⟩
theorem fR_7_3 : mj_fr 7 3 .boolean false := by
  intro C T N h
  cases h
  exact ⟨⟨tyX6, tyX6_ok, rfl⟩, nmX6, rfl, rfl⟩
theorem fR_7_4 : mj_fr 7 4 .boolean false := by
  intro C T N h
  cases h
  exact ⟨⟨tyX6, tyX6_ok, rfl⟩, nmX6, rfl, rfl⟩
theorem fR_7_5 : mj_fr 7 5 .boolean false := by
  intro C T N h
  cases h
  exact ⟨⟨tyX6, tyX6_ok, rfl⟩, nmX6, rfl, rfl⟩
theorem fR_7_6 : mj_fr 7 6 .int false := by
  intro C T N h
  cases h
  exact ⟨⟨tyX6, tyX6_ok, rfl⟩, nmX6, rfl, rfl⟩
theorem fR_7_7 : mj_fr 7 7 (.object "CommandLink$Row") true := by
  intro C T N h
  cases h
  exact ⟨⟨tyX6, tyX6_ok, rfl⟩, nmX6, rfl, rfl⟩
theorem fR_7_8 : mj_fr 7 8 (.array .int) true := by
  intro C T N h
  cases h
  exact ⟨⟨tyX6, tyX6_ok, rfl⟩, nmX6, rfl, rfl⟩
theorem fR_7_9 : mj_fr 7 9 .int false := by
  intro C T N h
  cases h
  exact ⟨⟨tyX6, tyX6_ok, rfl⟩, nmX6, rfl, rfl⟩
theorem fR_7_10 : mj_fr 7 10 (.array .int) true := by
  intro C T N h
  cases h
  exact ⟨⟨tyX6, tyX6_ok, rfl⟩, nmX6, rfl, rfl⟩
theorem fR_7_11 : mj_fr 7 11 .int false := by
  intro C T N h
  cases h
  exact ⟨⟨tyX6, tyX6_ok, rfl⟩, nmX6, rfl, rfl⟩
theorem fR_7_12 : mj_fr 7 12 .int false := by
  intro C T N h
  cases h
  exact ⟨⟨tyX6, tyX6_ok, rfl⟩, nmX6, rfl, rfl⟩
theorem fR_8_0 : mj_fr 8 0 (.array .int) true := by
  intro C T N h
  cases h
  exact ⟨⟨tyX7, tyX7_ok, rfl⟩, nmX7, rfl, rfl⟩
theorem fR_8_1 : mj_fr 8 1 (.array .int) true := by
  intro C T N h
  cases h
  exact ⟨⟨tyX7, tyX7_ok, rfl⟩, nmX7, rfl, rfl⟩
theorem fR_8_2 : mj_fr 8 2 (.array .int) true := by
  intro C T N h
  cases h
  exact ⟨⟨tyX7, tyX7_ok, rfl⟩, nmX7, rfl, rfl⟩
theorem fR_8_3 : mj_fr 8 3 (.array .int) true := by
  intro C T N h
  cases h
  exact ⟨⟨tyX7, tyX7_ok, rfl⟩, nmX7, rfl, rfl⟩
theorem fR_8_4 : mj_fr 8 4 .int false := by
  intro C T N h
  cases h
  exact ⟨⟨tyX7, tyX7_ok, rfl⟩, nmX7, rfl, rfl⟩
theorem fR_9_0 : mj_fr 9 0 (.object "CommandLink$Common") true := by
  intro C T N h
  cases h
  exact ⟨⟨tyX8, tyX8_ok, rfl⟩, nmX8, rfl, rfl⟩
theorem fR_9_1 : mj_fr 9 1 (.object "CommandLink$Ledger") true := by
  intro C T N h
  cases h
  exact ⟨⟨tyX8, tyX8_ok, rfl⟩, nmX8, rfl, rfl⟩
theorem fR_9_2 : mj_fr 9 2 (.object "CommandLink$Diary") true := by
  intro C T N h
  cases h
  exact ⟨⟨tyX8, tyX8_ok, rfl⟩, nmX8, rfl, rfl⟩
theorem fR_9_3 : mj_fr 9 3 (.object "CommandLink$Row") true := by
  intro C T N h
  cases h
  exact ⟨⟨tyX8, tyX8_ok, rfl⟩, nmX8, rfl, rfl⟩
theorem fR_9_4 : mj_fr 9 4 (.object "CommandLink$Row") true := by
  intro C T N h
  cases h
  exact ⟨⟨tyX8, tyX8_ok, rfl⟩, nmX8, rfl, rfl⟩
theorem fR_9_5 : mj_fr 9 5 (.object "CommandLink$Row") true := by
  intro C T N h
  cases h
  exact ⟨⟨tyX8, tyX8_ok, rfl⟩, nmX8, rfl, rfl⟩
theorem fR_9_6 : mj_fr 9 6 .int false := by
  intro C T N h
  cases h
  exact ⟨⟨tyX8, tyX8_ok, rfl⟩, nmX8, rfl, rfl⟩
theorem fR_9_7 : mj_fr 9 7 .int false := by
  intro C T N h
  cases h
  exact ⟨⟨tyX8, tyX8_ok, rfl⟩, nmX8, rfl, rfl⟩
theorem fR_9_8 : mj_fr 9 8 .int false := by
  intro C T N h
  cases h
  exact ⟨⟨tyX8, tyX8_ok, rfl⟩, nmX8, rfl, rfl⟩
theorem fR_9_9 : mj_fr 9 9 .int false := by
  intro C T N h
  cases h
  exact ⟨⟨tyX8, tyX8_ok, rfl⟩, nmX8, rfl, rfl⟩
theorem fR_9_10 : mj_fr 9 10 .int false := by
  intro C T N h
  cases h
  exact ⟨⟨tyX8, tyX8_ok, rfl⟩, nmX8, rfl, rfl⟩
theorem fR_9_11 : mj_fr 9 11 .int false := by
  intro C T N h
  cases h
  exact ⟨⟨tyX8, tyX8_ok, rfl⟩, nmX8, rfl, rfl⟩
theorem fR_9_12 : mj_fr 9 12 .int false := by
  intro C T N h
  cases h
  exact ⟨⟨tyX8, tyX8_ok, rfl⟩, nmX8, rfl, rfl⟩
theorem fR_9_13 : mj_fr 9 13 .boolean false := by
  intro C T N h
  cases h
  exact ⟨⟨tyX8, tyX8_ok, rfl⟩, nmX8, rfl, rfl⟩
theorem fR_9_14 : mj_fr 9 14 .int false := by
  intro C T N h
  cases h
  exact ⟨⟨tyX8, tyX8_ok, rfl⟩, nmX8, rfl, rfl⟩
theorem fR_9_15 : mj_fr 9 15 .int false := by
  intro C T N h
  cases h
  exact ⟨⟨tyX8, tyX8_ok, rfl⟩, nmX8, rfl, rfl⟩
theorem fR_10_0 : mj_fr 10 0 (.object "CommandLink$Common") true := by
  intro C T N h
  cases h
  exact ⟨⟨tyX9, tyX9_ok, rfl⟩, nmX9, rfl, rfl⟩
theorem fR_10_1 : mj_fr 10 1 .int true := by
  intro C T N h
  cases h
  exact ⟨⟨tyX9, tyX9_ok, rfl⟩, nmX9, rfl, rfl⟩
theorem fR_10_2 : mj_fr 10 2 .int true := by
  intro C T N h
  cases h
  exact ⟨⟨tyX9, tyX9_ok, rfl⟩, nmX9, rfl, rfl⟩
theorem fR_10_3 : mj_fr 10 3 (.array .int) true := by
  intro C T N h
  cases h
  exact ⟨⟨tyX9, tyX9_ok, rfl⟩, nmX9, rfl, rfl⟩
theorem fR_10_4 : mj_fr 10 4 (.array .int) true := by
  intro C T N h
  cases h
  exact ⟨⟨tyX9, tyX9_ok, rfl⟩, nmX9, rfl, rfl⟩
theorem fR_10_5 : mj_fr 10 5 (.array .int) true := by
  intro C T N h
  cases h
  exact ⟨⟨tyX9, tyX9_ok, rfl⟩, nmX9, rfl, rfl⟩
theorem fR_10_6 : mj_fr 10 6 (.array .int) true := by
  intro C T N h
  cases h
  exact ⟨⟨tyX9, tyX9_ok, rfl⟩, nmX9, rfl, rfl⟩
theorem fR_10_7 : mj_fr 10 7 .int false := by
  intro C T N h
  cases h
  exact ⟨⟨tyX9, tyX9_ok, rfl⟩, nmX9, rfl, rfl⟩
theorem fR_10_8 : mj_fr 10 8 .int false := by
  intro C T N h
  cases h
  exact ⟨⟨tyX9, tyX9_ok, rfl⟩, nmX9, rfl, rfl⟩
theorem fR_10_9 : mj_fr 10 9 .int false := by
  intro C T N h
  cases h
  exact ⟨⟨tyX9, tyX9_ok, rfl⟩, nmX9, rfl, rfl⟩
theorem fR_10_10 : mj_fr 10 10 .int false := by
  intro C T N h
  cases h
  exact ⟨⟨tyX9, tyX9_ok, rfl⟩, nmX9, rfl, rfl⟩
theorem fR_11_0 : mj_fr 11 0 (.object "CommandLink$Link") true := by
  intro C T N h
  cases h
  exact ⟨⟨tyX10, tyX10_ok, rfl⟩, nmX10, rfl, rfl⟩
theorem fR_11_1 : mj_fr 11 1 (.object "CommandLink$Link") true := by
  intro C T N h
  cases h
  exact ⟨⟨tyX10, tyX10_ok, rfl⟩, nmX10, rfl, rfl⟩
theorem fR_11_2 : mj_fr 11 2 (.object "CommandLink$Link") true := by
  intro C T N h
  cases h
  exact ⟨⟨tyX10, tyX10_ok, rfl⟩, nmX10, rfl, rfl⟩
theorem fR_11_3 : mj_fr 11 3 .boolean false := by
  intro C T N h
  cases h
  exact ⟨⟨tyX10, tyX10_ok, rfl⟩, nmX10, rfl, rfl⟩
theorem fR_11_4 : mj_fr 11 4 (.object "CommandLink$Reader") true := by
  intro C T N h
  cases h
  exact ⟨⟨tyX10, tyX10_ok, rfl⟩, nmX10, rfl, rfl⟩
theorem fR_11_5 : mj_fr 11 5 (.object "java/lang/StringBuilder") true := by
  intro C T N h
  cases h
  exact ⟨⟨tyX10, tyX10_ok, rfl⟩, nmX10, rfl, rfl⟩
theorem fR_12_0 : mj_fr 12 0 .int false := by
  intro C T N h
  cases h
  exact ⟨⟨tyX11, tyX11_ok, rfl⟩, nmX11, rfl, rfl⟩
theorem fR_12_1 : mj_fr 12 1 (.array .int) true := by
  intro C T N h
  cases h
  exact ⟨⟨tyX11, tyX11_ok, rfl⟩, nmX11, rfl, rfl⟩
theorem fR_12_2 : mj_fr 12 2 (.array .int) true := by
  intro C T N h
  cases h
  exact ⟨⟨tyX11, tyX11_ok, rfl⟩, nmX11, rfl, rfl⟩
theorem fR_12_3 : mj_fr 12 3 (.array .int) true := by
  intro C T N h
  cases h
  exact ⟨⟨tyX11, tyX11_ok, rfl⟩, nmX11, rfl, rfl⟩
theorem fR_12_4 : mj_fr 12 4 .int false := by
  intro C T N h
  cases h
  exact ⟨⟨tyX11, tyX11_ok, rfl⟩, nmX11, rfl, rfl⟩
theorem fR_12_5 : mj_fr 12 5 (.array .int) true := by
  intro C T N h
  cases h
  exact ⟨⟨tyX11, tyX11_ok, rfl⟩, nmX11, rfl, rfl⟩
theorem fR_12_6 : mj_fr 12 6 (.array .int) true := by
  intro C T N h
  cases h
  exact ⟨⟨tyX11, tyX11_ok, rfl⟩, nmX11, rfl, rfl⟩
theorem fR_12_7 : mj_fr 12 7 .int false := by
  intro C T N h
  cases h
  exact ⟨⟨tyX11, tyX11_ok, rfl⟩, nmX11, rfl, rfl⟩
theorem fR_12_8 : mj_fr 12 8 (.array .int) true := by
  intro C T N h
  cases h
  exact ⟨⟨tyX11, tyX11_ok, rfl⟩, nmX11, rfl, rfl⟩
theorem fR_12_9 : mj_fr 12 9 .int false := by
  intro C T N h
  cases h
  exact ⟨⟨tyX11, tyX11_ok, rfl⟩, nmX11, rfl, rfl⟩
theorem fR_12_10 : mj_fr 12 10 .int false := by
  intro C T N h
  cases h
  exact ⟨⟨tyX11, tyX11_ok, rfl⟩, nmX11, rfl, rfl⟩
theorem fR_12_11 : mj_fr 12 11 .int false := by
  intro C T N h
  cases h
  exact ⟨⟨tyX11, tyX11_ok, rfl⟩, nmX11, rfl, rfl⟩
theorem fR_12_12 : mj_fr 12 12 .int false := by
  intro C T N h
  cases h
  exact ⟨⟨tyX11, tyX11_ok, rfl⟩, nmX11, rfl, rfl⟩
theorem fR_12_13 : mj_fr 12 13 .int false := by
  intro C T N h
  cases h
  exact ⟨⟨tyX11, tyX11_ok, rfl⟩, nmX11, rfl, rfl⟩
theorem fR_12_14 : mj_fr 12 14 (.array .int) true := by
  intro C T N h
  cases h
  exact ⟨⟨tyX11, tyX11_ok, rfl⟩, nmX11, rfl, rfl⟩
theorem fR_12_15 : mj_fr 12 15 .int false := by
  intro C T N h
  cases h
  exact ⟨⟨tyX11, tyX11_ok, rfl⟩, nmX11, rfl, rfl⟩
theorem fR_12_16 : mj_fr 12 16 .int false := by
  intro C T N h
  cases h
  exact ⟨⟨tyX11, tyX11_ok, rfl⟩, nmX11, rfl, rfl⟩
theorem fR_12_17 : mj_fr 12 17 .int false := by
  intro C T N h
  cases h
  exact ⟨⟨tyX11, tyX11_ok, rfl⟩, nmX11, rfl, rfl⟩
theorem fR_12_18 : mj_fr 12 18 .int false := by
  intro C T N h
  cases h
  exact ⟨⟨tyX11, tyX11_ok, rfl⟩, nmX11, rfl, rfl⟩
theorem fR_12_19 : mj_fr 12 19 .int false := by
  intro C T N h
  cases h
  exact ⟨⟨tyX11, tyX11_ok, rfl⟩, nmX11, rfl, rfl⟩
theorem fR_12_20 : mj_fr 12 20 (.array .int) true := by
  intro C T N h
  cases h
  exact ⟨⟨tyX11, tyX11_ok, rfl⟩, nmX11, rfl, rfl⟩
theorem fR_12_21 : mj_fr 12 21 .boolean false := by
  intro C T N h
  cases h
  exact ⟨⟨tyX11, tyX11_ok, rfl⟩, nmX11, rfl, rfl⟩
theorem fR_12_22 : mj_fr 12 22 (.array .int) true := by
  intro C T N h
  cases h
  exact ⟨⟨tyX11, tyX11_ok, rfl⟩, nmX11, rfl, rfl⟩
theorem dX7_init_0 : decode cX7_init 0 = .ok (.aload_n 0, 1) := by decide +kernel
theorem dX7_init_1 : decode cX7_init 1 = .ok (.invokespecial 3, 3) := by decide +kernel
theorem dX7_init_4 : decode cX7_init 4 = .ok (.aload_n 0, 1) := by decide +kernel
theorem dX7_init_5 : decode cX7_init 5 = .ok (.bipush 20, 2) := by decide +kernel
theorem dX7_init_7 : decode cX7_init 7 = .ok (.newarray .int, 2) := by decide +kernel
theorem dX7_init_9 : decode cX7_init 9 = .ok (.putfield 11, 3) := by decide +kernel
theorem dX7_init_12 : decode cX7_init 12 = .ok (.aload_n 0, 1) := by decide +kernel
theorem dX7_init_13 : decode cX7_init 13 = .ok (.bipush 20, 2) := by decide +kernel
theorem dX7_init_15 : decode cX7_init 15 = .ok (.newarray .int, 2) := by decide +kernel
theorem dX7_init_17 : decode cX7_init 17 = .ok (.putfield 15, 3) := by decide +kernel
theorem dX7_init_20 : decode cX7_init 20 = .ok (.aload_n 0, 1) := by decide +kernel
theorem dX7_init_21 : decode cX7_init 21 = .ok (.bipush 20, 2) := by decide +kernel
theorem dX7_init_23 : decode cX7_init 23 = .ok (.newarray .int, 2) := by decide +kernel
theorem dX7_init_25 : decode cX7_init 25 = .ok (.putfield 18, 3) := by decide +kernel
theorem dX7_init_28 : decode cX7_init 28 = .ok (.aload_n 0, 1) := by decide +kernel
theorem dX7_init_29 : decode cX7_init 29 = .ok (.bipush 20, 2) := by decide +kernel
theorem dX7_init_31 : decode cX7_init 31 = .ok (.newarray .int, 2) := by decide +kernel
theorem dX7_init_33 : decode cX7_init 33 = .ok (.putfield 21, 3) := by decide +kernel
theorem dX7_init_36 : decode cX7_init 36 = .ok (.aload_n 0, 1) := by decide +kernel
theorem dX7_init_37 : decode cX7_init 37 = .ok (.iconst 0, 1) := by decide +kernel
theorem dX7_init_38 : decode cX7_init 38 = .ok (.putfield 24, 3) := by decide +kernel
theorem dX7_init_41 : decode cX7_init 41 = .ok (.return_, 1) := by decide +kernel
theorem dX4_init_0 : decode cX4_init 0 = .ok (.aload_n 0, 1) := by decide +kernel
theorem dX4_init_1 : decode cX4_init 1 = .ok (.invokespecial 3, 3) := by decide +kernel
theorem dX4_init_4 : decode cX4_init 4 = .ok (.aload_n 0, 1) := by decide +kernel
theorem dX4_init_5 : decode cX4_init 5 = .ok (.bipush 24, 2) := by decide +kernel
theorem dX4_init_7 : decode cX4_init 7 = .ok (.newarray .int, 2) := by decide +kernel
theorem dX4_init_9 : decode cX4_init 9 = .ok (.putfield 9, 3) := by decide +kernel
theorem dX4_init_12 : decode cX4_init 12 = .ok (.aload_n 0, 1) := by decide +kernel
theorem dX4_init_13 : decode cX4_init 13 = .ok (.bipush 24, 2) := by decide +kernel
theorem dX4_init_15 : decode cX4_init 15 = .ok (.newarray .int, 2) := by decide +kernel
theorem dX4_init_17 : decode cX4_init 17 = .ok (.putfield 15, 3) := by decide +kernel
theorem dX4_init_20 : decode cX4_init 20 = .ok (.aload_n 0, 1) := by decide +kernel
theorem dX4_init_21 : decode cX4_init 21 = .ok (.iconst 0, 1) := by decide +kernel
theorem dX4_init_22 : decode cX4_init 22 = .ok (.putfield 18, 3) := by decide +kernel
theorem dX4_init_25 : decode cX4_init 25 = .ok (.aload_n 0, 1) := by decide +kernel
theorem dX4_init_26 : decode cX4_init 26 = .ok (.iconst 0, 1) := by decide +kernel
theorem dX4_init_27 : decode cX4_init 27 = .ok (.putfield 22, 3) := by decide +kernel
theorem dX4_init_30 : decode cX4_init 30 = .ok (.return_, 1) := by decide +kernel
theorem dX2_init_0 : decode cX2_init 0 = .ok (.aload_n 0, 1) := by decide +kernel
theorem dX2_init_1 : decode cX2_init 1 = .ok (.invokespecial 3, 3) := by decide +kernel
theorem dX2_init_4 : decode cX2_init 4 = .ok (.aload_n 0, 1) := by decide +kernel
theorem dX2_init_5 : decode cX2_init 5 = .ok (.sipush 700, 3) := by decide +kernel
theorem dX2_init_8 : decode cX2_init 8 = .ok (.newarray .int, 2) := by decide +kernel
theorem dX2_init_10 : decode cX2_init 10 = .ok (.putfield 11, 3) := by decide +kernel
theorem dX2_init_13 : decode cX2_init 13 = .ok (.aload_n 0, 1) := by decide +kernel
theorem dX2_init_14 : decode cX2_init 14 = .ok (.iconst 0, 1) := by decide +kernel
theorem dX2_init_15 : decode cX2_init 15 = .ok (.putfield 15, 3) := by decide +kernel
theorem dX2_init_18 : decode cX2_init 18 = .ok (.aload_n 0, 1) := by decide +kernel
theorem dX2_init_19 : decode cX2_init 19 = .ok (.iconst 0, 1) := by decide +kernel
theorem dX2_init_20 : decode cX2_init 20 = .ok (.putfield 19, 3) := by decide +kernel
theorem dX2_init_23 : decode cX2_init 23 = .ok (.aload_n 0, 1) := by decide +kernel
theorem dX2_init_24 : decode cX2_init 24 = .ok (.aload_n 1, 1) := by decide +kernel
theorem dX2_init_25 : decode cX2_init 25 = .ok (.putfield 22, 3) := by decide +kernel
theorem dX2_init_28 : decode cX2_init 28 = .ok (.return_, 1) := by decide +kernel
theorem dX1_init_0 : decode cX1_init 0 = .ok (.aload_n 0, 1) := by decide +kernel
theorem dX1_init_1 : decode cX1_init 1 = .ok (.invokespecial 3, 3) := by decide +kernel
theorem dX1_init_4 : decode cX1_init 4 = .ok (.aload_n 0, 1) := by decide +kernel
theorem dX1_init_5 : decode cX1_init 5 = .ok (.sipush 240, 3) := by decide +kernel
theorem dX1_init_8 : decode cX1_init 8 = .ok (.newarray .int, 2) := by decide +kernel
theorem dX1_init_10 : decode cX1_init 10 = .ok (.putfield 11, 3) := by decide +kernel
theorem dX1_init_13 : decode cX1_init 13 = .ok (.aload_n 0, 1) := by decide +kernel
theorem dX1_init_14 : decode cX1_init 14 = .ok (.iconst 0, 1) := by decide +kernel
theorem dX1_init_15 : decode cX1_init 15 = .ok (.putfield 15, 3) := by decide +kernel
theorem dX1_init_18 : decode cX1_init 18 = .ok (.aload_n 0, 1) := by decide +kernel
theorem dX1_init_19 : decode cX1_init 19 = .ok (.bipush 60, 2) := by decide +kernel
theorem dX1_init_21 : decode cX1_init 21 = .ok (.newarray .int, 2) := by decide +kernel
theorem dX1_init_23 : decode cX1_init 23 = .ok (.putfield 19, 3) := by decide +kernel
theorem dX1_init_26 : decode cX1_init 26 = .ok (.aload_n 0, 1) := by decide +kernel
theorem dX1_init_27 : decode cX1_init 27 = .ok (.iconst 0, 1) := by decide +kernel
theorem dX1_init_28 : decode cX1_init 28 = .ok (.putfield 22, 3) := by decide +kernel
theorem dX1_init_31 : decode cX1_init 31 = .ok (.aload_n 0, 1) := by decide +kernel
theorem dX1_init_32 : decode cX1_init 32 = .ok (.iconst 0, 1) := by decide +kernel
theorem dX1_init_33 : decode cX1_init 33 = .ok (.putfield 25, 3) := by decide +kernel
theorem dX1_init_36 : decode cX1_init 36 = .ok (.aload_n 0, 1) := by decide +kernel
theorem dX1_init_37 : decode cX1_init 37 = .ok (.bipush 9, 2) := by decide +kernel
theorem dX1_init_39 : decode cX1_init 39 = .ok (.newarray .int, 2) := by decide +kernel
theorem dX1_init_41 : decode cX1_init 41 = .ok (.putfield 28, 3) := by decide +kernel
theorem dX1_init_44 : decode cX1_init 44 = .ok (.aload_n 0, 1) := by decide +kernel
theorem dX1_init_45 : decode cX1_init 45 = .ok (.aload_n 1, 1) := by decide +kernel
theorem dX1_init_46 : decode cX1_init 46 = .ok (.putfield 31, 3) := by decide +kernel
theorem dX1_init_49 : decode cX1_init 49 = .ok (.return_, 1) := by decide +kernel
theorem dX9_init_0 : decode cX9_init 0 = .ok (.aload_n 0, 1) := by decide +kernel
theorem dX9_init_1 : decode cX9_init 1 = .ok (.invokespecial 3, 3) := by decide +kernel
theorem dX9_init_4 : decode cX9_init 4 = .ok (.aload_n 0, 1) := by decide +kernel
theorem dX9_init_5 : decode cX9_init 5 = .ok (.sipush 240, 3) := by decide +kernel
theorem dX9_init_8 : decode cX9_init 8 = .ok (.newarray .int, 2) := by decide +kernel
theorem dX9_init_10 : decode cX9_init 10 = .ok (.putfield 11, 3) := by decide +kernel
theorem dX9_init_13 : decode cX9_init 13 = .ok (.aload_n 0, 1) := by decide +kernel
theorem dX9_init_14 : decode cX9_init 14 = .ok (.bipush 48, 2) := by decide +kernel
theorem dX9_init_16 : decode cX9_init 16 = .ok (.newarray .int, 2) := by decide +kernel
theorem dX9_init_18 : decode cX9_init 18 = .ok (.putfield 15, 3) := by decide +kernel
theorem dX9_init_21 : decode cX9_init 21 = .ok (.aload_n 0, 1) := by decide +kernel
theorem dX9_init_22 : decode cX9_init 22 = .ok (.bipush 48, 2) := by decide +kernel
theorem dX9_init_24 : decode cX9_init 24 = .ok (.newarray .int, 2) := by decide +kernel
theorem dX9_init_26 : decode cX9_init 26 = .ok (.putfield 18, 3) := by decide +kernel
theorem dX9_init_29 : decode cX9_init 29 = .ok (.aload_n 0, 1) := by decide +kernel
theorem dX9_init_30 : decode cX9_init 30 = .ok (.bipush 8, 2) := by decide +kernel
theorem dX9_init_32 : decode cX9_init 32 = .ok (.newarray .int, 2) := by decide +kernel
theorem dX9_init_34 : decode cX9_init 34 = .ok (.putfield 21, 3) := by decide +kernel
theorem dX9_init_37 : decode cX9_init 37 = .ok (.aload_n 0, 1) := by decide +kernel
theorem dX9_init_38 : decode cX9_init 38 = .ok (.iconst 0, 1) := by decide +kernel
theorem dX9_init_39 : decode cX9_init 39 = .ok (.putfield 24, 3) := by decide +kernel
theorem dX9_init_42 : decode cX9_init 42 = .ok (.aload_n 0, 1) := by decide +kernel
theorem dX9_init_43 : decode cX9_init 43 = .ok (.iconst 0, 1) := by decide +kernel
theorem dX9_init_44 : decode cX9_init 44 = .ok (.putfield 28, 3) := by decide +kernel
theorem dX9_init_47 : decode cX9_init 47 = .ok (.aload_n 0, 1) := by decide +kernel
theorem dX9_init_48 : decode cX9_init 48 = .ok (.iconst 0, 1) := by decide +kernel
theorem dX9_init_49 : decode cX9_init 49 = .ok (.putfield 31, 3) := by decide +kernel
theorem dX9_init_52 : decode cX9_init 52 = .ok (.aload_n 0, 1) := by decide +kernel
theorem dX9_init_53 : decode cX9_init 53 = .ok (.iconst 0, 1) := by decide +kernel
theorem dX9_init_54 : decode cX9_init 54 = .ok (.putfield 34, 3) := by decide +kernel
theorem dX9_init_57 : decode cX9_init 57 = .ok (.aload_n 0, 1) := by decide +kernel
theorem dX9_init_58 : decode cX9_init 58 = .ok (.aload_n 1, 1) := by decide +kernel
theorem dX9_init_59 : decode cX9_init 59 = .ok (.putfield 37, 3) := by decide +kernel
theorem dX9_init_62 : decode cX9_init 62 = .ok (.aload_n 0, 1) := by decide +kernel
theorem dX9_init_63 : decode cX9_init 63 = .ok (.iload_n 2, 1) := by decide +kernel
theorem dX9_init_64 : decode cX9_init 64 = .ok (.putfield 41, 3) := by decide +kernel
theorem dX9_init_67 : decode cX9_init 67 = .ok (.aload_n 0, 1) := by decide +kernel
theorem dX9_init_68 : decode cX9_init 68 = .ok (.iload_n 3, 1) := by decide +kernel
theorem dX9_init_69 : decode cX9_init 69 = .ok (.putfield 44, 3) := by decide +kernel
theorem dX9_init_72 : decode cX9_init 72 = .ok (.return_, 1) := by decide +kernel
theorem dX6_init_0 : decode cX6_init 0 = .ok (.aload_n 0, 1) := by decide +kernel
theorem dX6_init_1 : decode cX6_init 1 = .ok (.invokespecial 3, 3) := by decide +kernel
theorem dX6_init_4 : decode cX6_init 4 = .ok (.aload_n 0, 1) := by decide +kernel
theorem dX6_init_5 : decode cX6_init 5 = .ok (.iconst 0, 1) := by decide +kernel
theorem dX6_init_6 : decode cX6_init 6 = .ok (.putfield 9, 3) := by decide +kernel
theorem dX6_init_9 : decode cX6_init 9 = .ok (.aload_n 0, 1) := by decide +kernel
theorem dX6_init_10 : decode cX6_init 10 = .ok (.iconst 0, 1) := by decide +kernel
theorem dX6_init_11 : decode cX6_init 11 = .ok (.putfield 15, 3) := by decide +kernel
theorem dX6_init_14 : decode cX6_init 14 = .ok (.aload_n 0, 1) := by decide +kernel
theorem dX6_init_15 : decode cX6_init 15 = .ok (.iconst 0, 1) := by decide +kernel
theorem dX6_init_16 : decode cX6_init 16 = .ok (.putfield 19, 3) := by decide +kernel
theorem dX6_init_19 : decode cX6_init 19 = .ok (.aload_n 0, 1) := by decide +kernel
theorem dX6_init_20 : decode cX6_init 20 = .ok (.iconst 0, 1) := by decide +kernel
theorem dX6_init_21 : decode cX6_init 21 = .ok (.putfield 22, 3) := by decide +kernel
theorem dX6_init_24 : decode cX6_init 24 = .ok (.aload_n 0, 1) := by decide +kernel
theorem dX6_init_25 : decode cX6_init 25 = .ok (.iconst 0, 1) := by decide +kernel
theorem dX6_init_26 : decode cX6_init 26 = .ok (.putfield 25, 3) := by decide +kernel
theorem dX6_init_29 : decode cX6_init 29 = .ok (.aload_n 0, 1) := by decide +kernel
theorem dX6_init_30 : decode cX6_init 30 = .ok (.new 28, 3) := by decide +kernel
theorem dX6_init_33 : decode cX6_init 33 = .ok (.dup, 1) := by decide +kernel
theorem dX6_init_34 : decode cX6_init 34 = .ok (.invokespecial 30, 3) := by decide +kernel
theorem dX6_init_37 : decode cX6_init 37 = .ok (.putfield 31, 3) := by decide +kernel
theorem dX6_init_40 : decode cX6_init 40 = .ok (.aload_n 0, 1) := by decide +kernel
theorem dX6_init_41 : decode cX6_init 41 = .ok (.bipush 100, 2) := by decide +kernel
theorem dX6_init_43 : decode cX6_init 43 = .ok (.newarray .int, 2) := by decide +kernel
theorem dX6_init_45 : decode cX6_init 45 = .ok (.putfield 35, 3) := by decide +kernel
theorem dX6_init_48 : decode cX6_init 48 = .ok (.aload_n 0, 1) := by decide +kernel
theorem dX6_init_49 : decode cX6_init 49 = .ok (.iconst 0, 1) := by decide +kernel
theorem dX6_init_50 : decode cX6_init 50 = .ok (.putfield 39, 3) := by decide +kernel
theorem dX6_init_53 : decode cX6_init 53 = .ok (.aload_n 0, 1) := by decide +kernel
theorem dX6_init_54 : decode cX6_init 54 = .ok (.bipush 100, 2) := by decide +kernel
theorem dX6_init_56 : decode cX6_init 56 = .ok (.newarray .int, 2) := by decide +kernel
theorem dX6_init_58 : decode cX6_init 58 = .ok (.putfield 42, 3) := by decide +kernel
theorem dX6_init_61 : decode cX6_init 61 = .ok (.aload_n 0, 1) := by decide +kernel
theorem dX6_init_62 : decode cX6_init 62 = .ok (.iconst 0, 1) := by decide +kernel
theorem dX6_init_63 : decode cX6_init 63 = .ok (.putfield 45, 3) := by decide +kernel
theorem dX6_init_66 : decode cX6_init 66 = .ok (.aload_n 0, 1) := by decide +kernel
theorem dX6_init_67 : decode cX6_init 67 = .ok (.iconst 0, 1) := by decide +kernel
theorem dX6_init_68 : decode cX6_init 68 = .ok (.putfield 48, 3) := by decide +kernel
theorem dX6_init_71 : decode cX6_init 71 = .ok (.aload_n 0, 1) := by decide +kernel
theorem dX6_init_72 : decode cX6_init 72 = .ok (.aload_n 1, 1) := by decide +kernel
theorem dX6_init_73 : decode cX6_init 73 = .ok (.putfield 51, 3) := by decide +kernel
theorem dX6_init_76 : decode cX6_init 76 = .ok (.aload_n 0, 1) := by decide +kernel
theorem dX6_init_77 : decode cX6_init 77 = .ok (.aload_n 2, 1) := by decide +kernel
theorem dX6_init_78 : decode cX6_init 78 = .ok (.putfield 55, 3) := by decide +kernel
theorem dX6_init_81 : decode cX6_init 81 = .ok (.return_, 1) := by decide +kernel
theorem dX8_init_0 : decode cX8_init 0 = .ok (.aload_n 0, 1) := by decide +kernel
theorem dX8_init_1 : decode cX8_init 1 = .ok (.invokespecial 3, 3) := by decide +kernel
theorem dX8_init_4 : decode cX8_init 4 = .ok (.aload_n 0, 1) := by decide +kernel
theorem dX8_init_5 : decode cX8_init 5 = .ok (.new 9, 3) := by decide +kernel
theorem dX8_init_8 : decode cX8_init 8 = .ok (.dup, 1) := by decide +kernel
theorem dX8_init_9 : decode cX8_init 9 = .ok (.invokespecial 11, 3) := by decide +kernel
theorem dX8_init_12 : decode cX8_init 12 = .ok (.putfield 12, 3) := by decide +kernel
theorem dX8_init_15 : decode cX8_init 15 = .ok (.aload_n 0, 1) := by decide +kernel
theorem dX8_init_16 : decode cX8_init 16 = .ok (.new 9, 3) := by decide +kernel
theorem dX8_init_19 : decode cX8_init 19 = .ok (.dup, 1) := by decide +kernel
theorem dX8_init_20 : decode cX8_init 20 = .ok (.invokespecial 11, 3) := by decide +kernel
theorem dX8_init_23 : decode cX8_init 23 = .ok (.putfield 18, 3) := by decide +kernel
theorem dX8_init_26 : decode cX8_init 26 = .ok (.aload_n 0, 1) := by decide +kernel
theorem dX8_init_27 : decode cX8_init 27 = .ok (.new 9, 3) := by decide +kernel
theorem dX8_init_30 : decode cX8_init 30 = .ok (.dup, 1) := by decide +kernel
theorem dX8_init_31 : decode cX8_init 31 = .ok (.invokespecial 11, 3) := by decide +kernel
theorem dX8_init_34 : decode cX8_init 34 = .ok (.putfield 21, 3) := by decide +kernel
theorem dX8_init_37 : decode cX8_init 37 = .ok (.aload_n 0, 1) := by decide +kernel
theorem dX8_init_38 : decode cX8_init 38 = .ok (.bipush 6, 2) := by decide +kernel
theorem dX8_init_40 : decode cX8_init 40 = .ok (.putfield 24, 3) := by decide +kernel
theorem dX8_init_43 : decode cX8_init 43 = .ok (.aload_n 0, 1) := by decide +kernel
theorem dX8_init_44 : decode cX8_init 44 = .ok (.iconst 0, 1) := by decide +kernel
theorem dX8_init_45 : decode cX8_init 45 = .ok (.putfield 28, 3) := by decide +kernel
theorem dX8_init_48 : decode cX8_init 48 = .ok (.aload_n 0, 1) := by decide +kernel
theorem dX8_init_49 : decode cX8_init 49 = .ok (.iconst 0, 1) := by decide +kernel
theorem dX8_init_50 : decode cX8_init 50 = .ok (.putfield 31, 3) := by decide +kernel
theorem dX8_init_53 : decode cX8_init 53 = .ok (.aload_n 0, 1) := by decide +kernel
theorem dX8_init_54 : decode cX8_init 54 = .ok (.iconst 0, 1) := by decide +kernel
theorem dX8_init_55 : decode cX8_init 55 = .ok (.putfield 34, 3) := by decide +kernel
theorem dX8_init_58 : decode cX8_init 58 = .ok (.aload_n 0, 1) := by decide +kernel
theorem dX8_init_59 : decode cX8_init 59 = .ok (.iconst 0, 1) := by decide +kernel
theorem dX8_init_60 : decode cX8_init 60 = .ok (.putfield 37, 3) := by decide +kernel
theorem dX8_init_63 : decode cX8_init 63 = .ok (.aload_n 0, 1) := by decide +kernel
theorem dX8_init_64 : decode cX8_init 64 = .ok (.iconst 0, 1) := by decide +kernel
theorem dX8_init_65 : decode cX8_init 65 = .ok (.putfield 40, 3) := by decide +kernel
theorem dX8_init_68 : decode cX8_init 68 = .ok (.aload_n 0, 1) := by decide +kernel
theorem dX8_init_69 : decode cX8_init 69 = .ok (.iconst (-1), 1) := by decide +kernel
theorem dX8_init_70 : decode cX8_init 70 = .ok (.putfield 43, 3) := by decide +kernel
theorem dX8_init_73 : decode cX8_init 73 = .ok (.aload_n 0, 1) := by decide +kernel
theorem dX8_init_74 : decode cX8_init 74 = .ok (.iconst 0, 1) := by decide +kernel
theorem dX8_init_75 : decode cX8_init 75 = .ok (.putfield 46, 3) := by decide +kernel
theorem dX8_init_78 : decode cX8_init 78 = .ok (.aload_n 0, 1) := by decide +kernel
theorem dX8_init_79 : decode cX8_init 79 = .ok (.iconst (-1), 1) := by decide +kernel
theorem dX8_init_80 : decode cX8_init 80 = .ok (.putfield 50, 3) := by decide +kernel
theorem dX8_init_83 : decode cX8_init 83 = .ok (.aload_n 0, 1) := by decide +kernel
theorem dX8_init_84 : decode cX8_init 84 = .ok (.iconst 0, 1) := by decide +kernel
theorem dX8_init_85 : decode cX8_init 85 = .ok (.putfield 53, 3) := by decide +kernel
theorem dX8_init_88 : decode cX8_init 88 = .ok (.aload_n 0, 1) := by decide +kernel
theorem dX8_init_89 : decode cX8_init 89 = .ok (.aload_n 1, 1) := by decide +kernel
theorem dX8_init_90 : decode cX8_init 90 = .ok (.putfield 56, 3) := by decide +kernel
theorem dX8_init_93 : decode cX8_init 93 = .ok (.aload_n 0, 1) := by decide +kernel
theorem dX8_init_94 : decode cX8_init 94 = .ok (.aload_n 2, 1) := by decide +kernel
theorem dX8_init_95 : decode cX8_init 95 = .ok (.putfield 60, 3) := by decide +kernel
theorem dX8_init_98 : decode cX8_init 98 = .ok (.aload_n 0, 1) := by decide +kernel
theorem dX8_init_99 : decode cX8_init 99 = .ok (.aload_n 3, 1) := by decide +kernel
theorem dX8_init_100 : decode cX8_init 100 = .ok (.putfield 64, 3) := by decide +kernel
theorem dX8_init_103 : decode cX8_init 103 = .ok (.return_, 1) := by decide +kernel
theorem dX5_init_0 : decode cX5_init 0 = .ok (.aload_n 0, 1) := by decide +kernel
theorem dX5_init_1 : decode cX5_init 1 = .ok (.invokespecial 3, 3) := by decide +kernel
theorem dX5_init_4 : decode cX5_init 4 = .ok (.aload_n 0, 1) := by decide +kernel
theorem dX5_init_5 : decode cX5_init 5 = .ok (.sipush 400, 3) := by decide +kernel
theorem dX5_init_8 : decode cX5_init 8 = .ok (.newarray .int, 2) := by decide +kernel
theorem dX5_init_10 : decode cX5_init 10 = .ok (.putfield 11, 3) := by decide +kernel
theorem dX5_init_13 : decode cX5_init 13 = .ok (.aload_n 0, 1) := by decide +kernel
theorem dX5_init_14 : decode cX5_init 14 = .ok (.iconst 0, 1) := by decide +kernel
theorem dX5_init_15 : decode cX5_init 15 = .ok (.putfield 15, 3) := by decide +kernel
theorem dX5_init_18 : decode cX5_init 18 = .ok (.aload_n 0, 1) := by decide +kernel
theorem dX5_init_19 : decode cX5_init 19 = .ok (.new 19, 3) := by decide +kernel
theorem dX5_init_22 : decode cX5_init 22 = .ok (.dup, 1) := by decide +kernel
theorem dX5_init_23 : decode cX5_init 23 = .ok (.invokespecial 21, 3) := by decide +kernel
theorem dX5_init_26 : decode cX5_init 26 = .ok (.putfield 22, 3) := by decide +kernel
theorem dX5_init_29 : decode cX5_init 29 = .ok (.aload_n 0, 1) := by decide +kernel
theorem dX5_init_30 : decode cX5_init 30 = .ok (.iconst 0, 1) := by decide +kernel
theorem dX5_init_31 : decode cX5_init 31 = .ok (.putfield 26, 3) := by decide +kernel
theorem dX5_init_34 : decode cX5_init 34 = .ok (.aload_n 0, 1) := by decide +kernel
theorem dX5_init_35 : decode cX5_init 35 = .ok (.iconst (-1), 1) := by decide +kernel
theorem dX5_init_36 : decode cX5_init 36 = .ok (.putfield 29, 3) := by decide +kernel
theorem dX5_init_39 : decode cX5_init 39 = .ok (.aload_n 0, 1) := by decide +kernel
theorem dX5_init_40 : decode cX5_init 40 = .ok (.iconst 0, 1) := by decide +kernel
theorem dX5_init_41 : decode cX5_init 41 = .ok (.putfield 32, 3) := by decide +kernel
theorem dX5_init_44 : decode cX5_init 44 = .ok (.aload_n 0, 1) := by decide +kernel
theorem dX5_init_45 : decode cX5_init 45 = .ok (.iconst 0, 1) := by decide +kernel
theorem dX5_init_46 : decode cX5_init 46 = .ok (.putfield 35, 3) := by decide +kernel
theorem dX5_init_49 : decode cX5_init 49 = .ok (.aload_n 0, 1) := by decide +kernel
theorem dX5_init_50 : decode cX5_init 50 = .ok (.iconst 0, 1) := by decide +kernel
theorem dX5_init_51 : decode cX5_init 51 = .ok (.putfield 38, 3) := by decide +kernel
theorem dX5_init_54 : decode cX5_init 54 = .ok (.aload_n 0, 1) := by decide +kernel
theorem dX5_init_55 : decode cX5_init 55 = .ok (.iconst 0, 1) := by decide +kernel
theorem dX5_init_56 : decode cX5_init 56 = .ok (.putfield 41, 3) := by decide +kernel
theorem dX5_init_59 : decode cX5_init 59 = .ok (.return_, 1) := by decide +kernel
set_option maxHeartbeats 8000000 in
set_option maxRecDepth 40000 in
theorem K_X7_init {cI : mj_I} {a0 : Nat} : mx_Sem cI yX7_init cX7_init 1 none 1 4 80 [mj_o (some a0)] [(a0, .inr (8, [.null, .null, .null, .null, .int 0]))] (fun r Y' => r = none ∧ ∃ q1 q2 q3 q4 : Nat, Y' = [(a0, .inr (8, [.ref q1, .ref q2, .ref q3, .ref q4, .int 0])), (q1, .inl (cI.1, 20, .inl (fun _ => 0))), (q2, .inl (cI.1, 20, .inl (fun _ => 0))), (q3, .inl (cI.1, 20, .inl (fun _ => 0))), (q4, .inl (cI.1, 20, .inl (fun _ => 0)))]) := by
  refine mx_intro (by decide) (Nat.le_of_ble_eq_true rfl) ?_
  intro κ M C hcI hR hmc hms hT hN
  subst hcI
  have C : mj_C κ cX7_init 1 RX7 := C
  show mj_R (mj_ky κ [(a0, .inr (8, [.null, .null, .null, .null, .int 0]))] 0 0) (mx_F κ M 4 80 _) 0 [some (mj_o (some a0))] [] M
  refine mx_aload_n (mx_D C hmc hms rfl rfl) dX7_init_0 rfl ?_
  refine mx_objInit C lM_X7_3 rfl mx_oi mx_oc (mj_rmc hR (by decide)) (Nat.le_of_ble_eq_true rfl) dX7_init_1 ?_
  refine mx_aload_n (mx_D C hmc hms rfl rfl) dX7_init_4 rfl ?_
  refine mj_bipush (v := 20) (mx_D C hmc hms rfl rfl) dX7_init_5 (by decide) ?_
  refine mx_newi (N' := 20) C mx_ai (by decide) (by decide) (by decide) (mx_lc hmc rfl) (mx_ls hms rfl) dX7_init_7 (fun q1 => ?_)
  show mj_R (mj_ky κ [(a0, .inr (8, [.null, .null, .null, .null, .int 0])), (q1, .inl ((mj_cI κ).1, 20, .inl (fun _ => 0)))] 1 20) _ 9 [some (mj_o (some a0))] [mj_o (some q1), mj_o (some a0)] M
  refine mx_putF (k := 0) (Y' := [(a0, .inr (8, [.ref q1, .null, .null, .null, .int 0])), (q1, .inl ((mj_cI κ).1, 20, .inl (fun _ => 0)))]) C hN lF_X7_11 ⟨_, rfl, rfl⟩ fR_8_0 rfl (fun _ => rfl) rfl rfl (Nat.le_of_ble_eq_true rfl) dX7_init_9 rfl ?_
  refine mx_aload_n (mx_D C hmc hms rfl rfl) dX7_init_12 rfl ?_
  refine mj_bipush (v := 20) (mx_D C hmc hms rfl rfl) dX7_init_13 (by decide) ?_
  refine mx_newi (N' := 20) C mx_ai (by decide) (by decide) (by decide) (mx_lc hmc rfl) (mx_ls hms rfl) dX7_init_15 (fun q2 => ?_)
  show mj_R (mj_ky κ [(a0, .inr (8, [.ref q1, .null, .null, .null, .int 0])), (q1, .inl ((mj_cI κ).1, 20, .inl (fun _ => 0))), (q2, .inl ((mj_cI κ).1, 20, .inl (fun _ => 0)))] 2 40) _ 17 [some (mj_o (some a0))] [mj_o (some q2), mj_o (some a0)] M
  refine mx_putF (k := 0) (Y' := [(a0, .inr (8, [.ref q1, .ref q2, .null, .null, .int 0])), (q1, .inl ((mj_cI κ).1, 20, .inl (fun _ => 0))), (q2, .inl ((mj_cI κ).1, 20, .inl (fun _ => 0)))]) C hN lF_X7_15 ⟨_, rfl, rfl⟩ fR_8_1 rfl (fun _ => rfl) rfl rfl (Nat.le_of_ble_eq_true rfl) dX7_init_17 rfl ?_
  refine mx_aload_n (mx_D C hmc hms rfl rfl) dX7_init_20 rfl ?_
  refine mj_bipush (v := 20) (mx_D C hmc hms rfl rfl) dX7_init_21 (by decide) ?_
  refine mx_newi (N' := 20) C mx_ai (by decide) (by decide) (by decide) (mx_lc hmc rfl) (mx_ls hms rfl) dX7_init_23 (fun q3 => ?_)
  show mj_R (mj_ky κ [(a0, .inr (8, [.ref q1, .ref q2, .null, .null, .int 0])), (q1, .inl ((mj_cI κ).1, 20, .inl (fun _ => 0))), (q2, .inl ((mj_cI κ).1, 20, .inl (fun _ => 0))), (q3, .inl ((mj_cI κ).1, 20, .inl (fun _ => 0)))] 3 60) _ 25 [some (mj_o (some a0))] [mj_o (some q3), mj_o (some a0)] M
  refine mx_putF (k := 0) (Y' := [(a0, .inr (8, [.ref q1, .ref q2, .ref q3, .null, .int 0])), (q1, .inl ((mj_cI κ).1, 20, .inl (fun _ => 0))), (q2, .inl ((mj_cI κ).1, 20, .inl (fun _ => 0))), (q3, .inl ((mj_cI κ).1, 20, .inl (fun _ => 0)))]) C hN lF_X7_18 ⟨_, rfl, rfl⟩ fR_8_2 rfl (fun _ => rfl) rfl rfl (Nat.le_of_ble_eq_true rfl) dX7_init_25 rfl ?_
  refine mx_aload_n (mx_D C hmc hms rfl rfl) dX7_init_28 rfl ?_
  refine mj_bipush (v := 20) (mx_D C hmc hms rfl rfl) dX7_init_29 (by decide) ?_
  refine mx_newi (N' := 20) C mx_ai (by decide) (by decide) (by decide) (mx_lc hmc rfl) (mx_ls hms rfl) dX7_init_31 (fun q4 => ?_)
  show mj_R (mj_ky κ [(a0, .inr (8, [.ref q1, .ref q2, .ref q3, .null, .int 0])), (q1, .inl ((mj_cI κ).1, 20, .inl (fun _ => 0))), (q2, .inl ((mj_cI κ).1, 20, .inl (fun _ => 0))), (q3, .inl ((mj_cI κ).1, 20, .inl (fun _ => 0))), (q4, .inl ((mj_cI κ).1, 20, .inl (fun _ => 0)))] 4 80) _ 33 [some (mj_o (some a0))] [mj_o (some q4), mj_o (some a0)] M
  refine mx_putF (k := 0) (Y' := [(a0, .inr (8, [.ref q1, .ref q2, .ref q3, .ref q4, .int 0])), (q1, .inl ((mj_cI κ).1, 20, .inl (fun _ => 0))), (q2, .inl ((mj_cI κ).1, 20, .inl (fun _ => 0))), (q3, .inl ((mj_cI κ).1, 20, .inl (fun _ => 0))), (q4, .inl ((mj_cI κ).1, 20, .inl (fun _ => 0)))]) C hN lF_X7_21 ⟨_, rfl, rfl⟩ fR_8_3 rfl (fun _ => rfl) rfl rfl (Nat.le_of_ble_eq_true rfl) dX7_init_33 rfl ?_
  refine mx_aload_n (mx_D C hmc hms rfl rfl) dX7_init_36 rfl ?_
  refine mj_iconst (v := 0) (mx_D C hmc hms rfl rfl) dX7_init_37 (by decide) ?_
  refine mx_put (k := 0) (Y' := [(a0, .inr (8, [.ref q1, .ref q2, .ref q3, .ref q4, .int 0])), (q1, .inl ((mj_cI κ).1, 20, .inl (fun _ => 0))), (q2, .inl ((mj_cI κ).1, 20, .inl (fun _ => 0))), (q3, .inl ((mj_cI κ).1, 20, .inl (fun _ => 0))), (q4, .inl ((mj_cI κ).1, 20, .inl (fun _ => 0)))]) C lF_X7_24 fR_8_4 rfl (fun _ => rfl) (vp_nar_int _) rfl (Nat.le_of_ble_eq_true rfl) dX7_init_38 rfl ?_
  exact mx_vret C hT (Nat.le_of_ble_eq_true rfl) (Nat.le_of_ble_eq_true rfl) dX7_init_41 ⟨rfl, q1, q2, q3, q4, rfl⟩
set_option maxHeartbeats 8000000 in
set_option maxRecDepth 40000 in
theorem K_X4_init {cI : mj_I} {a0 : Nat} : mx_Sem cI yX4_init cX4_init 1 none 1 2 48 [mj_o (some a0)] [(a0, .inr (5, [.null, .null, .int 0, .int 0]))] (fun r Y' => r = none ∧ ∃ q1 q2 : Nat, Y' = [(a0, .inr (5, [.ref q1, .ref q2, .int 0, .int 0])), (q1, .inl (cI.1, 24, .inl (fun _ => 0))), (q2, .inl (cI.1, 24, .inl (fun _ => 0)))]) := by
  refine mx_intro (by decide) (Nat.le_of_ble_eq_true rfl) ?_
  intro κ M C hcI hR hmc hms hT hN
  subst hcI
  have C : mj_C κ cX4_init 1 RX4 := C
  show mj_R (mj_ky κ [(a0, .inr (5, [.null, .null, .int 0, .int 0]))] 0 0) (mx_F κ M 2 48 _) 0 [some (mj_o (some a0))] [] M
  refine mx_aload_n (mx_D C hmc hms rfl rfl) dX4_init_0 rfl ?_
  refine mx_objInit C lM_X4_3 rfl mx_oi mx_oc (mj_rmc hR (by decide)) (Nat.le_of_ble_eq_true rfl) dX4_init_1 ?_
  refine mx_aload_n (mx_D C hmc hms rfl rfl) dX4_init_4 rfl ?_
  refine mj_bipush (v := 24) (mx_D C hmc hms rfl rfl) dX4_init_5 (by decide) ?_
  refine mx_newi (N' := 24) C mx_ai (by decide) (by decide) (by decide) (mx_lc hmc rfl) (mx_ls hms rfl) dX4_init_7 (fun q1 => ?_)
  show mj_R (mj_ky κ [(a0, .inr (5, [.null, .null, .int 0, .int 0])), (q1, .inl ((mj_cI κ).1, 24, .inl (fun _ => 0)))] 1 24) _ 9 [some (mj_o (some a0))] [mj_o (some q1), mj_o (some a0)] M
  refine mx_putF (k := 0) (Y' := [(a0, .inr (5, [.ref q1, .null, .int 0, .int 0])), (q1, .inl ((mj_cI κ).1, 24, .inl (fun _ => 0)))]) C hN lF_X4_9 ⟨_, rfl, rfl⟩ fR_5_0 rfl (fun _ => rfl) rfl rfl (Nat.le_of_ble_eq_true rfl) dX4_init_9 rfl ?_
  refine mx_aload_n (mx_D C hmc hms rfl rfl) dX4_init_12 rfl ?_
  refine mj_bipush (v := 24) (mx_D C hmc hms rfl rfl) dX4_init_13 (by decide) ?_
  refine mx_newi (N' := 24) C mx_ai (by decide) (by decide) (by decide) (mx_lc hmc rfl) (mx_ls hms rfl) dX4_init_15 (fun q2 => ?_)
  show mj_R (mj_ky κ [(a0, .inr (5, [.ref q1, .null, .int 0, .int 0])), (q1, .inl ((mj_cI κ).1, 24, .inl (fun _ => 0))), (q2, .inl ((mj_cI κ).1, 24, .inl (fun _ => 0)))] 2 48) _ 17 [some (mj_o (some a0))] [mj_o (some q2), mj_o (some a0)] M
  refine mx_putF (k := 0) (Y' := [(a0, .inr (5, [.ref q1, .ref q2, .int 0, .int 0])), (q1, .inl ((mj_cI κ).1, 24, .inl (fun _ => 0))), (q2, .inl ((mj_cI κ).1, 24, .inl (fun _ => 0)))]) C hN lF_X4_15 ⟨_, rfl, rfl⟩ fR_5_1 rfl (fun _ => rfl) rfl rfl (Nat.le_of_ble_eq_true rfl) dX4_init_17 rfl ?_
  refine mx_aload_n (mx_D C hmc hms rfl rfl) dX4_init_20 rfl ?_
  refine mj_iconst (v := 0) (mx_D C hmc hms rfl rfl) dX4_init_21 (by decide) ?_
  refine mx_put (k := 0) (Y' := [(a0, .inr (5, [.ref q1, .ref q2, .int 0, .int 0])), (q1, .inl ((mj_cI κ).1, 24, .inl (fun _ => 0))), (q2, .inl ((mj_cI κ).1, 24, .inl (fun _ => 0)))]) C lF_X4_18 fR_5_2 rfl (fun _ => rfl) (vp_nar_int _) rfl (Nat.le_of_ble_eq_true rfl) dX4_init_22 rfl ?_
  refine mx_aload_n (mx_D C hmc hms rfl rfl) dX4_init_25 rfl ?_
  refine mj_iconst (v := 0) (mx_D C hmc hms rfl rfl) dX4_init_26 (by decide) ?_
  refine mx_put (k := 0) (Y' := [(a0, .inr (5, [.ref q1, .ref q2, .int 0, .int 0])), (q1, .inl ((mj_cI κ).1, 24, .inl (fun _ => 0))), (q2, .inl ((mj_cI κ).1, 24, .inl (fun _ => 0)))]) C lF_X4_22 fR_5_3 rfl (fun _ => rfl) (vp_nar_int _) rfl (Nat.le_of_ble_eq_true rfl) dX4_init_27 rfl ?_
  exact mx_vret C hT (Nat.le_of_ble_eq_true rfl) (Nat.le_of_ble_eq_true rfl) dX4_init_30 ⟨rfl, q1, q2, rfl⟩
set_option maxHeartbeats 8000000 in
set_option maxRecDepth 40000 in
theorem K_X2_init {cI : mj_I} {a0 : Nat} {a1 : Nat} : mx_Sem cI yX2_init cX2_init 2 none 1 1 700 [mj_o (some a0), mj_o (some a1)] [(a0, .inr (3, [.null, .null, .int 0, .int 0]))] (fun r Y' => r = none ∧ ∃ q1 : Nat, Y' = [(a0, .inr (3, [.ref a1, .ref q1, .int 0, .int 0])), (q1, .inl (cI.1, 700, .inl (fun _ => 0)))]) := by
  refine mx_intro (by decide) (Nat.le_of_ble_eq_true rfl) ?_
  intro κ M C hcI hR hmc hms hT hN
  subst hcI
  have C : mj_C κ cX2_init 2 RX2 := C
  show mj_R (mj_ky κ [(a0, .inr (3, [.null, .null, .int 0, .int 0]))] 0 0) (mx_F κ M 1 700 _) 0 [some (mj_o (some a0)), some (mj_o (some a1))] [] M
  refine mx_aload_n (mx_D C hmc hms rfl rfl) dX2_init_0 rfl ?_
  refine mx_objInit C lM_X2_3 rfl mx_oi mx_oc (mj_rmc hR (by decide)) (Nat.le_of_ble_eq_true rfl) dX2_init_1 ?_
  refine mx_aload_n (mx_D C hmc hms rfl rfl) dX2_init_4 rfl ?_
  refine mj_sipush (v := 700) (mx_D C hmc hms rfl rfl) dX2_init_5 (by decide) ?_
  refine mx_newi (N' := 700) C mx_ai (by decide) (by decide) (by decide) (mx_lc hmc rfl) (mx_ls hms rfl) dX2_init_8 (fun q1 => ?_)
  show mj_R (mj_ky κ [(a0, .inr (3, [.null, .null, .int 0, .int 0])), (q1, .inl ((mj_cI κ).1, 700, .inl (fun _ => 0)))] 1 700) _ 10 [some (mj_o (some a0)), some (mj_o (some a1))] [mj_o (some q1), mj_o (some a0)] M
  refine mx_putF (k := 0) (Y' := [(a0, .inr (3, [.null, .ref q1, .int 0, .int 0])), (q1, .inl ((mj_cI κ).1, 700, .inl (fun _ => 0)))]) C hN lF_X2_11 ⟨_, rfl, rfl⟩ fR_3_1 rfl (fun _ => rfl) rfl rfl (Nat.le_of_ble_eq_true rfl) dX2_init_10 rfl ?_
  refine mx_aload_n (mx_D C hmc hms rfl rfl) dX2_init_13 rfl ?_
  refine mj_iconst (v := 0) (mx_D C hmc hms rfl rfl) dX2_init_14 (by decide) ?_
  refine mx_put (k := 0) (Y' := [(a0, .inr (3, [.null, .ref q1, .int 0, .int 0])), (q1, .inl ((mj_cI κ).1, 700, .inl (fun _ => 0)))]) C lF_X2_15 fR_3_2 rfl (fun _ => rfl) (vp_nar_int _) rfl (Nat.le_of_ble_eq_true rfl) dX2_init_15 rfl ?_
  refine mx_aload_n (mx_D C hmc hms rfl rfl) dX2_init_18 rfl ?_
  refine mj_iconst (v := 0) (mx_D C hmc hms rfl rfl) dX2_init_19 (by decide) ?_
  refine mx_put (k := 0) (Y' := [(a0, .inr (3, [.null, .ref q1, .int 0, .int 0])), (q1, .inl ((mj_cI κ).1, 700, .inl (fun _ => 0)))]) C lF_X2_19 fR_3_3 rfl (fun _ => rfl) (vp_nar_int _) rfl (Nat.le_of_ble_eq_true rfl) dX2_init_20 rfl ?_
  refine mx_aload_n (mx_D C hmc hms rfl rfl) dX2_init_23 rfl ?_
  refine mx_aload_n (mx_D C hmc hms rfl rfl) dX2_init_24 rfl ?_
  refine mx_putF (k := 0) (Y' := [(a0, .inr (3, [.ref a1, .ref q1, .int 0, .int 0])), (q1, .inl ((mj_cI κ).1, 700, .inl (fun _ => 0)))]) C hN lF_X2_22 ⟨_, rfl, rfl⟩ fR_3_0 rfl (fun _ => rfl) rfl rfl (Nat.le_of_ble_eq_true rfl) dX2_init_25 rfl ?_
  exact mx_vret C hT (Nat.le_of_ble_eq_true rfl) (Nat.le_of_ble_eq_true rfl) dX2_init_28 ⟨rfl, q1, rfl⟩
set_option maxHeartbeats 8000000 in
set_option maxRecDepth 40000 in
theorem K_X1_init {cI : mj_I} {a0 : Nat} {a1 : Nat} : mx_Sem cI yX1_init cX1_init 2 none 1 3 309 [mj_o (some a0), mj_o (some a1)] [(a0, .inr (2, [.null, .null, .int 0, .null, .int 0, .int 0, .null]))] (fun r Y' => r = none ∧ ∃ q1 q2 q3 : Nat, Y' = [(a0, .inr (2, [.ref a1, .ref q1, .int 0, .ref q2, .int 0, .int 0, .ref q3])), (q1, .inl (cI.1, 240, .inl (fun _ => 0))), (q2, .inl (cI.1, 60, .inl (fun _ => 0))), (q3, .inl (cI.1, 9, .inl (fun _ => 0)))]) := by
  refine mx_intro (by decide) (Nat.le_of_ble_eq_true rfl) ?_
  intro κ M C hcI hR hmc hms hT hN
  subst hcI
  have C : mj_C κ cX1_init 2 RX1 := C
  show mj_R (mj_ky κ [(a0, .inr (2, [.null, .null, .int 0, .null, .int 0, .int 0, .null]))] 0 0) (mx_F κ M 3 309 _) 0 [some (mj_o (some a0)), some (mj_o (some a1))] [] M
  refine mx_aload_n (mx_D C hmc hms rfl rfl) dX1_init_0 rfl ?_
  refine mx_objInit C lM_X1_3 rfl mx_oi mx_oc (mj_rmc hR (by decide)) (Nat.le_of_ble_eq_true rfl) dX1_init_1 ?_
  refine mx_aload_n (mx_D C hmc hms rfl rfl) dX1_init_4 rfl ?_
  refine mj_sipush (v := 240) (mx_D C hmc hms rfl rfl) dX1_init_5 (by decide) ?_
  refine mx_newi (N' := 240) C mx_ai (by decide) (by decide) (by decide) (mx_lc hmc rfl) (mx_ls hms rfl) dX1_init_8 (fun q1 => ?_)
  show mj_R (mj_ky κ [(a0, .inr (2, [.null, .null, .int 0, .null, .int 0, .int 0, .null])), (q1, .inl ((mj_cI κ).1, 240, .inl (fun _ => 0)))] 1 240) _ 10 [some (mj_o (some a0)), some (mj_o (some a1))] [mj_o (some q1), mj_o (some a0)] M
  refine mx_putF (k := 0) (Y' := [(a0, .inr (2, [.null, .ref q1, .int 0, .null, .int 0, .int 0, .null])), (q1, .inl ((mj_cI κ).1, 240, .inl (fun _ => 0)))]) C hN lF_X1_11 ⟨_, rfl, rfl⟩ fR_2_1 rfl (fun _ => rfl) rfl rfl (Nat.le_of_ble_eq_true rfl) dX1_init_10 rfl ?_
  refine mx_aload_n (mx_D C hmc hms rfl rfl) dX1_init_13 rfl ?_
  refine mj_iconst (v := 0) (mx_D C hmc hms rfl rfl) dX1_init_14 (by decide) ?_
  refine mx_put (k := 0) (Y' := [(a0, .inr (2, [.null, .ref q1, .int 0, .null, .int 0, .int 0, .null])), (q1, .inl ((mj_cI κ).1, 240, .inl (fun _ => 0)))]) C lF_X1_15 fR_2_2 rfl (fun _ => rfl) (vp_nar_int _) rfl (Nat.le_of_ble_eq_true rfl) dX1_init_15 rfl ?_
  refine mx_aload_n (mx_D C hmc hms rfl rfl) dX1_init_18 rfl ?_
  refine mj_bipush (v := 60) (mx_D C hmc hms rfl rfl) dX1_init_19 (by decide) ?_
  refine mx_newi (N' := 60) C mx_ai (by decide) (by decide) (by decide) (mx_lc hmc rfl) (mx_ls hms rfl) dX1_init_21 (fun q2 => ?_)
  show mj_R (mj_ky κ [(a0, .inr (2, [.null, .ref q1, .int 0, .null, .int 0, .int 0, .null])), (q1, .inl ((mj_cI κ).1, 240, .inl (fun _ => 0))), (q2, .inl ((mj_cI κ).1, 60, .inl (fun _ => 0)))] 2 300) _ 23 [some (mj_o (some a0)), some (mj_o (some a1))] [mj_o (some q2), mj_o (some a0)] M
  refine mx_putF (k := 0) (Y' := [(a0, .inr (2, [.null, .ref q1, .int 0, .ref q2, .int 0, .int 0, .null])), (q1, .inl ((mj_cI κ).1, 240, .inl (fun _ => 0))), (q2, .inl ((mj_cI κ).1, 60, .inl (fun _ => 0)))]) C hN lF_X1_19 ⟨_, rfl, rfl⟩ fR_2_3 rfl (fun _ => rfl) rfl rfl (Nat.le_of_ble_eq_true rfl) dX1_init_23 rfl ?_
  refine mx_aload_n (mx_D C hmc hms rfl rfl) dX1_init_26 rfl ?_
  refine mj_iconst (v := 0) (mx_D C hmc hms rfl rfl) dX1_init_27 (by decide) ?_
  refine mx_put (k := 0) (Y' := [(a0, .inr (2, [.null, .ref q1, .int 0, .ref q2, .int 0, .int 0, .null])), (q1, .inl ((mj_cI κ).1, 240, .inl (fun _ => 0))), (q2, .inl ((mj_cI κ).1, 60, .inl (fun _ => 0)))]) C lF_X1_22 fR_2_4 rfl (fun _ => rfl) (vp_nar_int _) rfl (Nat.le_of_ble_eq_true rfl) dX1_init_28 rfl ?_
  refine mx_aload_n (mx_D C hmc hms rfl rfl) dX1_init_31 rfl ?_
  refine mj_iconst (v := 0) (mx_D C hmc hms rfl rfl) dX1_init_32 (by decide) ?_
  refine mx_put (k := 0) (Y' := [(a0, .inr (2, [.null, .ref q1, .int 0, .ref q2, .int 0, .int 0, .null])), (q1, .inl ((mj_cI κ).1, 240, .inl (fun _ => 0))), (q2, .inl ((mj_cI κ).1, 60, .inl (fun _ => 0)))]) C lF_X1_25 fR_2_5 rfl (fun _ => rfl) (vp_nar_int _) rfl (Nat.le_of_ble_eq_true rfl) dX1_init_33 rfl ?_
  refine mx_aload_n (mx_D C hmc hms rfl rfl) dX1_init_36 rfl ?_
  refine mj_bipush (v := 9) (mx_D C hmc hms rfl rfl) dX1_init_37 (by decide) ?_
  refine mx_newi (N' := 9) C mx_ai (by decide) (by decide) (by decide) (mx_lc hmc rfl) (mx_ls hms rfl) dX1_init_39 (fun q3 => ?_)
  show mj_R (mj_ky κ [(a0, .inr (2, [.null, .ref q1, .int 0, .ref q2, .int 0, .int 0, .null])), (q1, .inl ((mj_cI κ).1, 240, .inl (fun _ => 0))), (q2, .inl ((mj_cI κ).1, 60, .inl (fun _ => 0))), (q3, .inl ((mj_cI κ).1, 9, .inl (fun _ => 0)))] 3 309) _ 41 [some (mj_o (some a0)), some (mj_o (some a1))] [mj_o (some q3), mj_o (some a0)] M
  refine mx_putF (k := 0) (Y' := [(a0, .inr (2, [.null, .ref q1, .int 0, .ref q2, .int 0, .int 0, .ref q3])), (q1, .inl ((mj_cI κ).1, 240, .inl (fun _ => 0))), (q2, .inl ((mj_cI κ).1, 60, .inl (fun _ => 0))), (q3, .inl ((mj_cI κ).1, 9, .inl (fun _ => 0)))]) C hN lF_X1_28 ⟨_, rfl, rfl⟩ fR_2_6 rfl (fun _ => rfl) rfl rfl (Nat.le_of_ble_eq_true rfl) dX1_init_41 rfl ?_
  refine mx_aload_n (mx_D C hmc hms rfl rfl) dX1_init_44 rfl ?_
  refine mx_aload_n (mx_D C hmc hms rfl rfl) dX1_init_45 rfl ?_
  refine mx_putF (k := 0) (Y' := [(a0, .inr (2, [.ref a1, .ref q1, .int 0, .ref q2, .int 0, .int 0, .ref q3])), (q1, .inl ((mj_cI κ).1, 240, .inl (fun _ => 0))), (q2, .inl ((mj_cI κ).1, 60, .inl (fun _ => 0))), (q3, .inl ((mj_cI κ).1, 9, .inl (fun _ => 0)))]) C hN lF_X1_31 ⟨_, rfl, rfl⟩ fR_2_0 rfl (fun _ => rfl) rfl rfl (Nat.le_of_ble_eq_true rfl) dX1_init_46 rfl ?_
  exact mx_vret C hT (Nat.le_of_ble_eq_true rfl) (Nat.le_of_ble_eq_true rfl) dX1_init_49 ⟨rfl, q1, q2, q3, rfl⟩
set_option maxHeartbeats 8000000 in
set_option maxRecDepth 40000 in
theorem K_X9_init {cI : mj_I} {a0 : Nat} {a1 : Nat} {a2 : Int32} {a3 : Int32} : mx_Sem cI yX9_init cX9_init 4 none 1 4 344 [mj_o (some a0), mj_o (some a1), .inl a2, .inl a3] [(a0, .inr (10, [.null, .int 0, .int 0, .null, .null, .null, .null, .int 0, .int 0, .int 0, .int 0]))] (fun r Y' => r = none ∧ ∃ q1 q2 q3 q4 : Nat, Y' = [(a0, .inr (10, [.ref a1, .int a2, .int a3, .ref q1, .ref q2, .ref q3, .ref q4, .int 0, .int 0, .int 0, .int 0])), (q1, .inl (cI.1, 240, .inl (fun _ => 0))), (q2, .inl (cI.1, 48, .inl (fun _ => 0))), (q3, .inl (cI.1, 48, .inl (fun _ => 0))), (q4, .inl (cI.1, 8, .inl (fun _ => 0)))]) := by
  refine mx_intro (by decide) (Nat.le_of_ble_eq_true rfl) ?_
  intro κ M C hcI hR hmc hms hT hN
  subst hcI
  have C : mj_C κ cX9_init 4 RX9 := C
  show mj_R (mj_ky κ [(a0, .inr (10, [.null, .int 0, .int 0, .null, .null, .null, .null, .int 0, .int 0, .int 0, .int 0]))] 0 0) (mx_F κ M 4 344 _) 0 [some (mj_o (some a0)), some (mj_o (some a1)), some (.inl a2), some (.inl a3)] [] M
  refine mx_aload_n (mx_D C hmc hms rfl rfl) dX9_init_0 rfl ?_
  refine mx_objInit C lM_X9_3 rfl mx_oi mx_oc (mj_rmc hR (by decide)) (Nat.le_of_ble_eq_true rfl) dX9_init_1 ?_
  refine mx_aload_n (mx_D C hmc hms rfl rfl) dX9_init_4 rfl ?_
  refine mj_sipush (v := 240) (mx_D C hmc hms rfl rfl) dX9_init_5 (by decide) ?_
  refine mx_newi (N' := 240) C mx_ai (by decide) (by decide) (by decide) (mx_lc hmc rfl) (mx_ls hms rfl) dX9_init_8 (fun q1 => ?_)
  show mj_R (mj_ky κ [(a0, .inr (10, [.null, .int 0, .int 0, .null, .null, .null, .null, .int 0, .int 0, .int 0, .int 0])), (q1, .inl ((mj_cI κ).1, 240, .inl (fun _ => 0)))] 1 240) _ 10 [some (mj_o (some a0)), some (mj_o (some a1)), some (.inl a2), some (.inl a3)] [mj_o (some q1), mj_o (some a0)] M
  refine mx_putF (k := 0) (Y' := [(a0, .inr (10, [.null, .int 0, .int 0, .ref q1, .null, .null, .null, .int 0, .int 0, .int 0, .int 0])), (q1, .inl ((mj_cI κ).1, 240, .inl (fun _ => 0)))]) C hN lF_X9_11 ⟨_, rfl, rfl⟩ fR_10_3 rfl (fun _ => rfl) rfl rfl (Nat.le_of_ble_eq_true rfl) dX9_init_10 rfl ?_
  refine mx_aload_n (mx_D C hmc hms rfl rfl) dX9_init_13 rfl ?_
  refine mj_bipush (v := 48) (mx_D C hmc hms rfl rfl) dX9_init_14 (by decide) ?_
  refine mx_newi (N' := 48) C mx_ai (by decide) (by decide) (by decide) (mx_lc hmc rfl) (mx_ls hms rfl) dX9_init_16 (fun q2 => ?_)
  show mj_R (mj_ky κ [(a0, .inr (10, [.null, .int 0, .int 0, .ref q1, .null, .null, .null, .int 0, .int 0, .int 0, .int 0])), (q1, .inl ((mj_cI κ).1, 240, .inl (fun _ => 0))), (q2, .inl ((mj_cI κ).1, 48, .inl (fun _ => 0)))] 2 288) _ 18 [some (mj_o (some a0)), some (mj_o (some a1)), some (.inl a2), some (.inl a3)] [mj_o (some q2), mj_o (some a0)] M
  refine mx_putF (k := 0) (Y' := [(a0, .inr (10, [.null, .int 0, .int 0, .ref q1, .ref q2, .null, .null, .int 0, .int 0, .int 0, .int 0])), (q1, .inl ((mj_cI κ).1, 240, .inl (fun _ => 0))), (q2, .inl ((mj_cI κ).1, 48, .inl (fun _ => 0)))]) C hN lF_X9_15 ⟨_, rfl, rfl⟩ fR_10_4 rfl (fun _ => rfl) rfl rfl (Nat.le_of_ble_eq_true rfl) dX9_init_18 rfl ?_
  refine mx_aload_n (mx_D C hmc hms rfl rfl) dX9_init_21 rfl ?_
  refine mj_bipush (v := 48) (mx_D C hmc hms rfl rfl) dX9_init_22 (by decide) ?_
  refine mx_newi (N' := 48) C mx_ai (by decide) (by decide) (by decide) (mx_lc hmc rfl) (mx_ls hms rfl) dX9_init_24 (fun q3 => ?_)
  show mj_R (mj_ky κ [(a0, .inr (10, [.null, .int 0, .int 0, .ref q1, .ref q2, .null, .null, .int 0, .int 0, .int 0, .int 0])), (q1, .inl ((mj_cI κ).1, 240, .inl (fun _ => 0))), (q2, .inl ((mj_cI κ).1, 48, .inl (fun _ => 0))), (q3, .inl ((mj_cI κ).1, 48, .inl (fun _ => 0)))] 3 336) _ 26 [some (mj_o (some a0)), some (mj_o (some a1)), some (.inl a2), some (.inl a3)] [mj_o (some q3), mj_o (some a0)] M
  refine mx_putF (k := 0) (Y' := [(a0, .inr (10, [.null, .int 0, .int 0, .ref q1, .ref q2, .ref q3, .null, .int 0, .int 0, .int 0, .int 0])), (q1, .inl ((mj_cI κ).1, 240, .inl (fun _ => 0))), (q2, .inl ((mj_cI κ).1, 48, .inl (fun _ => 0))), (q3, .inl ((mj_cI κ).1, 48, .inl (fun _ => 0)))]) C hN lF_X9_18 ⟨_, rfl, rfl⟩ fR_10_5 rfl (fun _ => rfl) rfl rfl (Nat.le_of_ble_eq_true rfl) dX9_init_26 rfl ?_
  refine mx_aload_n (mx_D C hmc hms rfl rfl) dX9_init_29 rfl ?_
  refine mj_bipush (v := 8) (mx_D C hmc hms rfl rfl) dX9_init_30 (by decide) ?_
  refine mx_newi (N' := 8) C mx_ai (by decide) (by decide) (by decide) (mx_lc hmc rfl) (mx_ls hms rfl) dX9_init_32 (fun q4 => ?_)
  show mj_R (mj_ky κ [(a0, .inr (10, [.null, .int 0, .int 0, .ref q1, .ref q2, .ref q3, .null, .int 0, .int 0, .int 0, .int 0])), (q1, .inl ((mj_cI κ).1, 240, .inl (fun _ => 0))), (q2, .inl ((mj_cI κ).1, 48, .inl (fun _ => 0))), (q3, .inl ((mj_cI κ).1, 48, .inl (fun _ => 0))), (q4, .inl ((mj_cI κ).1, 8, .inl (fun _ => 0)))] 4 344) _ 34 [some (mj_o (some a0)), some (mj_o (some a1)), some (.inl a2), some (.inl a3)] [mj_o (some q4), mj_o (some a0)] M
  refine mx_putF (k := 0) (Y' := [(a0, .inr (10, [.null, .int 0, .int 0, .ref q1, .ref q2, .ref q3, .ref q4, .int 0, .int 0, .int 0, .int 0])), (q1, .inl ((mj_cI κ).1, 240, .inl (fun _ => 0))), (q2, .inl ((mj_cI κ).1, 48, .inl (fun _ => 0))), (q3, .inl ((mj_cI κ).1, 48, .inl (fun _ => 0))), (q4, .inl ((mj_cI κ).1, 8, .inl (fun _ => 0)))]) C hN lF_X9_21 ⟨_, rfl, rfl⟩ fR_10_6 rfl (fun _ => rfl) rfl rfl (Nat.le_of_ble_eq_true rfl) dX9_init_34 rfl ?_
  refine mx_aload_n (mx_D C hmc hms rfl rfl) dX9_init_37 rfl ?_
  refine mj_iconst (v := 0) (mx_D C hmc hms rfl rfl) dX9_init_38 (by decide) ?_
  refine mx_put (k := 0) (Y' := [(a0, .inr (10, [.null, .int 0, .int 0, .ref q1, .ref q2, .ref q3, .ref q4, .int 0, .int 0, .int 0, .int 0])), (q1, .inl ((mj_cI κ).1, 240, .inl (fun _ => 0))), (q2, .inl ((mj_cI κ).1, 48, .inl (fun _ => 0))), (q3, .inl ((mj_cI κ).1, 48, .inl (fun _ => 0))), (q4, .inl ((mj_cI κ).1, 8, .inl (fun _ => 0)))]) C lF_X9_24 fR_10_7 rfl (fun _ => rfl) (vp_nar_int _) rfl (Nat.le_of_ble_eq_true rfl) dX9_init_39 rfl ?_
  refine mx_aload_n (mx_D C hmc hms rfl rfl) dX9_init_42 rfl ?_
  refine mj_iconst (v := 0) (mx_D C hmc hms rfl rfl) dX9_init_43 (by decide) ?_
  refine mx_put (k := 0) (Y' := [(a0, .inr (10, [.null, .int 0, .int 0, .ref q1, .ref q2, .ref q3, .ref q4, .int 0, .int 0, .int 0, .int 0])), (q1, .inl ((mj_cI κ).1, 240, .inl (fun _ => 0))), (q2, .inl ((mj_cI κ).1, 48, .inl (fun _ => 0))), (q3, .inl ((mj_cI κ).1, 48, .inl (fun _ => 0))), (q4, .inl ((mj_cI κ).1, 8, .inl (fun _ => 0)))]) C lF_X9_28 fR_10_8 rfl (fun _ => rfl) (vp_nar_int _) rfl (Nat.le_of_ble_eq_true rfl) dX9_init_44 rfl ?_
  refine mx_aload_n (mx_D C hmc hms rfl rfl) dX9_init_47 rfl ?_
  refine mj_iconst (v := 0) (mx_D C hmc hms rfl rfl) dX9_init_48 (by decide) ?_
  refine mx_put (k := 0) (Y' := [(a0, .inr (10, [.null, .int 0, .int 0, .ref q1, .ref q2, .ref q3, .ref q4, .int 0, .int 0, .int 0, .int 0])), (q1, .inl ((mj_cI κ).1, 240, .inl (fun _ => 0))), (q2, .inl ((mj_cI κ).1, 48, .inl (fun _ => 0))), (q3, .inl ((mj_cI κ).1, 48, .inl (fun _ => 0))), (q4, .inl ((mj_cI κ).1, 8, .inl (fun _ => 0)))]) C lF_X9_31 fR_10_9 rfl (fun _ => rfl) (vp_nar_int _) rfl (Nat.le_of_ble_eq_true rfl) dX9_init_49 rfl ?_
  refine mx_aload_n (mx_D C hmc hms rfl rfl) dX9_init_52 rfl ?_
  refine mj_iconst (v := 0) (mx_D C hmc hms rfl rfl) dX9_init_53 (by decide) ?_
  refine mx_put (k := 0) (Y' := [(a0, .inr (10, [.null, .int 0, .int 0, .ref q1, .ref q2, .ref q3, .ref q4, .int 0, .int 0, .int 0, .int 0])), (q1, .inl ((mj_cI κ).1, 240, .inl (fun _ => 0))), (q2, .inl ((mj_cI κ).1, 48, .inl (fun _ => 0))), (q3, .inl ((mj_cI κ).1, 48, .inl (fun _ => 0))), (q4, .inl ((mj_cI κ).1, 8, .inl (fun _ => 0)))]) C lF_X9_34 fR_10_10 rfl (fun _ => rfl) (vp_nar_int _) rfl (Nat.le_of_ble_eq_true rfl) dX9_init_54 rfl ?_
  refine mx_aload_n (mx_D C hmc hms rfl rfl) dX9_init_57 rfl ?_
  refine mx_aload_n (mx_D C hmc hms rfl rfl) dX9_init_58 rfl ?_
  refine mx_putF (k := 0) (Y' := [(a0, .inr (10, [.ref a1, .int 0, .int 0, .ref q1, .ref q2, .ref q3, .ref q4, .int 0, .int 0, .int 0, .int 0])), (q1, .inl ((mj_cI κ).1, 240, .inl (fun _ => 0))), (q2, .inl ((mj_cI κ).1, 48, .inl (fun _ => 0))), (q3, .inl ((mj_cI κ).1, 48, .inl (fun _ => 0))), (q4, .inl ((mj_cI κ).1, 8, .inl (fun _ => 0)))]) C hN lF_X9_37 ⟨_, rfl, rfl⟩ fR_10_0 rfl (fun _ => rfl) rfl rfl (Nat.le_of_ble_eq_true rfl) dX9_init_59 rfl ?_
  refine mx_aload_n (mx_D C hmc hms rfl rfl) dX9_init_62 rfl ?_
  refine mj_iload_n (mx_D C hmc hms rfl rfl) dX9_init_63 rfl ?_
  refine mx_putF (k := 0) (Y' := [(a0, .inr (10, [.ref a1, .int a2, .int 0, .ref q1, .ref q2, .ref q3, .ref q4, .int 0, .int 0, .int 0, .int 0])), (q1, .inl ((mj_cI κ).1, 240, .inl (fun _ => 0))), (q2, .inl ((mj_cI κ).1, 48, .inl (fun _ => 0))), (q3, .inl ((mj_cI κ).1, 48, .inl (fun _ => 0))), (q4, .inl ((mj_cI κ).1, 8, .inl (fun _ => 0)))]) C hN lF_X9_41 ⟨_, rfl, rfl⟩ fR_10_1 rfl (fun _ => rfl) (vp_nar_int _) rfl (Nat.le_of_ble_eq_true rfl) dX9_init_64 rfl ?_
  refine mx_aload_n (mx_D C hmc hms rfl rfl) dX9_init_67 rfl ?_
  refine mj_iload_n (mx_D C hmc hms rfl rfl) dX9_init_68 rfl ?_
  refine mx_putF (k := 0) (Y' := [(a0, .inr (10, [.ref a1, .int a2, .int a3, .ref q1, .ref q2, .ref q3, .ref q4, .int 0, .int 0, .int 0, .int 0])), (q1, .inl ((mj_cI κ).1, 240, .inl (fun _ => 0))), (q2, .inl ((mj_cI κ).1, 48, .inl (fun _ => 0))), (q3, .inl ((mj_cI κ).1, 48, .inl (fun _ => 0))), (q4, .inl ((mj_cI κ).1, 8, .inl (fun _ => 0)))]) C hN lF_X9_44 ⟨_, rfl, rfl⟩ fR_10_2 rfl (fun _ => rfl) (vp_nar_int _) rfl (Nat.le_of_ble_eq_true rfl) dX9_init_69 rfl ?_
  exact mx_vret C hT (Nat.le_of_ble_eq_true rfl) (Nat.le_of_ble_eq_true rfl) dX9_init_72 ⟨rfl, q1, q2, q3, q4, rfl⟩
set_option maxHeartbeats 8000000 in
set_option maxRecDepth 40000 in
theorem K_X6_init {cI : mj_I} {a0 : Nat} {a1 : Nat} {a2 : Nat} : mx_Sem cI yX6_init cX6_init 3 none 2 7 285 [mj_o (some a0), mj_o (some a1), mj_o (some a2)] [(a0, .inr (7, [.null, .null, .int 0, .int 0, .int 0, .int 0, .int 0, .null, .null, .int 0, .null, .int 0, .int 0]))] (fun r Y' => r = none ∧ ∃ q1 q2 q3 q4 q5 q6 q7 : Nat, Y' = [(a0, .inr (7, [.ref a1, .ref a2, .int 0, .int 0, .int 0, .int 0, .int 0, .ref q1, .ref q6, .int 0, .ref q7, .int 0, .int 0])), (q1, .inr (8, [.ref q2, .ref q3, .ref q4, .ref q5, .int 0])), (q2, .inl (cI.1, 20, .inl (fun _ => 0))), (q3, .inl (cI.1, 20, .inl (fun _ => 0))), (q4, .inl (cI.1, 20, .inl (fun _ => 0))), (q5, .inl (cI.1, 20, .inl (fun _ => 0))), (q6, .inl (cI.1, 100, .inl (fun _ => 0))), (q7, .inl (cI.1, 100, .inl (fun _ => 0)))]) := by
  refine mx_intro (by decide) (Nat.le_of_ble_eq_true rfl) ?_
  intro κ M C hcI hR hmc hms hT hN
  subst hcI
  have C : mj_C κ cX6_init 3 RX6 := C
  show mj_R (mj_ky κ [(a0, .inr (7, [.null, .null, .int 0, .int 0, .int 0, .int 0, .int 0, .null, .null, .int 0, .null, .int 0, .int 0]))] 0 0) (mx_F κ M 7 285 _) 0 [some (mj_o (some a0)), some (mj_o (some a1)), some (mj_o (some a2))] [] M
  refine mx_aload_n (mx_D C hmc hms rfl rfl) dX6_init_0 rfl ?_
  refine mx_objInit C lM_X6_3 rfl mx_oi mx_oc (mj_rmc hR (by decide)) (Nat.le_of_ble_eq_true rfl) dX6_init_1 ?_
  refine mx_aload_n (mx_D C hmc hms rfl rfl) dX6_init_4 rfl ?_
  refine mj_iconst (v := 0) (mx_D C hmc hms rfl rfl) dX6_init_5 (by decide) ?_
  refine mx_put (k := 0) (Y' := [(a0, .inr (7, [.null, .null, .int 0, .int 0, .int 0, .int 0, .int 0, .null, .null, .int 0, .null, .int 0, .int 0]))]) C lF_X6_9 fR_7_2 rfl (fun _ => rfl) (vp_nar_int _) rfl (Nat.le_of_ble_eq_true rfl) dX6_init_6 rfl ?_
  refine mx_aload_n (mx_D C hmc hms rfl rfl) dX6_init_9 rfl ?_
  refine mj_iconst (v := 0) (mx_D C hmc hms rfl rfl) dX6_init_10 (by decide) ?_
  refine mx_put (k := 0) (Y' := [(a0, .inr (7, [.null, .null, .int 0, .int 0, .int 0, .int 0, .int 0, .null, .null, .int 0, .null, .int 0, .int 0]))]) C lF_X6_15 fR_7_3 rfl (fun _ => rfl) rfl rfl (Nat.le_of_ble_eq_true rfl) dX6_init_11 rfl ?_
  refine mx_aload_n (mx_D C hmc hms rfl rfl) dX6_init_14 rfl ?_
  refine mj_iconst (v := 0) (mx_D C hmc hms rfl rfl) dX6_init_15 (by decide) ?_
  refine mx_put (k := 0) (Y' := [(a0, .inr (7, [.null, .null, .int 0, .int 0, .int 0, .int 0, .int 0, .null, .null, .int 0, .null, .int 0, .int 0]))]) C lF_X6_19 fR_7_4 rfl (fun _ => rfl) rfl rfl (Nat.le_of_ble_eq_true rfl) dX6_init_16 rfl ?_
  refine mx_aload_n (mx_D C hmc hms rfl rfl) dX6_init_19 rfl ?_
  refine mj_iconst (v := 0) (mx_D C hmc hms rfl rfl) dX6_init_20 (by decide) ?_
  refine mx_put (k := 0) (Y' := [(a0, .inr (7, [.null, .null, .int 0, .int 0, .int 0, .int 0, .int 0, .null, .null, .int 0, .null, .int 0, .int 0]))]) C lF_X6_22 fR_7_5 rfl (fun _ => rfl) rfl rfl (Nat.le_of_ble_eq_true rfl) dX6_init_21 rfl ?_
  refine mx_aload_n (mx_D C hmc hms rfl rfl) dX6_init_24 rfl ?_
  refine mj_iconst (v := 0) (mx_D C hmc hms rfl rfl) dX6_init_25 (by decide) ?_
  refine mx_put (k := 0) (Y' := [(a0, .inr (7, [.null, .null, .int 0, .int 0, .int 0, .int 0, .int 0, .null, .null, .int 0, .null, .int 0, .int 0]))]) C lF_X6_25 fR_7_6 rfl (fun _ => rfl) (vp_nar_int _) rfl (Nat.le_of_ble_eq_true rfl) dX6_init_26 rfl ?_
  refine mx_aload_n (mx_D C hmc hms rfl rfl) dX6_init_29 rfl ?_
  refine mx_new (fs := [.null, .null, .null, .null, .int 0]) tyX7 C (ci := 8) rfl inTX7 tyX7_ok (by exact (mj_in1 133 rfl rfl)) (by exact (mj_in1 134 rfl rfl)) (by exact (mj_in1 7 rfl rfl)) (fun j hj => by rcases (show j = 0 ∨ j = 1 ∨ j = 2 ∨ j = 3 ∨ j = 4 by omega) with rfl | rfl | rfl | rfl | rfl <;> rfl) (mx_lc hmc rfl) (mx_ls hms rfl) dX6_init_30 (fun q1 => ?_)
  show mj_R (mj_ky κ [(a0, .inr (7, [.null, .null, .int 0, .int 0, .int 0, .int 0, .int 0, .null, .null, .int 0, .null, .int 0, .int 0])), (q1, .inr (8, [.null, .null, .null, .null, .int 0]))] 1 5) _ 33 [some (mj_o (some a0)), some (mj_o (some a1)), some (mj_o (some a2))] [mj_o (some q1), mj_o (some a0)] M
  refine mj_dup (mx_D C hmc hms rfl rfl) dX6_init_33 ?_
  refine mx_callIN (av := []) (Y0 := [(a0, .inr (7, [.null, .null, .int 0, .int 0, .int 0, .int 0, .int 0, .null, .null, .int 0, .null, .int 0, .int 0]))]) (ce := 1) (sl := 5) C lN_X6_30 lk_X7_init rfl (mj_in1 136 rfl rfl) rfl (K_X7_init (a0 := q1)) rfl (mx_fit hR hmc hms rfl rfl rfl rfl) rfl (Nat.le_of_ble_eq_true rfl) dX6_init_34 (fun r Y' hp => ?_)
  obtain ⟨rfl, q2, q3, q4, q5, rfl⟩ := hp
  show mj_R (mj_ky κ [(a0, .inr (7, [.null, .null, .int 0, .int 0, .int 0, .int 0, .int 0, .null, .null, .int 0, .null, .int 0, .int 0])), (q1, .inr (8, [.ref q2, .ref q3, .ref q4, .ref q5, .int 0])), (q2, .inl ((mj_cI κ).1, 20, .inl (fun _ => 0))), (q3, .inl ((mj_cI κ).1, 20, .inl (fun _ => 0))), (q4, .inl ((mj_cI κ).1, 20, .inl (fun _ => 0))), (q5, .inl ((mj_cI κ).1, 20, .inl (fun _ => 0)))] 5 85) _ 37 [some (mj_o (some a0)), some (mj_o (some a1)), some (mj_o (some a2))] [mj_o (some q1), mj_o (some a0)] M
  refine mx_putF (k := 0) (Y' := [(a0, .inr (7, [.null, .null, .int 0, .int 0, .int 0, .int 0, .int 0, .ref q1, .null, .int 0, .null, .int 0, .int 0])), (q1, .inr (8, [.ref q2, .ref q3, .ref q4, .ref q5, .int 0])), (q2, .inl ((mj_cI κ).1, 20, .inl (fun _ => 0))), (q3, .inl ((mj_cI κ).1, 20, .inl (fun _ => 0))), (q4, .inl ((mj_cI κ).1, 20, .inl (fun _ => 0))), (q5, .inl ((mj_cI κ).1, 20, .inl (fun _ => 0)))]) C hN lF_X6_31 ⟨_, rfl, rfl⟩ fR_7_7 rfl (fun _ => rfl) rfl rfl (Nat.le_of_ble_eq_true rfl) dX6_init_37 rfl ?_
  refine mx_aload_n (mx_D C hmc hms rfl rfl) dX6_init_40 rfl ?_
  refine mj_bipush (v := 100) (mx_D C hmc hms rfl rfl) dX6_init_41 (by decide) ?_
  refine mx_newi (N' := 100) C mx_ai (by decide) (by decide) (by decide) (mx_lc hmc rfl) (mx_ls hms rfl) dX6_init_43 (fun q6 => ?_)
  show mj_R (mj_ky κ [(a0, .inr (7, [.null, .null, .int 0, .int 0, .int 0, .int 0, .int 0, .ref q1, .null, .int 0, .null, .int 0, .int 0])), (q1, .inr (8, [.ref q2, .ref q3, .ref q4, .ref q5, .int 0])), (q2, .inl ((mj_cI κ).1, 20, .inl (fun _ => 0))), (q3, .inl ((mj_cI κ).1, 20, .inl (fun _ => 0))), (q4, .inl ((mj_cI κ).1, 20, .inl (fun _ => 0))), (q5, .inl ((mj_cI κ).1, 20, .inl (fun _ => 0))), (q6, .inl ((mj_cI κ).1, 100, .inl (fun _ => 0)))] 6 185) _ 45 [some (mj_o (some a0)), some (mj_o (some a1)), some (mj_o (some a2))] [mj_o (some q6), mj_o (some a0)] M
  refine mx_putF (k := 0) (Y' := [(a0, .inr (7, [.null, .null, .int 0, .int 0, .int 0, .int 0, .int 0, .ref q1, .ref q6, .int 0, .null, .int 0, .int 0])), (q1, .inr (8, [.ref q2, .ref q3, .ref q4, .ref q5, .int 0])), (q2, .inl ((mj_cI κ).1, 20, .inl (fun _ => 0))), (q3, .inl ((mj_cI κ).1, 20, .inl (fun _ => 0))), (q4, .inl ((mj_cI κ).1, 20, .inl (fun _ => 0))), (q5, .inl ((mj_cI κ).1, 20, .inl (fun _ => 0))), (q6, .inl ((mj_cI κ).1, 100, .inl (fun _ => 0)))]) C hN lF_X6_35 ⟨_, rfl, rfl⟩ fR_7_8 rfl (fun _ => rfl) rfl rfl (Nat.le_of_ble_eq_true rfl) dX6_init_45 rfl ?_
  refine mx_aload_n (mx_D C hmc hms rfl rfl) dX6_init_48 rfl ?_
  refine mj_iconst (v := 0) (mx_D C hmc hms rfl rfl) dX6_init_49 (by decide) ?_
  refine mx_put (k := 0) (Y' := [(a0, .inr (7, [.null, .null, .int 0, .int 0, .int 0, .int 0, .int 0, .ref q1, .ref q6, .int 0, .null, .int 0, .int 0])), (q1, .inr (8, [.ref q2, .ref q3, .ref q4, .ref q5, .int 0])), (q2, .inl ((mj_cI κ).1, 20, .inl (fun _ => 0))), (q3, .inl ((mj_cI κ).1, 20, .inl (fun _ => 0))), (q4, .inl ((mj_cI κ).1, 20, .inl (fun _ => 0))), (q5, .inl ((mj_cI κ).1, 20, .inl (fun _ => 0))), (q6, .inl ((mj_cI κ).1, 100, .inl (fun _ => 0)))]) C lF_X6_39 fR_7_9 rfl (fun _ => rfl) (vp_nar_int _) rfl (Nat.le_of_ble_eq_true rfl) dX6_init_50 rfl ?_
  refine mx_aload_n (mx_D C hmc hms rfl rfl) dX6_init_53 rfl ?_
  refine mj_bipush (v := 100) (mx_D C hmc hms rfl rfl) dX6_init_54 (by decide) ?_
  refine mx_newi (N' := 100) C mx_ai (by decide) (by decide) (by decide) (mx_lc hmc rfl) (mx_ls hms rfl) dX6_init_56 (fun q7 => ?_)
  show mj_R (mj_ky κ [(a0, .inr (7, [.null, .null, .int 0, .int 0, .int 0, .int 0, .int 0, .ref q1, .ref q6, .int 0, .null, .int 0, .int 0])), (q1, .inr (8, [.ref q2, .ref q3, .ref q4, .ref q5, .int 0])), (q2, .inl ((mj_cI κ).1, 20, .inl (fun _ => 0))), (q3, .inl ((mj_cI κ).1, 20, .inl (fun _ => 0))), (q4, .inl ((mj_cI κ).1, 20, .inl (fun _ => 0))), (q5, .inl ((mj_cI κ).1, 20, .inl (fun _ => 0))), (q6, .inl ((mj_cI κ).1, 100, .inl (fun _ => 0))), (q7, .inl ((mj_cI κ).1, 100, .inl (fun _ => 0)))] 7 285) _ 58 [some (mj_o (some a0)), some (mj_o (some a1)), some (mj_o (some a2))] [mj_o (some q7), mj_o (some a0)] M
  refine mx_putF (k := 0) (Y' := [(a0, .inr (7, [.null, .null, .int 0, .int 0, .int 0, .int 0, .int 0, .ref q1, .ref q6, .int 0, .ref q7, .int 0, .int 0])), (q1, .inr (8, [.ref q2, .ref q3, .ref q4, .ref q5, .int 0])), (q2, .inl ((mj_cI κ).1, 20, .inl (fun _ => 0))), (q3, .inl ((mj_cI κ).1, 20, .inl (fun _ => 0))), (q4, .inl ((mj_cI κ).1, 20, .inl (fun _ => 0))), (q5, .inl ((mj_cI κ).1, 20, .inl (fun _ => 0))), (q6, .inl ((mj_cI κ).1, 100, .inl (fun _ => 0))), (q7, .inl ((mj_cI κ).1, 100, .inl (fun _ => 0)))]) C hN lF_X6_42 ⟨_, rfl, rfl⟩ fR_7_10 rfl (fun _ => rfl) rfl rfl (Nat.le_of_ble_eq_true rfl) dX6_init_58 rfl ?_
  refine mx_aload_n (mx_D C hmc hms rfl rfl) dX6_init_61 rfl ?_
  refine mj_iconst (v := 0) (mx_D C hmc hms rfl rfl) dX6_init_62 (by decide) ?_
  refine mx_put (k := 0) (Y' := [(a0, .inr (7, [.null, .null, .int 0, .int 0, .int 0, .int 0, .int 0, .ref q1, .ref q6, .int 0, .ref q7, .int 0, .int 0])), (q1, .inr (8, [.ref q2, .ref q3, .ref q4, .ref q5, .int 0])), (q2, .inl ((mj_cI κ).1, 20, .inl (fun _ => 0))), (q3, .inl ((mj_cI κ).1, 20, .inl (fun _ => 0))), (q4, .inl ((mj_cI κ).1, 20, .inl (fun _ => 0))), (q5, .inl ((mj_cI κ).1, 20, .inl (fun _ => 0))), (q6, .inl ((mj_cI κ).1, 100, .inl (fun _ => 0))), (q7, .inl ((mj_cI κ).1, 100, .inl (fun _ => 0)))]) C lF_X6_45 fR_7_11 rfl (fun _ => rfl) (vp_nar_int _) rfl (Nat.le_of_ble_eq_true rfl) dX6_init_63 rfl ?_
  refine mx_aload_n (mx_D C hmc hms rfl rfl) dX6_init_66 rfl ?_
  refine mj_iconst (v := 0) (mx_D C hmc hms rfl rfl) dX6_init_67 (by decide) ?_
  refine mx_put (k := 0) (Y' := [(a0, .inr (7, [.null, .null, .int 0, .int 0, .int 0, .int 0, .int 0, .ref q1, .ref q6, .int 0, .ref q7, .int 0, .int 0])), (q1, .inr (8, [.ref q2, .ref q3, .ref q4, .ref q5, .int 0])), (q2, .inl ((mj_cI κ).1, 20, .inl (fun _ => 0))), (q3, .inl ((mj_cI κ).1, 20, .inl (fun _ => 0))), (q4, .inl ((mj_cI κ).1, 20, .inl (fun _ => 0))), (q5, .inl ((mj_cI κ).1, 20, .inl (fun _ => 0))), (q6, .inl ((mj_cI κ).1, 100, .inl (fun _ => 0))), (q7, .inl ((mj_cI κ).1, 100, .inl (fun _ => 0)))]) C lF_X6_48 fR_7_12 rfl (fun _ => rfl) (vp_nar_int _) rfl (Nat.le_of_ble_eq_true rfl) dX6_init_68 rfl ?_
  refine mx_aload_n (mx_D C hmc hms rfl rfl) dX6_init_71 rfl ?_
  refine mx_aload_n (mx_D C hmc hms rfl rfl) dX6_init_72 rfl ?_
  refine mx_putF (k := 0) (Y' := [(a0, .inr (7, [.ref a1, .null, .int 0, .int 0, .int 0, .int 0, .int 0, .ref q1, .ref q6, .int 0, .ref q7, .int 0, .int 0])), (q1, .inr (8, [.ref q2, .ref q3, .ref q4, .ref q5, .int 0])), (q2, .inl ((mj_cI κ).1, 20, .inl (fun _ => 0))), (q3, .inl ((mj_cI κ).1, 20, .inl (fun _ => 0))), (q4, .inl ((mj_cI κ).1, 20, .inl (fun _ => 0))), (q5, .inl ((mj_cI κ).1, 20, .inl (fun _ => 0))), (q6, .inl ((mj_cI κ).1, 100, .inl (fun _ => 0))), (q7, .inl ((mj_cI κ).1, 100, .inl (fun _ => 0)))]) C hN lF_X6_51 ⟨_, rfl, rfl⟩ fR_7_0 rfl (fun _ => rfl) rfl rfl (Nat.le_of_ble_eq_true rfl) dX6_init_73 rfl ?_
  refine mx_aload_n (mx_D C hmc hms rfl rfl) dX6_init_76 rfl ?_
  refine mx_aload_n (mx_D C hmc hms rfl rfl) dX6_init_77 rfl ?_
  refine mx_putF (k := 0) (Y' := [(a0, .inr (7, [.ref a1, .ref a2, .int 0, .int 0, .int 0, .int 0, .int 0, .ref q1, .ref q6, .int 0, .ref q7, .int 0, .int 0])), (q1, .inr (8, [.ref q2, .ref q3, .ref q4, .ref q5, .int 0])), (q2, .inl ((mj_cI κ).1, 20, .inl (fun _ => 0))), (q3, .inl ((mj_cI κ).1, 20, .inl (fun _ => 0))), (q4, .inl ((mj_cI κ).1, 20, .inl (fun _ => 0))), (q5, .inl ((mj_cI κ).1, 20, .inl (fun _ => 0))), (q6, .inl ((mj_cI κ).1, 100, .inl (fun _ => 0))), (q7, .inl ((mj_cI κ).1, 100, .inl (fun _ => 0)))]) C hN lF_X6_55 ⟨_, rfl, rfl⟩ fR_7_1 rfl (fun _ => rfl) rfl rfl (Nat.le_of_ble_eq_true rfl) dX6_init_78 rfl ?_
  exact mx_vret C hT (Nat.le_of_ble_eq_true rfl) (Nat.le_of_ble_eq_true rfl) dX6_init_81 ⟨rfl, q1, q2, q3, q4, q5, q6, q7, rfl⟩
set_option maxHeartbeats 8000000 in
set_option maxRecDepth 40000 in
theorem K_X8_init {cI : mj_I} {a0 : Nat} {a1 : Nat} {a2 : Nat} {a3 : Nat} : mx_Sem cI yX8_init cX8_init 4 none 2 15 255 [mj_o (some a0), mj_o (some a1), mj_o (some a2), mj_o (some a3)] [(a0, .inr (9, [.null, .null, .null, .null, .null, .null, .int 0, .int 0, .int 0, .int 0, .int 0, .int 0, .int 0, .int 0, .int 0, .int 0]))] (fun r Y' => r = none ∧ ∃ q1 q2 q3 q4 q5 q6 q7 q8 q9 q10 q11 q12 q13 q14 q15 : Nat, Y' = [(a0, .inr (9, [.ref a1, .ref a2, .ref a3, .ref q1, .ref q6, .ref q11, .int 6, .int 0, .int 0, .int 0, .int 0, .int 0, .int (-1), .int 0, .int (-1), .int 0])), (q1, .inr (8, [.ref q2, .ref q3, .ref q4, .ref q5, .int 0])), (q2, .inl (cI.1, 20, .inl (fun _ => 0))), (q3, .inl (cI.1, 20, .inl (fun _ => 0))), (q4, .inl (cI.1, 20, .inl (fun _ => 0))), (q5, .inl (cI.1, 20, .inl (fun _ => 0))), (q6, .inr (8, [.ref q7, .ref q8, .ref q9, .ref q10, .int 0])), (q7, .inl (cI.1, 20, .inl (fun _ => 0))), (q8, .inl (cI.1, 20, .inl (fun _ => 0))), (q9, .inl (cI.1, 20, .inl (fun _ => 0))), (q10, .inl (cI.1, 20, .inl (fun _ => 0))), (q11, .inr (8, [.ref q12, .ref q13, .ref q14, .ref q15, .int 0])), (q12, .inl (cI.1, 20, .inl (fun _ => 0))), (q13, .inl (cI.1, 20, .inl (fun _ => 0))), (q14, .inl (cI.1, 20, .inl (fun _ => 0))), (q15, .inl (cI.1, 20, .inl (fun _ => 0)))]) := by
  refine mx_intro (by decide) (Nat.le_of_ble_eq_true rfl) ?_
  intro κ M C hcI hR hmc hms hT hN
  subst hcI
  have C : mj_C κ cX8_init 4 RX8 := C
  show mj_R (mj_ky κ [(a0, .inr (9, [.null, .null, .null, .null, .null, .null, .int 0, .int 0, .int 0, .int 0, .int 0, .int 0, .int 0, .int 0, .int 0, .int 0]))] 0 0) (mx_F κ M 15 255 _) 0 [some (mj_o (some a0)), some (mj_o (some a1)), some (mj_o (some a2)), some (mj_o (some a3))] [] M
  refine mx_aload_n (mx_D C hmc hms rfl rfl) dX8_init_0 rfl ?_
  refine mx_objInit C lM_X8_3 rfl mx_oi mx_oc (mj_rmc hR (by decide)) (Nat.le_of_ble_eq_true rfl) dX8_init_1 ?_
  refine mx_aload_n (mx_D C hmc hms rfl rfl) dX8_init_4 rfl ?_
  refine mx_new (fs := [.null, .null, .null, .null, .int 0]) tyX7 C (ci := 8) rfl inTX7 tyX7_ok (by exact (mj_in1 228 rfl rfl)) (by exact (mj_in1 134 rfl rfl)) (by exact (mj_in1 7 rfl rfl)) (fun j hj => by rcases (show j = 0 ∨ j = 1 ∨ j = 2 ∨ j = 3 ∨ j = 4 by omega) with rfl | rfl | rfl | rfl | rfl <;> rfl) (mx_lc hmc rfl) (mx_ls hms rfl) dX8_init_5 (fun q1 => ?_)
  show mj_R (mj_ky κ [(a0, .inr (9, [.null, .null, .null, .null, .null, .null, .int 0, .int 0, .int 0, .int 0, .int 0, .int 0, .int 0, .int 0, .int 0, .int 0])), (q1, .inr (8, [.null, .null, .null, .null, .int 0]))] 1 5) _ 8 [some (mj_o (some a0)), some (mj_o (some a1)), some (mj_o (some a2)), some (mj_o (some a3))] [mj_o (some q1), mj_o (some a0)] M
  refine mj_dup (mx_D C hmc hms rfl rfl) dX8_init_8 ?_
  refine mx_callIN (av := []) (Y0 := [(a0, .inr (9, [.null, .null, .null, .null, .null, .null, .int 0, .int 0, .int 0, .int 0, .int 0, .int 0, .int 0, .int 0, .int 0, .int 0]))]) (ce := 1) (sl := 5) C lN_X8_11 lk_X7_init rfl (mj_in1 136 rfl rfl) rfl (K_X7_init (a0 := q1)) rfl (mx_fit hR hmc hms rfl rfl rfl rfl) rfl (Nat.le_of_ble_eq_true rfl) dX8_init_9 (fun r Y' hp => ?_)
  obtain ⟨rfl, q2, q3, q4, q5, rfl⟩ := hp
  show mj_R (mj_ky κ [(a0, .inr (9, [.null, .null, .null, .null, .null, .null, .int 0, .int 0, .int 0, .int 0, .int 0, .int 0, .int 0, .int 0, .int 0, .int 0])), (q1, .inr (8, [.ref q2, .ref q3, .ref q4, .ref q5, .int 0])), (q2, .inl ((mj_cI κ).1, 20, .inl (fun _ => 0))), (q3, .inl ((mj_cI κ).1, 20, .inl (fun _ => 0))), (q4, .inl ((mj_cI κ).1, 20, .inl (fun _ => 0))), (q5, .inl ((mj_cI κ).1, 20, .inl (fun _ => 0)))] 5 85) _ 12 [some (mj_o (some a0)), some (mj_o (some a1)), some (mj_o (some a2)), some (mj_o (some a3))] [mj_o (some q1), mj_o (some a0)] M
  refine mx_putF (k := 0) (Y' := [(a0, .inr (9, [.null, .null, .null, .ref q1, .null, .null, .int 0, .int 0, .int 0, .int 0, .int 0, .int 0, .int 0, .int 0, .int 0, .int 0])), (q1, .inr (8, [.ref q2, .ref q3, .ref q4, .ref q5, .int 0])), (q2, .inl ((mj_cI κ).1, 20, .inl (fun _ => 0))), (q3, .inl ((mj_cI κ).1, 20, .inl (fun _ => 0))), (q4, .inl ((mj_cI κ).1, 20, .inl (fun _ => 0))), (q5, .inl ((mj_cI κ).1, 20, .inl (fun _ => 0)))]) C hN lF_X8_12 ⟨_, rfl, rfl⟩ fR_9_3 rfl (fun _ => rfl) rfl rfl (Nat.le_of_ble_eq_true rfl) dX8_init_12 rfl ?_
  refine mx_aload_n (mx_D C hmc hms rfl rfl) dX8_init_15 rfl ?_
  refine mx_new (fs := [.null, .null, .null, .null, .int 0]) tyX7 C (ci := 8) rfl inTX7 tyX7_ok (by exact (mj_in1 228 rfl rfl)) (by exact (mj_in1 134 rfl rfl)) (by exact (mj_in1 7 rfl rfl)) (fun j hj => by rcases (show j = 0 ∨ j = 1 ∨ j = 2 ∨ j = 3 ∨ j = 4 by omega) with rfl | rfl | rfl | rfl | rfl <;> rfl) (mx_lc hmc rfl) (mx_ls hms rfl) dX8_init_16 (fun q6 => ?_)
  show mj_R (mj_ky κ [(a0, .inr (9, [.null, .null, .null, .ref q1, .null, .null, .int 0, .int 0, .int 0, .int 0, .int 0, .int 0, .int 0, .int 0, .int 0, .int 0])), (q1, .inr (8, [.ref q2, .ref q3, .ref q4, .ref q5, .int 0])), (q2, .inl ((mj_cI κ).1, 20, .inl (fun _ => 0))), (q3, .inl ((mj_cI κ).1, 20, .inl (fun _ => 0))), (q4, .inl ((mj_cI κ).1, 20, .inl (fun _ => 0))), (q5, .inl ((mj_cI κ).1, 20, .inl (fun _ => 0))), (q6, .inr (8, [.null, .null, .null, .null, .int 0]))] 6 90) _ 19 [some (mj_o (some a0)), some (mj_o (some a1)), some (mj_o (some a2)), some (mj_o (some a3))] [mj_o (some q6), mj_o (some a0)] M
  refine mj_dup (mx_D C hmc hms rfl rfl) dX8_init_19 ?_
  refine mx_callIN (av := []) (Y0 := [(a0, .inr (9, [.null, .null, .null, .ref q1, .null, .null, .int 0, .int 0, .int 0, .int 0, .int 0, .int 0, .int 0, .int 0, .int 0, .int 0])), (q1, .inr (8, [.ref q2, .ref q3, .ref q4, .ref q5, .int 0])), (q2, .inl ((mj_cI κ).1, 20, .inl (fun _ => 0))), (q3, .inl ((mj_cI κ).1, 20, .inl (fun _ => 0))), (q4, .inl ((mj_cI κ).1, 20, .inl (fun _ => 0))), (q5, .inl ((mj_cI κ).1, 20, .inl (fun _ => 0)))]) (ce := 6) (sl := 90) C lN_X8_11 lk_X7_init rfl (mj_in1 136 rfl rfl) rfl (K_X7_init (a0 := q6)) rfl (mx_fit hR hmc hms rfl rfl rfl rfl) rfl (Nat.le_of_ble_eq_true rfl) dX8_init_20 (fun r Y' hp => ?_)
  obtain ⟨rfl, q7, q8, q9, q10, rfl⟩ := hp
  show mj_R (mj_ky κ [(a0, .inr (9, [.null, .null, .null, .ref q1, .null, .null, .int 0, .int 0, .int 0, .int 0, .int 0, .int 0, .int 0, .int 0, .int 0, .int 0])), (q1, .inr (8, [.ref q2, .ref q3, .ref q4, .ref q5, .int 0])), (q2, .inl ((mj_cI κ).1, 20, .inl (fun _ => 0))), (q3, .inl ((mj_cI κ).1, 20, .inl (fun _ => 0))), (q4, .inl ((mj_cI κ).1, 20, .inl (fun _ => 0))), (q5, .inl ((mj_cI κ).1, 20, .inl (fun _ => 0))), (q6, .inr (8, [.ref q7, .ref q8, .ref q9, .ref q10, .int 0])), (q7, .inl ((mj_cI κ).1, 20, .inl (fun _ => 0))), (q8, .inl ((mj_cI κ).1, 20, .inl (fun _ => 0))), (q9, .inl ((mj_cI κ).1, 20, .inl (fun _ => 0))), (q10, .inl ((mj_cI κ).1, 20, .inl (fun _ => 0)))] 10 170) _ 23 [some (mj_o (some a0)), some (mj_o (some a1)), some (mj_o (some a2)), some (mj_o (some a3))] [mj_o (some q6), mj_o (some a0)] M
  refine mx_putF (k := 0) (Y' := [(a0, .inr (9, [.null, .null, .null, .ref q1, .ref q6, .null, .int 0, .int 0, .int 0, .int 0, .int 0, .int 0, .int 0, .int 0, .int 0, .int 0])), (q1, .inr (8, [.ref q2, .ref q3, .ref q4, .ref q5, .int 0])), (q2, .inl ((mj_cI κ).1, 20, .inl (fun _ => 0))), (q3, .inl ((mj_cI κ).1, 20, .inl (fun _ => 0))), (q4, .inl ((mj_cI κ).1, 20, .inl (fun _ => 0))), (q5, .inl ((mj_cI κ).1, 20, .inl (fun _ => 0))), (q6, .inr (8, [.ref q7, .ref q8, .ref q9, .ref q10, .int 0])), (q7, .inl ((mj_cI κ).1, 20, .inl (fun _ => 0))), (q8, .inl ((mj_cI κ).1, 20, .inl (fun _ => 0))), (q9, .inl ((mj_cI κ).1, 20, .inl (fun _ => 0))), (q10, .inl ((mj_cI κ).1, 20, .inl (fun _ => 0)))]) C hN lF_X8_18 ⟨_, rfl, rfl⟩ fR_9_4 rfl (fun _ => rfl) rfl rfl (Nat.le_of_ble_eq_true rfl) dX8_init_23 rfl ?_
  refine mx_aload_n (mx_D C hmc hms rfl rfl) dX8_init_26 rfl ?_
  refine mx_new (fs := [.null, .null, .null, .null, .int 0]) tyX7 C (ci := 8) rfl inTX7 tyX7_ok (by exact (mj_in1 228 rfl rfl)) (by exact (mj_in1 134 rfl rfl)) (by exact (mj_in1 7 rfl rfl)) (fun j hj => by rcases (show j = 0 ∨ j = 1 ∨ j = 2 ∨ j = 3 ∨ j = 4 by omega) with rfl | rfl | rfl | rfl | rfl <;> rfl) (mx_lc hmc rfl) (mx_ls hms rfl) dX8_init_27 (fun q11 => ?_)
  show mj_R (mj_ky κ [(a0, .inr (9, [.null, .null, .null, .ref q1, .ref q6, .null, .int 0, .int 0, .int 0, .int 0, .int 0, .int 0, .int 0, .int 0, .int 0, .int 0])), (q1, .inr (8, [.ref q2, .ref q3, .ref q4, .ref q5, .int 0])), (q2, .inl ((mj_cI κ).1, 20, .inl (fun _ => 0))), (q3, .inl ((mj_cI κ).1, 20, .inl (fun _ => 0))), (q4, .inl ((mj_cI κ).1, 20, .inl (fun _ => 0))), (q5, .inl ((mj_cI κ).1, 20, .inl (fun _ => 0))), (q6, .inr (8, [.ref q7, .ref q8, .ref q9, .ref q10, .int 0])), (q7, .inl ((mj_cI κ).1, 20, .inl (fun _ => 0))), (q8, .inl ((mj_cI κ).1, 20, .inl (fun _ => 0))), (q9, .inl ((mj_cI κ).1, 20, .inl (fun _ => 0))), (q10, .inl ((mj_cI κ).1, 20, .inl (fun _ => 0))), (q11, .inr (8, [.null, .null, .null, .null, .int 0]))] 11 175) _ 30 [some (mj_o (some a0)), some (mj_o (some a1)), some (mj_o (some a2)), some (mj_o (some a3))] [mj_o (some q11), mj_o (some a0)] M
  refine mj_dup (mx_D C hmc hms rfl rfl) dX8_init_30 ?_
  refine mx_callIN (av := []) (Y0 := [(a0, .inr (9, [.null, .null, .null, .ref q1, .ref q6, .null, .int 0, .int 0, .int 0, .int 0, .int 0, .int 0, .int 0, .int 0, .int 0, .int 0])), (q1, .inr (8, [.ref q2, .ref q3, .ref q4, .ref q5, .int 0])), (q2, .inl ((mj_cI κ).1, 20, .inl (fun _ => 0))), (q3, .inl ((mj_cI κ).1, 20, .inl (fun _ => 0))), (q4, .inl ((mj_cI κ).1, 20, .inl (fun _ => 0))), (q5, .inl ((mj_cI κ).1, 20, .inl (fun _ => 0))), (q6, .inr (8, [.ref q7, .ref q8, .ref q9, .ref q10, .int 0])), (q7, .inl ((mj_cI κ).1, 20, .inl (fun _ => 0))), (q8, .inl ((mj_cI κ).1, 20, .inl (fun _ => 0))), (q9, .inl ((mj_cI κ).1, 20, .inl (fun _ => 0))), (q10, .inl ((mj_cI κ).1, 20, .inl (fun _ => 0)))]) (ce := 11) (sl := 175) C lN_X8_11 lk_X7_init rfl (mj_in1 136 rfl rfl) rfl (K_X7_init (a0 := q11)) rfl (mx_fit hR hmc hms rfl rfl rfl rfl) rfl (Nat.le_of_ble_eq_true rfl) dX8_init_31 (fun r Y' hp => ?_)
  obtain ⟨rfl, q12, q13, q14, q15, rfl⟩ := hp
  show mj_R (mj_ky κ [(a0, .inr (9, [.null, .null, .null, .ref q1, .ref q6, .null, .int 0, .int 0, .int 0, .int 0, .int 0, .int 0, .int 0, .int 0, .int 0, .int 0])), (q1, .inr (8, [.ref q2, .ref q3, .ref q4, .ref q5, .int 0])), (q2, .inl ((mj_cI κ).1, 20, .inl (fun _ => 0))), (q3, .inl ((mj_cI κ).1, 20, .inl (fun _ => 0))), (q4, .inl ((mj_cI κ).1, 20, .inl (fun _ => 0))), (q5, .inl ((mj_cI κ).1, 20, .inl (fun _ => 0))), (q6, .inr (8, [.ref q7, .ref q8, .ref q9, .ref q10, .int 0])), (q7, .inl ((mj_cI κ).1, 20, .inl (fun _ => 0))), (q8, .inl ((mj_cI κ).1, 20, .inl (fun _ => 0))), (q9, .inl ((mj_cI κ).1, 20, .inl (fun _ => 0))), (q10, .inl ((mj_cI κ).1, 20, .inl (fun _ => 0))), (q11, .inr (8, [.ref q12, .ref q13, .ref q14, .ref q15, .int 0])), (q12, .inl ((mj_cI κ).1, 20, .inl (fun _ => 0))), (q13, .inl ((mj_cI κ).1, 20, .inl (fun _ => 0))), (q14, .inl ((mj_cI κ).1, 20, .inl (fun _ => 0))), (q15, .inl ((mj_cI κ).1, 20, .inl (fun _ => 0)))] 15 255) _ 34 [some (mj_o (some a0)), some (mj_o (some a1)), some (mj_o (some a2)), some (mj_o (some a3))] [mj_o (some q11), mj_o (some a0)] M
  refine mx_putF (k := 0) (Y' := [(a0, .inr (9, [.null, .null, .null, .ref q1, .ref q6, .ref q11, .int 0, .int 0, .int 0, .int 0, .int 0, .int 0, .int 0, .int 0, .int 0, .int 0])), (q1, .inr (8, [.ref q2, .ref q3, .ref q4, .ref q5, .int 0])), (q2, .inl ((mj_cI κ).1, 20, .inl (fun _ => 0))), (q3, .inl ((mj_cI κ).1, 20, .inl (fun _ => 0))), (q4, .inl ((mj_cI κ).1, 20, .inl (fun _ => 0))), (q5, .inl ((mj_cI κ).1, 20, .inl (fun _ => 0))), (q6, .inr (8, [.ref q7, .ref q8, .ref q9, .ref q10, .int 0])), (q7, .inl ((mj_cI κ).1, 20, .inl (fun _ => 0))), (q8, .inl ((mj_cI κ).1, 20, .inl (fun _ => 0))), (q9, .inl ((mj_cI κ).1, 20, .inl (fun _ => 0))), (q10, .inl ((mj_cI κ).1, 20, .inl (fun _ => 0))), (q11, .inr (8, [.ref q12, .ref q13, .ref q14, .ref q15, .int 0])), (q12, .inl ((mj_cI κ).1, 20, .inl (fun _ => 0))), (q13, .inl ((mj_cI κ).1, 20, .inl (fun _ => 0))), (q14, .inl ((mj_cI κ).1, 20, .inl (fun _ => 0))), (q15, .inl ((mj_cI κ).1, 20, .inl (fun _ => 0)))]) C hN lF_X8_21 ⟨_, rfl, rfl⟩ fR_9_5 rfl (fun _ => rfl) rfl rfl (Nat.le_of_ble_eq_true rfl) dX8_init_34 rfl ?_
  refine mx_aload_n (mx_D C hmc hms rfl rfl) dX8_init_37 rfl ?_
  refine mj_bipush (v := 6) (mx_D C hmc hms rfl rfl) dX8_init_38 (by decide) ?_
  refine mx_put (k := 0) (Y' := [(a0, .inr (9, [.null, .null, .null, .ref q1, .ref q6, .ref q11, .int 6, .int 0, .int 0, .int 0, .int 0, .int 0, .int 0, .int 0, .int 0, .int 0])), (q1, .inr (8, [.ref q2, .ref q3, .ref q4, .ref q5, .int 0])), (q2, .inl ((mj_cI κ).1, 20, .inl (fun _ => 0))), (q3, .inl ((mj_cI κ).1, 20, .inl (fun _ => 0))), (q4, .inl ((mj_cI κ).1, 20, .inl (fun _ => 0))), (q5, .inl ((mj_cI κ).1, 20, .inl (fun _ => 0))), (q6, .inr (8, [.ref q7, .ref q8, .ref q9, .ref q10, .int 0])), (q7, .inl ((mj_cI κ).1, 20, .inl (fun _ => 0))), (q8, .inl ((mj_cI κ).1, 20, .inl (fun _ => 0))), (q9, .inl ((mj_cI κ).1, 20, .inl (fun _ => 0))), (q10, .inl ((mj_cI κ).1, 20, .inl (fun _ => 0))), (q11, .inr (8, [.ref q12, .ref q13, .ref q14, .ref q15, .int 0])), (q12, .inl ((mj_cI κ).1, 20, .inl (fun _ => 0))), (q13, .inl ((mj_cI κ).1, 20, .inl (fun _ => 0))), (q14, .inl ((mj_cI κ).1, 20, .inl (fun _ => 0))), (q15, .inl ((mj_cI κ).1, 20, .inl (fun _ => 0)))]) C lF_X8_24 fR_9_6 rfl (fun _ => rfl) (vp_nar_int _) rfl (Nat.le_of_ble_eq_true rfl) dX8_init_40 rfl ?_
  refine mx_aload_n (mx_D C hmc hms rfl rfl) dX8_init_43 rfl ?_
  refine mj_iconst (v := 0) (mx_D C hmc hms rfl rfl) dX8_init_44 (by decide) ?_
  refine mx_put (k := 0) (Y' := [(a0, .inr (9, [.null, .null, .null, .ref q1, .ref q6, .ref q11, .int 6, .int 0, .int 0, .int 0, .int 0, .int 0, .int 0, .int 0, .int 0, .int 0])), (q1, .inr (8, [.ref q2, .ref q3, .ref q4, .ref q5, .int 0])), (q2, .inl ((mj_cI κ).1, 20, .inl (fun _ => 0))), (q3, .inl ((mj_cI κ).1, 20, .inl (fun _ => 0))), (q4, .inl ((mj_cI κ).1, 20, .inl (fun _ => 0))), (q5, .inl ((mj_cI κ).1, 20, .inl (fun _ => 0))), (q6, .inr (8, [.ref q7, .ref q8, .ref q9, .ref q10, .int 0])), (q7, .inl ((mj_cI κ).1, 20, .inl (fun _ => 0))), (q8, .inl ((mj_cI κ).1, 20, .inl (fun _ => 0))), (q9, .inl ((mj_cI κ).1, 20, .inl (fun _ => 0))), (q10, .inl ((mj_cI κ).1, 20, .inl (fun _ => 0))), (q11, .inr (8, [.ref q12, .ref q13, .ref q14, .ref q15, .int 0])), (q12, .inl ((mj_cI κ).1, 20, .inl (fun _ => 0))), (q13, .inl ((mj_cI κ).1, 20, .inl (fun _ => 0))), (q14, .inl ((mj_cI κ).1, 20, .inl (fun _ => 0))), (q15, .inl ((mj_cI κ).1, 20, .inl (fun _ => 0)))]) C lF_X8_28 fR_9_7 rfl (fun _ => rfl) (vp_nar_int _) rfl (Nat.le_of_ble_eq_true rfl) dX8_init_45 rfl ?_
  refine mx_aload_n (mx_D C hmc hms rfl rfl) dX8_init_48 rfl ?_
  refine mj_iconst (v := 0) (mx_D C hmc hms rfl rfl) dX8_init_49 (by decide) ?_
  refine mx_put (k := 0) (Y' := [(a0, .inr (9, [.null, .null, .null, .ref q1, .ref q6, .ref q11, .int 6, .int 0, .int 0, .int 0, .int 0, .int 0, .int 0, .int 0, .int 0, .int 0])), (q1, .inr (8, [.ref q2, .ref q3, .ref q4, .ref q5, .int 0])), (q2, .inl ((mj_cI κ).1, 20, .inl (fun _ => 0))), (q3, .inl ((mj_cI κ).1, 20, .inl (fun _ => 0))), (q4, .inl ((mj_cI κ).1, 20, .inl (fun _ => 0))), (q5, .inl ((mj_cI κ).1, 20, .inl (fun _ => 0))), (q6, .inr (8, [.ref q7, .ref q8, .ref q9, .ref q10, .int 0])), (q7, .inl ((mj_cI κ).1, 20, .inl (fun _ => 0))), (q8, .inl ((mj_cI κ).1, 20, .inl (fun _ => 0))), (q9, .inl ((mj_cI κ).1, 20, .inl (fun _ => 0))), (q10, .inl ((mj_cI κ).1, 20, .inl (fun _ => 0))), (q11, .inr (8, [.ref q12, .ref q13, .ref q14, .ref q15, .int 0])), (q12, .inl ((mj_cI κ).1, 20, .inl (fun _ => 0))), (q13, .inl ((mj_cI κ).1, 20, .inl (fun _ => 0))), (q14, .inl ((mj_cI κ).1, 20, .inl (fun _ => 0))), (q15, .inl ((mj_cI κ).1, 20, .inl (fun _ => 0)))]) C lF_X8_31 fR_9_8 rfl (fun _ => rfl) (vp_nar_int _) rfl (Nat.le_of_ble_eq_true rfl) dX8_init_50 rfl ?_
  refine mx_aload_n (mx_D C hmc hms rfl rfl) dX8_init_53 rfl ?_
  refine mj_iconst (v := 0) (mx_D C hmc hms rfl rfl) dX8_init_54 (by decide) ?_
  refine mx_put (k := 0) (Y' := [(a0, .inr (9, [.null, .null, .null, .ref q1, .ref q6, .ref q11, .int 6, .int 0, .int 0, .int 0, .int 0, .int 0, .int 0, .int 0, .int 0, .int 0])), (q1, .inr (8, [.ref q2, .ref q3, .ref q4, .ref q5, .int 0])), (q2, .inl ((mj_cI κ).1, 20, .inl (fun _ => 0))), (q3, .inl ((mj_cI κ).1, 20, .inl (fun _ => 0))), (q4, .inl ((mj_cI κ).1, 20, .inl (fun _ => 0))), (q5, .inl ((mj_cI κ).1, 20, .inl (fun _ => 0))), (q6, .inr (8, [.ref q7, .ref q8, .ref q9, .ref q10, .int 0])), (q7, .inl ((mj_cI κ).1, 20, .inl (fun _ => 0))), (q8, .inl ((mj_cI κ).1, 20, .inl (fun _ => 0))), (q9, .inl ((mj_cI κ).1, 20, .inl (fun _ => 0))), (q10, .inl ((mj_cI κ).1, 20, .inl (fun _ => 0))), (q11, .inr (8, [.ref q12, .ref q13, .ref q14, .ref q15, .int 0])), (q12, .inl ((mj_cI κ).1, 20, .inl (fun _ => 0))), (q13, .inl ((mj_cI κ).1, 20, .inl (fun _ => 0))), (q14, .inl ((mj_cI κ).1, 20, .inl (fun _ => 0))), (q15, .inl ((mj_cI κ).1, 20, .inl (fun _ => 0)))]) C lF_X8_34 fR_9_9 rfl (fun _ => rfl) (vp_nar_int _) rfl (Nat.le_of_ble_eq_true rfl) dX8_init_55 rfl ?_
  refine mx_aload_n (mx_D C hmc hms rfl rfl) dX8_init_58 rfl ?_
  refine mj_iconst (v := 0) (mx_D C hmc hms rfl rfl) dX8_init_59 (by decide) ?_
  refine mx_put (k := 0) (Y' := [(a0, .inr (9, [.null, .null, .null, .ref q1, .ref q6, .ref q11, .int 6, .int 0, .int 0, .int 0, .int 0, .int 0, .int 0, .int 0, .int 0, .int 0])), (q1, .inr (8, [.ref q2, .ref q3, .ref q4, .ref q5, .int 0])), (q2, .inl ((mj_cI κ).1, 20, .inl (fun _ => 0))), (q3, .inl ((mj_cI κ).1, 20, .inl (fun _ => 0))), (q4, .inl ((mj_cI κ).1, 20, .inl (fun _ => 0))), (q5, .inl ((mj_cI κ).1, 20, .inl (fun _ => 0))), (q6, .inr (8, [.ref q7, .ref q8, .ref q9, .ref q10, .int 0])), (q7, .inl ((mj_cI κ).1, 20, .inl (fun _ => 0))), (q8, .inl ((mj_cI κ).1, 20, .inl (fun _ => 0))), (q9, .inl ((mj_cI κ).1, 20, .inl (fun _ => 0))), (q10, .inl ((mj_cI κ).1, 20, .inl (fun _ => 0))), (q11, .inr (8, [.ref q12, .ref q13, .ref q14, .ref q15, .int 0])), (q12, .inl ((mj_cI κ).1, 20, .inl (fun _ => 0))), (q13, .inl ((mj_cI κ).1, 20, .inl (fun _ => 0))), (q14, .inl ((mj_cI κ).1, 20, .inl (fun _ => 0))), (q15, .inl ((mj_cI κ).1, 20, .inl (fun _ => 0)))]) C lF_X8_37 fR_9_10 rfl (fun _ => rfl) (vp_nar_int _) rfl (Nat.le_of_ble_eq_true rfl) dX8_init_60 rfl ?_
  refine mx_aload_n (mx_D C hmc hms rfl rfl) dX8_init_63 rfl ?_
  refine mj_iconst (v := 0) (mx_D C hmc hms rfl rfl) dX8_init_64 (by decide) ?_
  refine mx_put (k := 0) (Y' := [(a0, .inr (9, [.null, .null, .null, .ref q1, .ref q6, .ref q11, .int 6, .int 0, .int 0, .int 0, .int 0, .int 0, .int 0, .int 0, .int 0, .int 0])), (q1, .inr (8, [.ref q2, .ref q3, .ref q4, .ref q5, .int 0])), (q2, .inl ((mj_cI κ).1, 20, .inl (fun _ => 0))), (q3, .inl ((mj_cI κ).1, 20, .inl (fun _ => 0))), (q4, .inl ((mj_cI κ).1, 20, .inl (fun _ => 0))), (q5, .inl ((mj_cI κ).1, 20, .inl (fun _ => 0))), (q6, .inr (8, [.ref q7, .ref q8, .ref q9, .ref q10, .int 0])), (q7, .inl ((mj_cI κ).1, 20, .inl (fun _ => 0))), (q8, .inl ((mj_cI κ).1, 20, .inl (fun _ => 0))), (q9, .inl ((mj_cI κ).1, 20, .inl (fun _ => 0))), (q10, .inl ((mj_cI κ).1, 20, .inl (fun _ => 0))), (q11, .inr (8, [.ref q12, .ref q13, .ref q14, .ref q15, .int 0])), (q12, .inl ((mj_cI κ).1, 20, .inl (fun _ => 0))), (q13, .inl ((mj_cI κ).1, 20, .inl (fun _ => 0))), (q14, .inl ((mj_cI κ).1, 20, .inl (fun _ => 0))), (q15, .inl ((mj_cI κ).1, 20, .inl (fun _ => 0)))]) C lF_X8_40 fR_9_11 rfl (fun _ => rfl) (vp_nar_int _) rfl (Nat.le_of_ble_eq_true rfl) dX8_init_65 rfl ?_
  refine mx_aload_n (mx_D C hmc hms rfl rfl) dX8_init_68 rfl ?_
  refine mj_iconst (v := (-1)) (mx_D C hmc hms rfl rfl) dX8_init_69 (by decide) ?_
  refine mx_put (k := 0) (Y' := [(a0, .inr (9, [.null, .null, .null, .ref q1, .ref q6, .ref q11, .int 6, .int 0, .int 0, .int 0, .int 0, .int 0, .int (-1), .int 0, .int 0, .int 0])), (q1, .inr (8, [.ref q2, .ref q3, .ref q4, .ref q5, .int 0])), (q2, .inl ((mj_cI κ).1, 20, .inl (fun _ => 0))), (q3, .inl ((mj_cI κ).1, 20, .inl (fun _ => 0))), (q4, .inl ((mj_cI κ).1, 20, .inl (fun _ => 0))), (q5, .inl ((mj_cI κ).1, 20, .inl (fun _ => 0))), (q6, .inr (8, [.ref q7, .ref q8, .ref q9, .ref q10, .int 0])), (q7, .inl ((mj_cI κ).1, 20, .inl (fun _ => 0))), (q8, .inl ((mj_cI κ).1, 20, .inl (fun _ => 0))), (q9, .inl ((mj_cI κ).1, 20, .inl (fun _ => 0))), (q10, .inl ((mj_cI κ).1, 20, .inl (fun _ => 0))), (q11, .inr (8, [.ref q12, .ref q13, .ref q14, .ref q15, .int 0])), (q12, .inl ((mj_cI κ).1, 20, .inl (fun _ => 0))), (q13, .inl ((mj_cI κ).1, 20, .inl (fun _ => 0))), (q14, .inl ((mj_cI κ).1, 20, .inl (fun _ => 0))), (q15, .inl ((mj_cI κ).1, 20, .inl (fun _ => 0)))]) C lF_X8_43 fR_9_12 rfl (fun _ => rfl) (vp_nar_int _) rfl (Nat.le_of_ble_eq_true rfl) dX8_init_70 rfl ?_
  refine mx_aload_n (mx_D C hmc hms rfl rfl) dX8_init_73 rfl ?_
  refine mj_iconst (v := 0) (mx_D C hmc hms rfl rfl) dX8_init_74 (by decide) ?_
  refine mx_put (k := 0) (Y' := [(a0, .inr (9, [.null, .null, .null, .ref q1, .ref q6, .ref q11, .int 6, .int 0, .int 0, .int 0, .int 0, .int 0, .int (-1), .int 0, .int 0, .int 0])), (q1, .inr (8, [.ref q2, .ref q3, .ref q4, .ref q5, .int 0])), (q2, .inl ((mj_cI κ).1, 20, .inl (fun _ => 0))), (q3, .inl ((mj_cI κ).1, 20, .inl (fun _ => 0))), (q4, .inl ((mj_cI κ).1, 20, .inl (fun _ => 0))), (q5, .inl ((mj_cI κ).1, 20, .inl (fun _ => 0))), (q6, .inr (8, [.ref q7, .ref q8, .ref q9, .ref q10, .int 0])), (q7, .inl ((mj_cI κ).1, 20, .inl (fun _ => 0))), (q8, .inl ((mj_cI κ).1, 20, .inl (fun _ => 0))), (q9, .inl ((mj_cI κ).1, 20, .inl (fun _ => 0))), (q10, .inl ((mj_cI κ).1, 20, .inl (fun _ => 0))), (q11, .inr (8, [.ref q12, .ref q13, .ref q14, .ref q15, .int 0])), (q12, .inl ((mj_cI κ).1, 20, .inl (fun _ => 0))), (q13, .inl ((mj_cI κ).1, 20, .inl (fun _ => 0))), (q14, .inl ((mj_cI κ).1, 20, .inl (fun _ => 0))), (q15, .inl ((mj_cI κ).1, 20, .inl (fun _ => 0)))]) C lF_X8_46 fR_9_13 rfl (fun _ => rfl) rfl rfl (Nat.le_of_ble_eq_true rfl) dX8_init_75 rfl ?_
  refine mx_aload_n (mx_D C hmc hms rfl rfl) dX8_init_78 rfl ?_
  refine mj_iconst (v := (-1)) (mx_D C hmc hms rfl rfl) dX8_init_79 (by decide) ?_
  refine mx_put (k := 0) (Y' := [(a0, .inr (9, [.null, .null, .null, .ref q1, .ref q6, .ref q11, .int 6, .int 0, .int 0, .int 0, .int 0, .int 0, .int (-1), .int 0, .int (-1), .int 0])), (q1, .inr (8, [.ref q2, .ref q3, .ref q4, .ref q5, .int 0])), (q2, .inl ((mj_cI κ).1, 20, .inl (fun _ => 0))), (q3, .inl ((mj_cI κ).1, 20, .inl (fun _ => 0))), (q4, .inl ((mj_cI κ).1, 20, .inl (fun _ => 0))), (q5, .inl ((mj_cI κ).1, 20, .inl (fun _ => 0))), (q6, .inr (8, [.ref q7, .ref q8, .ref q9, .ref q10, .int 0])), (q7, .inl ((mj_cI κ).1, 20, .inl (fun _ => 0))), (q8, .inl ((mj_cI κ).1, 20, .inl (fun _ => 0))), (q9, .inl ((mj_cI κ).1, 20, .inl (fun _ => 0))), (q10, .inl ((mj_cI κ).1, 20, .inl (fun _ => 0))), (q11, .inr (8, [.ref q12, .ref q13, .ref q14, .ref q15, .int 0])), (q12, .inl ((mj_cI κ).1, 20, .inl (fun _ => 0))), (q13, .inl ((mj_cI κ).1, 20, .inl (fun _ => 0))), (q14, .inl ((mj_cI κ).1, 20, .inl (fun _ => 0))), (q15, .inl ((mj_cI κ).1, 20, .inl (fun _ => 0)))]) C lF_X8_50 fR_9_14 rfl (fun _ => rfl) (vp_nar_int _) rfl (Nat.le_of_ble_eq_true rfl) dX8_init_80 rfl ?_
  refine mx_aload_n (mx_D C hmc hms rfl rfl) dX8_init_83 rfl ?_
  refine mj_iconst (v := 0) (mx_D C hmc hms rfl rfl) dX8_init_84 (by decide) ?_
  refine mx_put (k := 0) (Y' := [(a0, .inr (9, [.null, .null, .null, .ref q1, .ref q6, .ref q11, .int 6, .int 0, .int 0, .int 0, .int 0, .int 0, .int (-1), .int 0, .int (-1), .int 0])), (q1, .inr (8, [.ref q2, .ref q3, .ref q4, .ref q5, .int 0])), (q2, .inl ((mj_cI κ).1, 20, .inl (fun _ => 0))), (q3, .inl ((mj_cI κ).1, 20, .inl (fun _ => 0))), (q4, .inl ((mj_cI κ).1, 20, .inl (fun _ => 0))), (q5, .inl ((mj_cI κ).1, 20, .inl (fun _ => 0))), (q6, .inr (8, [.ref q7, .ref q8, .ref q9, .ref q10, .int 0])), (q7, .inl ((mj_cI κ).1, 20, .inl (fun _ => 0))), (q8, .inl ((mj_cI κ).1, 20, .inl (fun _ => 0))), (q9, .inl ((mj_cI κ).1, 20, .inl (fun _ => 0))), (q10, .inl ((mj_cI κ).1, 20, .inl (fun _ => 0))), (q11, .inr (8, [.ref q12, .ref q13, .ref q14, .ref q15, .int 0])), (q12, .inl ((mj_cI κ).1, 20, .inl (fun _ => 0))), (q13, .inl ((mj_cI κ).1, 20, .inl (fun _ => 0))), (q14, .inl ((mj_cI κ).1, 20, .inl (fun _ => 0))), (q15, .inl ((mj_cI κ).1, 20, .inl (fun _ => 0)))]) C lF_X8_53 fR_9_15 rfl (fun _ => rfl) (vp_nar_int _) rfl (Nat.le_of_ble_eq_true rfl) dX8_init_85 rfl ?_
  refine mx_aload_n (mx_D C hmc hms rfl rfl) dX8_init_88 rfl ?_
  refine mx_aload_n (mx_D C hmc hms rfl rfl) dX8_init_89 rfl ?_
  refine mx_putF (k := 0) (Y' := [(a0, .inr (9, [.ref a1, .null, .null, .ref q1, .ref q6, .ref q11, .int 6, .int 0, .int 0, .int 0, .int 0, .int 0, .int (-1), .int 0, .int (-1), .int 0])), (q1, .inr (8, [.ref q2, .ref q3, .ref q4, .ref q5, .int 0])), (q2, .inl ((mj_cI κ).1, 20, .inl (fun _ => 0))), (q3, .inl ((mj_cI κ).1, 20, .inl (fun _ => 0))), (q4, .inl ((mj_cI κ).1, 20, .inl (fun _ => 0))), (q5, .inl ((mj_cI κ).1, 20, .inl (fun _ => 0))), (q6, .inr (8, [.ref q7, .ref q8, .ref q9, .ref q10, .int 0])), (q7, .inl ((mj_cI κ).1, 20, .inl (fun _ => 0))), (q8, .inl ((mj_cI κ).1, 20, .inl (fun _ => 0))), (q9, .inl ((mj_cI κ).1, 20, .inl (fun _ => 0))), (q10, .inl ((mj_cI κ).1, 20, .inl (fun _ => 0))), (q11, .inr (8, [.ref q12, .ref q13, .ref q14, .ref q15, .int 0])), (q12, .inl ((mj_cI κ).1, 20, .inl (fun _ => 0))), (q13, .inl ((mj_cI κ).1, 20, .inl (fun _ => 0))), (q14, .inl ((mj_cI κ).1, 20, .inl (fun _ => 0))), (q15, .inl ((mj_cI κ).1, 20, .inl (fun _ => 0)))]) C hN lF_X8_56 ⟨_, rfl, rfl⟩ fR_9_0 rfl (fun _ => rfl) rfl rfl (Nat.le_of_ble_eq_true rfl) dX8_init_90 rfl ?_
  refine mx_aload_n (mx_D C hmc hms rfl rfl) dX8_init_93 rfl ?_
  refine mx_aload_n (mx_D C hmc hms rfl rfl) dX8_init_94 rfl ?_
  refine mx_putF (k := 0) (Y' := [(a0, .inr (9, [.ref a1, .ref a2, .null, .ref q1, .ref q6, .ref q11, .int 6, .int 0, .int 0, .int 0, .int 0, .int 0, .int (-1), .int 0, .int (-1), .int 0])), (q1, .inr (8, [.ref q2, .ref q3, .ref q4, .ref q5, .int 0])), (q2, .inl ((mj_cI κ).1, 20, .inl (fun _ => 0))), (q3, .inl ((mj_cI κ).1, 20, .inl (fun _ => 0))), (q4, .inl ((mj_cI κ).1, 20, .inl (fun _ => 0))), (q5, .inl ((mj_cI κ).1, 20, .inl (fun _ => 0))), (q6, .inr (8, [.ref q7, .ref q8, .ref q9, .ref q10, .int 0])), (q7, .inl ((mj_cI κ).1, 20, .inl (fun _ => 0))), (q8, .inl ((mj_cI κ).1, 20, .inl (fun _ => 0))), (q9, .inl ((mj_cI κ).1, 20, .inl (fun _ => 0))), (q10, .inl ((mj_cI κ).1, 20, .inl (fun _ => 0))), (q11, .inr (8, [.ref q12, .ref q13, .ref q14, .ref q15, .int 0])), (q12, .inl ((mj_cI κ).1, 20, .inl (fun _ => 0))), (q13, .inl ((mj_cI κ).1, 20, .inl (fun _ => 0))), (q14, .inl ((mj_cI κ).1, 20, .inl (fun _ => 0))), (q15, .inl ((mj_cI κ).1, 20, .inl (fun _ => 0)))]) C hN lF_X8_60 ⟨_, rfl, rfl⟩ fR_9_1 rfl (fun _ => rfl) rfl rfl (Nat.le_of_ble_eq_true rfl) dX8_init_95 rfl ?_
  refine mx_aload_n (mx_D C hmc hms rfl rfl) dX8_init_98 rfl ?_
  refine mx_aload_n (mx_D C hmc hms rfl rfl) dX8_init_99 rfl ?_
  refine mx_putF (k := 0) (Y' := [(a0, .inr (9, [.ref a1, .ref a2, .ref a3, .ref q1, .ref q6, .ref q11, .int 6, .int 0, .int 0, .int 0, .int 0, .int 0, .int (-1), .int 0, .int (-1), .int 0])), (q1, .inr (8, [.ref q2, .ref q3, .ref q4, .ref q5, .int 0])), (q2, .inl ((mj_cI κ).1, 20, .inl (fun _ => 0))), (q3, .inl ((mj_cI κ).1, 20, .inl (fun _ => 0))), (q4, .inl ((mj_cI κ).1, 20, .inl (fun _ => 0))), (q5, .inl ((mj_cI κ).1, 20, .inl (fun _ => 0))), (q6, .inr (8, [.ref q7, .ref q8, .ref q9, .ref q10, .int 0])), (q7, .inl ((mj_cI κ).1, 20, .inl (fun _ => 0))), (q8, .inl ((mj_cI κ).1, 20, .inl (fun _ => 0))), (q9, .inl ((mj_cI κ).1, 20, .inl (fun _ => 0))), (q10, .inl ((mj_cI κ).1, 20, .inl (fun _ => 0))), (q11, .inr (8, [.ref q12, .ref q13, .ref q14, .ref q15, .int 0])), (q12, .inl ((mj_cI κ).1, 20, .inl (fun _ => 0))), (q13, .inl ((mj_cI κ).1, 20, .inl (fun _ => 0))), (q14, .inl ((mj_cI κ).1, 20, .inl (fun _ => 0))), (q15, .inl ((mj_cI κ).1, 20, .inl (fun _ => 0)))]) C hN lF_X8_64 ⟨_, rfl, rfl⟩ fR_9_2 rfl (fun _ => rfl) rfl rfl (Nat.le_of_ble_eq_true rfl) dX8_init_100 rfl ?_
  exact mx_vret C hT (Nat.le_of_ble_eq_true rfl) (Nat.le_of_ble_eq_true rfl) dX8_init_103 ⟨rfl, q1, q2, q3, q4, q5, q6, q7, q8, q9, q10, q11, q12, q13, q14, q15, rfl⟩
set_option maxHeartbeats 8000000 in
set_option maxRecDepth 40000 in
theorem K_X5_init {cI : mj_I} {a0 : Nat} : mx_Sem cI yX5_init cX5_init 1 none 2 4 452 [mj_o (some a0)] [(a0, .inr (6, [.null, .int 0, .null, .int 0, .int 0, .int 0, .int 0, .int 0, .int 0]))] (fun r Y' => r = none ∧ ∃ q1 q2 q3 q4 : Nat, Y' = [(a0, .inr (6, [.ref q1, .int 0, .ref q2, .int 0, .int (-1), .int 0, .int 0, .int 0, .int 0])), (q1, .inl (cI.1, 400, .inl (fun _ => 0))), (q2, .inr (5, [.ref q3, .ref q4, .int 0, .int 0])), (q3, .inl (cI.1, 24, .inl (fun _ => 0))), (q4, .inl (cI.1, 24, .inl (fun _ => 0)))]) := by
  refine mx_intro (by decide) (Nat.le_of_ble_eq_true rfl) ?_
  intro κ M C hcI hR hmc hms hT hN
  subst hcI
  have C : mj_C κ cX5_init 1 RX5 := C
  show mj_R (mj_ky κ [(a0, .inr (6, [.null, .int 0, .null, .int 0, .int 0, .int 0, .int 0, .int 0, .int 0]))] 0 0) (mx_F κ M 4 452 _) 0 [some (mj_o (some a0))] [] M
  refine mx_aload_n (mx_D C hmc hms rfl rfl) dX5_init_0 rfl ?_
  refine mx_objInit C lM_X5_3 rfl mx_oi mx_oc (mj_rmc hR (by decide)) (Nat.le_of_ble_eq_true rfl) dX5_init_1 ?_
  refine mx_aload_n (mx_D C hmc hms rfl rfl) dX5_init_4 rfl ?_
  refine mj_sipush (v := 400) (mx_D C hmc hms rfl rfl) dX5_init_5 (by decide) ?_
  refine mx_newi (N' := 400) C mx_ai (by decide) (by decide) (by decide) (mx_lc hmc rfl) (mx_ls hms rfl) dX5_init_8 (fun q1 => ?_)
  show mj_R (mj_ky κ [(a0, .inr (6, [.null, .int 0, .null, .int 0, .int 0, .int 0, .int 0, .int 0, .int 0])), (q1, .inl ((mj_cI κ).1, 400, .inl (fun _ => 0)))] 1 400) _ 10 [some (mj_o (some a0))] [mj_o (some q1), mj_o (some a0)] M
  refine mx_putF (k := 0) (Y' := [(a0, .inr (6, [.ref q1, .int 0, .null, .int 0, .int 0, .int 0, .int 0, .int 0, .int 0])), (q1, .inl ((mj_cI κ).1, 400, .inl (fun _ => 0)))]) C hN lF_X5_11 ⟨_, rfl, rfl⟩ fR_6_0 rfl (fun _ => rfl) rfl rfl (Nat.le_of_ble_eq_true rfl) dX5_init_10 rfl ?_
  refine mx_aload_n (mx_D C hmc hms rfl rfl) dX5_init_13 rfl ?_
  refine mj_iconst (v := 0) (mx_D C hmc hms rfl rfl) dX5_init_14 (by decide) ?_
  refine mx_put (k := 0) (Y' := [(a0, .inr (6, [.ref q1, .int 0, .null, .int 0, .int 0, .int 0, .int 0, .int 0, .int 0])), (q1, .inl ((mj_cI κ).1, 400, .inl (fun _ => 0)))]) C lF_X5_15 fR_6_1 rfl (fun _ => rfl) (vp_nar_int _) rfl (Nat.le_of_ble_eq_true rfl) dX5_init_15 rfl ?_
  refine mx_aload_n (mx_D C hmc hms rfl rfl) dX5_init_18 rfl ?_
  refine mx_new (fs := [.null, .null, .int 0, .int 0]) tyX4 C (ci := 5) rfl inTX4 tyX4_ok (by exact (mj_in2 161 rfl rfl)) (by exact (mj_in2 97 rfl rfl)) (by exact (mj_in1 10 rfl rfl)) (fun j hj => by rcases (show j = 0 ∨ j = 1 ∨ j = 2 ∨ j = 3 by omega) with rfl | rfl | rfl | rfl <;> rfl) (mx_lc hmc rfl) (mx_ls hms rfl) dX5_init_19 (fun q2 => ?_)
  show mj_R (mj_ky κ [(a0, .inr (6, [.ref q1, .int 0, .null, .int 0, .int 0, .int 0, .int 0, .int 0, .int 0])), (q1, .inl ((mj_cI κ).1, 400, .inl (fun _ => 0))), (q2, .inr (5, [.null, .null, .int 0, .int 0]))] 2 404) _ 22 [some (mj_o (some a0))] [mj_o (some q2), mj_o (some a0)] M
  refine mj_dup (mx_D C hmc hms rfl rfl) dX5_init_22 ?_
  refine mx_callIN (av := []) (Y0 := [(a0, .inr (6, [.ref q1, .int 0, .null, .int 0, .int 0, .int 0, .int 0, .int 0, .int 0])), (q1, .inl ((mj_cI κ).1, 400, .inl (fun _ => 0)))]) (ce := 2) (sl := 404) C lN_X5_21 lk_X4_init rfl (mj_in2 99 rfl rfl) rfl (K_X4_init (a0 := q2)) rfl (mx_fit hR hmc hms rfl rfl rfl rfl) rfl (Nat.le_of_ble_eq_true rfl) dX5_init_23 (fun r Y' hp => ?_)
  obtain ⟨rfl, q3, q4, rfl⟩ := hp
  show mj_R (mj_ky κ [(a0, .inr (6, [.ref q1, .int 0, .null, .int 0, .int 0, .int 0, .int 0, .int 0, .int 0])), (q1, .inl ((mj_cI κ).1, 400, .inl (fun _ => 0))), (q2, .inr (5, [.ref q3, .ref q4, .int 0, .int 0])), (q3, .inl ((mj_cI κ).1, 24, .inl (fun _ => 0))), (q4, .inl ((mj_cI κ).1, 24, .inl (fun _ => 0)))] 4 452) _ 26 [some (mj_o (some a0))] [mj_o (some q2), mj_o (some a0)] M
  refine mx_putF (k := 0) (Y' := [(a0, .inr (6, [.ref q1, .int 0, .ref q2, .int 0, .int 0, .int 0, .int 0, .int 0, .int 0])), (q1, .inl ((mj_cI κ).1, 400, .inl (fun _ => 0))), (q2, .inr (5, [.ref q3, .ref q4, .int 0, .int 0])), (q3, .inl ((mj_cI κ).1, 24, .inl (fun _ => 0))), (q4, .inl ((mj_cI κ).1, 24, .inl (fun _ => 0)))]) C hN lF_X5_22 ⟨_, rfl, rfl⟩ fR_6_2 rfl (fun _ => rfl) rfl rfl (Nat.le_of_ble_eq_true rfl) dX5_init_26 rfl ?_
  refine mx_aload_n (mx_D C hmc hms rfl rfl) dX5_init_29 rfl ?_
  refine mj_iconst (v := 0) (mx_D C hmc hms rfl rfl) dX5_init_30 (by decide) ?_
  refine mx_put (k := 0) (Y' := [(a0, .inr (6, [.ref q1, .int 0, .ref q2, .int 0, .int 0, .int 0, .int 0, .int 0, .int 0])), (q1, .inl ((mj_cI κ).1, 400, .inl (fun _ => 0))), (q2, .inr (5, [.ref q3, .ref q4, .int 0, .int 0])), (q3, .inl ((mj_cI κ).1, 24, .inl (fun _ => 0))), (q4, .inl ((mj_cI κ).1, 24, .inl (fun _ => 0)))]) C lF_X5_26 fR_6_3 rfl (fun _ => rfl) (vp_nar_int _) rfl (Nat.le_of_ble_eq_true rfl) dX5_init_31 rfl ?_
  refine mx_aload_n (mx_D C hmc hms rfl rfl) dX5_init_34 rfl ?_
  refine mj_iconst (v := (-1)) (mx_D C hmc hms rfl rfl) dX5_init_35 (by decide) ?_
  refine mx_put (k := 0) (Y' := [(a0, .inr (6, [.ref q1, .int 0, .ref q2, .int 0, .int (-1), .int 0, .int 0, .int 0, .int 0])), (q1, .inl ((mj_cI κ).1, 400, .inl (fun _ => 0))), (q2, .inr (5, [.ref q3, .ref q4, .int 0, .int 0])), (q3, .inl ((mj_cI κ).1, 24, .inl (fun _ => 0))), (q4, .inl ((mj_cI κ).1, 24, .inl (fun _ => 0)))]) C lF_X5_29 fR_6_4 rfl (fun _ => rfl) (vp_nar_int _) rfl (Nat.le_of_ble_eq_true rfl) dX5_init_36 rfl ?_
  refine mx_aload_n (mx_D C hmc hms rfl rfl) dX5_init_39 rfl ?_
  refine mj_iconst (v := 0) (mx_D C hmc hms rfl rfl) dX5_init_40 (by decide) ?_
  refine mx_put (k := 0) (Y' := [(a0, .inr (6, [.ref q1, .int 0, .ref q2, .int 0, .int (-1), .int 0, .int 0, .int 0, .int 0])), (q1, .inl ((mj_cI κ).1, 400, .inl (fun _ => 0))), (q2, .inr (5, [.ref q3, .ref q4, .int 0, .int 0])), (q3, .inl ((mj_cI κ).1, 24, .inl (fun _ => 0))), (q4, .inl ((mj_cI κ).1, 24, .inl (fun _ => 0)))]) C lF_X5_32 fR_6_5 rfl (fun _ => rfl) (vp_nar_int _) rfl (Nat.le_of_ble_eq_true rfl) dX5_init_41 rfl ?_
  refine mx_aload_n (mx_D C hmc hms rfl rfl) dX5_init_44 rfl ?_
  refine mj_iconst (v := 0) (mx_D C hmc hms rfl rfl) dX5_init_45 (by decide) ?_
  refine mx_put (k := 0) (Y' := [(a0, .inr (6, [.ref q1, .int 0, .ref q2, .int 0, .int (-1), .int 0, .int 0, .int 0, .int 0])), (q1, .inl ((mj_cI κ).1, 400, .inl (fun _ => 0))), (q2, .inr (5, [.ref q3, .ref q4, .int 0, .int 0])), (q3, .inl ((mj_cI κ).1, 24, .inl (fun _ => 0))), (q4, .inl ((mj_cI κ).1, 24, .inl (fun _ => 0)))]) C lF_X5_35 fR_6_6 rfl (fun _ => rfl) (vp_nar_int _) rfl (Nat.le_of_ble_eq_true rfl) dX5_init_46 rfl ?_
  refine mx_aload_n (mx_D C hmc hms rfl rfl) dX5_init_49 rfl ?_
  refine mj_iconst (v := 0) (mx_D C hmc hms rfl rfl) dX5_init_50 (by decide) ?_
  refine mx_put (k := 0) (Y' := [(a0, .inr (6, [.ref q1, .int 0, .ref q2, .int 0, .int (-1), .int 0, .int 0, .int 0, .int 0])), (q1, .inl ((mj_cI κ).1, 400, .inl (fun _ => 0))), (q2, .inr (5, [.ref q3, .ref q4, .int 0, .int 0])), (q3, .inl ((mj_cI κ).1, 24, .inl (fun _ => 0))), (q4, .inl ((mj_cI κ).1, 24, .inl (fun _ => 0)))]) C lF_X5_38 fR_6_7 rfl (fun _ => rfl) (vp_nar_int _) rfl (Nat.le_of_ble_eq_true rfl) dX5_init_51 rfl ?_
  refine mx_aload_n (mx_D C hmc hms rfl rfl) dX5_init_54 rfl ?_
  refine mj_iconst (v := 0) (mx_D C hmc hms rfl rfl) dX5_init_55 (by decide) ?_
  refine mx_put (k := 0) (Y' := [(a0, .inr (6, [.ref q1, .int 0, .ref q2, .int 0, .int (-1), .int 0, .int 0, .int 0, .int 0])), (q1, .inl ((mj_cI κ).1, 400, .inl (fun _ => 0))), (q2, .inr (5, [.ref q3, .ref q4, .int 0, .int 0])), (q3, .inl ((mj_cI κ).1, 24, .inl (fun _ => 0))), (q4, .inl ((mj_cI κ).1, 24, .inl (fun _ => 0)))]) C lF_X5_41 fR_6_8 rfl (fun _ => rfl) (vp_nar_int _) rfl (Nat.le_of_ble_eq_true rfl) dX5_init_56 rfl ?_
  exact mx_vret C hT (Nat.le_of_ble_eq_true rfl) (Nat.le_of_ble_eq_true rfl) dX5_init_59 ⟨rfl, q1, q2, q3, q4, rfl⟩
