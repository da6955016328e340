set_option maxRecDepth 20000 in
theorem mx_oi : Cond.instanceMethod Lib.objectInit ∈ mj_T := (mj_in1 30 rfl rfl)
set_option maxRecDepth 20000 in
theorem mx_oc : Cond.code Lib.objectInit ⟨#[0xb1]⟩ 1 none ∈ mj_T := (mj_in1 31 rfl rfl)
set_option maxRecDepth 20000 in
theorem mx_ai : Cond.arrayClass .int ∈ mj_T := (mj_in1 73 rfl rfl)
theorem fR_1_0 : mj_fr 1 0 .int false := by
  intro C T N h
  cases h
  exact ⟨⟨tyX0, tyX0_ok, rfl⟩, nmX0, rfl, fun _ => rfl⟩
theorem fR_1_1 : mj_fr 1 1 .int false := by
  intro C T N h
  cases h
  exact ⟨⟨tyX0, tyX0_ok, rfl⟩, nmX0, rfl, fun _ => rfl⟩
theorem fR_1_2 : mj_fr 1 2 (.array .int) true := by
  intro C T N h
  cases h
  exact ⟨⟨tyX0, tyX0_ok, rfl⟩, nmX0, rfl, fun _ => rfl⟩
theorem fR_2_0 : mj_fr 2 0 (.object "CommandLink$Common") true := by
  intro C T N h
  cases h
  exact ⟨⟨tyX1, tyX1_ok, rfl⟩, nmX1, rfl, fun _ => rfl⟩
theorem fR_2_1 : mj_fr 2 1 (.array .int) true := by
  intro C T N h
  cases h
  exact ⟨⟨tyX1, tyX1_ok, rfl⟩, nmX1, rfl, fun _ => rfl⟩
theorem fR_2_2 : mj_fr 2 2 .int false := by
  intro C T N h
  cases h
  exact ⟨⟨tyX1, tyX1_ok, rfl⟩, nmX1, rfl, fun _ => rfl⟩
theorem fR_2_3 : mj_fr 2 3 (.array .int) true := by
  intro C T N h
  cases h
  exact ⟨⟨tyX1, tyX1_ok, rfl⟩, nmX1, rfl, fun _ => rfl⟩
theorem fR_2_4 : mj_fr 2 4 .int false := by
  intro C T N h
  cases h
  exact ⟨⟨tyX1, tyX1_ok, rfl⟩, nmX1, rfl, fun _ => rfl⟩
theorem fR_2_5 : mj_fr 2 5 .int false := by
  intro C T N h
  cases h
  exact ⟨⟨tyX1, tyX1_ok, rfl⟩, nmX1, rfl, fun _ => rfl⟩
theorem fR_2_6 : mj_fr 2 6 (.array .int) true := by
  intro C T N h
  cases h
  exact ⟨⟨tyX1, tyX1_ok, rfl⟩, nmX1, rfl, fun _ => rfl⟩
theorem fR_3_0 : mj_fr 3 0 (.object "CommandLink$Common") true := by
  intro C T N h
  cases h
  exact ⟨⟨tyX2, tyX2_ok, rfl⟩, nmX2, rfl, fun _ => rfl⟩
theorem fR_3_1 : mj_fr 3 1 (.array .int) true := by
  intro C T N h
  cases h
  exact ⟨⟨tyX2, tyX2_ok, rfl⟩, nmX2, rfl, fun _ => rfl⟩
theorem fR_3_2 : mj_fr 3 2 .int false := by
  intro C T N h
  cases h
  exact ⟨⟨tyX2, tyX2_ok, rfl⟩, nmX2, rfl, fun _ => rfl⟩
theorem fR_3_3 : mj_fr 3 3 (.array .int) true := by
  intro C T N h
  cases h
  exact ⟨⟨tyX2, tyX2_ok, rfl⟩, nmX2, rfl, fun _ => rfl⟩
theorem fR_3_4 : mj_fr 3 4 .int false := by
  intro C T N h
  cases h
  exact ⟨⟨tyX2, tyX2_ok, rfl⟩, nmX2, rfl, fun _ => rfl⟩
theorem fR_3_5 : mj_fr 3 5 .int false := by
  intro C T N h
  cases h
  exact ⟨⟨tyX2, tyX2_ok, rfl⟩, nmX2, rfl, fun _ => rfl⟩
theorem fR_4_0 : mj_fr 4 0 (.object "CommandLink$Common") true := by
  intro C T N h
  cases h
  exact ⟨⟨tyX3, tyX3_ok, rfl⟩, nmX3, rfl, fun _ => rfl⟩
theorem fR_4_1 : mj_fr 4 1 (.object "CommandLink$Ledger") true := by
  intro C T N h
  cases h
  exact ⟨⟨tyX3, tyX3_ok, rfl⟩, nmX3, rfl, fun _ => rfl⟩
theorem fR_4_2 : mj_fr 4 2 (.object "CommandLink$Diary") true := by
  intro C T N h
  cases h
  exact ⟨⟨tyX3, tyX3_ok, rfl⟩, nmX3, rfl, fun _ => rfl⟩
theorem fR_4_3 : mj_fr 4 3 (.object "CommandLink$Receiver") true := by
  intro C T N h
  cases h
  exact ⟨⟨tyX3, tyX3_ok, rfl⟩, nmX3, rfl, fun _ => rfl⟩
theorem fR_4_4 : mj_fr 4 4 (.object "CommandLink$Sender") true := by
  intro C T N h
  cases h
  exact ⟨⟨tyX3, tyX3_ok, rfl⟩, nmX3, rfl, fun _ => rfl⟩
theorem fR_4_5 : mj_fr 4 5 (.object "CommandLink$Way") true := by
  intro C T N h
  cases h
  exact ⟨⟨tyX3, tyX3_ok, rfl⟩, nmX3, rfl, fun _ => rfl⟩
theorem fR_4_6 : mj_fr 4 6 (.object "CommandLink$Way") true := by
  intro C T N h
  cases h
  exact ⟨⟨tyX3, tyX3_ok, rfl⟩, nmX3, rfl, fun _ => rfl⟩
theorem fR_4_7 : mj_fr 4 7 (.object "CommandLink$Plan") true := by
  intro C T N h
  cases h
  exact ⟨⟨tyX3, tyX3_ok, rfl⟩, nmX3, rfl, fun _ => rfl⟩
theorem fR_5_0 : mj_fr 5 0 (.array .int) true := by
  intro C T N h
  cases h
  exact ⟨⟨tyX4, tyX4_ok, rfl⟩, nmX4, rfl, fun _ => rfl⟩
theorem fR_5_1 : mj_fr 5 1 (.array .int) true := by
  intro C T N h
  cases h
  exact ⟨⟨tyX4, tyX4_ok, rfl⟩, nmX4, rfl, fun _ => rfl⟩
theorem fR_5_2 : mj_fr 5 2 .int false := by
  intro C T N h
  cases h
  exact ⟨⟨tyX4, tyX4_ok, rfl⟩, nmX4, rfl, fun _ => rfl⟩
theorem fR_5_3 : mj_fr 5 3 .int false := by
  intro C T N h
  cases h
  exact ⟨⟨tyX4, tyX4_ok, rfl⟩, nmX4, rfl, fun _ => rfl⟩
theorem fR_6_0 : mj_fr 6 0 (.array .int) true := by
  intro C T N h
  cases h
  exact ⟨⟨tyX5, tyX5_ok, rfl⟩, nmX5, rfl, fun _ => rfl⟩
theorem fR_6_1 : mj_fr 6 1 .int false := by
  intro C T N h
  cases h
  exact ⟨⟨tyX5, tyX5_ok, rfl⟩, nmX5, rfl, fun _ => rfl⟩
theorem fR_6_2 : mj_fr 6 2 (.object "CommandLink$Plan") true := by
  intro C T N h
  cases h
  exact ⟨⟨tyX5, tyX5_ok, rfl⟩, nmX5, rfl, fun _ => rfl⟩
theorem fR_6_3 : mj_fr 6 3 .int false := by
  intro C T N h
  cases h
  exact ⟨⟨tyX5, tyX5_ok, rfl⟩, nmX5, rfl, fun _ => rfl⟩
theorem fR_6_4 : mj_fr 6 4 .int false := by
  intro C T N h
  cases h
  exact ⟨⟨tyX5, tyX5_ok, rfl⟩, nmX5, rfl, fun _ => rfl⟩
theorem fR_6_5 : mj_fr 6 5 .int false := by
  intro C T N h
  cases h
  exact ⟨⟨tyX5, tyX5_ok, rfl⟩, nmX5, rfl, fun _ => rfl⟩
theorem fR_6_6 : mj_fr 6 6 .int false := by
  intro C T N h
  cases h
  exact ⟨⟨tyX5, tyX5_ok, rfl⟩, nmX5, rfl, fun _ => rfl⟩
theorem fR_6_7 : mj_fr 6 7 .int false := by
  intro C T N h
  cases h
  exact ⟨⟨tyX5, tyX5_ok, rfl⟩, nmX5, rfl, fun _ => rfl⟩
theorem fR_6_8 : mj_fr 6 8 .int false := by
  intro C T N h
  cases h
  exact ⟨⟨tyX5, tyX5_ok, rfl⟩, nmX5, rfl, fun _ => rfl⟩
theorem fR_7_0 : mj_fr 7 0 (.object "CommandLink$Common") true := by
  intro C T N h
  cases h
  exact ⟨⟨tyX6, tyX6_ok, rfl⟩, nmX6, rfl, fun _ => rfl⟩
theorem fR_7_1 : mj_fr 7 1 (.object "CommandLink$Ledger") true := by
  intro C T N h
  cases h
  exact ⟨⟨tyX6, tyX6_ok, rfl⟩, nmX6, rfl, fun _ => rfl⟩
theorem fR_7_2 : mj_fr 7 2 .int false := by
  intro C T N h
  cases h
  exact ⟨⟨tyX6, tyX6_ok, rfl⟩, nmX6, rfl, fun _ => rfl⟩
theorem fR_7_3 : mj_fr 7 3 .boolean false := by
  intro C T N h
  cases h
  exact ⟨⟨tyX6, tyX6_ok, rfl⟩, nmX6, rfl, fun _ => rfl⟩
theorem fR_7_4 : mj_fr 7 4 .boolean false := by
  intro C T N h
  cases h
  exact ⟨⟨tyX6, tyX6_ok, rfl⟩, nmX6, rfl, fun _ => rfl⟩
theorem fR_7_5 : mj_fr 7 5 .boolean false := by
  intro C T N h
  cases h
  exact ⟨⟨tyX6, tyX6_ok, rfl⟩, nmX6, rfl, fun _ => rfl⟩
theorem fR_7_6 : mj_fr 7 6 .int false := by
  intro C T N h
  cases h
  exact ⟨⟨tyX6, tyX6_ok, rfl⟩, nmX6, rfl, fun _ => rfl⟩
theorem fR_7_7 : mj_fr 7 7 (.object "CommandLink$Row") true := by
  intro C T N h
  cases h
  exact ⟨⟨tyX6, tyX6_ok, rfl⟩, nmX6, rfl, fun _ => rfl⟩
theorem fR_7_8 : mj_fr 7 8 (.array .int) true := by
  intro C T N h
  cases h
  exact ⟨⟨tyX6, tyX6_ok, rfl⟩, nmX6, rfl, fun _ => rfl⟩
theorem fR_7_9 : mj_fr 7 9 .int false := by
  intro C T N h
  cases h
  exact ⟨⟨tyX6, tyX6_ok, rfl⟩, nmX6, rfl, fun _ => rfl⟩
theorem fR_7_10 : mj_fr 7 10 (.array .int) true := by
  intro C T N h
  cases h
  exact ⟨⟨tyX6, tyX6_ok, rfl⟩, nmX6, rfl, fun _ => rfl⟩
theorem fR_7_11 : mj_fr 7 11 .int false := by
  intro C T N h
  cases h
  exact ⟨⟨tyX6, tyX6_ok, rfl⟩, nmX6, rfl, fun _ => rfl⟩
theorem fR_7_12 : mj_fr 7 12 .int false := by
  intro C T N h
  cases h
  exact ⟨⟨tyX6, tyX6_ok, rfl⟩, nmX6, rfl, fun _ => rfl⟩
theorem fR_8_0 : mj_fr 8 0 (.array .int) true := by
  intro C T N h
  cases h
  exact ⟨⟨tyX7, tyX7_ok, rfl⟩, nmX7, rfl, fun _ => rfl⟩
theorem fR_8_1 : mj_fr 8 1 (.array .int) true := by
  intro C T N h
  cases h
  exact ⟨⟨tyX7, tyX7_ok, rfl⟩, nmX7, rfl, fun _ => rfl⟩
theorem fR_8_2 : mj_fr 8 2 (.array .int) true := by
  intro C T N h
  cases h
  exact ⟨⟨tyX7, tyX7_ok, rfl⟩, nmX7, rfl, fun _ => rfl⟩
theorem fR_8_3 : mj_fr 8 3 (.array .int) true := by
  intro C T N h
  cases h
  exact ⟨⟨tyX7, tyX7_ok, rfl⟩, nmX7, rfl, fun _ => rfl⟩
theorem fR_8_4 : mj_fr 8 4 .int false := by
  intro C T N h
  cases h
  exact ⟨⟨tyX7, tyX7_ok, rfl⟩, nmX7, rfl, fun _ => rfl⟩
theorem fR_9_0 : mj_fr 9 0 (.object "CommandLink$Common") true := by
  intro C T N h
  cases h
  exact ⟨⟨tyX8, tyX8_ok, rfl⟩, nmX8, rfl, fun _ => rfl⟩
theorem fR_9_1 : mj_fr 9 1 (.object "CommandLink$Ledger") true := by
  intro C T N h
  cases h
  exact ⟨⟨tyX8, tyX8_ok, rfl⟩, nmX8, rfl, fun _ => rfl⟩
theorem fR_9_2 : mj_fr 9 2 (.object "CommandLink$Diary") true := by
  intro C T N h
  cases h
  exact ⟨⟨tyX8, tyX8_ok, rfl⟩, nmX8, rfl, fun _ => rfl⟩
theorem fR_9_3 : mj_fr 9 3 (.object "CommandLink$Row") true := by
  intro C T N h
  cases h
  exact ⟨⟨tyX8, tyX8_ok, rfl⟩, nmX8, rfl, fun _ => rfl⟩
theorem fR_9_4 : mj_fr 9 4 (.object "CommandLink$Row") true := by
  intro C T N h
  cases h
  exact ⟨⟨tyX8, tyX8_ok, rfl⟩, nmX8, rfl, fun _ => rfl⟩
theorem fR_9_5 : mj_fr 9 5 (.object "CommandLink$Row") true := by
  intro C T N h
  cases h
  exact ⟨⟨tyX8, tyX8_ok, rfl⟩, nmX8, rfl, fun _ => rfl⟩
theorem fR_9_6 : mj_fr 9 6 .int false := by
  intro C T N h
  cases h
  exact ⟨⟨tyX8, tyX8_ok, rfl⟩, nmX8, rfl, fun _ => rfl⟩
theorem fR_9_7 : mj_fr 9 7 .int false := by
  intro C T N h
  cases h
  exact ⟨⟨tyX8, tyX8_ok, rfl⟩, nmX8, rfl, fun _ => rfl⟩
theorem fR_9_8 : mj_fr 9 8 .int false := by
  intro C T N h
  cases h
  exact ⟨⟨tyX8, tyX8_ok, rfl⟩, nmX8, rfl, fun _ => rfl⟩
theorem fR_9_9 : mj_fr 9 9 .int false := by
  intro C T N h
  cases h
  exact ⟨⟨tyX8, tyX8_ok, rfl⟩, nmX8, rfl, fun _ => rfl⟩
theorem fR_9_10 : mj_fr 9 10 .int false := by
  intro C T N h
  cases h
  exact ⟨⟨tyX8, tyX8_ok, rfl⟩, nmX8, rfl, fun _ => rfl⟩
theorem fR_9_11 : mj_fr 9 11 .int false := by
  intro C T N h
  cases h
  exact ⟨⟨tyX8, tyX8_ok, rfl⟩, nmX8, rfl, fun _ => rfl⟩
theorem fR_9_12 : mj_fr 9 12 .int false := by
  intro C T N h
  cases h
  exact ⟨⟨tyX8, tyX8_ok, rfl⟩, nmX8, rfl, fun _ => rfl⟩
theorem fR_9_13 : mj_fr 9 13 .boolean false := by
  intro C T N h
  cases h
  exact ⟨⟨tyX8, tyX8_ok, rfl⟩, nmX8, rfl, fun _ => rfl⟩
theorem fR_9_14 : mj_fr 9 14 .int false := by
  intro C T N h
  cases h
  exact ⟨⟨tyX8, tyX8_ok, rfl⟩, nmX8, rfl, fun _ => rfl⟩
theorem fR_9_15 : mj_fr 9 15 .int false := by
  intro C T N h
  cases h
  exact ⟨⟨tyX8, tyX8_ok, rfl⟩, nmX8, rfl, fun _ => rfl⟩
theorem fR_10_0 : mj_fr 10 0 (.object "CommandLink$Common") true := by
  intro C T N h
  cases h
  exact ⟨⟨tyX9, tyX9_ok, rfl⟩, nmX9, rfl, fun _ => rfl⟩
theorem fR_10_1 : mj_fr 10 1 .int true := by
  intro C T N h
  cases h
  exact ⟨⟨tyX9, tyX9_ok, rfl⟩, nmX9, rfl, fun _ => rfl⟩
theorem fR_10_2 : mj_fr 10 2 .int true := by
  intro C T N h
  cases h
  exact ⟨⟨tyX9, tyX9_ok, rfl⟩, nmX9, rfl, fun _ => rfl⟩
theorem fR_10_3 : mj_fr 10 3 (.array .int) true := by
  intro C T N h
  cases h
  exact ⟨⟨tyX9, tyX9_ok, rfl⟩, nmX9, rfl, fun _ => rfl⟩
theorem fR_10_4 : mj_fr 10 4 (.array .int) true := by
  intro C T N h
  cases h
  exact ⟨⟨tyX9, tyX9_ok, rfl⟩, nmX9, rfl, fun _ => rfl⟩
theorem fR_10_5 : mj_fr 10 5 (.array .int) true := by
  intro C T N h
  cases h
  exact ⟨⟨tyX9, tyX9_ok, rfl⟩, nmX9, rfl, fun _ => rfl⟩
theorem fR_10_6 : mj_fr 10 6 (.array .int) true := by
  intro C T N h
  cases h
  exact ⟨⟨tyX9, tyX9_ok, rfl⟩, nmX9, rfl, fun _ => rfl⟩
theorem fR_10_7 : mj_fr 10 7 .int false := by
  intro C T N h
  cases h
  exact ⟨⟨tyX9, tyX9_ok, rfl⟩, nmX9, rfl, fun _ => rfl⟩
theorem fR_10_8 : mj_fr 10 8 .int false := by
  intro C T N h
  cases h
  exact ⟨⟨tyX9, tyX9_ok, rfl⟩, nmX9, rfl, fun _ => rfl⟩
theorem fR_10_9 : mj_fr 10 9 .int false := by
  intro C T N h
  cases h
  exact ⟨⟨tyX9, tyX9_ok, rfl⟩, nmX9, rfl, fun _ => rfl⟩
theorem fR_10_10 : mj_fr 10 10 .int false := by
  intro C T N h
  cases h
  exact ⟨⟨tyX9, tyX9_ok, rfl⟩, nmX9, rfl, fun _ => rfl⟩
theorem fR_11_0 : mj_fr 11 0 (.object "CommandLink$Link") true := by
  intro C T N h
  cases h
  exact ⟨⟨tyX10, tyX10_ok, rfl⟩, nmX10, rfl, fun _ => rfl⟩
theorem fR_11_1 : mj_fr 11 1 (.object "CommandLink$Link") true := by
  intro C T N h
  cases h
  exact ⟨⟨tyX10, tyX10_ok, rfl⟩, nmX10, rfl, fun _ => rfl⟩
theorem fR_11_2 : mj_fr 11 2 (.object "CommandLink$Link") true := by
  intro C T N h
  cases h
  exact ⟨⟨tyX10, tyX10_ok, rfl⟩, nmX10, rfl, fun _ => rfl⟩
theorem fR_11_3 : mj_fr 11 3 .boolean false := by
  intro C T N h
  cases h
  exact ⟨⟨tyX10, tyX10_ok, rfl⟩, nmX10, rfl, fun _ => rfl⟩
theorem fR_11_4 : mj_fr 11 4 (.object "CommandLink$Reader") true := by
  intro C T N h
  cases h
  exact ⟨⟨tyX10, tyX10_ok, rfl⟩, nmX10, rfl, fun _ => rfl⟩
theorem fR_11_5 : mj_fr 11 5 (.object "java/lang/StringBuilder") true := by
  intro C T N h
  cases h
  exact ⟨⟨tyX10, tyX10_ok, rfl⟩, nmX10, rfl, fun _ => rfl⟩
theorem fR_12_0 : mj_fr 12 0 .int false := by
  intro C T N h
  cases h
  exact ⟨⟨tyX11, tyX11_ok, rfl⟩, nmX11, rfl, fun _ => rfl⟩
theorem fR_12_1 : mj_fr 12 1 (.array .int) true := by
  intro C T N h
  cases h
  exact ⟨⟨tyX11, tyX11_ok, rfl⟩, nmX11, rfl, fun _ => rfl⟩
theorem fR_12_2 : mj_fr 12 2 (.array .int) true := by
  intro C T N h
  cases h
  exact ⟨⟨tyX11, tyX11_ok, rfl⟩, nmX11, rfl, fun _ => rfl⟩
theorem fR_12_3 : mj_fr 12 3 (.array .int) true := by
  intro C T N h
  cases h
  exact ⟨⟨tyX11, tyX11_ok, rfl⟩, nmX11, rfl, fun _ => rfl⟩
theorem fR_12_4 : mj_fr 12 4 .int false := by
  intro C T N h
  cases h
  exact ⟨⟨tyX11, tyX11_ok, rfl⟩, nmX11, rfl, fun _ => rfl⟩
theorem fR_12_5 : mj_fr 12 5 (.array .int) true := by
  intro C T N h
  cases h
  exact ⟨⟨tyX11, tyX11_ok, rfl⟩, nmX11, rfl, fun _ => rfl⟩
theorem fR_12_6 : mj_fr 12 6 (.array .int) true := by
  intro C T N h
  cases h
  exact ⟨⟨tyX11, tyX11_ok, rfl⟩, nmX11, rfl, fun _ => rfl⟩
theorem fR_12_7 : mj_fr 12 7 .int false := by
  intro C T N h
  cases h
  exact ⟨⟨tyX11, tyX11_ok, rfl⟩, nmX11, rfl, fun _ => rfl⟩
theorem fR_12_8 : mj_fr 12 8 (.array .int) true := by
  intro C T N h
  cases h
  exact ⟨⟨tyX11, tyX11_ok, rfl⟩, nmX11, rfl, fun _ => rfl⟩
theorem fR_12_9 : mj_fr 12 9 .int false := by
  intro C T N h
  cases h
  exact ⟨⟨tyX11, tyX11_ok, rfl⟩, nmX11, rfl, fun _ => rfl⟩
theorem fR_12_10 : mj_fr 12 10 .int false := by
  intro C T N h
  cases h
  exact ⟨⟨tyX11, tyX11_ok, rfl⟩, nmX11, rfl, fun _ => rfl⟩
theorem fR_12_11 : mj_fr 12 11 .int false := by
  intro C T N h
  cases h
  exact ⟨⟨tyX11, tyX11_ok, rfl⟩, nmX11, rfl, fun _ => rfl⟩
theorem fR_12_12 : mj_fr 12 12 .int false := by
  intro C T N h
  cases h
  exact ⟨⟨tyX11, tyX11_ok, rfl⟩, nmX11, rfl, fun _ => rfl⟩
theorem fR_12_13 : mj_fr 12 13 .int false := by
  intro C T N h
  cases h
  exact ⟨⟨tyX11, tyX11_ok, rfl⟩, nmX11, rfl, fun _ => rfl⟩
theorem fR_12_14 : mj_fr 12 14 (.array .int) true := by
  intro C T N h
  cases h
  exact ⟨⟨tyX11, tyX11_ok, rfl⟩, nmX11, rfl, fun _ => rfl⟩
theorem fR_12_15 : mj_fr 12 15 .int false := by
  intro C T N h
  cases h
  exact ⟨⟨tyX11, tyX11_ok, rfl⟩, nmX11, rfl, fun _ => rfl⟩
theorem fR_12_16 : mj_fr 12 16 .int false := by
  intro C T N h
  cases h
  exact ⟨⟨tyX11, tyX11_ok, rfl⟩, nmX11, rfl, fun _ => rfl⟩
theorem fR_12_17 : mj_fr 12 17 .int false := by
  intro C T N h
  cases h
  exact ⟨⟨tyX11, tyX11_ok, rfl⟩, nmX11, rfl, fun _ => rfl⟩
theorem fR_12_18 : mj_fr 12 18 .int false := by
  intro C T N h
  cases h
  exact ⟨⟨tyX11, tyX11_ok, rfl⟩, nmX11, rfl, fun _ => rfl⟩
theorem fR_12_19 : mj_fr 12 19 .int false := by
  intro C T N h
  cases h
  exact ⟨⟨tyX11, tyX11_ok, rfl⟩, nmX11, rfl, fun _ => rfl⟩
theorem fR_12_20 : mj_fr 12 20 (.array .int) true := by
  intro C T N h
  cases h
  exact ⟨⟨tyX11, tyX11_ok, rfl⟩, nmX11, rfl, fun _ => rfl⟩
theorem fR_12_21 : mj_fr 12 21 .boolean false := by
  intro C T N h
  cases h
  exact ⟨⟨tyX11, tyX11_ok, rfl⟩, nmX11, rfl, fun _ => rfl⟩
theorem fR_12_22 : mj_fr 12 22 (.array .int) true := by
  intro C T N h
  cases h
  exact ⟨⟨tyX11, tyX11_ok, rfl⟩, nmX11, rfl, fun _ => rfl⟩
theorem dX0_init_0 : decode cX0_init 0 = .ok (.aload_n 0, 1) := by decide +kernel
theorem dX0_init_1 : decode cX0_init 1 = .ok (.invokespecial 3, 3) := by decide +kernel
theorem dX0_init_4 : decode cX0_init 4 = .ok (.aload_n 0, 1) := by decide +kernel
theorem dX0_init_5 : decode cX0_init 5 = .ok (.iconst 0, 1) := by decide +kernel
theorem dX0_init_6 : decode cX0_init 6 = .ok (.putfield 9, 3) := by decide +kernel
theorem dX0_init_9 : decode cX0_init 9 = .ok (.aload_n 0, 1) := by decide +kernel
theorem dX0_init_10 : decode cX0_init 10 = .ok (.iconst 0, 1) := by decide +kernel
theorem dX0_init_11 : decode cX0_init 11 = .ok (.putfield 15, 3) := by decide +kernel
theorem dX0_init_14 : decode cX0_init 14 = .ok (.aload_n 0, 1) := by decide +kernel
theorem dX0_init_15 : decode cX0_init 15 = .ok (.getstatic 18, 3) := by decide +kernel
theorem dX0_init_18 : decode cX0_init 18 = .ok (.invokevirtual 22, 3) := by decide +kernel
theorem dX0_init_21 : decode cX0_init 21 = .ok (.checkcast 23, 3) := by decide +kernel
theorem dX0_init_24 : decode cX0_init 24 = .ok (.putfield 27, 3) := by decide +kernel
theorem dX0_init_27 : decode cX0_init 27 = .ok (.return_, 1) := by decide +kernel
theorem dX7_init_0 : decode cX7_init 0 = .ok (.aload_n 0, 1) := by decide +kernel
theorem dX7_init_1 : decode cX7_init 1 = .ok (.invokespecial 3, 3) := by decide +kernel
theorem dX7_init_4 : decode cX7_init 4 = .ok (.aload_n 0, 1) := by decide +kernel
theorem dX7_init_5 : decode cX7_init 5 = .ok (.bipush 20, 2) := by decide +kernel
theorem dX7_init_7 : decode cX7_init 7 = .ok (.newarray .int, 2) := by decide +kernel
theorem dX7_init_9 : decode cX7_init 9 = .ok (.putfield 11, 3) := by decide +kernel
theorem dX7_init_12 : decode cX7_init 12 = .ok (.aload_n 0, 1) := by decide +kernel
theorem dX7_init_13 : decode cX7_init 13 = .ok (.bipush 20, 2) := by decide +kernel
theorem dX7_init_15 : decode cX7_init 15 = .ok (.newarray .int, 2) := by decide +kernel
theorem dX7_init_17 : decode cX7_init 17 = .ok (.putfield 15, 3) := by decide +kernel
theorem dX7_init_20 : decode cX7_init 20 = .ok (.aload_n 0, 1) := by decide +kernel
theorem dX7_init_21 : decode cX7_init 21 = .ok (.bipush 20, 2) := by decide +kernel
theorem dX7_init_23 : decode cX7_init 23 = .ok (.newarray .int, 2) := by decide +kernel
theorem dX7_init_25 : decode cX7_init 25 = .ok (.putfield 18, 3) := by decide +kernel
theorem dX7_init_28 : decode cX7_init 28 = .ok (.aload_n 0, 1) := by decide +kernel
theorem dX7_init_29 : decode cX7_init 29 = .ok (.bipush 20, 2) := by decide +kernel
theorem dX7_init_31 : decode cX7_init 31 = .ok (.newarray .int, 2) := by decide +kernel
theorem dX7_init_33 : decode cX7_init 33 = .ok (.putfield 21, 3) := by decide +kernel
theorem dX7_init_36 : decode cX7_init 36 = .ok (.aload_n 0, 1) := by decide +kernel
theorem dX7_init_37 : decode cX7_init 37 = .ok (.iconst 0, 1) := by decide +kernel
theorem dX7_init_38 : decode cX7_init 38 = .ok (.putfield 24, 3) := by decide +kernel
theorem dX7_init_41 : decode cX7_init 41 = .ok (.return_, 1) := by decide +kernel
theorem dX4_init_0 : decode cX4_init 0 = .ok (.aload_n 0, 1) := by decide +kernel
theorem dX4_init_1 : decode cX4_init 1 = .ok (.invokespecial 3, 3) := by decide +kernel
theorem dX4_init_4 : decode cX4_init 4 = .ok (.aload_n 0, 1) := by decide +kernel
theorem dX4_init_5 : decode cX4_init 5 = .ok (.bipush 24, 2) := by decide +kernel
theorem dX4_init_7 : decode cX4_init 7 = .ok (.newarray .int, 2) := by decide +kernel
theorem dX4_init_9 : decode cX4_init 9 = .ok (.putfield 9, 3) := by decide +kernel
theorem dX4_init_12 : decode cX4_init 12 = .ok (.aload_n 0, 1) := by decide +kernel
theorem dX4_init_13 : decode cX4_init 13 = .ok (.bipush 24, 2) := by decide +kernel
theorem dX4_init_15 : decode cX4_init 15 = .ok (.newarray .int, 2) := by decide +kernel
theorem dX4_init_17 : decode cX4_init 17 = .ok (.putfield 15, 3) := by decide +kernel
theorem dX4_init_20 : decode cX4_init 20 = .ok (.aload_n 0, 1) := by decide +kernel
theorem dX4_init_21 : decode cX4_init 21 = .ok (.iconst 0, 1) := by decide +kernel
theorem dX4_init_22 : decode cX4_init 22 = .ok (.putfield 18, 3) := by decide +kernel
theorem dX4_init_25 : decode cX4_init 25 = .ok (.aload_n 0, 1) := by decide +kernel
theorem dX4_init_26 : decode cX4_init 26 = .ok (.iconst 0, 1) := by decide +kernel
theorem dX4_init_27 : decode cX4_init 27 = .ok (.putfield 22, 3) := by decide +kernel
theorem dX4_init_30 : decode cX4_init 30 = .ok (.return_, 1) := by decide +kernel
theorem dX2_init_0 : decode cX2_init 0 = .ok (.aload_n 0, 1) := by decide +kernel
theorem dX2_init_1 : decode cX2_init 1 = .ok (.invokespecial 3, 3) := by decide +kernel
theorem dX2_init_4 : decode cX2_init 4 = .ok (.aload_n 0, 1) := by decide +kernel
theorem dX2_init_5 : decode cX2_init 5 = .ok (.sipush 700, 3) := by decide +kernel
theorem dX2_init_8 : decode cX2_init 8 = .ok (.newarray .int, 2) := by decide +kernel
theorem dX2_init_10 : decode cX2_init 10 = .ok (.putfield 11, 3) := by decide +kernel
theorem dX2_init_13 : decode cX2_init 13 = .ok (.aload_n 0, 1) := by decide +kernel
theorem dX2_init_14 : decode cX2_init 14 = .ok (.iconst 0, 1) := by decide +kernel
theorem dX2_init_15 : decode cX2_init 15 = .ok (.putfield 15, 3) := by decide +kernel
theorem dX2_init_18 : decode cX2_init 18 = .ok (.aload_n 0, 1) := by decide +kernel
theorem dX2_init_19 : decode cX2_init 19 = .ok (.bipush 100, 2) := by decide +kernel
theorem dX2_init_21 : decode cX2_init 21 = .ok (.newarray .int, 2) := by decide +kernel
theorem dX2_init_23 : decode cX2_init 23 = .ok (.putfield 19, 3) := by decide +kernel
theorem dX2_init_26 : decode cX2_init 26 = .ok (.aload_n 0, 1) := by decide +kernel
theorem dX2_init_27 : decode cX2_init 27 = .ok (.iconst 0, 1) := by decide +kernel
theorem dX2_init_28 : decode cX2_init 28 = .ok (.putfield 22, 3) := by decide +kernel
theorem dX2_init_31 : decode cX2_init 31 = .ok (.aload_n 0, 1) := by decide +kernel
theorem dX2_init_32 : decode cX2_init 32 = .ok (.iconst 0, 1) := by decide +kernel
theorem dX2_init_33 : decode cX2_init 33 = .ok (.putfield 25, 3) := by decide +kernel
theorem dX2_init_36 : decode cX2_init 36 = .ok (.aload_n 0, 1) := by decide +kernel
theorem dX2_init_37 : decode cX2_init 37 = .ok (.aload_n 1, 1) := by decide +kernel
theorem dX2_init_38 : decode cX2_init 38 = .ok (.putfield 28, 3) := by decide +kernel
theorem dX2_init_41 : decode cX2_init 41 = .ok (.return_, 1) := by decide +kernel
theorem dX1_init_0 : decode cX1_init 0 = .ok (.aload_n 0, 1) := by decide +kernel
theorem dX1_init_1 : decode cX1_init 1 = .ok (.invokespecial 3, 3) := by decide +kernel
theorem dX1_init_4 : decode cX1_init 4 = .ok (.aload_n 0, 1) := by decide +kernel
theorem dX1_init_5 : decode cX1_init 5 = .ok (.sipush 240, 3) := by decide +kernel
theorem dX1_init_8 : decode cX1_init 8 = .ok (.newarray .int, 2) := by decide +kernel
theorem dX1_init_10 : decode cX1_init 10 = .ok (.putfield 11, 3) := by decide +kernel
theorem dX1_init_13 : decode cX1_init 13 = .ok (.aload_n 0, 1) := by decide +kernel
theorem dX1_init_14 : decode cX1_init 14 = .ok (.iconst 0, 1) := by decide +kernel
theorem dX1_init_15 : decode cX1_init 15 = .ok (.putfield 15, 3) := by decide +kernel
theorem dX1_init_18 : decode cX1_init 18 = .ok (.aload_n 0, 1) := by decide +kernel
theorem dX1_init_19 : decode cX1_init 19 = .ok (.bipush 60, 2) := by decide +kernel
theorem dX1_init_21 : decode cX1_init 21 = .ok (.newarray .int, 2) := by decide +kernel
theorem dX1_init_23 : decode cX1_init 23 = .ok (.putfield 19, 3) := by decide +kernel
theorem dX1_init_26 : decode cX1_init 26 = .ok (.aload_n 0, 1) := by decide +kernel
theorem dX1_init_27 : decode cX1_init 27 = .ok (.iconst 0, 1) := by decide +kernel
theorem dX1_init_28 : decode cX1_init 28 = .ok (.putfield 22, 3) := by decide +kernel
theorem dX1_init_31 : decode cX1_init 31 = .ok (.aload_n 0, 1) := by decide +kernel
theorem dX1_init_32 : decode cX1_init 32 = .ok (.iconst 0, 1) := by decide +kernel
theorem dX1_init_33 : decode cX1_init 33 = .ok (.putfield 25, 3) := by decide +kernel
theorem dX1_init_36 : decode cX1_init 36 = .ok (.aload_n 0, 1) := by decide +kernel
theorem dX1_init_37 : decode cX1_init 37 = .ok (.bipush 9, 2) := by decide +kernel
theorem dX1_init_39 : decode cX1_init 39 = .ok (.newarray .int, 2) := by decide +kernel
theorem dX1_init_41 : decode cX1_init 41 = .ok (.putfield 28, 3) := by decide +kernel
theorem dX1_init_44 : decode cX1_init 44 = .ok (.aload_n 0, 1) := by decide +kernel
theorem dX1_init_45 : decode cX1_init 45 = .ok (.aload_n 1, 1) := by decide +kernel
theorem dX1_init_46 : decode cX1_init 46 = .ok (.putfield 31, 3) := by decide +kernel
theorem dX1_init_49 : decode cX1_init 49 = .ok (.return_, 1) := by decide +kernel
theorem dX9_init_0 : decode cX9_init 0 = .ok (.aload_n 0, 1) := by decide +kernel
theorem dX9_init_1 : decode cX9_init 1 = .ok (.invokespecial 3, 3) := by decide +kernel
theorem dX9_init_4 : decode cX9_init 4 = .ok (.aload_n 0, 1) := by decide +kernel
theorem dX9_init_5 : decode cX9_init 5 = .ok (.sipush 240, 3) := by decide +kernel
theorem dX9_init_8 : decode cX9_init 8 = .ok (.newarray .int, 2) := by decide +kernel
theorem dX9_init_10 : decode cX9_init 10 = .ok (.putfield 11, 3) := by decide +kernel
theorem dX9_init_13 : decode cX9_init 13 = .ok (.aload_n 0, 1) := by decide +kernel
theorem dX9_init_14 : decode cX9_init 14 = .ok (.bipush 48, 2) := by decide +kernel
theorem dX9_init_16 : decode cX9_init 16 = .ok (.newarray .int, 2) := by decide +kernel
theorem dX9_init_18 : decode cX9_init 18 = .ok (.putfield 15, 3) := by decide +kernel
theorem dX9_init_21 : decode cX9_init 21 = .ok (.aload_n 0, 1) := by decide +kernel
theorem dX9_init_22 : decode cX9_init 22 = .ok (.bipush 48, 2) := by decide +kernel
theorem dX9_init_24 : decode cX9_init 24 = .ok (.newarray .int, 2) := by decide +kernel
theorem dX9_init_26 : decode cX9_init 26 = .ok (.putfield 18, 3) := by decide +kernel
theorem dX9_init_29 : decode cX9_init 29 = .ok (.aload_n 0, 1) := by decide +kernel
theorem dX9_init_30 : decode cX9_init 30 = .ok (.bipush 8, 2) := by decide +kernel
theorem dX9_init_32 : decode cX9_init 32 = .ok (.newarray .int, 2) := by decide +kernel
theorem dX9_init_34 : decode cX9_init 34 = .ok (.putfield 21, 3) := by decide +kernel
theorem dX9_init_37 : decode cX9_init 37 = .ok (.aload_n 0, 1) := by decide +kernel
theorem dX9_init_38 : decode cX9_init 38 = .ok (.iconst 0, 1) := by decide +kernel
theorem dX9_init_39 : decode cX9_init 39 = .ok (.putfield 24, 3) := by decide +kernel
theorem dX9_init_42 : decode cX9_init 42 = .ok (.aload_n 0, 1) := by decide +kernel
theorem dX9_init_43 : decode cX9_init 43 = .ok (.iconst 0, 1) := by decide +kernel
theorem dX9_init_44 : decode cX9_init 44 = .ok (.putfield 28, 3) := by decide +kernel
theorem dX9_init_47 : decode cX9_init 47 = .ok (.aload_n 0, 1) := by decide +kernel
theorem dX9_init_48 : decode cX9_init 48 = .ok (.iconst 0, 1) := by decide +kernel
theorem dX9_init_49 : decode cX9_init 49 = .ok (.putfield 31, 3) := by decide +kernel
theorem dX9_init_52 : decode cX9_init 52 = .ok (.aload_n 0, 1) := by decide +kernel
theorem dX9_init_53 : decode cX9_init 53 = .ok (.iconst 0, 1) := by decide +kernel
theorem dX9_init_54 : decode cX9_init 54 = .ok (.putfield 34, 3) := by decide +kernel
theorem dX9_init_57 : decode cX9_init 57 = .ok (.aload_n 0, 1) := by decide +kernel
theorem dX9_init_58 : decode cX9_init 58 = .ok (.aload_n 1, 1) := by decide +kernel
theorem dX9_init_59 : decode cX9_init 59 = .ok (.putfield 37, 3) := by decide +kernel
theorem dX9_init_62 : decode cX9_init 62 = .ok (.aload_n 0, 1) := by decide +kernel
theorem dX9_init_63 : decode cX9_init 63 = .ok (.iload_n 2, 1) := by decide +kernel
theorem dX9_init_64 : decode cX9_init 64 = .ok (.putfield 41, 3) := by decide +kernel
theorem dX9_init_67 : decode cX9_init 67 = .ok (.aload_n 0, 1) := by decide +kernel
theorem dX9_init_68 : decode cX9_init 68 = .ok (.iload_n 3, 1) := by decide +kernel
theorem dX9_init_69 : decode cX9_init 69 = .ok (.putfield 44, 3) := by decide +kernel
theorem dX9_init_72 : decode cX9_init 72 = .ok (.return_, 1) := by decide +kernel
theorem dX6_init_0 : decode cX6_init 0 = .ok (.aload_n 0, 1) := by decide +kernel
theorem dX6_init_1 : decode cX6_init 1 = .ok (.invokespecial 3, 3) := by decide +kernel
theorem dX6_init_4 : decode cX6_init 4 = .ok (.aload_n 0, 1) := by decide +kernel
theorem dX6_init_5 : decode cX6_init 5 = .ok (.iconst 0, 1) := by decide +kernel
theorem dX6_init_6 : decode cX6_init 6 = .ok (.putfield 9, 3) := by decide +kernel
theorem dX6_init_9 : decode cX6_init 9 = .ok (.aload_n 0, 1) := by decide +kernel
theorem dX6_init_10 : decode cX6_init 10 = .ok (.iconst 0, 1) := by decide +kernel
theorem dX6_init_11 : decode cX6_init 11 = .ok (.putfield 15, 3) := by decide +kernel
theorem dX6_init_14 : decode cX6_init 14 = .ok (.aload_n 0, 1) := by decide +kernel
theorem dX6_init_15 : decode cX6_init 15 = .ok (.iconst 0, 1) := by decide +kernel
theorem dX6_init_16 : decode cX6_init 16 = .ok (.putfield 19, 3) := by decide +kernel
theorem dX6_init_19 : decode cX6_init 19 = .ok (.aload_n 0, 1) := by decide +kernel
theorem dX6_init_20 : decode cX6_init 20 = .ok (.iconst 0, 1) := by decide +kernel
theorem dX6_init_21 : decode cX6_init 21 = .ok (.putfield 22, 3) := by decide +kernel
theorem dX6_init_24 : decode cX6_init 24 = .ok (.aload_n 0, 1) := by decide +kernel
theorem dX6_init_25 : decode cX6_init 25 = .ok (.iconst 0, 1) := by decide +kernel
theorem dX6_init_26 : decode cX6_init 26 = .ok (.putfield 25, 3) := by decide +kernel
theorem dX6_init_29 : decode cX6_init 29 = .ok (.aload_n 0, 1) := by decide +kernel
theorem dX6_init_30 : decode cX6_init 30 = .ok (.new 28, 3) := by decide +kernel
theorem dX6_init_33 : decode cX6_init 33 = .ok (.dup, 1) := by decide +kernel
theorem dX6_init_34 : decode cX6_init 34 = .ok (.invokespecial 30, 3) := by decide +kernel
theorem dX6_init_37 : decode cX6_init 37 = .ok (.putfield 31, 3) := by decide +kernel
theorem dX6_init_40 : decode cX6_init 40 = .ok (.aload_n 0, 1) := by decide +kernel
theorem dX6_init_41 : decode cX6_init 41 = .ok (.bipush 100, 2) := by decide +kernel
theorem dX6_init_43 : decode cX6_init 43 = .ok (.newarray .int, 2) := by decide +kernel
theorem dX6_init_45 : decode cX6_init 45 = .ok (.putfield 35, 3) := by decide +kernel
theorem dX6_init_48 : decode cX6_init 48 = .ok (.aload_n 0, 1) := by decide +kernel
theorem dX6_init_49 : decode cX6_init 49 = .ok (.iconst 0, 1) := by decide +kernel
theorem dX6_init_50 : decode cX6_init 50 = .ok (.putfield 39, 3) := by decide +kernel
theorem dX6_init_53 : decode cX6_init 53 = .ok (.aload_n 0, 1) := by decide +kernel
theorem dX6_init_54 : decode cX6_init 54 = .ok (.bipush 100, 2) := by decide +kernel
theorem dX6_init_56 : decode cX6_init 56 = .ok (.newarray .int, 2) := by decide +kernel
theorem dX6_init_58 : decode cX6_init 58 = .ok (.putfield 42, 3) := by decide +kernel
theorem dX6_init_61 : decode cX6_init 61 = .ok (.aload_n 0, 1) := by decide +kernel
theorem dX6_init_62 : decode cX6_init 62 = .ok (.iconst 0, 1) := by decide +kernel
theorem dX6_init_63 : decode cX6_init 63 = .ok (.putfield 45, 3) := by decide +kernel
theorem dX6_init_66 : decode cX6_init 66 = .ok (.aload_n 0, 1) := by decide +kernel
theorem dX6_init_67 : decode cX6_init 67 = .ok (.iconst 0, 1) := by decide +kernel
theorem dX6_init_68 : decode cX6_init 68 = .ok (.putfield 48, 3) := by decide +kernel
theorem dX6_init_71 : decode cX6_init 71 = .ok (.aload_n 0, 1) := by decide +kernel
theorem dX6_init_72 : decode cX6_init 72 = .ok (.aload_n 1, 1) := by decide +kernel
theorem dX6_init_73 : decode cX6_init 73 = .ok (.putfield 51, 3) := by decide +kernel
theorem dX6_init_76 : decode cX6_init 76 = .ok (.aload_n 0, 1) := by decide +kernel
theorem dX6_init_77 : decode cX6_init 77 = .ok (.aload_n 2, 1) := by decide +kernel
theorem dX6_init_78 : decode cX6_init 78 = .ok (.putfield 55, 3) := by decide +kernel
theorem dX6_init_81 : decode cX6_init 81 = .ok (.return_, 1) := by decide +kernel
theorem dX8_init_0 : decode cX8_init 0 = .ok (.aload_n 0, 1) := by decide +kernel
theorem dX8_init_1 : decode cX8_init 1 = .ok (.invokespecial 3, 3) := by decide +kernel
theorem dX8_init_4 : decode cX8_init 4 = .ok (.aload_n 0, 1) := by decide +kernel
theorem dX8_init_5 : decode cX8_init 5 = .ok (.new 9, 3) := by decide +kernel
theorem dX8_init_8 : decode cX8_init 8 = .ok (.dup, 1) := by decide +kernel
theorem dX8_init_9 : decode cX8_init 9 = .ok (.invokespecial 11, 3) := by decide +kernel
theorem dX8_init_12 : decode cX8_init 12 = .ok (.putfield 12, 3) := by decide +kernel
theorem dX8_init_15 : decode cX8_init 15 = .ok (.aload_n 0, 1) := by decide +kernel
theorem dX8_init_16 : decode cX8_init 16 = .ok (.new 9, 3) := by decide +kernel
theorem dX8_init_19 : decode cX8_init 19 = .ok (.dup, 1) := by decide +kernel
theorem dX8_init_20 : decode cX8_init 20 = .ok (.invokespecial 11, 3) := by decide +kernel
theorem dX8_init_23 : decode cX8_init 23 = .ok (.putfield 18, 3) := by decide +kernel
theorem dX8_init_26 : decode cX8_init 26 = .ok (.aload_n 0, 1) := by decide +kernel
theorem dX8_init_27 : decode cX8_init 27 = .ok (.new 9, 3) := by decide +kernel
theorem dX8_init_30 : decode cX8_init 30 = .ok (.dup, 1) := by decide +kernel
theorem dX8_init_31 : decode cX8_init 31 = .ok (.invokespecial 11, 3) := by decide +kernel
theorem dX8_init_34 : decode cX8_init 34 = .ok (.putfield 21, 3) := by decide +kernel
theorem dX8_init_37 : decode cX8_init 37 = .ok (.aload_n 0, 1) := by decide +kernel
theorem dX8_init_38 : decode cX8_init 38 = .ok (.bipush 6, 2) := by decide +kernel
theorem dX8_init_40 : decode cX8_init 40 = .ok (.putfield 24, 3) := by decide +kernel
theorem dX8_init_43 : decode cX8_init 43 = .ok (.aload_n 0, 1) := by decide +kernel
theorem dX8_init_44 : decode cX8_init 44 = .ok (.iconst 0, 1) := by decide +kernel
theorem dX8_init_45 : decode cX8_init 45 = .ok (.putfield 28, 3) := by decide +kernel
theorem dX8_init_48 : decode cX8_init 48 = .ok (.aload_n 0, 1) := by decide +kernel
theorem dX8_init_49 : decode cX8_init 49 = .ok (.iconst 0, 1) := by decide +kernel
theorem dX8_init_50 : decode cX8_init 50 = .ok (.putfield 31, 3) := by decide +kernel
theorem dX8_init_53 : decode cX8_init 53 = .ok (.aload_n 0, 1) := by decide +kernel
theorem dX8_init_54 : decode cX8_init 54 = .ok (.iconst 0, 1) := by decide +kernel
theorem dX8_init_55 : decode cX8_init 55 = .ok (.putfield 34, 3) := by decide +kernel
theorem dX8_init_58 : decode cX8_init 58 = .ok (.aload_n 0, 1) := by decide +kernel
theorem dX8_init_59 : decode cX8_init 59 = .ok (.iconst 0, 1) := by decide +kernel
theorem dX8_init_60 : decode cX8_init 60 = .ok (.putfield 37, 3) := by decide +kernel
theorem dX8_init_63 : decode cX8_init 63 = .ok (.aload_n 0, 1) := by decide +kernel
theorem dX8_init_64 : decode cX8_init 64 = .ok (.iconst 0, 1) := by decide +kernel
theorem dX8_init_65 : decode cX8_init 65 = .ok (.putfield 40, 3) := by decide +kernel
theorem dX8_init_68 : decode cX8_init 68 = .ok (.aload_n 0, 1) := by decide +kernel
theorem dX8_init_69 : decode cX8_init 69 = .ok (.iconst (-1), 1) := by decide +kernel
theorem dX8_init_70 : decode cX8_init 70 = .ok (.putfield 43, 3) := by decide +kernel
theorem dX8_init_73 : decode cX8_init 73 = .ok (.aload_n 0, 1) := by decide +kernel
theorem dX8_init_74 : decode cX8_init 74 = .ok (.iconst 0, 1) := by decide +kernel
theorem dX8_init_75 : decode cX8_init 75 = .ok (.putfield 46, 3) := by decide +kernel
theorem dX8_init_78 : decode cX8_init 78 = .ok (.aload_n 0, 1) := by decide +kernel
theorem dX8_init_79 : decode cX8_init 79 = .ok (.iconst (-1), 1) := by decide +kernel
theorem dX8_init_80 : decode cX8_init 80 = .ok (.putfield 50, 3) := by decide +kernel
theorem dX8_init_83 : decode cX8_init 83 = .ok (.aload_n 0, 1) := by decide +kernel
theorem dX8_init_84 : decode cX8_init 84 = .ok (.iconst 0, 1) := by decide +kernel
theorem dX8_init_85 : decode cX8_init 85 = .ok (.putfield 53, 3) := by decide +kernel
theorem dX8_init_88 : decode cX8_init 88 = .ok (.aload_n 0, 1) := by decide +kernel
theorem dX8_init_89 : decode cX8_init 89 = .ok (.aload_n 1, 1) := by decide +kernel
theorem dX8_init_90 : decode cX8_init 90 = .ok (.putfield 56, 3) := by decide +kernel
theorem dX8_init_93 : decode cX8_init 93 = .ok (.aload_n 0, 1) := by decide +kernel
theorem dX8_init_94 : decode cX8_init 94 = .ok (.aload_n 2, 1) := by decide +kernel
theorem dX8_init_95 : decode cX8_init 95 = .ok (.putfield 60, 3) := by decide +kernel
theorem dX8_init_98 : decode cX8_init 98 = .ok (.aload_n 0, 1) := by decide +kernel
theorem dX8_init_99 : decode cX8_init 99 = .ok (.aload_n 3, 1) := by decide +kernel
theorem dX8_init_100 : decode cX8_init 100 = .ok (.putfield 64, 3) := by decide +kernel
theorem dX8_init_103 : decode cX8_init 103 = .ok (.return_, 1) := by decide +kernel
theorem dX5_init_0 : decode cX5_init 0 = .ok (.aload_n 0, 1) := by decide +kernel
theorem dX5_init_1 : decode cX5_init 1 = .ok (.invokespecial 3, 3) := by decide +kernel
theorem dX5_init_4 : decode cX5_init 4 = .ok (.aload_n 0, 1) := by decide +kernel
theorem dX5_init_5 : decode cX5_init 5 = .ok (.sipush 400, 3) := by decide +kernel
theorem dX5_init_8 : decode cX5_init 8 = .ok (.newarray .int, 2) := by decide +kernel
theorem dX5_init_10 : decode cX5_init 10 = .ok (.putfield 11, 3) := by decide +kernel
theorem dX5_init_13 : decode cX5_init 13 = .ok (.aload_n 0, 1) := by decide +kernel
theorem dX5_init_14 : decode cX5_init 14 = .ok (.iconst 0, 1) := by decide +kernel
theorem dX5_init_15 : decode cX5_init 15 = .ok (.putfield 15, 3) := by decide +kernel
theorem dX5_init_18 : decode cX5_init 18 = .ok (.aload_n 0, 1) := by decide +kernel
theorem dX5_init_19 : decode cX5_init 19 = .ok (.new 19, 3) := by decide +kernel
theorem dX5_init_22 : decode cX5_init 22 = .ok (.dup, 1) := by decide +kernel
theorem dX5_init_23 : decode cX5_init 23 = .ok (.invokespecial 21, 3) := by decide +kernel
theorem dX5_init_26 : decode cX5_init 26 = .ok (.putfield 22, 3) := by decide +kernel
theorem dX5_init_29 : decode cX5_init 29 = .ok (.aload_n 0, 1) := by decide +kernel
theorem dX5_init_30 : decode cX5_init 30 = .ok (.iconst 0, 1) := by decide +kernel
theorem dX5_init_31 : decode cX5_init 31 = .ok (.putfield 26, 3) := by decide +kernel
theorem dX5_init_34 : decode cX5_init 34 = .ok (.aload_n 0, 1) := by decide +kernel
theorem dX5_init_35 : decode cX5_init 35 = .ok (.iconst (-1), 1) := by decide +kernel
theorem dX5_init_36 : decode cX5_init 36 = .ok (.putfield 29, 3) := by decide +kernel
theorem dX5_init_39 : decode cX5_init 39 = .ok (.aload_n 0, 1) := by decide +kernel
theorem dX5_init_40 : decode cX5_init 40 = .ok (.iconst 0, 1) := by decide +kernel
theorem dX5_init_41 : decode cX5_init 41 = .ok (.putfield 32, 3) := by decide +kernel
theorem dX5_init_44 : decode cX5_init 44 = .ok (.aload_n 0, 1) := by decide +kernel
theorem dX5_init_45 : decode cX5_init 45 = .ok (.iconst 0, 1) := by decide +kernel
theorem dX5_init_46 : decode cX5_init 46 = .ok (.putfield 35, 3) := by decide +kernel
theorem dX5_init_49 : decode cX5_init 49 = .ok (.aload_n 0, 1) := by decide +kernel
theorem dX5_init_50 : decode cX5_init 50 = .ok (.iconst 0, 1) := by decide +kernel
theorem dX5_init_51 : decode cX5_init 51 = .ok (.putfield 38, 3) := by decide +kernel
theorem dX5_init_54 : decode cX5_init 54 = .ok (.aload_n 0, 1) := by decide +kernel
theorem dX5_init_55 : decode cX5_init 55 = .ok (.iconst 0, 1) := by decide +kernel
theorem dX5_init_56 : decode cX5_init 56 = .ok (.putfield 41, 3) := by decide +kernel
theorem dX5_init_59 : decode cX5_init 59 = .ok (.return_, 1) := by decide +kernel
theorem dX3_init_0 : decode cX3_init 0 = .ok (.aload_n 0, 1) := by decide +kernel
theorem dX3_init_1 : decode cX3_init 1 = .ok (.invokespecial 3, 3) := by decide +kernel
theorem dX3_init_4 : decode cX3_init 4 = .ok (.aload_n 0, 1) := by decide +kernel
theorem dX3_init_5 : decode cX3_init 5 = .ok (.new 9, 3) := by decide +kernel
theorem dX3_init_8 : decode cX3_init 8 = .ok (.dup, 1) := by decide +kernel
theorem dX3_init_9 : decode cX3_init 9 = .ok (.invokespecial 11, 3) := by decide +kernel
theorem dX3_init_12 : decode cX3_init 12 = .ok (.putfield 12, 3) := by decide +kernel
theorem dX3_init_15 : decode cX3_init 15 = .ok (.aload_n 0, 1) := by decide +kernel
theorem dX3_init_16 : decode cX3_init 16 = .ok (.new 18, 3) := by decide +kernel
theorem dX3_init_19 : decode cX3_init 19 = .ok (.dup, 1) := by decide +kernel
theorem dX3_init_20 : decode cX3_init 20 = .ok (.aload_n 0, 1) := by decide +kernel
theorem dX3_init_21 : decode cX3_init 21 = .ok (.getfield 12, 3) := by decide +kernel
theorem dX3_init_24 : decode cX3_init 24 = .ok (.invokespecial 20, 3) := by decide +kernel
theorem dX3_init_27 : decode cX3_init 27 = .ok (.putfield 23, 3) := by decide +kernel
theorem dX3_init_30 : decode cX3_init 30 = .ok (.aload_n 0, 1) := by decide +kernel
theorem dX3_init_31 : decode cX3_init 31 = .ok (.new 27, 3) := by decide +kernel
theorem dX3_init_34 : decode cX3_init 34 = .ok (.dup, 1) := by decide +kernel
theorem dX3_init_35 : decode cX3_init 35 = .ok (.aload_n 0, 1) := by decide +kernel
theorem dX3_init_36 : decode cX3_init 36 = .ok (.getfield 12, 3) := by decide +kernel
theorem dX3_init_39 : decode cX3_init 39 = .ok (.invokespecial 29, 3) := by decide +kernel
theorem dX3_init_42 : decode cX3_init 42 = .ok (.putfield 30, 3) := by decide +kernel
theorem dX3_init_45 : decode cX3_init 45 = .ok (.aload_n 0, 1) := by decide +kernel
theorem dX3_init_46 : decode cX3_init 46 = .ok (.new 34, 3) := by decide +kernel
theorem dX3_init_49 : decode cX3_init 49 = .ok (.dup, 1) := by decide +kernel
theorem dX3_init_50 : decode cX3_init 50 = .ok (.aload_n 0, 1) := by decide +kernel
theorem dX3_init_51 : decode cX3_init 51 = .ok (.getfield 12, 3) := by decide +kernel
theorem dX3_init_54 : decode cX3_init 54 = .ok (.aload_n 0, 1) := by decide +kernel
theorem dX3_init_55 : decode cX3_init 55 = .ok (.getfield 23, 3) := by decide +kernel
theorem dX3_init_58 : decode cX3_init 58 = .ok (.invokespecial 36, 3) := by decide +kernel
theorem dX3_init_61 : decode cX3_init 61 = .ok (.putfield 39, 3) := by decide +kernel
theorem dX3_init_64 : decode cX3_init 64 = .ok (.aload_n 0, 1) := by decide +kernel
theorem dX3_init_65 : decode cX3_init 65 = .ok (.new 43, 3) := by decide +kernel
theorem dX3_init_68 : decode cX3_init 68 = .ok (.dup, 1) := by decide +kernel
theorem dX3_init_69 : decode cX3_init 69 = .ok (.aload_n 0, 1) := by decide +kernel
theorem dX3_init_70 : decode cX3_init 70 = .ok (.getfield 12, 3) := by decide +kernel
theorem dX3_init_73 : decode cX3_init 73 = .ok (.aload_n 0, 1) := by decide +kernel
theorem dX3_init_74 : decode cX3_init 74 = .ok (.getfield 23, 3) := by decide +kernel
theorem dX3_init_77 : decode cX3_init 77 = .ok (.aload_n 0, 1) := by decide +kernel
theorem dX3_init_78 : decode cX3_init 78 = .ok (.getfield 30, 3) := by decide +kernel
theorem dX3_init_81 : decode cX3_init 81 = .ok (.invokespecial 45, 3) := by decide +kernel
theorem dX3_init_84 : decode cX3_init 84 = .ok (.putfield 48, 3) := by decide +kernel
theorem dX3_init_87 : decode cX3_init 87 = .ok (.aload_n 0, 1) := by decide +kernel
theorem dX3_init_88 : decode cX3_init 88 = .ok (.new 52, 3) := by decide +kernel
theorem dX3_init_91 : decode cX3_init 91 = .ok (.dup, 1) := by decide +kernel
theorem dX3_init_92 : decode cX3_init 92 = .ok (.aload_n 0, 1) := by decide +kernel
theorem dX3_init_93 : decode cX3_init 93 = .ok (.getfield 12, 3) := by decide +kernel
theorem dX3_init_96 : decode cX3_init 96 = .ok (.iconst 5, 1) := by decide +kernel
theorem dX3_init_97 : decode cX3_init 97 = .ok (.bipush 6, 2) := by decide +kernel
theorem dX3_init_99 : decode cX3_init 99 = .ok (.invokespecial 54, 3) := by decide +kernel
theorem dX3_init_102 : decode cX3_init 102 = .ok (.putfield 57, 3) := by decide +kernel
theorem dX3_init_105 : decode cX3_init 105 = .ok (.aload_n 0, 1) := by decide +kernel
theorem dX3_init_106 : decode cX3_init 106 = .ok (.new 52, 3) := by decide +kernel
theorem dX3_init_109 : decode cX3_init 109 = .ok (.dup, 1) := by decide +kernel
theorem dX3_init_110 : decode cX3_init 110 = .ok (.aload_n 0, 1) := by decide +kernel
theorem dX3_init_111 : decode cX3_init 111 = .ok (.getfield 12, 3) := by decide +kernel
theorem dX3_init_114 : decode cX3_init 114 = .ok (.iconst 3, 1) := by decide +kernel
theorem dX3_init_115 : decode cX3_init 115 = .ok (.bipush 7, 2) := by decide +kernel
theorem dX3_init_117 : decode cX3_init 117 = .ok (.invokespecial 54, 3) := by decide +kernel
theorem dX3_init_120 : decode cX3_init 120 = .ok (.putfield 61, 3) := by decide +kernel
theorem dX3_init_123 : decode cX3_init 123 = .ok (.aload_n 0, 1) := by decide +kernel
theorem dX3_init_124 : decode cX3_init 124 = .ok (.new 64, 3) := by decide +kernel
theorem dX3_init_127 : decode cX3_init 127 = .ok (.dup, 1) := by decide +kernel
theorem dX3_init_128 : decode cX3_init 128 = .ok (.invokespecial 66, 3) := by decide +kernel
theorem dX3_init_131 : decode cX3_init 131 = .ok (.putfield 67, 3) := by decide +kernel
theorem dX3_init_134 : decode cX3_init 134 = .ok (.return_, 1) := by decide +kernel
theorem dX11_init_0 : decode cX11_init 0 = .ok (.aload_n 0, 1) := by decide +kernel
theorem dX11_init_1 : decode cX11_init 1 = .ok (.invokespecial 1, 3) := by decide +kernel
theorem dX11_init_4 : decode cX11_init 4 = .ok (.aload_n 0, 1) := by decide +kernel
theorem dX11_init_5 : decode cX11_init 5 = .ok (.sipush 1897, 3) := by decide +kernel
theorem dX11_init_8 : decode cX11_init 8 = .ok (.newarray .int, 2) := by decide +kernel
theorem dX11_init_10 : decode cX11_init 10 = .ok (.putfield 7, 3) := by decide +kernel
theorem dX11_init_13 : decode cX11_init 13 = .ok (.aload_n 0, 1) := by decide +kernel
theorem dX11_init_14 : decode cX11_init 14 = .ok (.sipush 1897, 3) := by decide +kernel
theorem dX11_init_17 : decode cX11_init 17 = .ok (.newarray .int, 2) := by decide +kernel
theorem dX11_init_19 : decode cX11_init 19 = .ok (.putfield 13, 3) := by decide +kernel
theorem dX11_init_22 : decode cX11_init 22 = .ok (.aload_n 0, 1) := by decide +kernel
theorem dX11_init_23 : decode cX11_init 23 = .ok (.iconst 5, 1) := by decide +kernel
theorem dX11_init_24 : decode cX11_init 24 = .ok (.newarray .int, 2) := by decide +kernel
theorem dX11_init_26 : decode cX11_init 26 = .ok (.putfield 16, 3) := by decide +kernel
theorem dX11_init_29 : decode cX11_init 29 = .ok (.aload_n 0, 1) := by decide +kernel
theorem dX11_init_30 : decode cX11_init 30 = .ok (.bipush 95, 2) := by decide +kernel
theorem dX11_init_32 : decode cX11_init 32 = .ok (.newarray .int, 2) := by decide +kernel
theorem dX11_init_34 : decode cX11_init 34 = .ok (.dup, 1) := by decide +kernel
theorem dX11_init_35 : decode cX11_init 35 = .ok (.iconst 0, 1) := by decide +kernel
theorem dX11_init_36 : decode cX11_init 36 = .ok (.bipush 32, 2) := by decide +kernel
theorem dX11_init_38 : decode cX11_init 38 = .ok (.iastore, 1) := by decide +kernel
theorem dX11_init_39 : decode cX11_init 39 = .ok (.dup, 1) := by decide +kernel
theorem dX11_init_40 : decode cX11_init 40 = .ok (.iconst 1, 1) := by decide +kernel
theorem dX11_init_41 : decode cX11_init 41 = .ok (.bipush 65, 2) := by decide +kernel
theorem dX11_init_43 : decode cX11_init 43 = .ok (.iastore, 1) := by decide +kernel
theorem dX11_init_44 : decode cX11_init 44 = .ok (.dup, 1) := by decide +kernel
theorem dX11_init_45 : decode cX11_init 45 = .ok (.iconst 2, 1) := by decide +kernel
theorem dX11_init_46 : decode cX11_init 46 = .ok (.bipush 67, 2) := by decide +kernel
theorem dX11_init_48 : decode cX11_init 48 = .ok (.iastore, 1) := by decide +kernel
theorem dX11_init_49 : decode cX11_init 49 = .ok (.dup, 1) := by decide +kernel
theorem dX11_init_50 : decode cX11_init 50 = .ok (.iconst 3, 1) := by decide +kernel
theorem dX11_init_51 : decode cX11_init 51 = .ok (.bipush 84, 2) := by decide +kernel
theorem dX11_init_53 : decode cX11_init 53 = .ok (.iastore, 1) := by decide +kernel
theorem dX11_init_54 : decode cX11_init 54 = .ok (.dup, 1) := by decide +kernel
theorem dX11_init_55 : decode cX11_init 55 = .ok (.iconst 4, 1) := by decide +kernel
theorem dX11_init_56 : decode cX11_init 56 = .ok (.bipush 73, 2) := by decide +kernel
theorem dX11_init_58 : decode cX11_init 58 = .ok (.iastore, 1) := by decide +kernel
theorem dX11_init_59 : decode cX11_init 59 = .ok (.dup, 1) := by decide +kernel
theorem dX11_init_60 : decode cX11_init 60 = .ok (.iconst 5, 1) := by decide +kernel
theorem dX11_init_61 : decode cX11_init 61 = .ok (.bipush 86, 2) := by decide +kernel
theorem dX11_init_63 : decode cX11_init 63 = .ok (.iastore, 1) := by decide +kernel
theorem dX11_init_64 : decode cX11_init 64 = .ok (.dup, 1) := by decide +kernel
theorem dX11_init_65 : decode cX11_init 65 = .ok (.bipush 6, 2) := by decide +kernel
theorem dX11_init_67 : decode cX11_init 67 = .ok (.bipush 69, 2) := by decide +kernel
theorem dX11_init_69 : decode cX11_init 69 = .ok (.iastore, 1) := by decide +kernel
theorem dX11_init_70 : decode cX11_init 70 = .ok (.dup, 1) := by decide +kernel
theorem dX11_init_71 : decode cX11_init 71 = .ok (.bipush 7, 2) := by decide +kernel
theorem dX11_init_73 : decode cX11_init 73 = .ok (.bipush 32, 2) := by decide +kernel
theorem dX11_init_75 : decode cX11_init 75 = .ok (.iastore, 1) := by decide +kernel
theorem dX11_init_76 : decode cX11_init 76 = .ok (.dup, 1) := by decide +kernel
theorem dX11_init_77 : decode cX11_init 77 = .ok (.bipush 8, 2) := by decide +kernel
theorem dX11_init_79 : decode cX11_init 79 = .ok (.bipush 82, 2) := by decide +kernel
theorem dX11_init_81 : decode cX11_init 81 = .ok (.iastore, 1) := by decide +kernel
theorem dX11_init_82 : decode cX11_init 82 = .ok (.dup, 1) := by decide +kernel
theorem dX11_init_83 : decode cX11_init 83 = .ok (.bipush 9, 2) := by decide +kernel
theorem dX11_init_85 : decode cX11_init 85 = .ok (.bipush 69, 2) := by decide +kernel
theorem dX11_init_87 : decode cX11_init 87 = .ok (.iastore, 1) := by decide +kernel
theorem dX11_init_88 : decode cX11_init 88 = .ok (.dup, 1) := by decide +kernel
theorem dX11_init_89 : decode cX11_init 89 = .ok (.bipush 10, 2) := by decide +kernel
theorem dX11_init_91 : decode cX11_init 91 = .ok (.bipush 83, 2) := by decide +kernel
theorem dX11_init_93 : decode cX11_init 93 = .ok (.iastore, 1) := by decide +kernel
theorem dX11_init_94 : decode cX11_init 94 = .ok (.dup, 1) := by decide +kernel
theorem dX11_init_95 : decode cX11_init 95 = .ok (.bipush 11, 2) := by decide +kernel
theorem dX11_init_97 : decode cX11_init 97 = .ok (.bipush 69, 2) := by decide +kernel
theorem dX11_init_99 : decode cX11_init 99 = .ok (.iastore, 1) := by decide +kernel
theorem dX11_init_100 : decode cX11_init 100 = .ok (.dup, 1) := by decide +kernel
theorem dX11_init_101 : decode cX11_init 101 = .ok (.bipush 12, 2) := by decide +kernel
theorem dX11_init_103 : decode cX11_init 103 = .ok (.bipush 78, 2) := by decide +kernel
theorem dX11_init_105 : decode cX11_init 105 = .ok (.iastore, 1) := by decide +kernel
theorem dX11_init_106 : decode cX11_init 106 = .ok (.dup, 1) := by decide +kernel
theorem dX11_init_107 : decode cX11_init 107 = .ok (.bipush 13, 2) := by decide +kernel
theorem dX11_init_109 : decode cX11_init 109 = .ok (.bipush 68, 2) := by decide +kernel
theorem dX11_init_111 : decode cX11_init 111 = .ok (.iastore, 1) := by decide +kernel
theorem dX11_init_112 : decode cX11_init 112 = .ok (.dup, 1) := by decide +kernel
theorem dX11_init_113 : decode cX11_init 113 = .ok (.bipush 14, 2) := by decide +kernel
theorem dX11_init_115 : decode cX11_init 115 = .ok (.bipush 83, 2) := by decide +kernel
theorem dX11_init_117 : decode cX11_init 117 = .ok (.iastore, 1) := by decide +kernel
theorem dX11_init_118 : decode cX11_init 118 = .ok (.dup, 1) := by decide +kernel
theorem dX11_init_119 : decode cX11_init 119 = .ok (.bipush 15, 2) := by decide +kernel
theorem dX11_init_121 : decode cX11_init 121 = .ok (.bipush 32, 2) := by decide +kernel
theorem dX11_init_123 : decode cX11_init 123 = .ok (.iastore, 1) := by decide +kernel
theorem dX11_init_124 : decode cX11_init 124 = .ok (.dup, 1) := by decide +kernel
theorem dX11_init_125 : decode cX11_init 125 = .ok (.bipush 16, 2) := by decide +kernel
theorem dX11_init_127 : decode cX11_init 127 = .ok (.bipush 87, 2) := by decide +kernel
theorem dX11_init_129 : decode cX11_init 129 = .ok (.iastore, 1) := by decide +kernel
theorem dX11_init_130 : decode cX11_init 130 = .ok (.dup, 1) := by decide +kernel
theorem dX11_init_131 : decode cX11_init 131 = .ok (.bipush 17, 2) := by decide +kernel
theorem dX11_init_133 : decode cX11_init 133 = .ok (.bipush 65, 2) := by decide +kernel
theorem dX11_init_135 : decode cX11_init 135 = .ok (.iastore, 1) := by decide +kernel
theorem dX11_init_136 : decode cX11_init 136 = .ok (.dup, 1) := by decide +kernel
theorem dX11_init_137 : decode cX11_init 137 = .ok (.bipush 18, 2) := by decide +kernel
theorem dX11_init_139 : decode cX11_init 139 = .ok (.bipush 73, 2) := by decide +kernel
theorem dX11_init_141 : decode cX11_init 141 = .ok (.iastore, 1) := by decide +kernel
theorem dX11_init_142 : decode cX11_init 142 = .ok (.dup, 1) := by decide +kernel
theorem dX11_init_143 : decode cX11_init 143 = .ok (.bipush 19, 2) := by decide +kernel
theorem dX11_init_145 : decode cX11_init 145 = .ok (.bipush 84, 2) := by decide +kernel
theorem dX11_init_147 : decode cX11_init 147 = .ok (.iastore, 1) := by decide +kernel
theorem dX11_init_148 : decode cX11_init 148 = .ok (.dup, 1) := by decide +kernel
theorem dX11_init_149 : decode cX11_init 149 = .ok (.bipush 20, 2) := by decide +kernel
theorem dX11_init_151 : decode cX11_init 151 = .ok (.bipush 73, 2) := by decide +kernel
theorem dX11_init_153 : decode cX11_init 153 = .ok (.iastore, 1) := by decide +kernel
theorem dX11_init_154 : decode cX11_init 154 = .ok (.dup, 1) := by decide +kernel
theorem dX11_init_155 : decode cX11_init 155 = .ok (.bipush 21, 2) := by decide +kernel
theorem dX11_init_157 : decode cX11_init 157 = .ok (.bipush 78, 2) := by decide +kernel
theorem dX11_init_159 : decode cX11_init 159 = .ok (.iastore, 1) := by decide +kernel
theorem dX11_init_160 : decode cX11_init 160 = .ok (.dup, 1) := by decide +kernel
theorem dX11_init_161 : decode cX11_init 161 = .ok (.bipush 22, 2) := by decide +kernel
theorem dX11_init_163 : decode cX11_init 163 = .ok (.bipush 71, 2) := by decide +kernel
theorem dX11_init_165 : decode cX11_init 165 = .ok (.iastore, 1) := by decide +kernel
theorem dX11_init_166 : decode cX11_init 166 = .ok (.dup, 1) := by decide +kernel
theorem dX11_init_167 : decode cX11_init 167 = .ok (.bipush 23, 2) := by decide +kernel
theorem dX11_init_169 : decode cX11_init 169 = .ok (.bipush 32, 2) := by decide +kernel
theorem dX11_init_171 : decode cX11_init 171 = .ok (.iastore, 1) := by decide +kernel
theorem dX11_init_172 : decode cX11_init 172 = .ok (.dup, 1) := by decide +kernel
theorem dX11_init_173 : decode cX11_init 173 = .ok (.bipush 24, 2) := by decide +kernel
theorem dX11_init_175 : decode cX11_init 175 = .ok (.bipush 67, 2) := by decide +kernel
theorem dX11_init_177 : decode cX11_init 177 = .ok (.iastore, 1) := by decide +kernel
theorem dX11_init_178 : decode cX11_init 178 = .ok (.dup, 1) := by decide +kernel
theorem dX11_init_179 : decode cX11_init 179 = .ok (.bipush 25, 2) := by decide +kernel
theorem dX11_init_181 : decode cX11_init 181 = .ok (.bipush 72, 2) := by decide +kernel
theorem dX11_init_183 : decode cX11_init 183 = .ok (.iastore, 1) := by decide +kernel
theorem dX11_init_184 : decode cX11_init 184 = .ok (.dup, 1) := by decide +kernel
theorem dX11_init_185 : decode cX11_init 185 = .ok (.bipush 26, 2) := by decide +kernel
theorem dX11_init_187 : decode cX11_init 187 = .ok (.bipush 69, 2) := by decide +kernel
theorem dX11_init_189 : decode cX11_init 189 = .ok (.iastore, 1) := by decide +kernel
theorem dX11_init_190 : decode cX11_init 190 = .ok (.dup, 1) := by decide +kernel
theorem dX11_init_191 : decode cX11_init 191 = .ok (.bipush 27, 2) := by decide +kernel
theorem dX11_init_193 : decode cX11_init 193 = .ok (.bipush 67, 2) := by decide +kernel
theorem dX11_init_195 : decode cX11_init 195 = .ok (.iastore, 1) := by decide +kernel
theorem dX11_init_196 : decode cX11_init 196 = .ok (.dup, 1) := by decide +kernel
theorem dX11_init_197 : decode cX11_init 197 = .ok (.bipush 28, 2) := by decide +kernel
theorem dX11_init_199 : decode cX11_init 199 = .ok (.bipush 75, 2) := by decide +kernel
theorem dX11_init_201 : decode cX11_init 201 = .ok (.iastore, 1) := by decide +kernel
theorem dX11_init_202 : decode cX11_init 202 = .ok (.dup, 1) := by decide +kernel
theorem dX11_init_203 : decode cX11_init 203 = .ok (.bipush 29, 2) := by decide +kernel
theorem dX11_init_205 : decode cX11_init 205 = .ok (.bipush 83, 2) := by decide +kernel
theorem dX11_init_207 : decode cX11_init 207 = .ok (.iastore, 1) := by decide +kernel
theorem dX11_init_208 : decode cX11_init 208 = .ok (.dup, 1) := by decide +kernel
theorem dX11_init_209 : decode cX11_init 209 = .ok (.bipush 30, 2) := by decide +kernel
theorem dX11_init_211 : decode cX11_init 211 = .ok (.bipush 32, 2) := by decide +kernel
theorem dX11_init_213 : decode cX11_init 213 = .ok (.iastore, 1) := by decide +kernel
theorem dX11_init_214 : decode cX11_init 214 = .ok (.dup, 1) := by decide +kernel
theorem dX11_init_215 : decode cX11_init 215 = .ok (.bipush 31, 2) := by decide +kernel
theorem dX11_init_217 : decode cX11_init 217 = .ok (.bipush 68, 2) := by decide +kernel
theorem dX11_init_219 : decode cX11_init 219 = .ok (.iastore, 1) := by decide +kernel
theorem dX11_init_220 : decode cX11_init 220 = .ok (.dup, 1) := by decide +kernel
theorem dX11_init_221 : decode cX11_init 221 = .ok (.bipush 32, 2) := by decide +kernel
theorem dX11_init_223 : decode cX11_init 223 = .ok (.bipush 73, 2) := by decide +kernel
theorem dX11_init_225 : decode cX11_init 225 = .ok (.iastore, 1) := by decide +kernel
theorem dX11_init_226 : decode cX11_init 226 = .ok (.dup, 1) := by decide +kernel
theorem dX11_init_227 : decode cX11_init 227 = .ok (.bipush 33, 2) := by decide +kernel
theorem dX11_init_229 : decode cX11_init 229 = .ok (.bipush 82, 2) := by decide +kernel
theorem dX11_init_231 : decode cX11_init 231 = .ok (.iastore, 1) := by decide +kernel
theorem dX11_init_232 : decode cX11_init 232 = .ok (.dup, 1) := by decide +kernel
theorem dX11_init_233 : decode cX11_init 233 = .ok (.bipush 34, 2) := by decide +kernel
theorem dX11_init_235 : decode cX11_init 235 = .ok (.bipush 69, 2) := by decide +kernel
theorem dX11_init_237 : decode cX11_init 237 = .ok (.iastore, 1) := by decide +kernel
theorem dX11_init_238 : decode cX11_init 238 = .ok (.dup, 1) := by decide +kernel
theorem dX11_init_239 : decode cX11_init 239 = .ok (.bipush 35, 2) := by decide +kernel
theorem dX11_init_241 : decode cX11_init 241 = .ok (.bipush 67, 2) := by decide +kernel
theorem dX11_init_243 : decode cX11_init 243 = .ok (.iastore, 1) := by decide +kernel
theorem dX11_init_244 : decode cX11_init 244 = .ok (.dup, 1) := by decide +kernel
theorem dX11_init_245 : decode cX11_init 245 = .ok (.bipush 36, 2) := by decide +kernel
theorem dX11_init_247 : decode cX11_init 247 = .ok (.bipush 84, 2) := by decide +kernel
theorem dX11_init_249 : decode cX11_init 249 = .ok (.iastore, 1) := by decide +kernel
theorem dX11_init_250 : decode cX11_init 250 = .ok (.dup, 1) := by decide +kernel
theorem dX11_init_251 : decode cX11_init 251 = .ok (.bipush 37, 2) := by decide +kernel
theorem dX11_init_253 : decode cX11_init 253 = .ok (.bipush 83, 2) := by decide +kernel
theorem dX11_init_255 : decode cX11_init 255 = .ok (.iastore, 1) := by decide +kernel
theorem dX11_init_256 : decode cX11_init 256 = .ok (.dup, 1) := by decide +kernel
theorem dX11_init_257 : decode cX11_init 257 = .ok (.bipush 38, 2) := by decide +kernel
theorem dX11_init_259 : decode cX11_init 259 = .ok (.bipush 32, 2) := by decide +kernel
theorem dX11_init_261 : decode cX11_init 261 = .ok (.iastore, 1) := by decide +kernel
theorem dX11_init_262 : decode cX11_init 262 = .ok (.dup, 1) := by decide +kernel
theorem dX11_init_263 : decode cX11_init 263 = .ok (.bipush 39, 2) := by decide +kernel
theorem dX11_init_265 : decode cX11_init 265 = .ok (.bipush 79, 2) := by decide +kernel
theorem dX11_init_267 : decode cX11_init 267 = .ok (.iastore, 1) := by decide +kernel
theorem dX11_init_268 : decode cX11_init 268 = .ok (.dup, 1) := by decide +kernel
theorem dX11_init_269 : decode cX11_init 269 = .ok (.bipush 40, 2) := by decide +kernel
theorem dX11_init_271 : decode cX11_init 271 = .ok (.bipush 70, 2) := by decide +kernel
theorem dX11_init_273 : decode cX11_init 273 = .ok (.iastore, 1) := by decide +kernel
theorem dX11_init_274 : decode cX11_init 274 = .ok (.dup, 1) := by decide +kernel
theorem dX11_init_275 : decode cX11_init 275 = .ok (.bipush 41, 2) := by decide +kernel
theorem dX11_init_277 : decode cX11_init 277 = .ok (.bipush 70, 2) := by decide +kernel
theorem dX11_init_279 : decode cX11_init 279 = .ok (.iastore, 1) := by decide +kernel
theorem dX11_init_280 : decode cX11_init 280 = .ok (.dup, 1) := by decide +kernel
theorem dX11_init_281 : decode cX11_init 281 = .ok (.bipush 42, 2) := by decide +kernel
theorem dX11_init_283 : decode cX11_init 283 = .ok (.bipush 32, 2) := by decide +kernel
theorem dX11_init_285 : decode cX11_init 285 = .ok (.iastore, 1) := by decide +kernel
theorem dX11_init_286 : decode cX11_init 286 = .ok (.dup, 1) := by decide +kernel
theorem dX11_init_287 : decode cX11_init 287 = .ok (.bipush 43, 2) := by decide +kernel
theorem dX11_init_289 : decode cX11_init 289 = .ok (.bipush 79, 2) := by decide +kernel
theorem dX11_init_291 : decode cX11_init 291 = .ok (.iastore, 1) := by decide +kernel
theorem dX11_init_292 : decode cX11_init 292 = .ok (.dup, 1) := by decide +kernel
theorem dX11_init_293 : decode cX11_init 293 = .ok (.bipush 44, 2) := by decide +kernel
theorem dX11_init_295 : decode cX11_init 295 = .ok (.bipush 80, 2) := by decide +kernel
theorem dX11_init_297 : decode cX11_init 297 = .ok (.iastore, 1) := by decide +kernel
theorem dX11_init_298 : decode cX11_init 298 = .ok (.dup, 1) := by decide +kernel
theorem dX11_init_299 : decode cX11_init 299 = .ok (.bipush 45, 2) := by decide +kernel
theorem dX11_init_301 : decode cX11_init 301 = .ok (.bipush 69, 2) := by decide +kernel
theorem dX11_init_303 : decode cX11_init 303 = .ok (.iastore, 1) := by decide +kernel
theorem dX11_init_304 : decode cX11_init 304 = .ok (.dup, 1) := by decide +kernel
theorem dX11_init_305 : decode cX11_init 305 = .ok (.bipush 46, 2) := by decide +kernel
theorem dX11_init_307 : decode cX11_init 307 = .ok (.bipush 78, 2) := by decide +kernel
theorem dX11_init_309 : decode cX11_init 309 = .ok (.iastore, 1) := by decide +kernel
theorem dX11_init_310 : decode cX11_init 310 = .ok (.dup, 1) := by decide +kernel
theorem dX11_init_311 : decode cX11_init 311 = .ok (.bipush 47, 2) := by decide +kernel
theorem dX11_init_313 : decode cX11_init 313 = .ok (.bipush 32, 2) := by decide +kernel
theorem dX11_init_315 : decode cX11_init 315 = .ok (.iastore, 1) := by decide +kernel
theorem dX11_init_316 : decode cX11_init 316 = .ok (.dup, 1) := by decide +kernel
theorem dX11_init_317 : decode cX11_init 317 = .ok (.bipush 48, 2) := by decide +kernel
theorem dX11_init_319 : decode cX11_init 319 = .ok (.bipush 87, 2) := by decide +kernel
theorem dX11_init_321 : decode cX11_init 321 = .ok (.iastore, 1) := by decide +kernel
theorem dX11_init_322 : decode cX11_init 322 = .ok (.dup, 1) := by decide +kernel
theorem dX11_init_323 : decode cX11_init 323 = .ok (.bipush 49, 2) := by decide +kernel
theorem dX11_init_325 : decode cX11_init 325 = .ok (.bipush 65, 2) := by decide +kernel
theorem dX11_init_327 : decode cX11_init 327 = .ok (.iastore, 1) := by decide +kernel
theorem dX11_init_328 : decode cX11_init 328 = .ok (.dup, 1) := by decide +kernel
theorem dX11_init_329 : decode cX11_init 329 = .ok (.bipush 50, 2) := by decide +kernel
theorem dX11_init_331 : decode cX11_init 331 = .ok (.bipush 73, 2) := by decide +kernel
theorem dX11_init_333 : decode cX11_init 333 = .ok (.iastore, 1) := by decide +kernel
theorem dX11_init_334 : decode cX11_init 334 = .ok (.dup, 1) := by decide +kernel
theorem dX11_init_335 : decode cX11_init 335 = .ok (.bipush 51, 2) := by decide +kernel
theorem dX11_init_337 : decode cX11_init 337 = .ok (.bipush 84, 2) := by decide +kernel
theorem dX11_init_339 : decode cX11_init 339 = .ok (.iastore, 1) := by decide +kernel
theorem dX11_init_340 : decode cX11_init 340 = .ok (.dup, 1) := by decide +kernel
theorem dX11_init_341 : decode cX11_init 341 = .ok (.bipush 52, 2) := by decide +kernel
theorem dX11_init_343 : decode cX11_init 343 = .ok (.bipush 32, 2) := by decide +kernel
theorem dX11_init_345 : decode cX11_init 345 = .ok (.iastore, 1) := by decide +kernel
theorem dX11_init_346 : decode cX11_init 346 = .ok (.dup, 1) := by decide +kernel
theorem dX11_init_347 : decode cX11_init 347 = .ok (.bipush 53, 2) := by decide +kernel
theorem dX11_init_349 : decode cX11_init 349 = .ok (.bipush 76, 2) := by decide +kernel
theorem dX11_init_351 : decode cX11_init 351 = .ok (.iastore, 1) := by decide +kernel
theorem dX11_init_352 : decode cX11_init 352 = .ok (.dup, 1) := by decide +kernel
theorem dX11_init_353 : decode cX11_init 353 = .ok (.bipush 54, 2) := by decide +kernel
theorem dX11_init_355 : decode cX11_init 355 = .ok (.bipush 79, 2) := by decide +kernel
theorem dX11_init_357 : decode cX11_init 357 = .ok (.iastore, 1) := by decide +kernel
theorem dX11_init_358 : decode cX11_init 358 = .ok (.dup, 1) := by decide +kernel
theorem dX11_init_359 : decode cX11_init 359 = .ok (.bipush 55, 2) := by decide +kernel
theorem dX11_init_361 : decode cX11_init 361 = .ok (.bipush 67, 2) := by decide +kernel
theorem dX11_init_363 : decode cX11_init 363 = .ok (.iastore, 1) := by decide +kernel
theorem dX11_init_364 : decode cX11_init 364 = .ok (.dup, 1) := by decide +kernel
theorem dX11_init_365 : decode cX11_init 365 = .ok (.bipush 56, 2) := by decide +kernel
theorem dX11_init_367 : decode cX11_init 367 = .ok (.bipush 75, 2) := by decide +kernel
theorem dX11_init_369 : decode cX11_init 369 = .ok (.iastore, 1) := by decide +kernel
theorem dX11_init_370 : decode cX11_init 370 = .ok (.dup, 1) := by decide +kernel
theorem dX11_init_371 : decode cX11_init 371 = .ok (.bipush 57, 2) := by decide +kernel
theorem dX11_init_373 : decode cX11_init 373 = .ok (.bipush 69, 2) := by decide +kernel
theorem dX11_init_375 : decode cX11_init 375 = .ok (.iastore, 1) := by decide +kernel
theorem dX11_init_376 : decode cX11_init 376 = .ok (.dup, 1) := by decide +kernel
theorem dX11_init_377 : decode cX11_init 377 = .ok (.bipush 58, 2) := by decide +kernel
theorem dX11_init_379 : decode cX11_init 379 = .ok (.bipush 68, 2) := by decide +kernel
theorem dX11_init_381 : decode cX11_init 381 = .ok (.iastore, 1) := by decide +kernel
theorem dX11_init_382 : decode cX11_init 382 = .ok (.dup, 1) := by decide +kernel
theorem dX11_init_383 : decode cX11_init 383 = .ok (.bipush 59, 2) := by decide +kernel
theorem dX11_init_385 : decode cX11_init 385 = .ok (.bipush 32, 2) := by decide +kernel
theorem dX11_init_387 : decode cX11_init 387 = .ok (.iastore, 1) := by decide +kernel
theorem dX11_init_388 : decode cX11_init 388 = .ok (.dup, 1) := by decide +kernel
theorem dX11_init_389 : decode cX11_init 389 = .ok (.bipush 60, 2) := by decide +kernel
theorem dX11_init_391 : decode cX11_init 391 = .ok (.bipush 83, 2) := by decide +kernel
theorem dX11_init_393 : decode cX11_init 393 = .ok (.iastore, 1) := by decide +kernel
theorem dX11_init_394 : decode cX11_init 394 = .ok (.dup, 1) := by decide +kernel
theorem dX11_init_395 : decode cX11_init 395 = .ok (.bipush 61, 2) := by decide +kernel
theorem dX11_init_397 : decode cX11_init 397 = .ok (.bipush 84, 2) := by decide +kernel
theorem dX11_init_399 : decode cX11_init 399 = .ok (.iastore, 1) := by decide +kernel
theorem dX11_init_400 : decode cX11_init 400 = .ok (.dup, 1) := by decide +kernel
theorem dX11_init_401 : decode cX11_init 401 = .ok (.bipush 62, 2) := by decide +kernel
theorem dX11_init_403 : decode cX11_init 403 = .ok (.bipush 69, 2) := by decide +kernel
theorem dX11_init_405 : decode cX11_init 405 = .ok (.iastore, 1) := by decide +kernel
theorem dX11_init_406 : decode cX11_init 406 = .ok (.dup, 1) := by decide +kernel
theorem dX11_init_407 : decode cX11_init 407 = .ok (.bipush 63, 2) := by decide +kernel
theorem dX11_init_409 : decode cX11_init 409 = .ok (.bipush 80, 2) := by decide +kernel
theorem dX11_init_411 : decode cX11_init 411 = .ok (.iastore, 1) := by decide +kernel
theorem dX11_init_412 : decode cX11_init 412 = .ok (.dup, 1) := by decide +kernel
theorem dX11_init_413 : decode cX11_init 413 = .ok (.bipush 64, 2) := by decide +kernel
theorem dX11_init_415 : decode cX11_init 415 = .ok (.bipush 32, 2) := by decide +kernel
theorem dX11_init_417 : decode cX11_init 417 = .ok (.iastore, 1) := by decide +kernel
theorem dX11_init_418 : decode cX11_init 418 = .ok (.dup, 1) := by decide +kernel
theorem dX11_init_419 : decode cX11_init 419 = .ok (.bipush 65, 2) := by decide +kernel
theorem dX11_init_421 : decode cX11_init 421 = .ok (.bipush 78, 2) := by decide +kernel
theorem dX11_init_423 : decode cX11_init 423 = .ok (.iastore, 1) := by decide +kernel
theorem dX11_init_424 : decode cX11_init 424 = .ok (.dup, 1) := by decide +kernel
theorem dX11_init_425 : decode cX11_init 425 = .ok (.bipush 66, 2) := by decide +kernel
theorem dX11_init_427 : decode cX11_init 427 = .ok (.bipush 85, 2) := by decide +kernel
theorem dX11_init_429 : decode cX11_init 429 = .ok (.iastore, 1) := by decide +kernel
theorem dX11_init_430 : decode cX11_init 430 = .ok (.dup, 1) := by decide +kernel
theorem dX11_init_431 : decode cX11_init 431 = .ok (.bipush 67, 2) := by decide +kernel
theorem dX11_init_433 : decode cX11_init 433 = .ok (.bipush 77, 2) := by decide +kernel
theorem dX11_init_435 : decode cX11_init 435 = .ok (.iastore, 1) := by decide +kernel
theorem dX11_init_436 : decode cX11_init 436 = .ok (.dup, 1) := by decide +kernel
theorem dX11_init_437 : decode cX11_init 437 = .ok (.bipush 68, 2) := by decide +kernel
theorem dX11_init_439 : decode cX11_init 439 = .ok (.bipush 66, 2) := by decide +kernel
theorem dX11_init_441 : decode cX11_init 441 = .ok (.iastore, 1) := by decide +kernel
theorem dX11_init_442 : decode cX11_init 442 = .ok (.dup, 1) := by decide +kernel
theorem dX11_init_443 : decode cX11_init 443 = .ok (.bipush 69, 2) := by decide +kernel
theorem dX11_init_445 : decode cX11_init 445 = .ok (.bipush 69, 2) := by decide +kernel
theorem dX11_init_447 : decode cX11_init 447 = .ok (.iastore, 1) := by decide +kernel
theorem dX11_init_448 : decode cX11_init 448 = .ok (.dup, 1) := by decide +kernel
theorem dX11_init_449 : decode cX11_init 449 = .ok (.bipush 70, 2) := by decide +kernel
theorem dX11_init_451 : decode cX11_init 451 = .ok (.bipush 82, 2) := by decide +kernel
theorem dX11_init_453 : decode cX11_init 453 = .ok (.iastore, 1) := by decide +kernel
theorem dX11_init_454 : decode cX11_init 454 = .ok (.dup, 1) := by decide +kernel
theorem dX11_init_455 : decode cX11_init 455 = .ok (.bipush 71, 2) := by decide +kernel
theorem dX11_init_457 : decode cX11_init 457 = .ok (.bipush 32, 2) := by decide +kernel
theorem dX11_init_459 : decode cX11_init 459 = .ok (.iastore, 1) := by decide +kernel
theorem dX11_init_460 : decode cX11_init 460 = .ok (.dup, 1) := by decide +kernel
theorem dX11_init_461 : decode cX11_init 461 = .ok (.bipush 72, 2) := by decide +kernel
theorem dX11_init_463 : decode cX11_init 463 = .ok (.bipush 82, 2) := by decide +kernel
theorem dX11_init_465 : decode cX11_init 465 = .ok (.iastore, 1) := by decide +kernel
theorem dX11_init_466 : decode cX11_init 466 = .ok (.dup, 1) := by decide +kernel
theorem dX11_init_467 : decode cX11_init 467 = .ok (.bipush 73, 2) := by decide +kernel
theorem dX11_init_469 : decode cX11_init 469 = .ok (.bipush 69, 2) := by decide +kernel
theorem dX11_init_471 : decode cX11_init 471 = .ok (.iastore, 1) := by decide +kernel
theorem dX11_init_472 : decode cX11_init 472 = .ok (.dup, 1) := by decide +kernel
theorem dX11_init_473 : decode cX11_init 473 = .ok (.bipush 74, 2) := by decide +kernel
theorem dX11_init_475 : decode cX11_init 475 = .ok (.bipush 80, 2) := by decide +kernel
theorem dX11_init_477 : decode cX11_init 477 = .ok (.iastore, 1) := by decide +kernel
theorem dX11_init_478 : decode cX11_init 478 = .ok (.dup, 1) := by decide +kernel
theorem dX11_init_479 : decode cX11_init 479 = .ok (.bipush 75, 2) := by decide +kernel
theorem dX11_init_481 : decode cX11_init 481 = .ok (.bipush 79, 2) := by decide +kernel
theorem dX11_init_483 : decode cX11_init 483 = .ok (.iastore, 1) := by decide +kernel
theorem dX11_init_484 : decode cX11_init 484 = .ok (.dup, 1) := by decide +kernel
theorem dX11_init_485 : decode cX11_init 485 = .ok (.bipush 76, 2) := by decide +kernel
theorem dX11_init_487 : decode cX11_init 487 = .ok (.bipush 82, 2) := by decide +kernel
theorem dX11_init_489 : decode cX11_init 489 = .ok (.iastore, 1) := by decide +kernel
theorem dX11_init_490 : decode cX11_init 490 = .ok (.dup, 1) := by decide +kernel
theorem dX11_init_491 : decode cX11_init 491 = .ok (.bipush 77, 2) := by decide +kernel
theorem dX11_init_493 : decode cX11_init 493 = .ok (.bipush 84, 2) := by decide +kernel
theorem dX11_init_495 : decode cX11_init 495 = .ok (.iastore, 1) := by decide +kernel
theorem dX11_init_496 : decode cX11_init 496 = .ok (.dup, 1) := by decide +kernel
theorem dX11_init_497 : decode cX11_init 497 = .ok (.bipush 78, 2) := by decide +kernel
theorem dX11_init_499 : decode cX11_init 499 = .ok (.bipush 32, 2) := by decide +kernel
theorem dX11_init_501 : decode cX11_init 501 = .ok (.iastore, 1) := by decide +kernel
theorem dX11_init_502 : decode cX11_init 502 = .ok (.dup, 1) := by decide +kernel
theorem dX11_init_503 : decode cX11_init 503 = .ok (.bipush 79, 2) := by decide +kernel
theorem dX11_init_505 : decode cX11_init 505 = .ok (.bipush 76, 2) := by decide +kernel
theorem dX11_init_507 : decode cX11_init 507 = .ok (.iastore, 1) := by decide +kernel
theorem dX11_init_508 : decode cX11_init 508 = .ok (.dup, 1) := by decide +kernel
theorem dX11_init_509 : decode cX11_init 509 = .ok (.bipush 80, 2) := by decide +kernel
theorem dX11_init_511 : decode cX11_init 511 = .ok (.bipush 73, 2) := by decide +kernel
theorem dX11_init_513 : decode cX11_init 513 = .ok (.iastore, 1) := by decide +kernel
theorem dX11_init_514 : decode cX11_init 514 = .ok (.dup, 1) := by decide +kernel
theorem dX11_init_515 : decode cX11_init 515 = .ok (.bipush 81, 2) := by decide +kernel
theorem dX11_init_517 : decode cX11_init 517 = .ok (.bipush 77, 2) := by decide +kernel
theorem dX11_init_519 : decode cX11_init 519 = .ok (.iastore, 1) := by decide +kernel
theorem dX11_init_520 : decode cX11_init 520 = .ok (.dup, 1) := by decide +kernel
theorem dX11_init_521 : decode cX11_init 521 = .ok (.bipush 82, 2) := by decide +kernel
theorem dX11_init_523 : decode cX11_init 523 = .ok (.bipush 73, 2) := by decide +kernel
theorem dX11_init_525 : decode cX11_init 525 = .ok (.iastore, 1) := by decide +kernel
theorem dX11_init_526 : decode cX11_init 526 = .ok (.dup, 1) := by decide +kernel
theorem dX11_init_527 : decode cX11_init 527 = .ok (.bipush 83, 2) := by decide +kernel
theorem dX11_init_529 : decode cX11_init 529 = .ok (.bipush 84, 2) := by decide +kernel
theorem dX11_init_531 : decode cX11_init 531 = .ok (.iastore, 1) := by decide +kernel
theorem dX11_init_532 : decode cX11_init 532 = .ok (.dup, 1) := by decide +kernel
theorem dX11_init_533 : decode cX11_init 533 = .ok (.bipush 84, 2) := by decide +kernel
theorem dX11_init_535 : decode cX11_init 535 = .ok (.bipush 32, 2) := by decide +kernel
theorem dX11_init_537 : decode cX11_init 537 = .ok (.iastore, 1) := by decide +kernel
theorem dX11_init_538 : decode cX11_init 538 = .ok (.dup, 1) := by decide +kernel
theorem dX11_init_539 : decode cX11_init 539 = .ok (.bipush 85, 2) := by decide +kernel
theorem dX11_init_541 : decode cX11_init 541 = .ok (.bipush 83, 2) := by decide +kernel
theorem dX11_init_543 : decode cX11_init 543 = .ok (.iastore, 1) := by decide +kernel
theorem dX11_init_544 : decode cX11_init 544 = .ok (.dup, 1) := by decide +kernel
theorem dX11_init_545 : decode cX11_init 545 = .ok (.bipush 86, 2) := by decide +kernel
theorem dX11_init_547 : decode cX11_init 547 = .ok (.bipush 84, 2) := by decide +kernel
theorem dX11_init_549 : decode cX11_init 549 = .ok (.iastore, 1) := by decide +kernel
theorem dX11_init_550 : decode cX11_init 550 = .ok (.dup, 1) := by decide +kernel
theorem dX11_init_551 : decode cX11_init 551 = .ok (.bipush 87, 2) := by decide +kernel
theorem dX11_init_553 : decode cX11_init 553 = .ok (.bipush 79, 2) := by decide +kernel
theorem dX11_init_555 : decode cX11_init 555 = .ok (.iastore, 1) := by decide +kernel
theorem dX11_init_556 : decode cX11_init 556 = .ok (.dup, 1) := by decide +kernel
theorem dX11_init_557 : decode cX11_init 557 = .ok (.bipush 88, 2) := by decide +kernel
theorem dX11_init_559 : decode cX11_init 559 = .ok (.bipush 80, 2) := by decide +kernel
theorem dX11_init_561 : decode cX11_init 561 = .ok (.iastore, 1) := by decide +kernel
theorem dX11_init_562 : decode cX11_init 562 = .ok (.dup, 1) := by decide +kernel
theorem dX11_init_563 : decode cX11_init 563 = .ok (.bipush 89, 2) := by decide +kernel
theorem dX11_init_565 : decode cX11_init 565 = .ok (.bipush 32, 2) := by decide +kernel
theorem dX11_init_567 : decode cX11_init 567 = .ok (.iastore, 1) := by decide +kernel
theorem dX11_init_568 : decode cX11_init 568 = .ok (.dup, 1) := by decide +kernel
theorem dX11_init_569 : decode cX11_init 569 = .ok (.bipush 90, 2) := by decide +kernel
theorem dX11_init_571 : decode cX11_init 571 = .ok (.bipush 72, 2) := by decide +kernel
theorem dX11_init_573 : decode cX11_init 573 = .ok (.iastore, 1) := by decide +kernel
theorem dX11_init_574 : decode cX11_init 574 = .ok (.dup, 1) := by decide +kernel
theorem dX11_init_575 : decode cX11_init 575 = .ok (.bipush 91, 2) := by decide +kernel
theorem dX11_init_577 : decode cX11_init 577 = .ok (.bipush 69, 2) := by decide +kernel
theorem dX11_init_579 : decode cX11_init 579 = .ok (.iastore, 1) := by decide +kernel
theorem dX11_init_580 : decode cX11_init 580 = .ok (.dup, 1) := by decide +kernel
theorem dX11_init_581 : decode cX11_init 581 = .ok (.bipush 92, 2) := by decide +kernel
theorem dX11_init_583 : decode cX11_init 583 = .ok (.bipush 76, 2) := by decide +kernel
theorem dX11_init_585 : decode cX11_init 585 = .ok (.iastore, 1) := by decide +kernel
theorem dX11_init_586 : decode cX11_init 586 = .ok (.dup, 1) := by decide +kernel
theorem dX11_init_587 : decode cX11_init 587 = .ok (.bipush 93, 2) := by decide +kernel
theorem dX11_init_589 : decode cX11_init 589 = .ok (.bipush 68, 2) := by decide +kernel
theorem dX11_init_591 : decode cX11_init 591 = .ok (.iastore, 1) := by decide +kernel
theorem dX11_init_592 : decode cX11_init 592 = .ok (.dup, 1) := by decide +kernel
theorem dX11_init_593 : decode cX11_init 593 = .ok (.bipush 94, 2) := by decide +kernel
theorem dX11_init_595 : decode cX11_init 595 = .ok (.bipush 32, 2) := by decide +kernel
theorem dX11_init_597 : decode cX11_init 597 = .ok (.iastore, 1) := by decide +kernel
theorem dX11_init_598 : decode cX11_init 598 = .ok (.putfield 19, 3) := by decide +kernel
theorem dX11_init_601 : decode cX11_init 601 = .ok (.aload_n 0, 1) := by decide +kernel
theorem dX11_init_602 : decode cX11_init 602 = .ok (.bipush 60, 2) := by decide +kernel
theorem dX11_init_604 : decode cX11_init 604 = .ok (.newarray .int, 2) := by decide +kernel
theorem dX11_init_606 : decode cX11_init 606 = .ok (.putfield 22, 3) := by decide +kernel
theorem dX11_init_609 : decode cX11_init 609 = .ok (.aload_n 0, 1) := by decide +kernel
theorem dX11_init_610 : decode cX11_init 610 = .ok (.sipush 400, 3) := by decide +kernel
theorem dX11_init_613 : decode cX11_init 613 = .ok (.newarray .int, 2) := by decide +kernel
theorem dX11_init_615 : decode cX11_init 615 = .ok (.putfield 25, 3) := by decide +kernel
theorem dX11_init_618 : decode cX11_init 618 = .ok (.aload_n 0, 1) := by decide +kernel
theorem dX11_init_619 : decode cX11_init 619 = .ok (.bipush 71, 2) := by decide +kernel
theorem dX11_init_621 : decode cX11_init 621 = .ok (.newarray .int, 2) := by decide +kernel
theorem dX11_init_623 : decode cX11_init 623 = .ok (.dup, 1) := by decide +kernel
theorem dX11_init_624 : decode cX11_init 624 = .ok (.iconst 0, 1) := by decide +kernel
theorem dX11_init_625 : decode cX11_init 625 = .ok (.bipush 32, 2) := by decide +kernel
theorem dX11_init_627 : decode cX11_init 627 = .ok (.iastore, 1) := by decide +kernel
theorem dX11_init_628 : decode cX11_init 628 = .ok (.dup, 1) := by decide +kernel
theorem dX11_init_629 : decode cX11_init 629 = .ok (.iconst 1, 1) := by decide +kernel
theorem dX11_init_630 : decode cX11_init 630 = .ok (.bipush 115, 2) := by decide +kernel
theorem dX11_init_632 : decode cX11_init 632 = .ok (.iastore, 1) := by decide +kernel
theorem dX11_init_633 : decode cX11_init 633 = .ok (.dup, 1) := by decide +kernel
theorem dX11_init_634 : decode cX11_init 634 = .ok (.iconst 2, 1) := by decide +kernel
theorem dX11_init_635 : decode cX11_init 635 = .ok (.bipush 101, 2) := by decide +kernel
theorem dX11_init_637 : decode cX11_init 637 = .ok (.iastore, 1) := by decide +kernel
theorem dX11_init_638 : decode cX11_init 638 = .ok (.dup, 1) := by decide +kernel
theorem dX11_init_639 : decode cX11_init 639 = .ok (.iconst 3, 1) := by decide +kernel
theorem dX11_init_640 : decode cX11_init 640 = .ok (.bipush 110, 2) := by decide +kernel
theorem dX11_init_642 : decode cX11_init 642 = .ok (.iastore, 1) := by decide +kernel
theorem dX11_init_643 : decode cX11_init 643 = .ok (.dup, 1) := by decide +kernel
theorem dX11_init_644 : decode cX11_init 644 = .ok (.iconst 4, 1) := by decide +kernel
theorem dX11_init_645 : decode cX11_init 645 = .ok (.bipush 100, 2) := by decide +kernel
theorem dX11_init_647 : decode cX11_init 647 = .ok (.iastore, 1) := by decide +kernel
theorem dX11_init_648 : decode cX11_init 648 = .ok (.dup, 1) := by decide +kernel
theorem dX11_init_649 : decode cX11_init 649 = .ok (.iconst 5, 1) := by decide +kernel
theorem dX11_init_650 : decode cX11_init 650 = .ok (.bipush 32, 2) := by decide +kernel
theorem dX11_init_652 : decode cX11_init 652 = .ok (.iastore, 1) := by decide +kernel
theorem dX11_init_653 : decode cX11_init 653 = .ok (.dup, 1) := by decide +kernel
theorem dX11_init_654 : decode cX11_init 654 = .ok (.bipush 6, 2) := by decide +kernel
theorem dX11_init_656 : decode cX11_init 656 = .ok (.bipush 112, 2) := by decide +kernel
theorem dX11_init_658 : decode cX11_init 658 = .ok (.iastore, 1) := by decide +kernel
theorem dX11_init_659 : decode cX11_init 659 = .ok (.dup, 1) := by decide +kernel
theorem dX11_init_660 : decode cX11_init 660 = .ok (.bipush 7, 2) := by decide +kernel
theorem dX11_init_662 : decode cX11_init 662 = .ok (.bipush 97, 2) := by decide +kernel
theorem dX11_init_664 : decode cX11_init 664 = .ok (.iastore, 1) := by decide +kernel
theorem dX11_init_665 : decode cX11_init 665 = .ok (.dup, 1) := by decide +kernel
theorem dX11_init_666 : decode cX11_init 666 = .ok (.bipush 8, 2) := by decide +kernel
theorem dX11_init_668 : decode cX11_init 668 = .ok (.bipush 115, 2) := by decide +kernel
theorem dX11_init_670 : decode cX11_init 670 = .ok (.iastore, 1) := by decide +kernel
theorem dX11_init_671 : decode cX11_init 671 = .ok (.dup, 1) := by decide +kernel
theorem dX11_init_672 : decode cX11_init 672 = .ok (.bipush 9, 2) := by decide +kernel
theorem dX11_init_674 : decode cX11_init 674 = .ok (.bipush 116, 2) := by decide +kernel
theorem dX11_init_676 : decode cX11_init 676 = .ok (.iastore, 1) := by decide +kernel
theorem dX11_init_677 : decode cX11_init 677 = .ok (.dup, 1) := by decide +kernel
theorem dX11_init_678 : decode cX11_init 678 = .ok (.bipush 10, 2) := by decide +kernel
theorem dX11_init_680 : decode cX11_init 680 = .ok (.bipush 32, 2) := by decide +kernel
theorem dX11_init_682 : decode cX11_init 682 = .ok (.iastore, 1) := by decide +kernel
theorem dX11_init_683 : decode cX11_init 683 = .ok (.dup, 1) := by decide +kernel
theorem dX11_init_684 : decode cX11_init 684 = .ok (.bipush 11, 2) := by decide +kernel
theorem dX11_init_686 : decode cX11_init 686 = .ok (.bipush 115, 2) := by decide +kernel
theorem dX11_init_688 : decode cX11_init 688 = .ok (.iastore, 1) := by decide +kernel
theorem dX11_init_689 : decode cX11_init 689 = .ok (.dup, 1) := by decide +kernel
theorem dX11_init_690 : decode cX11_init 690 = .ok (.bipush 12, 2) := by decide +kernel
theorem dX11_init_692 : decode cX11_init 692 = .ok (.bipush 101, 2) := by decide +kernel
theorem dX11_init_694 : decode cX11_init 694 = .ok (.iastore, 1) := by decide +kernel
theorem dX11_init_695 : decode cX11_init 695 = .ok (.dup, 1) := by decide +kernel
theorem dX11_init_696 : decode cX11_init 696 = .ok (.bipush 13, 2) := by decide +kernel
theorem dX11_init_698 : decode cX11_init 698 = .ok (.bipush 116, 2) := by decide +kernel
theorem dX11_init_700 : decode cX11_init 700 = .ok (.iastore, 1) := by decide +kernel
theorem dX11_init_701 : decode cX11_init 701 = .ok (.dup, 1) := by decide +kernel
theorem dX11_init_702 : decode cX11_init 702 = .ok (.bipush 14, 2) := by decide +kernel
theorem dX11_init_704 : decode cX11_init 704 = .ok (.bipush 32, 2) := by decide +kernel
theorem dX11_init_706 : decode cX11_init 706 = .ok (.iastore, 1) := by decide +kernel
theorem dX11_init_707 : decode cX11_init 707 = .ok (.dup, 1) := by decide +kernel
theorem dX11_init_708 : decode cX11_init 708 = .ok (.bipush 15, 2) := by decide +kernel
theorem dX11_init_710 : decode cX11_init 710 = .ok (.bipush 114, 2) := by decide +kernel
theorem dX11_init_712 : decode cX11_init 712 = .ok (.iastore, 1) := by decide +kernel
theorem dX11_init_713 : decode cX11_init 713 = .ok (.dup, 1) := by decide +kernel
theorem dX11_init_714 : decode cX11_init 714 = .ok (.bipush 16, 2) := by decide +kernel
theorem dX11_init_716 : decode cX11_init 716 = .ok (.bipush 101, 2) := by decide +kernel
theorem dX11_init_718 : decode cX11_init 718 = .ok (.iastore, 1) := by decide +kernel
theorem dX11_init_719 : decode cX11_init 719 = .ok (.dup, 1) := by decide +kernel
theorem dX11_init_720 : decode cX11_init 720 = .ok (.bipush 17, 2) := by decide +kernel
theorem dX11_init_722 : decode cX11_init 722 = .ok (.bipush 110, 2) := by decide +kernel
theorem dX11_init_724 : decode cX11_init 724 = .ok (.iastore, 1) := by decide +kernel
theorem dX11_init_725 : decode cX11_init 725 = .ok (.dup, 1) := by decide +kernel
theorem dX11_init_726 : decode cX11_init 726 = .ok (.bipush 18, 2) := by decide +kernel
theorem dX11_init_728 : decode cX11_init 728 = .ok (.bipush 117, 2) := by decide +kernel
theorem dX11_init_730 : decode cX11_init 730 = .ok (.iastore, 1) := by decide +kernel
theorem dX11_init_731 : decode cX11_init 731 = .ok (.dup, 1) := by decide +kernel
theorem dX11_init_732 : decode cX11_init 732 = .ok (.bipush 19, 2) := by decide +kernel
theorem dX11_init_734 : decode cX11_init 734 = .ok (.bipush 109, 2) := by decide +kernel
theorem dX11_init_736 : decode cX11_init 736 = .ok (.iastore, 1) := by decide +kernel
theorem dX11_init_737 : decode cX11_init 737 = .ok (.dup, 1) := by decide +kernel
theorem dX11_init_738 : decode cX11_init 738 = .ok (.bipush 20, 2) := by decide +kernel
theorem dX11_init_740 : decode cX11_init 740 = .ok (.bipush 98, 2) := by decide +kernel
theorem dX11_init_742 : decode cX11_init 742 = .ok (.iastore, 1) := by decide +kernel
theorem dX11_init_743 : decode cX11_init 743 = .ok (.dup, 1) := by decide +kernel
theorem dX11_init_744 : decode cX11_init 744 = .ok (.bipush 21, 2) := by decide +kernel
theorem dX11_init_746 : decode cX11_init 746 = .ok (.bipush 101, 2) := by decide +kernel
theorem dX11_init_748 : decode cX11_init 748 = .ok (.iastore, 1) := by decide +kernel
theorem dX11_init_749 : decode cX11_init 749 = .ok (.dup, 1) := by decide +kernel
theorem dX11_init_750 : decode cX11_init 750 = .ok (.bipush 22, 2) := by decide +kernel
theorem dX11_init_752 : decode cX11_init 752 = .ok (.bipush 114, 2) := by decide +kernel
theorem dX11_init_754 : decode cX11_init 754 = .ok (.iastore, 1) := by decide +kernel
theorem dX11_init_755 : decode cX11_init 755 = .ok (.dup, 1) := by decide +kernel
theorem dX11_init_756 : decode cX11_init 756 = .ok (.bipush 23, 2) := by decide +kernel
theorem dX11_init_758 : decode cX11_init 758 = .ok (.bipush 32, 2) := by decide +kernel
theorem dX11_init_760 : decode cX11_init 760 = .ok (.iastore, 1) := by decide +kernel
theorem dX11_init_761 : decode cX11_init 761 = .ok (.dup, 1) := by decide +kernel
theorem dX11_init_762 : decode cX11_init 762 = .ok (.bipush 24, 2) := by decide +kernel
theorem dX11_init_764 : decode cX11_init 764 = .ok (.bipush 116, 2) := by decide +kernel
theorem dX11_init_766 : decode cX11_init 766 = .ok (.iastore, 1) := by decide +kernel
theorem dX11_init_767 : decode cX11_init 767 = .ok (.dup, 1) := by decide +kernel
theorem dX11_init_768 : decode cX11_init 768 = .ok (.bipush 25, 2) := by decide +kernel
theorem dX11_init_770 : decode cX11_init 770 = .ok (.bipush 105, 2) := by decide +kernel
theorem dX11_init_772 : decode cX11_init 772 = .ok (.iastore, 1) := by decide +kernel
theorem dX11_init_773 : decode cX11_init 773 = .ok (.dup, 1) := by decide +kernel
theorem dX11_init_774 : decode cX11_init 774 = .ok (.bipush 26, 2) := by decide +kernel
theorem dX11_init_776 : decode cX11_init 776 = .ok (.bipush 99, 2) := by decide +kernel
theorem dX11_init_778 : decode cX11_init 778 = .ok (.iastore, 1) := by decide +kernel
theorem dX11_init_779 : decode cX11_init 779 = .ok (.dup, 1) := by decide +kernel
theorem dX11_init_780 : decode cX11_init 780 = .ok (.bipush 27, 2) := by decide +kernel
theorem dX11_init_782 : decode cX11_init 782 = .ok (.bipush 107, 2) := by decide +kernel
theorem dX11_init_784 : decode cX11_init 784 = .ok (.iastore, 1) := by decide +kernel
theorem dX11_init_785 : decode cX11_init 785 = .ok (.dup, 1) := by decide +kernel
theorem dX11_init_786 : decode cX11_init 786 = .ok (.bipush 28, 2) := by decide +kernel
theorem dX11_init_788 : decode cX11_init 788 = .ok (.bipush 32, 2) := by decide +kernel
theorem dX11_init_790 : decode cX11_init 790 = .ok (.iastore, 1) := by decide +kernel
theorem dX11_init_791 : decode cX11_init 791 = .ok (.dup, 1) := by decide +kernel
theorem dX11_init_792 : decode cX11_init 792 = .ok (.bipush 29, 2) := by decide +kernel
theorem dX11_init_794 : decode cX11_init 794 = .ok (.bipush 100, 2) := by decide +kernel
theorem dX11_init_796 : decode cX11_init 796 = .ok (.iastore, 1) := by decide +kernel
theorem dX11_init_797 : decode cX11_init 797 = .ok (.dup, 1) := by decide +kernel
theorem dX11_init_798 : decode cX11_init 798 = .ok (.bipush 30, 2) := by decide +kernel
theorem dX11_init_800 : decode cX11_init 800 = .ok (.bipush 114, 2) := by decide +kernel
theorem dX11_init_802 : decode cX11_init 802 = .ok (.iastore, 1) := by decide +kernel
theorem dX11_init_803 : decode cX11_init 803 = .ok (.dup, 1) := by decide +kernel
theorem dX11_init_804 : decode cX11_init 804 = .ok (.bipush 31, 2) := by decide +kernel
theorem dX11_init_806 : decode cX11_init 806 = .ok (.bipush 111, 2) := by decide +kernel
theorem dX11_init_808 : decode cX11_init 808 = .ok (.iastore, 1) := by decide +kernel
theorem dX11_init_809 : decode cX11_init 809 = .ok (.dup, 1) := by decide +kernel
theorem dX11_init_810 : decode cX11_init 810 = .ok (.bipush 32, 2) := by decide +kernel
theorem dX11_init_812 : decode cX11_init 812 = .ok (.bipush 112, 2) := by decide +kernel
theorem dX11_init_814 : decode cX11_init 814 = .ok (.iastore, 1) := by decide +kernel
theorem dX11_init_815 : decode cX11_init 815 = .ok (.dup, 1) := by decide +kernel
theorem dX11_init_816 : decode cX11_init 816 = .ok (.bipush 33, 2) := by decide +kernel
theorem dX11_init_818 : decode cX11_init 818 = .ok (.bipush 32, 2) := by decide +kernel
theorem dX11_init_820 : decode cX11_init 820 = .ok (.iastore, 1) := by decide +kernel
theorem dX11_init_821 : decode cX11_init 821 = .ok (.dup, 1) := by decide +kernel
theorem dX11_init_822 : decode cX11_init 822 = .ok (.bipush 34, 2) := by decide +kernel
theorem dX11_init_824 : decode cX11_init 824 = .ok (.bipush 115, 2) := by decide +kernel
theorem dX11_init_826 : decode cX11_init 826 = .ok (.iastore, 1) := by decide +kernel
theorem dX11_init_827 : decode cX11_init 827 = .ok (.dup, 1) := by decide +kernel
theorem dX11_init_828 : decode cX11_init 828 = .ok (.bipush 35, 2) := by decide +kernel
theorem dX11_init_830 : decode cX11_init 830 = .ok (.bipush 116, 2) := by decide +kernel
theorem dX11_init_832 : decode cX11_init 832 = .ok (.iastore, 1) := by decide +kernel
theorem dX11_init_833 : decode cX11_init 833 = .ok (.dup, 1) := by decide +kernel
theorem dX11_init_834 : decode cX11_init 834 = .ok (.bipush 36, 2) := by decide +kernel
theorem dX11_init_836 : decode cX11_init 836 = .ok (.bipush 97, 2) := by decide +kernel
theorem dX11_init_838 : decode cX11_init 838 = .ok (.iastore, 1) := by decide +kernel
theorem dX11_init_839 : decode cX11_init 839 = .ok (.dup, 1) := by decide +kernel
theorem dX11_init_840 : decode cX11_init 840 = .ok (.bipush 37, 2) := by decide +kernel
theorem dX11_init_842 : decode cX11_init 842 = .ok (.bipush 114, 2) := by decide +kernel
theorem dX11_init_844 : decode cX11_init 844 = .ok (.iastore, 1) := by decide +kernel
theorem dX11_init_845 : decode cX11_init 845 = .ok (.dup, 1) := by decide +kernel
theorem dX11_init_846 : decode cX11_init 846 = .ok (.bipush 38, 2) := by decide +kernel
theorem dX11_init_848 : decode cX11_init 848 = .ok (.bipush 116, 2) := by decide +kernel
theorem dX11_init_850 : decode cX11_init 850 = .ok (.iastore, 1) := by decide +kernel
theorem dX11_init_851 : decode cX11_init 851 = .ok (.dup, 1) := by decide +kernel
theorem dX11_init_852 : decode cX11_init 852 = .ok (.bipush 39, 2) := by decide +kernel
theorem dX11_init_854 : decode cX11_init 854 = .ok (.bipush 32, 2) := by decide +kernel
theorem dX11_init_856 : decode cX11_init 856 = .ok (.iastore, 1) := by decide +kernel
theorem dX11_init_857 : decode cX11_init 857 = .ok (.dup, 1) := by decide +kernel
theorem dX11_init_858 : decode cX11_init 858 = .ok (.bipush 40, 2) := by decide +kernel
theorem dX11_init_860 : decode cX11_init 860 = .ok (.bipush 99, 2) := by decide +kernel
theorem dX11_init_862 : decode cX11_init 862 = .ok (.iastore, 1) := by decide +kernel
theorem dX11_init_863 : decode cX11_init 863 = .ok (.dup, 1) := by decide +kernel
theorem dX11_init_864 : decode cX11_init 864 = .ok (.bipush 41, 2) := by decide +kernel
theorem dX11_init_866 : decode cX11_init 866 = .ok (.bipush 104, 2) := by decide +kernel
theorem dX11_init_868 : decode cX11_init 868 = .ok (.iastore, 1) := by decide +kernel
theorem dX11_init_869 : decode cX11_init 869 = .ok (.dup, 1) := by decide +kernel
theorem dX11_init_870 : decode cX11_init 870 = .ok (.bipush 42, 2) := by decide +kernel
theorem dX11_init_872 : decode cX11_init 872 = .ok (.bipush 101, 2) := by decide +kernel
theorem dX11_init_874 : decode cX11_init 874 = .ok (.iastore, 1) := by decide +kernel
theorem dX11_init_875 : decode cX11_init 875 = .ok (.dup, 1) := by decide +kernel
theorem dX11_init_876 : decode cX11_init 876 = .ok (.bipush 43, 2) := by decide +kernel
theorem dX11_init_878 : decode cX11_init 878 = .ok (.bipush 99, 2) := by decide +kernel
theorem dX11_init_880 : decode cX11_init 880 = .ok (.iastore, 1) := by decide +kernel
theorem dX11_init_881 : decode cX11_init 881 = .ok (.dup, 1) := by decide +kernel
theorem dX11_init_882 : decode cX11_init 882 = .ok (.bipush 44, 2) := by decide +kernel
theorem dX11_init_884 : decode cX11_init 884 = .ok (.bipush 107, 2) := by decide +kernel
theorem dX11_init_886 : decode cX11_init 886 = .ok (.iastore, 1) := by decide +kernel
theorem dX11_init_887 : decode cX11_init 887 = .ok (.dup, 1) := by decide +kernel
theorem dX11_init_888 : decode cX11_init 888 = .ok (.bipush 45, 2) := by decide +kernel
theorem dX11_init_890 : decode cX11_init 890 = .ok (.bipush 32, 2) := by decide +kernel
theorem dX11_init_892 : decode cX11_init 892 = .ok (.iastore, 1) := by decide +kernel
theorem dX11_init_893 : decode cX11_init 893 = .ok (.dup, 1) := by decide +kernel
theorem dX11_init_894 : decode cX11_init 894 = .ok (.bipush 46, 2) := by decide +kernel
theorem dX11_init_896 : decode cX11_init 896 = .ok (.bipush 117, 2) := by decide +kernel
theorem dX11_init_898 : decode cX11_init 898 = .ok (.iastore, 1) := by decide +kernel
theorem dX11_init_899 : decode cX11_init 899 = .ok (.dup, 1) := by decide +kernel
theorem dX11_init_900 : decode cX11_init 900 = .ok (.bipush 47, 2) := by decide +kernel
theorem dX11_init_902 : decode cX11_init 902 = .ok (.bipush 110, 2) := by decide +kernel
theorem dX11_init_904 : decode cX11_init 904 = .ok (.iastore, 1) := by decide +kernel
theorem dX11_init_905 : decode cX11_init 905 = .ok (.dup, 1) := by decide +kernel
theorem dX11_init_906 : decode cX11_init 906 = .ok (.bipush 48, 2) := by decide +kernel
theorem dX11_init_908 : decode cX11_init 908 = .ok (.bipush 108, 2) := by decide +kernel
theorem dX11_init_910 : decode cX11_init 910 = .ok (.iastore, 1) := by decide +kernel
theorem dX11_init_911 : decode cX11_init 911 = .ok (.dup, 1) := by decide +kernel
theorem dX11_init_912 : decode cX11_init 912 = .ok (.bipush 49, 2) := by decide +kernel
theorem dX11_init_914 : decode cX11_init 914 = .ok (.bipush 111, 2) := by decide +kernel
theorem dX11_init_916 : decode cX11_init 916 = .ok (.iastore, 1) := by decide +kernel
theorem dX11_init_917 : decode cX11_init 917 = .ok (.dup, 1) := by decide +kernel
theorem dX11_init_918 : decode cX11_init 918 = .ok (.bipush 50, 2) := by decide +kernel
theorem dX11_init_920 : decode cX11_init 920 = .ok (.bipush 99, 2) := by decide +kernel
theorem dX11_init_922 : decode cX11_init 922 = .ok (.iastore, 1) := by decide +kernel
theorem dX11_init_923 : decode cX11_init 923 = .ok (.dup, 1) := by decide +kernel
theorem dX11_init_924 : decode cX11_init 924 = .ok (.bipush 51, 2) := by decide +kernel
theorem dX11_init_926 : decode cX11_init 926 = .ok (.bipush 107, 2) := by decide +kernel
theorem dX11_init_928 : decode cX11_init 928 = .ok (.iastore, 1) := by decide +kernel
theorem dX11_init_929 : decode cX11_init 929 = .ok (.dup, 1) := by decide +kernel
theorem dX11_init_930 : decode cX11_init 930 = .ok (.bipush 52, 2) := by decide +kernel
theorem dX11_init_932 : decode cX11_init 932 = .ok (.bipush 32, 2) := by decide +kernel
theorem dX11_init_934 : decode cX11_init 934 = .ok (.iastore, 1) := by decide +kernel
theorem dX11_init_935 : decode cX11_init 935 = .ok (.dup, 1) := by decide +kernel
theorem dX11_init_936 : decode cX11_init 936 = .ok (.bipush 53, 2) := by decide +kernel
theorem dX11_init_938 : decode cX11_init 938 = .ok (.bipush 115, 2) := by decide +kernel
theorem dX11_init_940 : decode cX11_init 940 = .ok (.iastore, 1) := by decide +kernel
theorem dX11_init_941 : decode cX11_init 941 = .ok (.dup, 1) := by decide +kernel
theorem dX11_init_942 : decode cX11_init 942 = .ok (.bipush 54, 2) := by decide +kernel
theorem dX11_init_944 : decode cX11_init 944 = .ok (.bipush 116, 2) := by decide +kernel
theorem dX11_init_946 : decode cX11_init 946 = .ok (.iastore, 1) := by decide +kernel
theorem dX11_init_947 : decode cX11_init 947 = .ok (.dup, 1) := by decide +kernel
theorem dX11_init_948 : decode cX11_init 948 = .ok (.bipush 55, 2) := by decide +kernel
theorem dX11_init_950 : decode cX11_init 950 = .ok (.bipush 111, 2) := by decide +kernel
theorem dX11_init_952 : decode cX11_init 952 = .ok (.iastore, 1) := by decide +kernel
theorem dX11_init_953 : decode cX11_init 953 = .ok (.dup, 1) := by decide +kernel
theorem dX11_init_954 : decode cX11_init 954 = .ok (.bipush 56, 2) := by decide +kernel
theorem dX11_init_956 : decode cX11_init 956 = .ok (.bipush 112, 2) := by decide +kernel
theorem dX11_init_958 : decode cX11_init 958 = .ok (.iastore, 1) := by decide +kernel
theorem dX11_init_959 : decode cX11_init 959 = .ok (.dup, 1) := by decide +kernel
theorem dX11_init_960 : decode cX11_init 960 = .ok (.bipush 57, 2) := by decide +kernel
theorem dX11_init_962 : decode cX11_init 962 = .ok (.bipush 32, 2) := by decide +kernel
theorem dX11_init_964 : decode cX11_init 964 = .ok (.iastore, 1) := by decide +kernel
theorem dX11_init_965 : decode cX11_init 965 = .ok (.dup, 1) := by decide +kernel
theorem dX11_init_966 : decode cX11_init 966 = .ok (.bipush 58, 2) := by decide +kernel
theorem dX11_init_968 : decode cX11_init 968 = .ok (.bipush 111, 2) := by decide +kernel
theorem dX11_init_970 : decode cX11_init 970 = .ok (.iastore, 1) := by decide +kernel
theorem dX11_init_971 : decode cX11_init 971 = .ok (.dup, 1) := by decide +kernel
theorem dX11_init_972 : decode cX11_init 972 = .ok (.bipush 59, 2) := by decide +kernel
theorem dX11_init_974 : decode cX11_init 974 = .ok (.bipush 110, 2) := by decide +kernel
theorem dX11_init_976 : decode cX11_init 976 = .ok (.iastore, 1) := by decide +kernel
theorem dX11_init_977 : decode cX11_init 977 = .ok (.dup, 1) := by decide +kernel
theorem dX11_init_978 : decode cX11_init 978 = .ok (.bipush 60, 2) := by decide +kernel
theorem dX11_init_980 : decode cX11_init 980 = .ok (.bipush 32, 2) := by decide +kernel
theorem dX11_init_982 : decode cX11_init 982 = .ok (.iastore, 1) := by decide +kernel
theorem dX11_init_983 : decode cX11_init 983 = .ok (.dup, 1) := by decide +kernel
theorem dX11_init_984 : decode cX11_init 984 = .ok (.bipush 61, 2) := by decide +kernel
theorem dX11_init_986 : decode cX11_init 986 = .ok (.bipush 116, 2) := by decide +kernel
theorem dX11_init_988 : decode cX11_init 988 = .ok (.iastore, 1) := by decide +kernel
theorem dX11_init_989 : decode cX11_init 989 = .ok (.dup, 1) := by decide +kernel
theorem dX11_init_990 : decode cX11_init 990 = .ok (.bipush 62, 2) := by decide +kernel
theorem dX11_init_992 : decode cX11_init 992 = .ok (.bipush 97, 2) := by decide +kernel
theorem dX11_init_994 : decode cX11_init 994 = .ok (.iastore, 1) := by decide +kernel
theorem dX11_init_995 : decode cX11_init 995 = .ok (.dup, 1) := by decide +kernel
theorem dX11_init_996 : decode cX11_init 996 = .ok (.bipush 63, 2) := by decide +kernel
theorem dX11_init_998 : decode cX11_init 998 = .ok (.bipush 107, 2) := by decide +kernel
theorem dX11_init_1000 : decode cX11_init 1000 = .ok (.iastore, 1) := by decide +kernel
theorem dX11_init_1001 : decode cX11_init 1001 = .ok (.dup, 1) := by decide +kernel
theorem dX11_init_1002 : decode cX11_init 1002 = .ok (.bipush 64, 2) := by decide +kernel
theorem dX11_init_1004 : decode cX11_init 1004 = .ok (.bipush 101, 2) := by decide +kernel
theorem dX11_init_1006 : decode cX11_init 1006 = .ok (.iastore, 1) := by decide +kernel
theorem dX11_init_1007 : decode cX11_init 1007 = .ok (.dup, 1) := by decide +kernel
theorem dX11_init_1008 : decode cX11_init 1008 = .ok (.bipush 65, 2) := by decide +kernel
theorem dX11_init_1010 : decode cX11_init 1010 = .ok (.bipush 32, 2) := by decide +kernel
theorem dX11_init_1012 : decode cX11_init 1012 = .ok (.iastore, 1) := by decide +kernel
theorem dX11_init_1013 : decode cX11_init 1013 = .ok (.dup, 1) := by decide +kernel
theorem dX11_init_1014 : decode cX11_init 1014 = .ok (.bipush 66, 2) := by decide +kernel
theorem dX11_init_1016 : decode cX11_init 1016 = .ok (.bipush 108, 2) := by decide +kernel
theorem dX11_init_1018 : decode cX11_init 1018 = .ok (.iastore, 1) := by decide +kernel
theorem dX11_init_1019 : decode cX11_init 1019 = .ok (.dup, 1) := by decide +kernel
theorem dX11_init_1020 : decode cX11_init 1020 = .ok (.bipush 67, 2) := by decide +kernel
theorem dX11_init_1022 : decode cX11_init 1022 = .ok (.bipush 111, 2) := by decide +kernel
theorem dX11_init_1024 : decode cX11_init 1024 = .ok (.iastore, 1) := by decide +kernel
theorem dX11_init_1025 : decode cX11_init 1025 = .ok (.dup, 1) := by decide +kernel
theorem dX11_init_1026 : decode cX11_init 1026 = .ok (.bipush 68, 2) := by decide +kernel
theorem dX11_init_1028 : decode cX11_init 1028 = .ok (.bipush 115, 2) := by decide +kernel
theorem dX11_init_1030 : decode cX11_init 1030 = .ok (.iastore, 1) := by decide +kernel
theorem dX11_init_1031 : decode cX11_init 1031 = .ok (.dup, 1) := by decide +kernel
theorem dX11_init_1032 : decode cX11_init 1032 = .ok (.bipush 69, 2) := by decide +kernel
theorem dX11_init_1034 : decode cX11_init 1034 = .ok (.bipush 101, 2) := by decide +kernel
theorem dX11_init_1036 : decode cX11_init 1036 = .ok (.iastore, 1) := by decide +kernel
theorem dX11_init_1037 : decode cX11_init 1037 = .ok (.dup, 1) := by decide +kernel
theorem dX11_init_1038 : decode cX11_init 1038 = .ok (.bipush 70, 2) := by decide +kernel
theorem dX11_init_1040 : decode cX11_init 1040 = .ok (.bipush 32, 2) := by decide +kernel
theorem dX11_init_1042 : decode cX11_init 1042 = .ok (.iastore, 1) := by decide +kernel
theorem dX11_init_1043 : decode cX11_init 1043 = .ok (.putfield 28, 3) := by decide +kernel
theorem dX11_init_1046 : decode cX11_init 1046 = .ok (.aload_n 0, 1) := by decide +kernel
theorem dX11_init_1047 : decode cX11_init 1047 = .ok (.iconst (-1), 1) := by decide +kernel
theorem dX11_init_1048 : decode cX11_init 1048 = .ok (.putfield 31, 3) := by decide +kernel
theorem dX11_init_1051 : decode cX11_init 1051 = .ok (.aload_n 0, 1) := by decide +kernel
theorem dX11_init_1052 : decode cX11_init 1052 = .ok (.bipush 96, 2) := by decide +kernel
theorem dX11_init_1054 : decode cX11_init 1054 = .ok (.newarray .int, 2) := by decide +kernel
theorem dX11_init_1056 : decode cX11_init 1056 = .ok (.putfield 35, 3) := by decide +kernel
theorem dX11_init_1059 : decode cX11_init 1059 = .ok (.aload_n 0, 1) := by decide +kernel
theorem dX11_init_1060 : decode cX11_init 1060 = .ok (.sipush 1946, 3) := by decide +kernel
theorem dX11_init_1063 : decode cX11_init 1063 = .ok (.newarray .int, 2) := by decide +kernel
theorem dX11_init_1065 : decode cX11_init 1065 = .ok (.putfield 38, 3) := by decide +kernel
theorem dX11_init_1068 : decode cX11_init 1068 = .ok (.return_, 1) := by decide +kernel
set_option maxHeartbeats 8000000 in
set_option maxRecDepth 40000 in
theorem K_X0_init {cI : mj_I} {a0 : Nat} : mx_Sem cI yX0_init cX0_init 1 none 1 1 11 [mj_o (some a0)] [(a0, .inr (1, [.int 0, .int 0, .null]))] (fun r Y' => r = none ∧ ∃ q1 : Nat, Y' = [(a0, .inr (1, [.int 0, .int 0, .ref q1])), (q1, .inl (cI.1, 11, .inl (mj_sa 0)))]) := by
  refine mx_intro (by decide) (Nat.le_of_ble_eq_true rfl) ?_
  intro κ M C hcI hR hmc hms hT hN
  subst hcI
  have C : mj_C κ cX0_init 1 RX0 := C
  show mj_R (mj_ky κ [(a0, .inr (1, [.int 0, .int 0, .null]))] 0 0) (mx_F κ M 1 11 _) 0 [some (mj_o (some a0))] [] M
  refine mx_aload_n (mx_D C hmc hms rfl rfl) dX0_init_0 rfl ?_
  refine mx_objInit C lM_X0_3 rfl mx_oi mx_oc (mj_rmc hR (by decide)) (Nat.le_of_ble_eq_true rfl) dX0_init_1 ?_
  refine mx_aload_n (mx_D C hmc hms rfl rfl) dX0_init_4 rfl ?_
  refine mj_iconst (v := 0) (mx_D C hmc hms rfl rfl) dX0_init_5 (by decide) ?_
  refine mx_put (k := 0) (Y' := [(a0, .inr (1, [.int 0, .int 0, .null]))]) C lF_X0_9 fR_1_0 rfl (fun _ => rfl) (vp_nar_int _) rfl (Nat.le_of_ble_eq_true rfl) dX0_init_6 rfl ?_
  refine mx_aload_n (mx_D C hmc hms rfl rfl) dX0_init_9 rfl ?_
  refine mj_iconst (v := 0) (mx_D C hmc hms rfl rfl) dX0_init_10 (by decide) ?_
  refine mx_put (k := 0) (Y' := [(a0, .inr (1, [.int 0, .int 0, .null]))]) C lF_X0_15 fR_1_1 rfl (fun _ => rfl) (vp_nar_int _) rfl (Nat.le_of_ble_eq_true rfl) dX0_init_11 rfl ?_
  refine mx_aload_n (mx_D C hmc hms rfl rfl) dX0_init_14 rfl ?_
  refine mj_gst (i := 0) (ref := "CommandLink") (host := "CommandLink") (mx_D C hmc hms rfl rfl) (Nat.le_of_ble_eq_true rfl) (List.mem_of_getElem? (i := 0) rfl) rfl dX0_init_15 ?_
  refine mx_clone0 C rfl (by exact (mj_in1 46 rfl rfl)) (by exact (mj_in1 47 rfl rfl)) (by exact (mj_in1 48 rfl rfl)) (by exact (mj_in1 49 rfl rfl)) (by exact (mj_in1 50 rfl rfl)) (mj_rmc hR (by decide)) (mx_lc hmc rfl) (mx_ls hms rfl) (Nat.le_of_ble_eq_true rfl) dX0_init_18 (fun q1 => ?_)
  show mj_R (mj_ky κ [(a0, .inr (1, [.int 0, .int 0, .null])), (q1, .inl ((mj_cI κ).1, 11, .inl (mj_sa 0)))] 1 11) _ 21 [some (mj_o (some a0))] [mj_o (some q1), mj_o (some a0)] M
  refine mx_cast (k := 1) C (by exact (mj_in1 52 rfl rfl)) rfl dX0_init_21 ?_
  refine mx_putF (k := 0) (Y' := [(a0, .inr (1, [.int 0, .int 0, .ref q1])), (q1, .inl ((mj_cI κ).1, 11, .inl (mj_sa 0)))]) C hN lF_X0_27 ⟨_, rfl, rfl⟩ fR_1_2 rfl (fun _ => rfl) rfl rfl (Nat.le_of_ble_eq_true rfl) dX0_init_24 rfl ?_
  exact mx_vret C hT (Nat.le_of_ble_eq_true rfl) (Nat.le_of_ble_eq_true rfl) dX0_init_27 ⟨rfl, q1, rfl⟩
set_option maxHeartbeats 8000000 in
set_option maxRecDepth 40000 in
theorem K_X7_init {cI : mj_I} {a0 : Nat} : mx_Sem cI yX7_init cX7_init 1 none 1 4 80 [mj_o (some a0)] [(a0, .inr (8, [.null, .null, .null, .null, .int 0]))] (fun r Y' => r = none ∧ ∃ q1 q2 q3 q4 : Nat, Y' = [(a0, .inr (8, [.ref q1, .ref q2, .ref q3, .ref q4, .int 0])), (q1, .inl (cI.1, 20, .inl (fun _ => 0))), (q2, .inl (cI.1, 20, .inl (fun _ => 0))), (q3, .inl (cI.1, 20, .inl (fun _ => 0))), (q4, .inl (cI.1, 20, .inl (fun _ => 0)))]) := by
  refine mx_intro (by decide) (Nat.le_of_ble_eq_true rfl) ?_
  intro κ M C hcI hR hmc hms hT hN
  subst hcI
  have C : mj_C κ cX7_init 1 RX7 := C
  show mj_R (mj_ky κ [(a0, .inr (8, [.null, .null, .null, .null, .int 0]))] 0 0) (mx_F κ M 4 80 _) 0 [some (mj_o (some a0))] [] M
  refine mx_aload_n (mx_D C hmc hms rfl rfl) dX7_init_0 rfl ?_
  refine mx_objInit C lM_X7_3 rfl mx_oi mx_oc (mj_rmc hR (by decide)) (Nat.le_of_ble_eq_true rfl) dX7_init_1 ?_
  refine mx_aload_n (mx_D C hmc hms rfl rfl) dX7_init_4 rfl ?_
  refine mj_bipush (v := 20) (mx_D C hmc hms rfl rfl) dX7_init_5 (by decide) ?_
  refine mx_newi (N' := 20) C mx_ai (by decide) (by decide) (by decide) (mx_lc hmc rfl) (mx_ls hms rfl) dX7_init_7 (fun q1 => ?_)
  show mj_R (mj_ky κ [(a0, .inr (8, [.null, .null, .null, .null, .int 0])), (q1, .inl ((mj_cI κ).1, 20, .inl (fun _ => 0)))] 1 20) _ 9 [some (mj_o (some a0))] [mj_o (some q1), mj_o (some a0)] M
  refine mx_putF (k := 0) (Y' := [(a0, .inr (8, [.ref q1, .null, .null, .null, .int 0])), (q1, .inl ((mj_cI κ).1, 20, .inl (fun _ => 0)))]) C hN lF_X7_11 ⟨_, rfl, rfl⟩ fR_8_0 rfl (fun _ => rfl) rfl rfl (Nat.le_of_ble_eq_true rfl) dX7_init_9 rfl ?_
  refine mx_aload_n (mx_D C hmc hms rfl rfl) dX7_init_12 rfl ?_
  refine mj_bipush (v := 20) (mx_D C hmc hms rfl rfl) dX7_init_13 (by decide) ?_
  refine mx_newi (N' := 20) C mx_ai (by decide) (by decide) (by decide) (mx_lc hmc rfl) (mx_ls hms rfl) dX7_init_15 (fun q2 => ?_)
  show mj_R (mj_ky κ [(a0, .inr (8, [.ref q1, .null, .null, .null, .int 0])), (q1, .inl ((mj_cI κ).1, 20, .inl (fun _ => 0))), (q2, .inl ((mj_cI κ).1, 20, .inl (fun _ => 0)))] 2 40) _ 17 [some (mj_o (some a0))] [mj_o (some q2), mj_o (some a0)] M
  refine mx_putF (k := 0) (Y' := [(a0, .inr (8, [.ref q1, .ref q2, .null, .null, .int 0])), (q1, .inl ((mj_cI κ).1, 20, .inl (fun _ => 0))), (q2, .inl ((mj_cI κ).1, 20, .inl (fun _ => 0)))]) C hN lF_X7_15 ⟨_, rfl, rfl⟩ fR_8_1 rfl (fun _ => rfl) rfl rfl (Nat.le_of_ble_eq_true rfl) dX7_init_17 rfl ?_
  refine mx_aload_n (mx_D C hmc hms rfl rfl) dX7_init_20 rfl ?_
  refine mj_bipush (v := 20) (mx_D C hmc hms rfl rfl) dX7_init_21 (by decide) ?_
  refine mx_newi (N' := 20) C mx_ai (by decide) (by decide) (by decide) (mx_lc hmc rfl) (mx_ls hms rfl) dX7_init_23 (fun q3 => ?_)
  show mj_R (mj_ky κ [(a0, .inr (8, [.ref q1, .ref q2, .null, .null, .int 0])), (q1, .inl ((mj_cI κ).1, 20, .inl (fun _ => 0))), (q2, .inl ((mj_cI κ).1, 20, .inl (fun _ => 0))), (q3, .inl ((mj_cI κ).1, 20, .inl (fun _ => 0)))] 3 60) _ 25 [some (mj_o (some a0))] [mj_o (some q3), mj_o (some a0)] M
  refine mx_putF (k := 0) (Y' := [(a0, .inr (8, [.ref q1, .ref q2, .ref q3, .null, .int 0])), (q1, .inl ((mj_cI κ).1, 20, .inl (fun _ => 0))), (q2, .inl ((mj_cI κ).1, 20, .inl (fun _ => 0))), (q3, .inl ((mj_cI κ).1, 20, .inl (fun _ => 0)))]) C hN lF_X7_18 ⟨_, rfl, rfl⟩ fR_8_2 rfl (fun _ => rfl) rfl rfl (Nat.le_of_ble_eq_true rfl) dX7_init_25 rfl ?_
  refine mx_aload_n (mx_D C hmc hms rfl rfl) dX7_init_28 rfl ?_
  refine mj_bipush (v := 20) (mx_D C hmc hms rfl rfl) dX7_init_29 (by decide) ?_
  refine mx_newi (N' := 20) C mx_ai (by decide) (by decide) (by decide) (mx_lc hmc rfl) (mx_ls hms rfl) dX7_init_31 (fun q4 => ?_)
  show mj_R (mj_ky κ [(a0, .inr (8, [.ref q1, .ref q2, .ref q3, .null, .int 0])), (q1, .inl ((mj_cI κ).1, 20, .inl (fun _ => 0))), (q2, .inl ((mj_cI κ).1, 20, .inl (fun _ => 0))), (q3, .inl ((mj_cI κ).1, 20, .inl (fun _ => 0))), (q4, .inl ((mj_cI κ).1, 20, .inl (fun _ => 0)))] 4 80) _ 33 [some (mj_o (some a0))] [mj_o (some q4), mj_o (some a0)] M
  refine mx_putF (k := 0) (Y' := [(a0, .inr (8, [.ref q1, .ref q2, .ref q3, .ref q4, .int 0])), (q1, .inl ((mj_cI κ).1, 20, .inl (fun _ => 0))), (q2, .inl ((mj_cI κ).1, 20, .inl (fun _ => 0))), (q3, .inl ((mj_cI κ).1, 20, .inl (fun _ => 0))), (q4, .inl ((mj_cI κ).1, 20, .inl (fun _ => 0)))]) C hN lF_X7_21 ⟨_, rfl, rfl⟩ fR_8_3 rfl (fun _ => rfl) rfl rfl (Nat.le_of_ble_eq_true rfl) dX7_init_33 rfl ?_
  refine mx_aload_n (mx_D C hmc hms rfl rfl) dX7_init_36 rfl ?_
  refine mj_iconst (v := 0) (mx_D C hmc hms rfl rfl) dX7_init_37 (by decide) ?_
  refine mx_put (k := 0) (Y' := [(a0, .inr (8, [.ref q1, .ref q2, .ref q3, .ref q4, .int 0])), (q1, .inl ((mj_cI κ).1, 20, .inl (fun _ => 0))), (q2, .inl ((mj_cI κ).1, 20, .inl (fun _ => 0))), (q3, .inl ((mj_cI κ).1, 20, .inl (fun _ => 0))), (q4, .inl ((mj_cI κ).1, 20, .inl (fun _ => 0)))]) C lF_X7_24 fR_8_4 rfl (fun _ => rfl) (vp_nar_int _) rfl (Nat.le_of_ble_eq_true rfl) dX7_init_38 rfl ?_
  exact mx_vret C hT (Nat.le_of_ble_eq_true rfl) (Nat.le_of_ble_eq_true rfl) dX7_init_41 ⟨rfl, q1, q2, q3, q4, rfl⟩
set_option maxHeartbeats 8000000 in
set_option maxRecDepth 40000 in
theorem K_X4_init {cI : mj_I} {a0 : Nat} : mx_Sem cI yX4_init cX4_init 1 none 1 2 48 [mj_o (some a0)] [(a0, .inr (5, [.null, .null, .int 0, .int 0]))] (fun r Y' => r = none ∧ ∃ q1 q2 : Nat, Y' = [(a0, .inr (5, [.ref q1, .ref q2, .int 0, .int 0])), (q1, .inl (cI.1, 24, .inl (fun _ => 0))), (q2, .inl (cI.1, 24, .inl (fun _ => 0)))]) := by
  refine mx_intro (by decide) (Nat.le_of_ble_eq_true rfl) ?_
  intro κ M C hcI hR hmc hms hT hN
  subst hcI
  have C : mj_C κ cX4_init 1 RX4 := C
  show mj_R (mj_ky κ [(a0, .inr (5, [.null, .null, .int 0, .int 0]))] 0 0) (mx_F κ M 2 48 _) 0 [some (mj_o (some a0))] [] M
  refine mx_aload_n (mx_D C hmc hms rfl rfl) dX4_init_0 rfl ?_
  refine mx_objInit C lM_X4_3 rfl mx_oi mx_oc (mj_rmc hR (by decide)) (Nat.le_of_ble_eq_true rfl) dX4_init_1 ?_
  refine mx_aload_n (mx_D C hmc hms rfl rfl) dX4_init_4 rfl ?_
  refine mj_bipush (v := 24) (mx_D C hmc hms rfl rfl) dX4_init_5 (by decide) ?_
  refine mx_newi (N' := 24) C mx_ai (by decide) (by decide) (by decide) (mx_lc hmc rfl) (mx_ls hms rfl) dX4_init_7 (fun q1 => ?_)
  show mj_R (mj_ky κ [(a0, .inr (5, [.null, .null, .int 0, .int 0])), (q1, .inl ((mj_cI κ).1, 24, .inl (fun _ => 0)))] 1 24) _ 9 [some (mj_o (some a0))] [mj_o (some q1), mj_o (some a0)] M
  refine mx_putF (k := 0) (Y' := [(a0, .inr (5, [.ref q1, .null, .int 0, .int 0])), (q1, .inl ((mj_cI κ).1, 24, .inl (fun _ => 0)))]) C hN lF_X4_9 ⟨_, rfl, rfl⟩ fR_5_0 rfl (fun _ => rfl) rfl rfl (Nat.le_of_ble_eq_true rfl) dX4_init_9 rfl ?_
  refine mx_aload_n (mx_D C hmc hms rfl rfl) dX4_init_12 rfl ?_
  refine mj_bipush (v := 24) (mx_D C hmc hms rfl rfl) dX4_init_13 (by decide) ?_
  refine mx_newi (N' := 24) C mx_ai (by decide) (by decide) (by decide) (mx_lc hmc rfl) (mx_ls hms rfl) dX4_init_15 (fun q2 => ?_)
  show mj_R (mj_ky κ [(a0, .inr (5, [.ref q1, .null, .int 0, .int 0])), (q1, .inl ((mj_cI κ).1, 24, .inl (fun _ => 0))), (q2, .inl ((mj_cI κ).1, 24, .inl (fun _ => 0)))] 2 48) _ 17 [some (mj_o (some a0))] [mj_o (some q2), mj_o (some a0)] M
  refine mx_putF (k := 0) (Y' := [(a0, .inr (5, [.ref q1, .ref q2, .int 0, .int 0])), (q1, .inl ((mj_cI κ).1, 24, .inl (fun _ => 0))), (q2, .inl ((mj_cI κ).1, 24, .inl (fun _ => 0)))]) C hN lF_X4_15 ⟨_, rfl, rfl⟩ fR_5_1 rfl (fun _ => rfl) rfl rfl (Nat.le_of_ble_eq_true rfl) dX4_init_17 rfl ?_
  refine mx_aload_n (mx_D C hmc hms rfl rfl) dX4_init_20 rfl ?_
  refine mj_iconst (v := 0) (mx_D C hmc hms rfl rfl) dX4_init_21 (by decide) ?_
  refine mx_put (k := 0) (Y' := [(a0, .inr (5, [.ref q1, .ref q2, .int 0, .int 0])), (q1, .inl ((mj_cI κ).1, 24, .inl (fun _ => 0))), (q2, .inl ((mj_cI κ).1, 24, .inl (fun _ => 0)))]) C lF_X4_18 fR_5_2 rfl (fun _ => rfl) (vp_nar_int _) rfl (Nat.le_of_ble_eq_true rfl) dX4_init_22 rfl ?_
  refine mx_aload_n (mx_D C hmc hms rfl rfl) dX4_init_25 rfl ?_
  refine mj_iconst (v := 0) (mx_D C hmc hms rfl rfl) dX4_init_26 (by decide) ?_
  refine mx_put (k := 0) (Y' := [(a0, .inr (5, [.ref q1, .ref q2, .int 0, .int 0])), (q1, .inl ((mj_cI κ).1, 24, .inl (fun _ => 0))), (q2, .inl ((mj_cI κ).1, 24, .inl (fun _ => 0)))]) C lF_X4_22 fR_5_3 rfl (fun _ => rfl) (vp_nar_int _) rfl (Nat.le_of_ble_eq_true rfl) dX4_init_27 rfl ?_
  exact mx_vret C hT (Nat.le_of_ble_eq_true rfl) (Nat.le_of_ble_eq_true rfl) dX4_init_30 ⟨rfl, q1, q2, rfl⟩
set_option maxHeartbeats 8000000 in
set_option maxRecDepth 40000 in
theorem K_X2_init {cI : mj_I} {a0 : Nat} {a1 : Nat} : mx_Sem cI yX2_init cX2_init 2 none 1 2 800 [mj_o (some a0), mj_o (some a1)] [(a0, .inr (3, [.null, .null, .int 0, .null, .int 0, .int 0]))] (fun r Y' => r = none ∧ ∃ q1 q2 : Nat, Y' = [(a0, .inr (3, [.ref a1, .ref q1, .int 0, .ref q2, .int 0, .int 0])), (q1, .inl (cI.1, 700, .inl (fun _ => 0))), (q2, .inl (cI.1, 100, .inl (fun _ => 0)))]) := by
  refine mx_intro (by decide) (Nat.le_of_ble_eq_true rfl) ?_
  intro κ M C hcI hR hmc hms hT hN
  subst hcI
  have C : mj_C κ cX2_init 2 RX2 := C
  show mj_R (mj_ky κ [(a0, .inr (3, [.null, .null, .int 0, .null, .int 0, .int 0]))] 0 0) (mx_F κ M 2 800 _) 0 [some (mj_o (some a0)), some (mj_o (some a1))] [] M
  refine mx_aload_n (mx_D C hmc hms rfl rfl) dX2_init_0 rfl ?_
  refine mx_objInit C lM_X2_3 rfl mx_oi mx_oc (mj_rmc hR (by decide)) (Nat.le_of_ble_eq_true rfl) dX2_init_1 ?_
  refine mx_aload_n (mx_D C hmc hms rfl rfl) dX2_init_4 rfl ?_
  refine mj_sipush (v := 700) (mx_D C hmc hms rfl rfl) dX2_init_5 (by decide) ?_
  refine mx_newi (N' := 700) C mx_ai (by decide) (by decide) (by decide) (mx_lc hmc rfl) (mx_ls hms rfl) dX2_init_8 (fun q1 => ?_)
  show mj_R (mj_ky κ [(a0, .inr (3, [.null, .null, .int 0, .null, .int 0, .int 0])), (q1, .inl ((mj_cI κ).1, 700, .inl (fun _ => 0)))] 1 700) _ 10 [some (mj_o (some a0)), some (mj_o (some a1))] [mj_o (some q1), mj_o (some a0)] M
  refine mx_putF (k := 0) (Y' := [(a0, .inr (3, [.null, .ref q1, .int 0, .null, .int 0, .int 0])), (q1, .inl ((mj_cI κ).1, 700, .inl (fun _ => 0)))]) C hN lF_X2_11 ⟨_, rfl, rfl⟩ fR_3_1 rfl (fun _ => rfl) rfl rfl (Nat.le_of_ble_eq_true rfl) dX2_init_10 rfl ?_
  refine mx_aload_n (mx_D C hmc hms rfl rfl) dX2_init_13 rfl ?_
  refine mj_iconst (v := 0) (mx_D C hmc hms rfl rfl) dX2_init_14 (by decide) ?_
  refine mx_put (k := 0) (Y' := [(a0, .inr (3, [.null, .ref q1, .int 0, .null, .int 0, .int 0])), (q1, .inl ((mj_cI κ).1, 700, .inl (fun _ => 0)))]) C lF_X2_15 fR_3_2 rfl (fun _ => rfl) (vp_nar_int _) rfl (Nat.le_of_ble_eq_true rfl) dX2_init_15 rfl ?_
  refine mx_aload_n (mx_D C hmc hms rfl rfl) dX2_init_18 rfl ?_
  refine mj_bipush (v := 100) (mx_D C hmc hms rfl rfl) dX2_init_19 (by decide) ?_
  refine mx_newi (N' := 100) C mx_ai (by decide) (by decide) (by decide) (mx_lc hmc rfl) (mx_ls hms rfl) dX2_init_21 (fun q2 => ?_)
  show mj_R (mj_ky κ [(a0, .inr (3, [.null, .ref q1, .int 0, .null, .int 0, .int 0])), (q1, .inl ((mj_cI κ).1, 700, .inl (fun _ => 0))), (q2, .inl ((mj_cI κ).1, 100, .inl (fun _ => 0)))] 2 800) _ 23 [some (mj_o (some a0)), some (mj_o (some a1))] [mj_o (some q2), mj_o (some a0)] M
  refine mx_putF (k := 0) (Y' := [(a0, .inr (3, [.null, .ref q1, .int 0, .ref q2, .int 0, .int 0])), (q1, .inl ((mj_cI κ).1, 700, .inl (fun _ => 0))), (q2, .inl ((mj_cI κ).1, 100, .inl (fun _ => 0)))]) C hN lF_X2_19 ⟨_, rfl, rfl⟩ fR_3_3 rfl (fun _ => rfl) rfl rfl (Nat.le_of_ble_eq_true rfl) dX2_init_23 rfl ?_
  refine mx_aload_n (mx_D C hmc hms rfl rfl) dX2_init_26 rfl ?_
  refine mj_iconst (v := 0) (mx_D C hmc hms rfl rfl) dX2_init_27 (by decide) ?_
  refine mx_put (k := 0) (Y' := [(a0, .inr (3, [.null, .ref q1, .int 0, .ref q2, .int 0, .int 0])), (q1, .inl ((mj_cI κ).1, 700, .inl (fun _ => 0))), (q2, .inl ((mj_cI κ).1, 100, .inl (fun _ => 0)))]) C lF_X2_22 fR_3_4 rfl (fun _ => rfl) (vp_nar_int _) rfl (Nat.le_of_ble_eq_true rfl) dX2_init_28 rfl ?_
  refine mx_aload_n (mx_D C hmc hms rfl rfl) dX2_init_31 rfl ?_
  refine mj_iconst (v := 0) (mx_D C hmc hms rfl rfl) dX2_init_32 (by decide) ?_
  refine mx_put (k := 0) (Y' := [(a0, .inr (3, [.null, .ref q1, .int 0, .ref q2, .int 0, .int 0])), (q1, .inl ((mj_cI κ).1, 700, .inl (fun _ => 0))), (q2, .inl ((mj_cI κ).1, 100, .inl (fun _ => 0)))]) C lF_X2_25 fR_3_5 rfl (fun _ => rfl) (vp_nar_int _) rfl (Nat.le_of_ble_eq_true rfl) dX2_init_33 rfl ?_
  refine mx_aload_n (mx_D C hmc hms rfl rfl) dX2_init_36 rfl ?_
  refine mx_aload_n (mx_D C hmc hms rfl rfl) dX2_init_37 rfl ?_
  refine mx_putF (k := 0) (Y' := [(a0, .inr (3, [.ref a1, .ref q1, .int 0, .ref q2, .int 0, .int 0])), (q1, .inl ((mj_cI κ).1, 700, .inl (fun _ => 0))), (q2, .inl ((mj_cI κ).1, 100, .inl (fun _ => 0)))]) C hN lF_X2_28 ⟨_, rfl, rfl⟩ fR_3_0 rfl (fun _ => rfl) rfl rfl (Nat.le_of_ble_eq_true rfl) dX2_init_38 rfl ?_
  exact mx_vret C hT (Nat.le_of_ble_eq_true rfl) (Nat.le_of_ble_eq_true rfl) dX2_init_41 ⟨rfl, q1, q2, rfl⟩
set_option maxHeartbeats 8000000 in
set_option maxRecDepth 40000 in
theorem K_X1_init {cI : mj_I} {a0 : Nat} {a1 : Nat} : mx_Sem cI yX1_init cX1_init 2 none 1 3 309 [mj_o (some a0), mj_o (some a1)] [(a0, .inr (2, [.null, .null, .int 0, .null, .int 0, .int 0, .null]))] (fun r Y' => r = none ∧ ∃ q1 q2 q3 : Nat, Y' = [(a0, .inr (2, [.ref a1, .ref q1, .int 0, .ref q2, .int 0, .int 0, .ref q3])), (q1, .inl (cI.1, 240, .inl (fun _ => 0))), (q2, .inl (cI.1, 60, .inl (fun _ => 0))), (q3, .inl (cI.1, 9, .inl (fun _ => 0)))]) := by
  refine mx_intro (by decide) (Nat.le_of_ble_eq_true rfl) ?_
  intro κ M C hcI hR hmc hms hT hN
  subst hcI
  have C : mj_C κ cX1_init 2 RX1 := C
  show mj_R (mj_ky κ [(a0, .inr (2, [.null, .null, .int 0, .null, .int 0, .int 0, .null]))] 0 0) (mx_F κ M 3 309 _) 0 [some (mj_o (some a0)), some (mj_o (some a1))] [] M
  refine mx_aload_n (mx_D C hmc hms rfl rfl) dX1_init_0 rfl ?_
  refine mx_objInit C lM_X1_3 rfl mx_oi mx_oc (mj_rmc hR (by decide)) (Nat.le_of_ble_eq_true rfl) dX1_init_1 ?_
  refine mx_aload_n (mx_D C hmc hms rfl rfl) dX1_init_4 rfl ?_
  refine mj_sipush (v := 240) (mx_D C hmc hms rfl rfl) dX1_init_5 (by decide) ?_
  refine mx_newi (N' := 240) C mx_ai (by decide) (by decide) (by decide) (mx_lc hmc rfl) (mx_ls hms rfl) dX1_init_8 (fun q1 => ?_)
  show mj_R (mj_ky κ [(a0, .inr (2, [.null, .null, .int 0, .null, .int 0, .int 0, .null])), (q1, .inl ((mj_cI κ).1, 240, .inl (fun _ => 0)))] 1 240) _ 10 [some (mj_o (some a0)), some (mj_o (some a1))] [mj_o (some q1), mj_o (some a0)] M
  refine mx_putF (k := 0) (Y' := [(a0, .inr (2, [.null, .ref q1, .int 0, .null, .int 0, .int 0, .null])), (q1, .inl ((mj_cI κ).1, 240, .inl (fun _ => 0)))]) C hN lF_X1_11 ⟨_, rfl, rfl⟩ fR_2_1 rfl (fun _ => rfl) rfl rfl (Nat.le_of_ble_eq_true rfl) dX1_init_10 rfl ?_
  refine mx_aload_n (mx_D C hmc hms rfl rfl) dX1_init_13 rfl ?_
  refine mj_iconst (v := 0) (mx_D C hmc hms rfl rfl) dX1_init_14 (by decide) ?_
  refine mx_put (k := 0) (Y' := [(a0, .inr (2, [.null, .ref q1, .int 0, .null, .int 0, .int 0, .null])), (q1, .inl ((mj_cI κ).1, 240, .inl (fun _ => 0)))]) C lF_X1_15 fR_2_2 rfl (fun _ => rfl) (vp_nar_int _) rfl (Nat.le_of_ble_eq_true rfl) dX1_init_15 rfl ?_
  refine mx_aload_n (mx_D C hmc hms rfl rfl) dX1_init_18 rfl ?_
  refine mj_bipush (v := 60) (mx_D C hmc hms rfl rfl) dX1_init_19 (by decide) ?_
  refine mx_newi (N' := 60) C mx_ai (by decide) (by decide) (by decide) (mx_lc hmc rfl) (mx_ls hms rfl) dX1_init_21 (fun q2 => ?_)
  show mj_R (mj_ky κ [(a0, .inr (2, [.null, .ref q1, .int 0, .null, .int 0, .int 0, .null])), (q1, .inl ((mj_cI κ).1, 240, .inl (fun _ => 0))), (q2, .inl ((mj_cI κ).1, 60, .inl (fun _ => 0)))] 2 300) _ 23 [some (mj_o (some a0)), some (mj_o (some a1))] [mj_o (some q2), mj_o (some a0)] M
  refine mx_putF (k := 0) (Y' := [(a0, .inr (2, [.null, .ref q1, .int 0, .ref q2, .int 0, .int 0, .null])), (q1, .inl ((mj_cI κ).1, 240, .inl (fun _ => 0))), (q2, .inl ((mj_cI κ).1, 60, .inl (fun _ => 0)))]) C hN lF_X1_19 ⟨_, rfl, rfl⟩ fR_2_3 rfl (fun _ => rfl) rfl rfl (Nat.le_of_ble_eq_true rfl) dX1_init_23 rfl ?_
  refine mx_aload_n (mx_D C hmc hms rfl rfl) dX1_init_26 rfl ?_
  refine mj_iconst (v := 0) (mx_D C hmc hms rfl rfl) dX1_init_27 (by decide) ?_
  refine mx_put (k := 0) (Y' := [(a0, .inr (2, [.null, .ref q1, .int 0, .ref q2, .int 0, .int 0, .null])), (q1, .inl ((mj_cI κ).1, 240, .inl (fun _ => 0))), (q2, .inl ((mj_cI κ).1, 60, .inl (fun _ => 0)))]) C lF_X1_22 fR_2_4 rfl (fun _ => rfl) (vp_nar_int _) rfl (Nat.le_of_ble_eq_true rfl) dX1_init_28 rfl ?_
  refine mx_aload_n (mx_D C hmc hms rfl rfl) dX1_init_31 rfl ?_
  refine mj_iconst (v := 0) (mx_D C hmc hms rfl rfl) dX1_init_32 (by decide) ?_
  refine mx_put (k := 0) (Y' := [(a0, .inr (2, [.null, .ref q1, .int 0, .ref q2, .int 0, .int 0, .null])), (q1, .inl ((mj_cI κ).1, 240, .inl (fun _ => 0))), (q2, .inl ((mj_cI κ).1, 60, .inl (fun _ => 0)))]) C lF_X1_25 fR_2_5 rfl (fun _ => rfl) (vp_nar_int _) rfl (Nat.le_of_ble_eq_true rfl) dX1_init_33 rfl ?_
  refine mx_aload_n (mx_D C hmc hms rfl rfl) dX1_init_36 rfl ?_
  refine mj_bipush (v := 9) (mx_D C hmc hms rfl rfl) dX1_init_37 (by decide) ?_
  refine mx_newi (N' := 9) C mx_ai (by decide) (by decide) (by decide) (mx_lc hmc rfl) (mx_ls hms rfl) dX1_init_39 (fun q3 => ?_)
  show mj_R (mj_ky κ [(a0, .inr (2, [.null, .ref q1, .int 0, .ref q2, .int 0, .int 0, .null])), (q1, .inl ((mj_cI κ).1, 240, .inl (fun _ => 0))), (q2, .inl ((mj_cI κ).1, 60, .inl (fun _ => 0))), (q3, .inl ((mj_cI κ).1, 9, .inl (fun _ => 0)))] 3 309) _ 41 [some (mj_o (some a0)), some (mj_o (some a1))] [mj_o (some q3), mj_o (some a0)] M
  refine mx_putF (k := 0) (Y' := [(a0, .inr (2, [.null, .ref q1, .int 0, .ref q2, .int 0, .int 0, .ref q3])), (q1, .inl ((mj_cI κ).1, 240, .inl (fun _ => 0))), (q2, .inl ((mj_cI κ).1, 60, .inl (fun _ => 0))), (q3, .inl ((mj_cI κ).1, 9, .inl (fun _ => 0)))]) C hN lF_X1_28 ⟨_, rfl, rfl⟩ fR_2_6 rfl (fun _ => rfl) rfl rfl (Nat.le_of_ble_eq_true rfl) dX1_init_41 rfl ?_
  refine mx_aload_n (mx_D C hmc hms rfl rfl) dX1_init_44 rfl ?_
  refine mx_aload_n (mx_D C hmc hms rfl rfl) dX1_init_45 rfl ?_
  refine mx_putF (k := 0) (Y' := [(a0, .inr (2, [.ref a1, .ref q1, .int 0, .ref q2, .int 0, .int 0, .ref q3])), (q1, .inl ((mj_cI κ).1, 240, .inl (fun _ => 0))), (q2, .inl ((mj_cI κ).1, 60, .inl (fun _ => 0))), (q3, .inl ((mj_cI κ).1, 9, .inl (fun _ => 0)))]) C hN lF_X1_31 ⟨_, rfl, rfl⟩ fR_2_0 rfl (fun _ => rfl) rfl rfl (Nat.le_of_ble_eq_true rfl) dX1_init_46 rfl ?_
  exact mx_vret C hT (Nat.le_of_ble_eq_true rfl) (Nat.le_of_ble_eq_true rfl) dX1_init_49 ⟨rfl, q1, q2, q3, rfl⟩
set_option maxHeartbeats 8000000 in
set_option maxRecDepth 40000 in
theorem K_X9_init {cI : mj_I} {a0 : Nat} {a1 : Nat} {a2 : Int32} {a3 : Int32} : mx_Sem cI yX9_init cX9_init 4 none 1 4 344 [mj_o (some a0), mj_o (some a1), .inl a2, .inl a3] [(a0, .inr (10, [.null, .int 0, .int 0, .null, .null, .null, .null, .int 0, .int 0, .int 0, .int 0]))] (fun r Y' => r = none ∧ ∃ q1 q2 q3 q4 : Nat, Y' = [(a0, .inr (10, [.ref a1, .int a2, .int a3, .ref q1, .ref q2, .ref q3, .ref q4, .int 0, .int 0, .int 0, .int 0])), (q1, .inl (cI.1, 240, .inl (fun _ => 0))), (q2, .inl (cI.1, 48, .inl (fun _ => 0))), (q3, .inl (cI.1, 48, .inl (fun _ => 0))), (q4, .inl (cI.1, 8, .inl (fun _ => 0)))]) := by
  refine mx_intro (by decide) (Nat.le_of_ble_eq_true rfl) ?_
  intro κ M C hcI hR hmc hms hT hN
  subst hcI
  have C : mj_C κ cX9_init 4 RX9 := C
  show mj_R (mj_ky κ [(a0, .inr (10, [.null, .int 0, .int 0, .null, .null, .null, .null, .int 0, .int 0, .int 0, .int 0]))] 0 0) (mx_F κ M 4 344 _) 0 [some (mj_o (some a0)), some (mj_o (some a1)), some (.inl a2), some (.inl a3)] [] M
  refine mx_aload_n (mx_D C hmc hms rfl rfl) dX9_init_0 rfl ?_
  refine mx_objInit C lM_X9_3 rfl mx_oi mx_oc (mj_rmc hR (by decide)) (Nat.le_of_ble_eq_true rfl) dX9_init_1 ?_
  refine mx_aload_n (mx_D C hmc hms rfl rfl) dX9_init_4 rfl ?_
  refine mj_sipush (v := 240) (mx_D C hmc hms rfl rfl) dX9_init_5 (by decide) ?_
  refine mx_newi (N' := 240) C mx_ai (by decide) (by decide) (by decide) (mx_lc hmc rfl) (mx_ls hms rfl) dX9_init_8 (fun q1 => ?_)
  show mj_R (mj_ky κ [(a0, .inr (10, [.null, .int 0, .int 0, .null, .null, .null, .null, .int 0, .int 0, .int 0, .int 0])), (q1, .inl ((mj_cI κ).1, 240, .inl (fun _ => 0)))] 1 240) _ 10 [some (mj_o (some a0)), some (mj_o (some a1)), some (.inl a2), some (.inl a3)] [mj_o (some q1), mj_o (some a0)] M
  refine mx_putF (k := 0) (Y' := [(a0, .inr (10, [.null, .int 0, .int 0, .ref q1, .null, .null, .null, .int 0, .int 0, .int 0, .int 0])), (q1, .inl ((mj_cI κ).1, 240, .inl (fun _ => 0)))]) C hN lF_X9_11 ⟨_, rfl, rfl⟩ fR_10_3 rfl (fun _ => rfl) rfl rfl (Nat.le_of_ble_eq_true rfl) dX9_init_10 rfl ?_
  refine mx_aload_n (mx_D C hmc hms rfl rfl) dX9_init_13 rfl ?_
  refine mj_bipush (v := 48) (mx_D C hmc hms rfl rfl) dX9_init_14 (by decide) ?_
  refine mx_newi (N' := 48) C mx_ai (by decide) (by decide) (by decide) (mx_lc hmc rfl) (mx_ls hms rfl) dX9_init_16 (fun q2 => ?_)
  show mj_R (mj_ky κ [(a0, .inr (10, [.null, .int 0, .int 0, .ref q1, .null, .null, .null, .int 0, .int 0, .int 0, .int 0])), (q1, .inl ((mj_cI κ).1, 240, .inl (fun _ => 0))), (q2, .inl ((mj_cI κ).1, 48, .inl (fun _ => 0)))] 2 288) _ 18 [some (mj_o (some a0)), some (mj_o (some a1)), some (.inl a2), some (.inl a3)] [mj_o (some q2), mj_o (some a0)] M
  refine mx_putF (k := 0) (Y' := [(a0, .inr (10, [.null, .int 0, .int 0, .ref q1, .ref q2, .null, .null, .int 0, .int 0, .int 0, .int 0])), (q1, .inl ((mj_cI κ).1, 240, .inl (fun _ => 0))), (q2, .inl ((mj_cI κ).1, 48, .inl (fun _ => 0)))]) C hN lF_X9_15 ⟨_, rfl, rfl⟩ fR_10_4 rfl (fun _ => rfl) rfl rfl (Nat.le_of_ble_eq_true rfl) dX9_init_18 rfl ?_
  refine mx_aload_n (mx_D C hmc hms rfl rfl) dX9_init_21 rfl ?_
  refine mj_bipush (v := 48) (mx_D C hmc hms rfl rfl) dX9_init_22 (by decide) ?_
  refine mx_newi (N' := 48) C mx_ai (by decide) (by decide) (by decide) (mx_lc hmc rfl) (mx_ls hms rfl) dX9_init_24 (fun q3 => ?_)
  show mj_R (mj_ky κ [(a0, .inr (10, [.null, .int 0, .int 0, .ref q1, .ref q2, .null, .null, .int 0, .int 0, .int 0, .int 0])), (q1, .inl ((mj_cI κ).1, 240, .inl (fun _ => 0))), (q2, .inl ((mj_cI κ).1, 48, .inl (fun _ => 0))), (q3, .inl ((mj_cI κ).1, 48, .inl (fun _ => 0)))] 3 336) _ 26 [some (mj_o (some a0)), some (mj_o (some a1)), some (.inl a2), some (.inl a3)] [mj_o (some q3), mj_o (some a0)] M
  refine mx_putF (k := 0) (Y' := [(a0, .inr (10, [.null, .int 0, .int 0, .ref q1, .ref q2, .ref q3, .null, .int 0, .int 0, .int 0, .int 0])), (q1, .inl ((mj_cI κ).1, 240, .inl (fun _ => 0))), (q2, .inl ((mj_cI κ).1, 48, .inl (fun _ => 0))), (q3, .inl ((mj_cI κ).1, 48, .inl (fun _ => 0)))]) C hN lF_X9_18 ⟨_, rfl, rfl⟩ fR_10_5 rfl (fun _ => rfl) rfl rfl (Nat.le_of_ble_eq_true rfl) dX9_init_26 rfl ?_
  refine mx_aload_n (mx_D C hmc hms rfl rfl) dX9_init_29 rfl ?_
  refine mj_bipush (v := 8) (mx_D C hmc hms rfl rfl) dX9_init_30 (by decide) ?_
  refine mx_newi (N' := 8) C mx_ai (by decide) (by decide) (by decide) (mx_lc hmc rfl) (mx_ls hms rfl) dX9_init_32 (fun q4 => ?_)
  show mj_R (mj_ky κ [(a0, .inr (10, [.null, .int 0, .int 0, .ref q1, .ref q2, .ref q3, .null, .int 0, .int 0, .int 0, .int 0])), (q1, .inl ((mj_cI κ).1, 240, .inl (fun _ => 0))), (q2, .inl ((mj_cI κ).1, 48, .inl (fun _ => 0))), (q3, .inl ((mj_cI κ).1, 48, .inl (fun _ => 0))), (q4, .inl ((mj_cI κ).1, 8, .inl (fun _ => 0)))] 4 344) _ 34 [some (mj_o (some a0)), some (mj_o (some a1)), some (.inl a2), some (.inl a3)] [mj_o (some q4), mj_o (some a0)] M
  refine mx_putF (k := 0) (Y' := [(a0, .inr (10, [.null, .int 0, .int 0, .ref q1, .ref q2, .ref q3, .ref q4, .int 0, .int 0, .int 0, .int 0])), (q1, .inl ((mj_cI κ).1, 240, .inl (fun _ => 0))), (q2, .inl ((mj_cI κ).1, 48, .inl (fun _ => 0))), (q3, .inl ((mj_cI κ).1, 48, .inl (fun _ => 0))), (q4, .inl ((mj_cI κ).1, 8, .inl (fun _ => 0)))]) C hN lF_X9_21 ⟨_, rfl, rfl⟩ fR_10_6 rfl (fun _ => rfl) rfl rfl (Nat.le_of_ble_eq_true rfl) dX9_init_34 rfl ?_
  refine mx_aload_n (mx_D C hmc hms rfl rfl) dX9_init_37 rfl ?_
  refine mj_iconst (v := 0) (mx_D C hmc hms rfl rfl) dX9_init_38 (by decide) ?_
  refine mx_put (k := 0) (Y' := [(a0, .inr (10, [.null, .int 0, .int 0, .ref q1, .ref q2, .ref q3, .ref q4, .int 0, .int 0, .int 0, .int 0])), (q1, .inl ((mj_cI κ).1, 240, .inl (fun _ => 0))), (q2, .inl ((mj_cI κ).1, 48, .inl (fun _ => 0))), (q3, .inl ((mj_cI κ).1, 48, .inl (fun _ => 0))), (q4, .inl ((mj_cI κ).1, 8, .inl (fun _ => 0)))]) C lF_X9_24 fR_10_7 rfl (fun _ => rfl) (vp_nar_int _) rfl (Nat.le_of_ble_eq_true rfl) dX9_init_39 rfl ?_
  refine mx_aload_n (mx_D C hmc hms rfl rfl) dX9_init_42 rfl ?_
  refine mj_iconst (v := 0) (mx_D C hmc hms rfl rfl) dX9_init_43 (by decide) ?_
  refine mx_put (k := 0) (Y' := [(a0, .inr (10, [.null, .int 0, .int 0, .ref q1, .ref q2, .ref q3, .ref q4, .int 0, .int 0, .int 0, .int 0])), (q1, .inl ((mj_cI κ).1, 240, .inl (fun _ => 0))), (q2, .inl ((mj_cI κ).1, 48, .inl (fun _ => 0))), (q3, .inl ((mj_cI κ).1, 48, .inl (fun _ => 0))), (q4, .inl ((mj_cI κ).1, 8, .inl (fun _ => 0)))]) C lF_X9_28 fR_10_8 rfl (fun _ => rfl) (vp_nar_int _) rfl (Nat.le_of_ble_eq_true rfl) dX9_init_44 rfl ?_
  refine mx_aload_n (mx_D C hmc hms rfl rfl) dX9_init_47 rfl ?_
  refine mj_iconst (v := 0) (mx_D C hmc hms rfl rfl) dX9_init_48 (by decide) ?_
  refine mx_put (k := 0) (Y' := [(a0, .inr (10, [.null, .int 0, .int 0, .ref q1, .ref q2, .ref q3, .ref q4, .int 0, .int 0, .int 0, .int 0])), (q1, .inl ((mj_cI κ).1, 240, .inl (fun _ => 0))), (q2, .inl ((mj_cI κ).1, 48, .inl (fun _ => 0))), (q3, .inl ((mj_cI κ).1, 48, .inl (fun _ => 0))), (q4, .inl ((mj_cI κ).1, 8, .inl (fun _ => 0)))]) C lF_X9_31 fR_10_9 rfl (fun _ => rfl) (vp_nar_int _) rfl (Nat.le_of_ble_eq_true rfl) dX9_init_49 rfl ?_
  refine mx_aload_n (mx_D C hmc hms rfl rfl) dX9_init_52 rfl ?_
  refine mj_iconst (v := 0) (mx_D C hmc hms rfl rfl) dX9_init_53 (by decide) ?_
  refine mx_put (k := 0) (Y' := [(a0, .inr (10, [.null, .int 0, .int 0, .ref q1, .ref q2, .ref q3, .ref q4, .int 0, .int 0, .int 0, .int 0])), (q1, .inl ((mj_cI κ).1, 240, .inl (fun _ => 0))), (q2, .inl ((mj_cI κ).1, 48, .inl (fun _ => 0))), (q3, .inl ((mj_cI κ).1, 48, .inl (fun _ => 0))), (q4, .inl ((mj_cI κ).1, 8, .inl (fun _ => 0)))]) C lF_X9_34 fR_10_10 rfl (fun _ => rfl) (vp_nar_int _) rfl (Nat.le_of_ble_eq_true rfl) dX9_init_54 rfl ?_
  refine mx_aload_n (mx_D C hmc hms rfl rfl) dX9_init_57 rfl ?_
  refine mx_aload_n (mx_D C hmc hms rfl rfl) dX9_init_58 rfl ?_
  refine mx_putF (k := 0) (Y' := [(a0, .inr (10, [.ref a1, .int 0, .int 0, .ref q1, .ref q2, .ref q3, .ref q4, .int 0, .int 0, .int 0, .int 0])), (q1, .inl ((mj_cI κ).1, 240, .inl (fun _ => 0))), (q2, .inl ((mj_cI κ).1, 48, .inl (fun _ => 0))), (q3, .inl ((mj_cI κ).1, 48, .inl (fun _ => 0))), (q4, .inl ((mj_cI κ).1, 8, .inl (fun _ => 0)))]) C hN lF_X9_37 ⟨_, rfl, rfl⟩ fR_10_0 rfl (fun _ => rfl) rfl rfl (Nat.le_of_ble_eq_true rfl) dX9_init_59 rfl ?_
  refine mx_aload_n (mx_D C hmc hms rfl rfl) dX9_init_62 rfl ?_
  refine mj_iload_n (mx_D C hmc hms rfl rfl) dX9_init_63 rfl ?_
  refine mx_putF (k := 0) (Y' := [(a0, .inr (10, [.ref a1, .int a2, .int 0, .ref q1, .ref q2, .ref q3, .ref q4, .int 0, .int 0, .int 0, .int 0])), (q1, .inl ((mj_cI κ).1, 240, .inl (fun _ => 0))), (q2, .inl ((mj_cI κ).1, 48, .inl (fun _ => 0))), (q3, .inl ((mj_cI κ).1, 48, .inl (fun _ => 0))), (q4, .inl ((mj_cI κ).1, 8, .inl (fun _ => 0)))]) C hN lF_X9_41 ⟨_, rfl, rfl⟩ fR_10_1 rfl (fun _ => rfl) (vp_nar_int _) rfl (Nat.le_of_ble_eq_true rfl) dX9_init_64 rfl ?_
  refine mx_aload_n (mx_D C hmc hms rfl rfl) dX9_init_67 rfl ?_
  refine mj_iload_n (mx_D C hmc hms rfl rfl) dX9_init_68 rfl ?_
  refine mx_putF (k := 0) (Y' := [(a0, .inr (10, [.ref a1, .int a2, .int a3, .ref q1, .ref q2, .ref q3, .ref q4, .int 0, .int 0, .int 0, .int 0])), (q1, .inl ((mj_cI κ).1, 240, .inl (fun _ => 0))), (q2, .inl ((mj_cI κ).1, 48, .inl (fun _ => 0))), (q3, .inl ((mj_cI κ).1, 48, .inl (fun _ => 0))), (q4, .inl ((mj_cI κ).1, 8, .inl (fun _ => 0)))]) C hN lF_X9_44 ⟨_, rfl, rfl⟩ fR_10_2 rfl (fun _ => rfl) (vp_nar_int _) rfl (Nat.le_of_ble_eq_true rfl) dX9_init_69 rfl ?_
  exact mx_vret C hT (Nat.le_of_ble_eq_true rfl) (Nat.le_of_ble_eq_true rfl) dX9_init_72 ⟨rfl, q1, q2, q3, q4, rfl⟩
set_option maxHeartbeats 8000000 in
set_option maxRecDepth 40000 in
theorem K_X6_init {cI : mj_I} {a0 : Nat} {a1 : Nat} {a2 : Nat} : mx_Sem cI yX6_init cX6_init 3 none 2 7 285 [mj_o (some a0), mj_o (some a1), mj_o (some a2)] [(a0, .inr (7, [.null, .null, .int 0, .int 0, .int 0, .int 0, .int 0, .null, .null, .int 0, .null, .int 0, .int 0]))] (fun r Y' => r = none ∧ ∃ q1 q2 q3 q4 q5 q6 q7 : Nat, Y' = [(a0, .inr (7, [.ref a1, .ref a2, .int 0, .int 0, .int 0, .int 0, .int 0, .ref q1, .ref q6, .int 0, .ref q7, .int 0, .int 0])), (q1, .inr (8, [.ref q2, .ref q3, .ref q4, .ref q5, .int 0])), (q2, .inl (cI.1, 20, .inl (fun _ => 0))), (q3, .inl (cI.1, 20, .inl (fun _ => 0))), (q4, .inl (cI.1, 20, .inl (fun _ => 0))), (q5, .inl (cI.1, 20, .inl (fun _ => 0))), (q6, .inl (cI.1, 100, .inl (fun _ => 0))), (q7, .inl (cI.1, 100, .inl (fun _ => 0)))]) := by
  refine mx_intro (by decide) (Nat.le_of_ble_eq_true rfl) ?_
  intro κ M C hcI hR hmc hms hT hN
  subst hcI
  have C : mj_C κ cX6_init 3 RX6 := C
  show mj_R (mj_ky κ [(a0, .inr (7, [.null, .null, .int 0, .int 0, .int 0, .int 0, .int 0, .null, .null, .int 0, .null, .int 0, .int 0]))] 0 0) (mx_F κ M 7 285 _) 0 [some (mj_o (some a0)), some (mj_o (some a1)), some (mj_o (some a2))] [] M
  refine mx_aload_n (mx_D C hmc hms rfl rfl) dX6_init_0 rfl ?_
  refine mx_objInit C lM_X6_3 rfl mx_oi mx_oc (mj_rmc hR (by decide)) (Nat.le_of_ble_eq_true rfl) dX6_init_1 ?_
  refine mx_aload_n (mx_D C hmc hms rfl rfl) dX6_init_4 rfl ?_
  refine mj_iconst (v := 0) (mx_D C hmc hms rfl rfl) dX6_init_5 (by decide) ?_
  refine mx_put (k := 0) (Y' := [(a0, .inr (7, [.null, .null, .int 0, .int 0, .int 0, .int 0, .int 0, .null, .null, .int 0, .null, .int 0, .int 0]))]) C lF_X6_9 fR_7_2 rfl (fun _ => rfl) (vp_nar_int _) rfl (Nat.le_of_ble_eq_true rfl) dX6_init_6 rfl ?_
  refine mx_aload_n (mx_D C hmc hms rfl rfl) dX6_init_9 rfl ?_
  refine mj_iconst (v := 0) (mx_D C hmc hms rfl rfl) dX6_init_10 (by decide) ?_
  refine mx_put (k := 0) (Y' := [(a0, .inr (7, [.null, .null, .int 0, .int 0, .int 0, .int 0, .int 0, .null, .null, .int 0, .null, .int 0, .int 0]))]) C lF_X6_15 fR_7_3 rfl (fun _ => rfl) rfl rfl (Nat.le_of_ble_eq_true rfl) dX6_init_11 rfl ?_
  refine mx_aload_n (mx_D C hmc hms rfl rfl) dX6_init_14 rfl ?_
  refine mj_iconst (v := 0) (mx_D C hmc hms rfl rfl) dX6_init_15 (by decide) ?_
  refine mx_put (k := 0) (Y' := [(a0, .inr (7, [.null, .null, .int 0, .int 0, .int 0, .int 0, .int 0, .null, .null, .int 0, .null, .int 0, .int 0]))]) C lF_X6_19 fR_7_4 rfl (fun _ => rfl) rfl rfl (Nat.le_of_ble_eq_true rfl) dX6_init_16 rfl ?_
  refine mx_aload_n (mx_D C hmc hms rfl rfl) dX6_init_19 rfl ?_
  refine mj_iconst (v := 0) (mx_D C hmc hms rfl rfl) dX6_init_20 (by decide) ?_
  refine mx_put (k := 0) (Y' := [(a0, .inr (7, [.null, .null, .int 0, .int 0, .int 0, .int 0, .int 0, .null, .null, .int 0, .null, .int 0, .int 0]))]) C lF_X6_22 fR_7_5 rfl (fun _ => rfl) rfl rfl (Nat.le_of_ble_eq_true rfl) dX6_init_21 rfl ?_
  refine mx_aload_n (mx_D C hmc hms rfl rfl) dX6_init_24 rfl ?_
  refine mj_iconst (v := 0) (mx_D C hmc hms rfl rfl) dX6_init_25 (by decide) ?_
  refine mx_put (k := 0) (Y' := [(a0, .inr (7, [.null, .null, .int 0, .int 0, .int 0, .int 0, .int 0, .null, .null, .int 0, .null, .int 0, .int 0]))]) C lF_X6_25 fR_7_6 rfl (fun _ => rfl) (vp_nar_int _) rfl (Nat.le_of_ble_eq_true rfl) dX6_init_26 rfl ?_
  refine mx_aload_n (mx_D C hmc hms rfl rfl) dX6_init_29 rfl ?_
  refine mx_new (fs := [.null, .null, .null, .null, .int 0]) tyX7 C (ci := 8) rfl inTX7 tyX7_ok (by exact (mj_in1 139 rfl rfl)) (by exact (mj_in1 140 rfl rfl)) (by exact (mj_in1 7 rfl rfl)) (fun j hj => by rcases (show j = 0 ∨ j = 1 ∨ j = 2 ∨ j = 3 ∨ j = 4 by omega) with rfl | rfl | rfl | rfl | rfl <;> rfl) (mx_lc hmc rfl) (mx_ls hms rfl) dX6_init_30 (fun q1 => ?_)
  show mj_R (mj_ky κ [(a0, .inr (7, [.null, .null, .int 0, .int 0, .int 0, .int 0, .int 0, .null, .null, .int 0, .null, .int 0, .int 0])), (q1, .inr (8, [.null, .null, .null, .null, .int 0]))] 1 5) _ 33 [some (mj_o (some a0)), some (mj_o (some a1)), some (mj_o (some a2))] [mj_o (some q1), mj_o (some a0)] M
  refine mj_dup (mx_D C hmc hms rfl rfl) dX6_init_33 ?_
  refine mx_callIN (av := []) (Y0 := [(a0, .inr (7, [.null, .null, .int 0, .int 0, .int 0, .int 0, .int 0, .null, .null, .int 0, .null, .int 0, .int 0]))]) (ce := 1) (sl := 5) C lN_X6_30 lk_X7_init rfl (mj_in1 142 rfl rfl) rfl (K_X7_init (a0 := q1)) rfl (mx_fit hR hmc hms rfl rfl rfl rfl) rfl (Nat.le_of_ble_eq_true rfl) dX6_init_34 (fun r Y' hp => ?_)
  obtain ⟨rfl, q2, q3, q4, q5, rfl⟩ := hp
  show mj_R (mj_ky κ [(a0, .inr (7, [.null, .null, .int 0, .int 0, .int 0, .int 0, .int 0, .null, .null, .int 0, .null, .int 0, .int 0])), (q1, .inr (8, [.ref q2, .ref q3, .ref q4, .ref q5, .int 0])), (q2, .inl ((mj_cI κ).1, 20, .inl (fun _ => 0))), (q3, .inl ((mj_cI κ).1, 20, .inl (fun _ => 0))), (q4, .inl ((mj_cI κ).1, 20, .inl (fun _ => 0))), (q5, .inl ((mj_cI κ).1, 20, .inl (fun _ => 0)))] 5 85) _ 37 [some (mj_o (some a0)), some (mj_o (some a1)), some (mj_o (some a2))] [mj_o (some q1), mj_o (some a0)] M
  refine mx_putF (k := 0) (Y' := [(a0, .inr (7, [.null, .null, .int 0, .int 0, .int 0, .int 0, .int 0, .ref q1, .null, .int 0, .null, .int 0, .int 0])), (q1, .inr (8, [.ref q2, .ref q3, .ref q4, .ref q5, .int 0])), (q2, .inl ((mj_cI κ).1, 20, .inl (fun _ => 0))), (q3, .inl ((mj_cI κ).1, 20, .inl (fun _ => 0))), (q4, .inl ((mj_cI κ).1, 20, .inl (fun _ => 0))), (q5, .inl ((mj_cI κ).1, 20, .inl (fun _ => 0)))]) C hN lF_X6_31 ⟨_, rfl, rfl⟩ fR_7_7 rfl (fun _ => rfl) rfl rfl (Nat.le_of_ble_eq_true rfl) dX6_init_37 rfl ?_
  refine mx_aload_n (mx_D C hmc hms rfl rfl) dX6_init_40 rfl ?_
  refine mj_bipush (v := 100) (mx_D C hmc hms rfl rfl) dX6_init_41 (by decide) ?_
  refine mx_newi (N' := 100) C mx_ai (by decide) (by decide) (by decide) (mx_lc hmc rfl) (mx_ls hms rfl) dX6_init_43 (fun q6 => ?_)
  show mj_R (mj_ky κ [(a0, .inr (7, [.null, .null, .int 0, .int 0, .int 0, .int 0, .int 0, .ref q1, .null, .int 0, .null, .int 0, .int 0])), (q1, .inr (8, [.ref q2, .ref q3, .ref q4, .ref q5, .int 0])), (q2, .inl ((mj_cI κ).1, 20, .inl (fun _ => 0))), (q3, .inl ((mj_cI κ).1, 20, .inl (fun _ => 0))), (q4, .inl ((mj_cI κ).1, 20, .inl (fun _ => 0))), (q5, .inl ((mj_cI κ).1, 20, .inl (fun _ => 0))), (q6, .inl ((mj_cI κ).1, 100, .inl (fun _ => 0)))] 6 185) _ 45 [some (mj_o (some a0)), some (mj_o (some a1)), some (mj_o (some a2))] [mj_o (some q6), mj_o (some a0)] M
  refine mx_putF (k := 0) (Y' := [(a0, .inr (7, [.null, .null, .int 0, .int 0, .int 0, .int 0, .int 0, .ref q1, .ref q6, .int 0, .null, .int 0, .int 0])), (q1, .inr (8, [.ref q2, .ref q3, .ref q4, .ref q5, .int 0])), (q2, .inl ((mj_cI κ).1, 20, .inl (fun _ => 0))), (q3, .inl ((mj_cI κ).1, 20, .inl (fun _ => 0))), (q4, .inl ((mj_cI κ).1, 20, .inl (fun _ => 0))), (q5, .inl ((mj_cI κ).1, 20, .inl (fun _ => 0))), (q6, .inl ((mj_cI κ).1, 100, .inl (fun _ => 0)))]) C hN lF_X6_35 ⟨_, rfl, rfl⟩ fR_7_8 rfl (fun _ => rfl) rfl rfl (Nat.le_of_ble_eq_true rfl) dX6_init_45 rfl ?_
  refine mx_aload_n (mx_D C hmc hms rfl rfl) dX6_init_48 rfl ?_
  refine mj_iconst (v := 0) (mx_D C hmc hms rfl rfl) dX6_init_49 (by decide) ?_
  refine mx_put (k := 0) (Y' := [(a0, .inr (7, [.null, .null, .int 0, .int 0, .int 0, .int 0, .int 0, .ref q1, .ref q6, .int 0, .null, .int 0, .int 0])), (q1, .inr (8, [.ref q2, .ref q3, .ref q4, .ref q5, .int 0])), (q2, .inl ((mj_cI κ).1, 20, .inl (fun _ => 0))), (q3, .inl ((mj_cI κ).1, 20, .inl (fun _ => 0))), (q4, .inl ((mj_cI κ).1, 20, .inl (fun _ => 0))), (q5, .inl ((mj_cI κ).1, 20, .inl (fun _ => 0))), (q6, .inl ((mj_cI κ).1, 100, .inl (fun _ => 0)))]) C lF_X6_39 fR_7_9 rfl (fun _ => rfl) (vp_nar_int _) rfl (Nat.le_of_ble_eq_true rfl) dX6_init_50 rfl ?_
  refine mx_aload_n (mx_D C hmc hms rfl rfl) dX6_init_53 rfl ?_
  refine mj_bipush (v := 100) (mx_D C hmc hms rfl rfl) dX6_init_54 (by decide) ?_
  refine mx_newi (N' := 100) C mx_ai (by decide) (by decide) (by decide) (mx_lc hmc rfl) (mx_ls hms rfl) dX6_init_56 (fun q7 => ?_)
  show mj_R (mj_ky κ [(a0, .inr (7, [.null, .null, .int 0, .int 0, .int 0, .int 0, .int 0, .ref q1, .ref q6, .int 0, .null, .int 0, .int 0])), (q1, .inr (8, [.ref q2, .ref q3, .ref q4, .ref q5, .int 0])), (q2, .inl ((mj_cI κ).1, 20, .inl (fun _ => 0))), (q3, .inl ((mj_cI κ).1, 20, .inl (fun _ => 0))), (q4, .inl ((mj_cI κ).1, 20, .inl (fun _ => 0))), (q5, .inl ((mj_cI κ).1, 20, .inl (fun _ => 0))), (q6, .inl ((mj_cI κ).1, 100, .inl (fun _ => 0))), (q7, .inl ((mj_cI κ).1, 100, .inl (fun _ => 0)))] 7 285) _ 58 [some (mj_o (some a0)), some (mj_o (some a1)), some (mj_o (some a2))] [mj_o (some q7), mj_o (some a0)] M
  refine mx_putF (k := 0) (Y' := [(a0, .inr (7, [.null, .null, .int 0, .int 0, .int 0, .int 0, .int 0, .ref q1, .ref q6, .int 0, .ref q7, .int 0, .int 0])), (q1, .inr (8, [.ref q2, .ref q3, .ref q4, .ref q5, .int 0])), (q2, .inl ((mj_cI κ).1, 20, .inl (fun _ => 0))), (q3, .inl ((mj_cI κ).1, 20, .inl (fun _ => 0))), (q4, .inl ((mj_cI κ).1, 20, .inl (fun _ => 0))), (q5, .inl ((mj_cI κ).1, 20, .inl (fun _ => 0))), (q6, .inl ((mj_cI κ).1, 100, .inl (fun _ => 0))), (q7, .inl ((mj_cI κ).1, 100, .inl (fun _ => 0)))]) C hN lF_X6_42 ⟨_, rfl, rfl⟩ fR_7_10 rfl (fun _ => rfl) rfl rfl (Nat.le_of_ble_eq_true rfl) dX6_init_58 rfl ?_
  refine mx_aload_n (mx_D C hmc hms rfl rfl) dX6_init_61 rfl ?_
  refine mj_iconst (v := 0) (mx_D C hmc hms rfl rfl) dX6_init_62 (by decide) ?_
  refine mx_put (k := 0) (Y' := [(a0, .inr (7, [.null, .null, .int 0, .int 0, .int 0, .int 0, .int 0, .ref q1, .ref q6, .int 0, .ref q7, .int 0, .int 0])), (q1, .inr (8, [.ref q2, .ref q3, .ref q4, .ref q5, .int 0])), (q2, .inl ((mj_cI κ).1, 20, .inl (fun _ => 0))), (q3, .inl ((mj_cI κ).1, 20, .inl (fun _ => 0))), (q4, .inl ((mj_cI κ).1, 20, .inl (fun _ => 0))), (q5, .inl ((mj_cI κ).1, 20, .inl (fun _ => 0))), (q6, .inl ((mj_cI κ).1, 100, .inl (fun _ => 0))), (q7, .inl ((mj_cI κ).1, 100, .inl (fun _ => 0)))]) C lF_X6_45 fR_7_11 rfl (fun _ => rfl) (vp_nar_int _) rfl (Nat.le_of_ble_eq_true rfl) dX6_init_63 rfl ?_
  refine mx_aload_n (mx_D C hmc hms rfl rfl) dX6_init_66 rfl ?_
  refine mj_iconst (v := 0) (mx_D C hmc hms rfl rfl) dX6_init_67 (by decide) ?_
  refine mx_put (k := 0) (Y' := [(a0, .inr (7, [.null, .null, .int 0, .int 0, .int 0, .int 0, .int 0, .ref q1, .ref q6, .int 0, .ref q7, .int 0, .int 0])), (q1, .inr (8, [.ref q2, .ref q3, .ref q4, .ref q5, .int 0])), (q2, .inl ((mj_cI κ).1, 20, .inl (fun _ => 0))), (q3, .inl ((mj_cI κ).1, 20, .inl (fun _ => 0))), (q4, .inl ((mj_cI κ).1, 20, .inl (fun _ => 0))), (q5, .inl ((mj_cI κ).1, 20, .inl (fun _ => 0))), (q6, .inl ((mj_cI κ).1, 100, .inl (fun _ => 0))), (q7, .inl ((mj_cI κ).1, 100, .inl (fun _ => 0)))]) C lF_X6_48 fR_7_12 rfl (fun _ => rfl) (vp_nar_int _) rfl (Nat.le_of_ble_eq_true rfl) dX6_init_68 rfl ?_
  refine mx_aload_n (mx_D C hmc hms rfl rfl) dX6_init_71 rfl ?_
  refine mx_aload_n (mx_D C hmc hms rfl rfl) dX6_init_72 rfl ?_
  refine mx_putF (k := 0) (Y' := [(a0, .inr (7, [.ref a1, .null, .int 0, .int 0, .int 0, .int 0, .int 0, .ref q1, .ref q6, .int 0, .ref q7, .int 0, .int 0])), (q1, .inr (8, [.ref q2, .ref q3, .ref q4, .ref q5, .int 0])), (q2, .inl ((mj_cI κ).1, 20, .inl (fun _ => 0))), (q3, .inl ((mj_cI κ).1, 20, .inl (fun _ => 0))), (q4, .inl ((mj_cI κ).1, 20, .inl (fun _ => 0))), (q5, .inl ((mj_cI κ).1, 20, .inl (fun _ => 0))), (q6, .inl ((mj_cI κ).1, 100, .inl (fun _ => 0))), (q7, .inl ((mj_cI κ).1, 100, .inl (fun _ => 0)))]) C hN lF_X6_51 ⟨_, rfl, rfl⟩ fR_7_0 rfl (fun _ => rfl) rfl rfl (Nat.le_of_ble_eq_true rfl) dX6_init_73 rfl ?_
  refine mx_aload_n (mx_D C hmc hms rfl rfl) dX6_init_76 rfl ?_
  refine mx_aload_n (mx_D C hmc hms rfl rfl) dX6_init_77 rfl ?_
  refine mx_putF (k := 0) (Y' := [(a0, .inr (7, [.ref a1, .ref a2, .int 0, .int 0, .int 0, .int 0, .int 0, .ref q1, .ref q6, .int 0, .ref q7, .int 0, .int 0])), (q1, .inr (8, [.ref q2, .ref q3, .ref q4, .ref q5, .int 0])), (q2, .inl ((mj_cI κ).1, 20, .inl (fun _ => 0))), (q3, .inl ((mj_cI κ).1, 20, .inl (fun _ => 0))), (q4, .inl ((mj_cI κ).1, 20, .inl (fun _ => 0))), (q5, .inl ((mj_cI κ).1, 20, .inl (fun _ => 0))), (q6, .inl ((mj_cI κ).1, 100, .inl (fun _ => 0))), (q7, .inl ((mj_cI κ).1, 100, .inl (fun _ => 0)))]) C hN lF_X6_55 ⟨_, rfl, rfl⟩ fR_7_1 rfl (fun _ => rfl) rfl rfl (Nat.le_of_ble_eq_true rfl) dX6_init_78 rfl ?_
  exact mx_vret C hT (Nat.le_of_ble_eq_true rfl) (Nat.le_of_ble_eq_true rfl) dX6_init_81 ⟨rfl, q1, q2, q3, q4, q5, q6, q7, rfl⟩
set_option maxHeartbeats 8000000 in
set_option maxRecDepth 40000 in
theorem K_X8_init {cI : mj_I} {a0 : Nat} {a1 : Nat} {a2 : Nat} {a3 : Nat} : mx_Sem cI yX8_init cX8_init 4 none 2 15 255 [mj_o (some a0), mj_o (some a1), mj_o (some a2), mj_o (some a3)] [(a0, .inr (9, [.null, .null, .null, .null, .null, .null, .int 0, .int 0, .int 0, .int 0, .int 0, .int 0, .int 0, .int 0, .int 0, .int 0]))] (fun r Y' => r = none ∧ ∃ q1 q2 q3 q4 q5 q6 q7 q8 q9 q10 q11 q12 q13 q14 q15 : Nat, Y' = [(a0, .inr (9, [.ref a1, .ref a2, .ref a3, .ref q1, .ref q6, .ref q11, .int 6, .int 0, .int 0, .int 0, .int 0, .int 0, .int (-1), .int 0, .int (-1), .int 0])), (q1, .inr (8, [.ref q2, .ref q3, .ref q4, .ref q5, .int 0])), (q2, .inl (cI.1, 20, .inl (fun _ => 0))), (q3, .inl (cI.1, 20, .inl (fun _ => 0))), (q4, .inl (cI.1, 20, .inl (fun _ => 0))), (q5, .inl (cI.1, 20, .inl (fun _ => 0))), (q6, .inr (8, [.ref q7, .ref q8, .ref q9, .ref q10, .int 0])), (q7, .inl (cI.1, 20, .inl (fun _ => 0))), (q8, .inl (cI.1, 20, .inl (fun _ => 0))), (q9, .inl (cI.1, 20, .inl (fun _ => 0))), (q10, .inl (cI.1, 20, .inl (fun _ => 0))), (q11, .inr (8, [.ref q12, .ref q13, .ref q14, .ref q15, .int 0])), (q12, .inl (cI.1, 20, .inl (fun _ => 0))), (q13, .inl (cI.1, 20, .inl (fun _ => 0))), (q14, .inl (cI.1, 20, .inl (fun _ => 0))), (q15, .inl (cI.1, 20, .inl (fun _ => 0)))]) := by
  refine mx_intro (by decide) (Nat.le_of_ble_eq_true rfl) ?_
  intro κ M C hcI hR hmc hms hT hN
  subst hcI
  have C : mj_C κ cX8_init 4 RX8 := C
  show mj_R (mj_ky κ [(a0, .inr (9, [.null, .null, .null, .null, .null, .null, .int 0, .int 0, .int 0, .int 0, .int 0, .int 0, .int 0, .int 0, .int 0, .int 0]))] 0 0) (mx_F κ M 15 255 _) 0 [some (mj_o (some a0)), some (mj_o (some a1)), some (mj_o (some a2)), some (mj_o (some a3))] [] M
  refine mx_aload_n (mx_D C hmc hms rfl rfl) dX8_init_0 rfl ?_
  refine mx_objInit C lM_X8_3 rfl mx_oi mx_oc (mj_rmc hR (by decide)) (Nat.le_of_ble_eq_true rfl) dX8_init_1 ?_
  refine mx_aload_n (mx_D C hmc hms rfl rfl) dX8_init_4 rfl ?_
  refine mx_new (fs := [.null, .null, .null, .null, .int 0]) tyX7 C (ci := 8) rfl inTX7 tyX7_ok (by exact (mj_in1 234 rfl rfl)) (by exact (mj_in1 140 rfl rfl)) (by exact (mj_in1 7 rfl rfl)) (fun j hj => by rcases (show j = 0 ∨ j = 1 ∨ j = 2 ∨ j = 3 ∨ j = 4 by omega) with rfl | rfl | rfl | rfl | rfl <;> rfl) (mx_lc hmc rfl) (mx_ls hms rfl) dX8_init_5 (fun q1 => ?_)
  show mj_R (mj_ky κ [(a0, .inr (9, [.null, .null, .null, .null, .null, .null, .int 0, .int 0, .int 0, .int 0, .int 0, .int 0, .int 0, .int 0, .int 0, .int 0])), (q1, .inr (8, [.null, .null, .null, .null, .int 0]))] 1 5) _ 8 [some (mj_o (some a0)), some (mj_o (some a1)), some (mj_o (some a2)), some (mj_o (some a3))] [mj_o (some q1), mj_o (some a0)] M
  refine mj_dup (mx_D C hmc hms rfl rfl) dX8_init_8 ?_
  refine mx_callIN (av := []) (Y0 := [(a0, .inr (9, [.null, .null, .null, .null, .null, .null, .int 0, .int 0, .int 0, .int 0, .int 0, .int 0, .int 0, .int 0, .int 0, .int 0]))]) (ce := 1) (sl := 5) C lN_X8_11 lk_X7_init rfl (mj_in1 142 rfl rfl) rfl (K_X7_init (a0 := q1)) rfl (mx_fit hR hmc hms rfl rfl rfl rfl) rfl (Nat.le_of_ble_eq_true rfl) dX8_init_9 (fun r Y' hp => ?_)
  obtain ⟨rfl, q2, q3, q4, q5, rfl⟩ := hp
  show mj_R (mj_ky κ [(a0, .inr (9, [.null, .null, .null, .null, .null, .null, .int 0, .int 0, .int 0, .int 0, .int 0, .int 0, .int 0, .int 0, .int 0, .int 0])), (q1, .inr (8, [.ref q2, .ref q3, .ref q4, .ref q5, .int 0])), (q2, .inl ((mj_cI κ).1, 20, .inl (fun _ => 0))), (q3, .inl ((mj_cI κ).1, 20, .inl (fun _ => 0))), (q4, .inl ((mj_cI κ).1, 20, .inl (fun _ => 0))), (q5, .inl ((mj_cI κ).1, 20, .inl (fun _ => 0)))] 5 85) _ 12 [some (mj_o (some a0)), some (mj_o (some a1)), some (mj_o (some a2)), some (mj_o (some a3))] [mj_o (some q1), mj_o (some a0)] M
  refine mx_putF (k := 0) (Y' := [(a0, .inr (9, [.null, .null, .null, .ref q1, .null, .null, .int 0, .int 0, .int 0, .int 0, .int 0, .int 0, .int 0, .int 0, .int 0, .int 0])), (q1, .inr (8, [.ref q2, .ref q3, .ref q4, .ref q5, .int 0])), (q2, .inl ((mj_cI κ).1, 20, .inl (fun _ => 0))), (q3, .inl ((mj_cI κ).1, 20, .inl (fun _ => 0))), (q4, .inl ((mj_cI κ).1, 20, .inl (fun _ => 0))), (q5, .inl ((mj_cI κ).1, 20, .inl (fun _ => 0)))]) C hN lF_X8_12 ⟨_, rfl, rfl⟩ fR_9_3 rfl (fun _ => rfl) rfl rfl (Nat.le_of_ble_eq_true rfl) dX8_init_12 rfl ?_
  refine mx_aload_n (mx_D C hmc hms rfl rfl) dX8_init_15 rfl ?_
  refine mx_new (fs := [.null, .null, .null, .null, .int 0]) tyX7 C (ci := 8) rfl inTX7 tyX7_ok (by exact (mj_in1 234 rfl rfl)) (by exact (mj_in1 140 rfl rfl)) (by exact (mj_in1 7 rfl rfl)) (fun j hj => by rcases (show j = 0 ∨ j = 1 ∨ j = 2 ∨ j = 3 ∨ j = 4 by omega) with rfl | rfl | rfl | rfl | rfl <;> rfl) (mx_lc hmc rfl) (mx_ls hms rfl) dX8_init_16 (fun q6 => ?_)
  show mj_R (mj_ky κ [(a0, .inr (9, [.null, .null, .null, .ref q1, .null, .null, .int 0, .int 0, .int 0, .int 0, .int 0, .int 0, .int 0, .int 0, .int 0, .int 0])), (q1, .inr (8, [.ref q2, .ref q3, .ref q4, .ref q5, .int 0])), (q2, .inl ((mj_cI κ).1, 20, .inl (fun _ => 0))), (q3, .inl ((mj_cI κ).1, 20, .inl (fun _ => 0))), (q4, .inl ((mj_cI κ).1, 20, .inl (fun _ => 0))), (q5, .inl ((mj_cI κ).1, 20, .inl (fun _ => 0))), (q6, .inr (8, [.null, .null, .null, .null, .int 0]))] 6 90) _ 19 [some (mj_o (some a0)), some (mj_o (some a1)), some (mj_o (some a2)), some (mj_o (some a3))] [mj_o (some q6), mj_o (some a0)] M
  refine mj_dup (mx_D C hmc hms rfl rfl) dX8_init_19 ?_
  refine mx_callIN (av := []) (Y0 := [(a0, .inr (9, [.null, .null, .null, .ref q1, .null, .null, .int 0, .int 0, .int 0, .int 0, .int 0, .int 0, .int 0, .int 0, .int 0, .int 0])), (q1, .inr (8, [.ref q2, .ref q3, .ref q4, .ref q5, .int 0])), (q2, .inl ((mj_cI κ).1, 20, .inl (fun _ => 0))), (q3, .inl ((mj_cI κ).1, 20, .inl (fun _ => 0))), (q4, .inl ((mj_cI κ).1, 20, .inl (fun _ => 0))), (q5, .inl ((mj_cI κ).1, 20, .inl (fun _ => 0)))]) (ce := 6) (sl := 90) C lN_X8_11 lk_X7_init rfl (mj_in1 142 rfl rfl) rfl (K_X7_init (a0 := q6)) rfl (mx_fit hR hmc hms rfl rfl rfl rfl) rfl (Nat.le_of_ble_eq_true rfl) dX8_init_20 (fun r Y' hp => ?_)
  obtain ⟨rfl, q7, q8, q9, q10, rfl⟩ := hp
  show mj_R (mj_ky κ [(a0, .inr (9, [.null, .null, .null, .ref q1, .null, .null, .int 0, .int 0, .int 0, .int 0, .int 0, .int 0, .int 0, .int 0, .int 0, .int 0])), (q1, .inr (8, [.ref q2, .ref q3, .ref q4, .ref q5, .int 0])), (q2, .inl ((mj_cI κ).1, 20, .inl (fun _ => 0))), (q3, .inl ((mj_cI κ).1, 20, .inl (fun _ => 0))), (q4, .inl ((mj_cI κ).1, 20, .inl (fun _ => 0))), (q5, .inl ((mj_cI κ).1, 20, .inl (fun _ => 0))), (q6, .inr (8, [.ref q7, .ref q8, .ref q9, .ref q10, .int 0])), (q7, .inl ((mj_cI κ).1, 20, .inl (fun _ => 0))), (q8, .inl ((mj_cI κ).1, 20, .inl (fun _ => 0))), (q9, .inl ((mj_cI κ).1, 20, .inl (fun _ => 0))), (q10, .inl ((mj_cI κ).1, 20, .inl (fun _ => 0)))] 10 170) _ 23 [some (mj_o (some a0)), some (mj_o (some a1)), some (mj_o (some a2)), some (mj_o (some a3))] [mj_o (some q6), mj_o (some a0)] M
  refine mx_putF (k := 0) (Y' := [(a0, .inr (9, [.null, .null, .null, .ref q1, .ref q6, .null, .int 0, .int 0, .int 0, .int 0, .int 0, .int 0, .int 0, .int 0, .int 0, .int 0])), (q1, .inr (8, [.ref q2, .ref q3, .ref q4, .ref q5, .int 0])), (q2, .inl ((mj_cI κ).1, 20, .inl (fun _ => 0))), (q3, .inl ((mj_cI κ).1, 20, .inl (fun _ => 0))), (q4, .inl ((mj_cI κ).1, 20, .inl (fun _ => 0))), (q5, .inl ((mj_cI κ).1, 20, .inl (fun _ => 0))), (q6, .inr (8, [.ref q7, .ref q8, .ref q9, .ref q10, .int 0])), (q7, .inl ((mj_cI κ).1, 20, .inl (fun _ => 0))), (q8, .inl ((mj_cI κ).1, 20, .inl (fun _ => 0))), (q9, .inl ((mj_cI κ).1, 20, .inl (fun _ => 0))), (q10, .inl ((mj_cI κ).1, 20, .inl (fun _ => 0)))]) C hN lF_X8_18 ⟨_, rfl, rfl⟩ fR_9_4 rfl (fun _ => rfl) rfl rfl (Nat.le_of_ble_eq_true rfl) dX8_init_23 rfl ?_
  refine mx_aload_n (mx_D C hmc hms rfl rfl) dX8_init_26 rfl ?_
  refine mx_new (fs := [.null, .null, .null, .null, .int 0]) tyX7 C (ci := 8) rfl inTX7 tyX7_ok (by exact (mj_in1 234 rfl rfl)) (by exact (mj_in1 140 rfl rfl)) (by exact (mj_in1 7 rfl rfl)) (fun j hj => by rcases (show j = 0 ∨ j = 1 ∨ j = 2 ∨ j = 3 ∨ j = 4 by omega) with rfl | rfl | rfl | rfl | rfl <;> rfl) (mx_lc hmc rfl) (mx_ls hms rfl) dX8_init_27 (fun q11 => ?_)
  show mj_R (mj_ky κ [(a0, .inr (9, [.null, .null, .null, .ref q1, .ref q6, .null, .int 0, .int 0, .int 0, .int 0, .int 0, .int 0, .int 0, .int 0, .int 0, .int 0])), (q1, .inr (8, [.ref q2, .ref q3, .ref q4, .ref q5, .int 0])), (q2, .inl ((mj_cI κ).1, 20, .inl (fun _ => 0))), (q3, .inl ((mj_cI κ).1, 20, .inl (fun _ => 0))), (q4, .inl ((mj_cI κ).1, 20, .inl (fun _ => 0))), (q5, .inl ((mj_cI κ).1, 20, .inl (fun _ => 0))), (q6, .inr (8, [.ref q7, .ref q8, .ref q9, .ref q10, .int 0])), (q7, .inl ((mj_cI κ).1, 20, .inl (fun _ => 0))), (q8, .inl ((mj_cI κ).1, 20, .inl (fun _ => 0))), (q9, .inl ((mj_cI κ).1, 20, .inl (fun _ => 0))), (q10, .inl ((mj_cI κ).1, 20, .inl (fun _ => 0))), (q11, .inr (8, [.null, .null, .null, .null, .int 0]))] 11 175) _ 30 [some (mj_o (some a0)), some (mj_o (some a1)), some (mj_o (some a2)), some (mj_o (some a3))] [mj_o (some q11), mj_o (some a0)] M
  refine mj_dup (mx_D C hmc hms rfl rfl) dX8_init_30 ?_
  refine mx_callIN (av := []) (Y0 := [(a0, .inr (9, [.null, .null, .null, .ref q1, .ref q6, .null, .int 0, .int 0, .int 0, .int 0, .int 0, .int 0, .int 0, .int 0, .int 0, .int 0])), (q1, .inr (8, [.ref q2, .ref q3, .ref q4, .ref q5, .int 0])), (q2, .inl ((mj_cI κ).1, 20, .inl (fun _ => 0))), (q3, .inl ((mj_cI κ).1, 20, .inl (fun _ => 0))), (q4, .inl ((mj_cI κ).1, 20, .inl (fun _ => 0))), (q5, .inl ((mj_cI κ).1, 20, .inl (fun _ => 0))), (q6, .inr (8, [.ref q7, .ref q8, .ref q9, .ref q10, .int 0])), (q7, .inl ((mj_cI κ).1, 20, .inl (fun _ => 0))), (q8, .inl ((mj_cI κ).1, 20, .inl (fun _ => 0))), (q9, .inl ((mj_cI κ).1, 20, .inl (fun _ => 0))), (q10, .inl ((mj_cI κ).1, 20, .inl (fun _ => 0)))]) (ce := 11) (sl := 175) C lN_X8_11 lk_X7_init rfl (mj_in1 142 rfl rfl) rfl (K_X7_init (a0 := q11)) rfl (mx_fit hR hmc hms rfl rfl rfl rfl) rfl (Nat.le_of_ble_eq_true rfl) dX8_init_31 (fun r Y' hp => ?_)
  obtain ⟨rfl, q12, q13, q14, q15, rfl⟩ := hp
  show mj_R (mj_ky κ [(a0, .inr (9, [.null, .null, .null, .ref q1, .ref q6, .null, .int 0, .int 0, .int 0, .int 0, .int 0, .int 0, .int 0, .int 0, .int 0, .int 0])), (q1, .inr (8, [.ref q2, .ref q3, .ref q4, .ref q5, .int 0])), (q2, .inl ((mj_cI κ).1, 20, .inl (fun _ => 0))), (q3, .inl ((mj_cI κ).1, 20, .inl (fun _ => 0))), (q4, .inl ((mj_cI κ).1, 20, .inl (fun _ => 0))), (q5, .inl ((mj_cI κ).1, 20, .inl (fun _ => 0))), (q6, .inr (8, [.ref q7, .ref q8, .ref q9, .ref q10, .int 0])), (q7, .inl ((mj_cI κ).1, 20, .inl (fun _ => 0))), (q8, .inl ((mj_cI κ).1, 20, .inl (fun _ => 0))), (q9, .inl ((mj_cI κ).1, 20, .inl (fun _ => 0))), (q10, .inl ((mj_cI κ).1, 20, .inl (fun _ => 0))), (q11, .inr (8, [.ref q12, .ref q13, .ref q14, .ref q15, .int 0])), (q12, .inl ((mj_cI κ).1, 20, .inl (fun _ => 0))), (q13, .inl ((mj_cI κ).1, 20, .inl (fun _ => 0))), (q14, .inl ((mj_cI κ).1, 20, .inl (fun _ => 0))), (q15, .inl ((mj_cI κ).1, 20, .inl (fun _ => 0)))] 15 255) _ 34 [some (mj_o (some a0)), some (mj_o (some a1)), some (mj_o (some a2)), some (mj_o (some a3))] [mj_o (some q11), mj_o (some a0)] M
  refine mx_putF (k := 0) (Y' := [(a0, .inr (9, [.null, .null, .null, .ref q1, .ref q6, .ref q11, .int 0, .int 0, .int 0, .int 0, .int 0, .int 0, .int 0, .int 0, .int 0, .int 0])), (q1, .inr (8, [.ref q2, .ref q3, .ref q4, .ref q5, .int 0])), (q2, .inl ((mj_cI κ).1, 20, .inl (fun _ => 0))), (q3, .inl ((mj_cI κ).1, 20, .inl (fun _ => 0))), (q4, .inl ((mj_cI κ).1, 20, .inl (fun _ => 0))), (q5, .inl ((mj_cI κ).1, 20, .inl (fun _ => 0))), (q6, .inr (8, [.ref q7, .ref q8, .ref q9, .ref q10, .int 0])), (q7, .inl ((mj_cI κ).1, 20, .inl (fun _ => 0))), (q8, .inl ((mj_cI κ).1, 20, .inl (fun _ => 0))), (q9, .inl ((mj_cI κ).1, 20, .inl (fun _ => 0))), (q10, .inl ((mj_cI κ).1, 20, .inl (fun _ => 0))), (q11, .inr (8, [.ref q12, .ref q13, .ref q14, .ref q15, .int 0])), (q12, .inl ((mj_cI κ).1, 20, .inl (fun _ => 0))), (q13, .inl ((mj_cI κ).1, 20, .inl (fun _ => 0))), (q14, .inl ((mj_cI κ).1, 20, .inl (fun _ => 0))), (q15, .inl ((mj_cI κ).1, 20, .inl (fun _ => 0)))]) C hN lF_X8_21 ⟨_, rfl, rfl⟩ fR_9_5 rfl (fun _ => rfl) rfl rfl (Nat.le_of_ble_eq_true rfl) dX8_init_34 rfl ?_
  refine mx_aload_n (mx_D C hmc hms rfl rfl) dX8_init_37 rfl ?_
  refine mj_bipush (v := 6) (mx_D C hmc hms rfl rfl) dX8_init_38 (by decide) ?_
  refine mx_put (k := 0) (Y' := [(a0, .inr (9, [.null, .null, .null, .ref q1, .ref q6, .ref q11, .int 6, .int 0, .int 0, .int 0, .int 0, .int 0, .int 0, .int 0, .int 0, .int 0])), (q1, .inr (8, [.ref q2, .ref q3, .ref q4, .ref q5, .int 0])), (q2, .inl ((mj_cI κ).1, 20, .inl (fun _ => 0))), (q3, .inl ((mj_cI κ).1, 20, .inl (fun _ => 0))), (q4, .inl ((mj_cI κ).1, 20, .inl (fun _ => 0))), (q5, .inl ((mj_cI κ).1, 20, .inl (fun _ => 0))), (q6, .inr (8, [.ref q7, .ref q8, .ref q9, .ref q10, .int 0])), (q7, .inl ((mj_cI κ).1, 20, .inl (fun _ => 0))), (q8, .inl ((mj_cI κ).1, 20, .inl (fun _ => 0))), (q9, .inl ((mj_cI κ).1, 20, .inl (fun _ => 0))), (q10, .inl ((mj_cI κ).1, 20, .inl (fun _ => 0))), (q11, .inr (8, [.ref q12, .ref q13, .ref q14, .ref q15, .int 0])), (q12, .inl ((mj_cI κ).1, 20, .inl (fun _ => 0))), (q13, .inl ((mj_cI κ).1, 20, .inl (fun _ => 0))), (q14, .inl ((mj_cI κ).1, 20, .inl (fun _ => 0))), (q15, .inl ((mj_cI κ).1, 20, .inl (fun _ => 0)))]) C lF_X8_24 fR_9_6 rfl (fun _ => rfl) (vp_nar_int _) rfl (Nat.le_of_ble_eq_true rfl) dX8_init_40 rfl ?_
  refine mx_aload_n (mx_D C hmc hms rfl rfl) dX8_init_43 rfl ?_
  refine mj_iconst (v := 0) (mx_D C hmc hms rfl rfl) dX8_init_44 (by decide) ?_
  refine mx_put (k := 0) (Y' := [(a0, .inr (9, [.null, .null, .null, .ref q1, .ref q6, .ref q11, .int 6, .int 0, .int 0, .int 0, .int 0, .int 0, .int 0, .int 0, .int 0, .int 0])), (q1, .inr (8, [.ref q2, .ref q3, .ref q4, .ref q5, .int 0])), (q2, .inl ((mj_cI κ).1, 20, .inl (fun _ => 0))), (q3, .inl ((mj_cI κ).1, 20, .inl (fun _ => 0))), (q4, .inl ((mj_cI κ).1, 20, .inl (fun _ => 0))), (q5, .inl ((mj_cI κ).1, 20, .inl (fun _ => 0))), (q6, .inr (8, [.ref q7, .ref q8, .ref q9, .ref q10, .int 0])), (q7, .inl ((mj_cI κ).1, 20, .inl (fun _ => 0))), (q8, .inl ((mj_cI κ).1, 20, .inl (fun _ => 0))), (q9, .inl ((mj_cI κ).1, 20, .inl (fun _ => 0))), (q10, .inl ((mj_cI κ).1, 20, .inl (fun _ => 0))), (q11, .inr (8, [.ref q12, .ref q13, .ref q14, .ref q15, .int 0])), (q12, .inl ((mj_cI κ).1, 20, .inl (fun _ => 0))), (q13, .inl ((mj_cI κ).1, 20, .inl (fun _ => 0))), (q14, .inl ((mj_cI κ).1, 20, .inl (fun _ => 0))), (q15, .inl ((mj_cI κ).1, 20, .inl (fun _ => 0)))]) C lF_X8_28 fR_9_7 rfl (fun _ => rfl) (vp_nar_int _) rfl (Nat.le_of_ble_eq_true rfl) dX8_init_45 rfl ?_
  refine mx_aload_n (mx_D C hmc hms rfl rfl) dX8_init_48 rfl ?_
  refine mj_iconst (v := 0) (mx_D C hmc hms rfl rfl) dX8_init_49 (by decide) ?_
  refine mx_put (k := 0) (Y' := [(a0, .inr (9, [.null, .null, .null, .ref q1, .ref q6, .ref q11, .int 6, .int 0, .int 0, .int 0, .int 0, .int 0, .int 0, .int 0, .int 0, .int 0])), (q1, .inr (8, [.ref q2, .ref q3, .ref q4, .ref q5, .int 0])), (q2, .inl ((mj_cI κ).1, 20, .inl (fun _ => 0))), (q3, .inl ((mj_cI κ).1, 20, .inl (fun _ => 0))), (q4, .inl ((mj_cI κ).1, 20, .inl (fun _ => 0))), (q5, .inl ((mj_cI κ).1, 20, .inl (fun _ => 0))), (q6, .inr (8, [.ref q7, .ref q8, .ref q9, .ref q10, .int 0])), (q7, .inl ((mj_cI κ).1, 20, .inl (fun _ => 0))), (q8, .inl ((mj_cI κ).1, 20, .inl (fun _ => 0))), (q9, .inl ((mj_cI κ).1, 20, .inl (fun _ => 0))), (q10, .inl ((mj_cI κ).1, 20, .inl (fun _ => 0))), (q11, .inr (8, [.ref q12, .ref q13, .ref q14, .ref q15, .int 0])), (q12, .inl ((mj_cI κ).1, 20, .inl (fun _ => 0))), (q13, .inl ((mj_cI κ).1, 20, .inl (fun _ => 0))), (q14, .inl ((mj_cI κ).1, 20, .inl (fun _ => 0))), (q15, .inl ((mj_cI κ).1, 20, .inl (fun _ => 0)))]) C lF_X8_31 fR_9_8 rfl (fun _ => rfl) (vp_nar_int _) rfl (Nat.le_of_ble_eq_true rfl) dX8_init_50 rfl ?_
  refine mx_aload_n (mx_D C hmc hms rfl rfl) dX8_init_53 rfl ?_
  refine mj_iconst (v := 0) (mx_D C hmc hms rfl rfl) dX8_init_54 (by decide) ?_
  refine mx_put (k := 0) (Y' := [(a0, .inr (9, [.null, .null, .null, .ref q1, .ref q6, .ref q11, .int 6, .int 0, .int 0, .int 0, .int 0, .int 0, .int 0, .int 0, .int 0, .int 0])), (q1, .inr (8, [.ref q2, .ref q3, .ref q4, .ref q5, .int 0])), (q2, .inl ((mj_cI κ).1, 20, .inl (fun _ => 0))), (q3, .inl ((mj_cI κ).1, 20, .inl (fun _ => 0))), (q4, .inl ((mj_cI κ).1, 20, .inl (fun _ => 0))), (q5, .inl ((mj_cI κ).1, 20, .inl (fun _ => 0))), (q6, .inr (8, [.ref q7, .ref q8, .ref q9, .ref q10, .int 0])), (q7, .inl ((mj_cI κ).1, 20, .inl (fun _ => 0))), (q8, .inl ((mj_cI κ).1, 20, .inl (fun _ => 0))), (q9, .inl ((mj_cI κ).1, 20, .inl (fun _ => 0))), (q10, .inl ((mj_cI κ).1, 20, .inl (fun _ => 0))), (q11, .inr (8, [.ref q12, .ref q13, .ref q14, .ref q15, .int 0])), (q12, .inl ((mj_cI κ).1, 20, .inl (fun _ => 0))), (q13, .inl ((mj_cI κ).1, 20, .inl (fun _ => 0))), (q14, .inl ((mj_cI κ).1, 20, .inl (fun _ => 0))), (q15, .inl ((mj_cI κ).1, 20, .inl (fun _ => 0)))]) C lF_X8_34 fR_9_9 rfl (fun _ => rfl) (vp_nar_int _) rfl (Nat.le_of_ble_eq_true rfl) dX8_init_55 rfl ?_
  refine mx_aload_n (mx_D C hmc hms rfl rfl) dX8_init_58 rfl ?_
  refine mj_iconst (v := 0) (mx_D C hmc hms rfl rfl) dX8_init_59 (by decide) ?_
  refine mx_put (k := 0) (Y' := [(a0, .inr (9, [.null, .null, .null, .ref q1, .ref q6, .ref q11, .int 6, .int 0, .int 0, .int 0, .int 0, .int 0, .int 0, .int 0, .int 0, .int 0])), (q1, .inr (8, [.ref q2, .ref q3, .ref q4, .ref q5, .int 0])), (q2, .inl ((mj_cI κ).1, 20, .inl (fun _ => 0))), (q3, .inl ((mj_cI κ).1, 20, .inl (fun _ => 0))), (q4, .inl ((mj_cI κ).1, 20, .inl (fun _ => 0))), (q5, .inl ((mj_cI κ).1, 20, .inl (fun _ => 0))), (q6, .inr (8, [.ref q7, .ref q8, .ref q9, .ref q10, .int 0])), (q7, .inl ((mj_cI κ).1, 20, .inl (fun _ => 0))), (q8, .inl ((mj_cI κ).1, 20, .inl (fun _ => 0))), (q9, .inl ((mj_cI κ).1, 20, .inl (fun _ => 0))), (q10, .inl ((mj_cI κ).1, 20, .inl (fun _ => 0))), (q11, .inr (8, [.ref q12, .ref q13, .ref q14, .ref q15, .int 0])), (q12, .inl ((mj_cI κ).1, 20, .inl (fun _ => 0))), (q13, .inl ((mj_cI κ).1, 20, .inl (fun _ => 0))), (q14, .inl ((mj_cI κ).1, 20, .inl (fun _ => 0))), (q15, .inl ((mj_cI κ).1, 20, .inl (fun _ => 0)))]) C lF_X8_37 fR_9_10 rfl (fun _ => rfl) (vp_nar_int _) rfl (Nat.le_of_ble_eq_true rfl) dX8_init_60 rfl ?_
  refine mx_aload_n (mx_D C hmc hms rfl rfl) dX8_init_63 rfl ?_
  refine mj_iconst (v := 0) (mx_D C hmc hms rfl rfl) dX8_init_64 (by decide) ?_
  refine mx_put (k := 0) (Y' := [(a0, .inr (9, [.null, .null, .null, .ref q1, .ref q6, .ref q11, .int 6, .int 0, .int 0, .int 0, .int 0, .int 0, .int 0, .int 0, .int 0, .int 0])), (q1, .inr (8, [.ref q2, .ref q3, .ref q4, .ref q5, .int 0])), (q2, .inl ((mj_cI κ).1, 20, .inl (fun _ => 0))), (q3, .inl ((mj_cI κ).1, 20, .inl (fun _ => 0))), (q4, .inl ((mj_cI κ).1, 20, .inl (fun _ => 0))), (q5, .inl ((mj_cI κ).1, 20, .inl (fun _ => 0))), (q6, .inr (8, [.ref q7, .ref q8, .ref q9, .ref q10, .int 0])), (q7, .inl ((mj_cI κ).1, 20, .inl (fun _ => 0))), (q8, .inl ((mj_cI κ).1, 20, .inl (fun _ => 0))), (q9, .inl ((mj_cI κ).1, 20, .inl (fun _ => 0))), (q10, .inl ((mj_cI κ).1, 20, .inl (fun _ => 0))), (q11, .inr (8, [.ref q12, .ref q13, .ref q14, .ref q15, .int 0])), (q12, .inl ((mj_cI κ).1, 20, .inl (fun _ => 0))), (q13, .inl ((mj_cI κ).1, 20, .inl (fun _ => 0))), (q14, .inl ((mj_cI κ).1, 20, .inl (fun _ => 0))), (q15, .inl ((mj_cI κ).1, 20, .inl (fun _ => 0)))]) C lF_X8_40 fR_9_11 rfl (fun _ => rfl) (vp_nar_int _) rfl (Nat.le_of_ble_eq_true rfl) dX8_init_65 rfl ?_
  refine mx_aload_n (mx_D C hmc hms rfl rfl) dX8_init_68 rfl ?_
  refine mj_iconst (v := (-1)) (mx_D C hmc hms rfl rfl) dX8_init_69 (by decide) ?_
  refine mx_put (k := 0) (Y' := [(a0, .inr (9, [.null, .null, .null, .ref q1, .ref q6, .ref q11, .int 6, .int 0, .int 0, .int 0, .int 0, .int 0, .int (-1), .int 0, .int 0, .int 0])), (q1, .inr (8, [.ref q2, .ref q3, .ref q4, .ref q5, .int 0])), (q2, .inl ((mj_cI κ).1, 20, .inl (fun _ => 0))), (q3, .inl ((mj_cI κ).1, 20, .inl (fun _ => 0))), (q4, .inl ((mj_cI κ).1, 20, .inl (fun _ => 0))), (q5, .inl ((mj_cI κ).1, 20, .inl (fun _ => 0))), (q6, .inr (8, [.ref q7, .ref q8, .ref q9, .ref q10, .int 0])), (q7, .inl ((mj_cI κ).1, 20, .inl (fun _ => 0))), (q8, .inl ((mj_cI κ).1, 20, .inl (fun _ => 0))), (q9, .inl ((mj_cI κ).1, 20, .inl (fun _ => 0))), (q10, .inl ((mj_cI κ).1, 20, .inl (fun _ => 0))), (q11, .inr (8, [.ref q12, .ref q13, .ref q14, .ref q15, .int 0])), (q12, .inl ((mj_cI κ).1, 20, .inl (fun _ => 0))), (q13, .inl ((mj_cI κ).1, 20, .inl (fun _ => 0))), (q14, .inl ((mj_cI κ).1, 20, .inl (fun _ => 0))), (q15, .inl ((mj_cI κ).1, 20, .inl (fun _ => 0)))]) C lF_X8_43 fR_9_12 rfl (fun _ => rfl) (vp_nar_int _) rfl (Nat.le_of_ble_eq_true rfl) dX8_init_70 rfl ?_
  refine mx_aload_n (mx_D C hmc hms rfl rfl) dX8_init_73 rfl ?_
  refine mj_iconst (v := 0) (mx_D C hmc hms rfl rfl) dX8_init_74 (by decide) ?_
  refine mx_put (k := 0) (Y' := [(a0, .inr (9, [.null, .null, .null, .ref q1, .ref q6, .ref q11, .int 6, .int 0, .int 0, .int 0, .int 0, .int 0, .int (-1), .int 0, .int 0, .int 0])), (q1, .inr (8, [.ref q2, .ref q3, .ref q4, .ref q5, .int 0])), (q2, .inl ((mj_cI κ).1, 20, .inl (fun _ => 0))), (q3, .inl ((mj_cI κ).1, 20, .inl (fun _ => 0))), (q4, .inl ((mj_cI κ).1, 20, .inl (fun _ => 0))), (q5, .inl ((mj_cI κ).1, 20, .inl (fun _ => 0))), (q6, .inr (8, [.ref q7, .ref q8, .ref q9, .ref q10, .int 0])), (q7, .inl ((mj_cI κ).1, 20, .inl (fun _ => 0))), (q8, .inl ((mj_cI κ).1, 20, .inl (fun _ => 0))), (q9, .inl ((mj_cI κ).1, 20, .inl (fun _ => 0))), (q10, .inl ((mj_cI κ).1, 20, .inl (fun _ => 0))), (q11, .inr (8, [.ref q12, .ref q13, .ref q14, .ref q15, .int 0])), (q12, .inl ((mj_cI κ).1, 20, .inl (fun _ => 0))), (q13, .inl ((mj_cI κ).1, 20, .inl (fun _ => 0))), (q14, .inl ((mj_cI κ).1, 20, .inl (fun _ => 0))), (q15, .inl ((mj_cI κ).1, 20, .inl (fun _ => 0)))]) C lF_X8_46 fR_9_13 rfl (fun _ => rfl) rfl rfl (Nat.le_of_ble_eq_true rfl) dX8_init_75 rfl ?_
  refine mx_aload_n (mx_D C hmc hms rfl rfl) dX8_init_78 rfl ?_
  refine mj_iconst (v := (-1)) (mx_D C hmc hms rfl rfl) dX8_init_79 (by decide) ?_
  refine mx_put (k := 0) (Y' := [(a0, .inr (9, [.null, .null, .null, .ref q1, .ref q6, .ref q11, .int 6, .int 0, .int 0, .int 0, .int 0, .int 0, .int (-1), .int 0, .int (-1), .int 0])), (q1, .inr (8, [.ref q2, .ref q3, .ref q4, .ref q5, .int 0])), (q2, .inl ((mj_cI κ).1, 20, .inl (fun _ => 0))), (q3, .inl ((mj_cI κ).1, 20, .inl (fun _ => 0))), (q4, .inl ((mj_cI κ).1, 20, .inl (fun _ => 0))), (q5, .inl ((mj_cI κ).1, 20, .inl (fun _ => 0))), (q6, .inr (8, [.ref q7, .ref q8, .ref q9, .ref q10, .int 0])), (q7, .inl ((mj_cI κ).1, 20, .inl (fun _ => 0))), (q8, .inl ((mj_cI κ).1, 20, .inl (fun _ => 0))), (q9, .inl ((mj_cI κ).1, 20, .inl (fun _ => 0))), (q10, .inl ((mj_cI κ).1, 20, .inl (fun _ => 0))), (q11, .inr (8, [.ref q12, .ref q13, .ref q14, .ref q15, .int 0])), (q12, .inl ((mj_cI κ).1, 20, .inl (fun _ => 0))), (q13, .inl ((mj_cI κ).1, 20, .inl (fun _ => 0))), (q14, .inl ((mj_cI κ).1, 20, .inl (fun _ => 0))), (q15, .inl ((mj_cI κ).1, 20, .inl (fun _ => 0)))]) C lF_X8_50 fR_9_14 rfl (fun _ => rfl) (vp_nar_int _) rfl (Nat.le_of_ble_eq_true rfl) dX8_init_80 rfl ?_
  refine mx_aload_n (mx_D C hmc hms rfl rfl) dX8_init_83 rfl ?_
  refine mj_iconst (v := 0) (mx_D C hmc hms rfl rfl) dX8_init_84 (by decide) ?_
  refine mx_put (k := 0) (Y' := [(a0, .inr (9, [.null, .null, .null, .ref q1, .ref q6, .ref q11, .int 6, .int 0, .int 0, .int 0, .int 0, .int 0, .int (-1), .int 0, .int (-1), .int 0])), (q1, .inr (8, [.ref q2, .ref q3, .ref q4, .ref q5, .int 0])), (q2, .inl ((mj_cI κ).1, 20, .inl (fun _ => 0))), (q3, .inl ((mj_cI κ).1, 20, .inl (fun _ => 0))), (q4, .inl ((mj_cI κ).1, 20, .inl (fun _ => 0))), (q5, .inl ((mj_cI κ).1, 20, .inl (fun _ => 0))), (q6, .inr (8, [.ref q7, .ref q8, .ref q9, .ref q10, .int 0])), (q7, .inl ((mj_cI κ).1, 20, .inl (fun _ => 0))), (q8, .inl ((mj_cI κ).1, 20, .inl (fun _ => 0))), (q9, .inl ((mj_cI κ).1, 20, .inl (fun _ => 0))), (q10, .inl ((mj_cI κ).1, 20, .inl (fun _ => 0))), (q11, .inr (8, [.ref q12, .ref q13, .ref q14, .ref q15, .int 0])), (q12, .inl ((mj_cI κ).1, 20, .inl (fun _ => 0))), (q13, .inl ((mj_cI κ).1, 20, .inl (fun _ => 0))), (q14, .inl ((mj_cI κ).1, 20, .inl (fun _ => 0))), (q15, .inl ((mj_cI κ).1, 20, .inl (fun _ => 0)))]) C lF_X8_53 fR_9_15 rfl (fun _ => rfl) (vp_nar_int _) rfl (Nat.le_of_ble_eq_true rfl) dX8_init_85 rfl ?_
  refine mx_aload_n (mx_D C hmc hms rfl rfl) dX8_init_88 rfl ?_
  refine mx_aload_n (mx_D C hmc hms rfl rfl) dX8_init_89 rfl ?_
  refine mx_putF (k := 0) (Y' := [(a0, .inr (9, [.ref a1, .null, .null, .ref q1, .ref q6, .ref q11, .int 6, .int 0, .int 0, .int 0, .int 0, .int 0, .int (-1), .int 0, .int (-1), .int 0])), (q1, .inr (8, [.ref q2, .ref q3, .ref q4, .ref q5, .int 0])), (q2, .inl ((mj_cI κ).1, 20, .inl (fun _ => 0))), (q3, .inl ((mj_cI κ).1, 20, .inl (fun _ => 0))), (q4, .inl ((mj_cI κ).1, 20, .inl (fun _ => 0))), (q5, .inl ((mj_cI κ).1, 20, .inl (fun _ => 0))), (q6, .inr (8, [.ref q7, .ref q8, .ref q9, .ref q10, .int 0])), (q7, .inl ((mj_cI κ).1, 20, .inl (fun _ => 0))), (q8, .inl ((mj_cI κ).1, 20, .inl (fun _ => 0))), (q9, .inl ((mj_cI κ).1, 20, .inl (fun _ => 0))), (q10, .inl ((mj_cI κ).1, 20, .inl (fun _ => 0))), (q11, .inr (8, [.ref q12, .ref q13, .ref q14, .ref q15, .int 0])), (q12, .inl ((mj_cI κ).1, 20, .inl (fun _ => 0))), (q13, .inl ((mj_cI κ).1, 20, .inl (fun _ => 0))), (q14, .inl ((mj_cI κ).1, 20, .inl (fun _ => 0))), (q15, .inl ((mj_cI κ).1, 20, .inl (fun _ => 0)))]) C hN lF_X8_56 ⟨_, rfl, rfl⟩ fR_9_0 rfl (fun _ => rfl) rfl rfl (Nat.le_of_ble_eq_true rfl) dX8_init_90 rfl ?_
  refine mx_aload_n (mx_D C hmc hms rfl rfl) dX8_init_93 rfl ?_
  refine mx_aload_n (mx_D C hmc hms rfl rfl) dX8_init_94 rfl ?_
  refine mx_putF (k := 0) (Y' := [(a0, .inr (9, [.ref a1, .ref a2, .null, .ref q1, .ref q6, .ref q11, .int 6, .int 0, .int 0, .int 0, .int 0, .int 0, .int (-1), .int 0, .int (-1), .int 0])), (q1, .inr (8, [.ref q2, .ref q3, .ref q4, .ref q5, .int 0])), (q2, .inl ((mj_cI κ).1, 20, .inl (fun _ => 0))), (q3, .inl ((mj_cI κ).1, 20, .inl (fun _ => 0))), (q4, .inl ((mj_cI κ).1, 20, .inl (fun _ => 0))), (q5, .inl ((mj_cI κ).1, 20, .inl (fun _ => 0))), (q6, .inr (8, [.ref q7, .ref q8, .ref q9, .ref q10, .int 0])), (q7, .inl ((mj_cI κ).1, 20, .inl (fun _ => 0))), (q8, .inl ((mj_cI κ).1, 20, .inl (fun _ => 0))), (q9, .inl ((mj_cI κ).1, 20, .inl (fun _ => 0))), (q10, .inl ((mj_cI κ).1, 20, .inl (fun _ => 0))), (q11, .inr (8, [.ref q12, .ref q13, .ref q14, .ref q15, .int 0])), (q12, .inl ((mj_cI κ).1, 20, .inl (fun _ => 0))), (q13, .inl ((mj_cI κ).1, 20, .inl (fun _ => 0))), (q14, .inl ((mj_cI κ).1, 20, .inl (fun _ => 0))), (q15, .inl ((mj_cI κ).1, 20, .inl (fun _ => 0)))]) C hN lF_X8_60 ⟨_, rfl, rfl⟩ fR_9_1 rfl (fun _ => rfl) rfl rfl (Nat.le_of_ble_eq_true rfl) dX8_init_95 rfl ?_
  refine mx_aload_n (mx_D C hmc hms rfl rfl) dX8_init_98 rfl ?_
  refine mx_aload_n (mx_D C hmc hms rfl rfl) dX8_init_99 rfl ?_
  refine mx_putF (k := 0) (Y' := [(a0, .inr (9, [.ref a1, .ref a2, .ref a3, .ref q1, .ref q6, .ref q11, .int 6, .int 0, .int 0, .int 0, .int 0, .int 0, .int (-1), .int 0, .int (-1), .int 0])), (q1, .inr (8, [.ref q2, .ref q3, .ref q4, .ref q5, .int 0])), (q2, .inl ((mj_cI κ).1, 20, .inl (fun _ => 0))), (q3, .inl ((mj_cI κ).1, 20, .inl (fun _ => 0))), (q4, .inl ((mj_cI κ).1, 20, .inl (fun _ => 0))), (q5, .inl ((mj_cI κ).1, 20, .inl (fun _ => 0))), (q6, .inr (8, [.ref q7, .ref q8, .ref q9, .ref q10, .int 0])), (q7, .inl ((mj_cI κ).1, 20, .inl (fun _ => 0))), (q8, .inl ((mj_cI κ).1, 20, .inl (fun _ => 0))), (q9, .inl ((mj_cI κ).1, 20, .inl (fun _ => 0))), (q10, .inl ((mj_cI κ).1, 20, .inl (fun _ => 0))), (q11, .inr (8, [.ref q12, .ref q13, .ref q14, .ref q15, .int 0])), (q12, .inl ((mj_cI κ).1, 20, .inl (fun _ => 0))), (q13, .inl ((mj_cI κ).1, 20, .inl (fun _ => 0))), (q14, .inl ((mj_cI κ).1, 20, .inl (fun _ => 0))), (q15, .inl ((mj_cI κ).1, 20, .inl (fun _ => 0)))]) C hN lF_X8_64 ⟨_, rfl, rfl⟩ fR_9_2 rfl (fun _ => rfl) rfl rfl (Nat.le_of_ble_eq_true rfl) dX8_init_100 rfl ?_
  exact mx_vret C hT (Nat.le_of_ble_eq_true rfl) (Nat.le_of_ble_eq_true rfl) dX8_init_103 ⟨rfl, q1, q2, q3, q4, q5, q6, q7, q8, q9, q10, q11, q12, q13, q14, q15, rfl⟩
set_option maxHeartbeats 8000000 in
set_option maxRecDepth 40000 in
theorem K_X5_init {cI : mj_I} {a0 : Nat} : mx_Sem cI yX5_init cX5_init 1 none 2 4 452 [mj_o (some a0)] [(a0, .inr (6, [.null, .int 0, .null, .int 0, .int 0, .int 0, .int 0, .int 0, .int 0]))] (fun r Y' => r = none ∧ ∃ q1 q2 q3 q4 : Nat, Y' = [(a0, .inr (6, [.ref q1, .int 0, .ref q2, .int 0, .int (-1), .int 0, .int 0, .int 0, .int 0])), (q1, .inl (cI.1, 400, .inl (fun _ => 0))), (q2, .inr (5, [.ref q3, .ref q4, .int 0, .int 0])), (q3, .inl (cI.1, 24, .inl (fun _ => 0))), (q4, .inl (cI.1, 24, .inl (fun _ => 0)))]) := by
  refine mx_intro (by decide) (Nat.le_of_ble_eq_true rfl) ?_
  intro κ M C hcI hR hmc hms hT hN
  subst hcI
  have C : mj_C κ cX5_init 1 RX5 := C
  show mj_R (mj_ky κ [(a0, .inr (6, [.null, .int 0, .null, .int 0, .int 0, .int 0, .int 0, .int 0, .int 0]))] 0 0) (mx_F κ M 4 452 _) 0 [some (mj_o (some a0))] [] M
  refine mx_aload_n (mx_D C hmc hms rfl rfl) dX5_init_0 rfl ?_
  refine mx_objInit C lM_X5_3 rfl mx_oi mx_oc (mj_rmc hR (by decide)) (Nat.le_of_ble_eq_true rfl) dX5_init_1 ?_
  refine mx_aload_n (mx_D C hmc hms rfl rfl) dX5_init_4 rfl ?_
  refine mj_sipush (v := 400) (mx_D C hmc hms rfl rfl) dX5_init_5 (by decide) ?_
  refine mx_newi (N' := 400) C mx_ai (by decide) (by decide) (by decide) (mx_lc hmc rfl) (mx_ls hms rfl) dX5_init_8 (fun q1 => ?_)
  show mj_R (mj_ky κ [(a0, .inr (6, [.null, .int 0, .null, .int 0, .int 0, .int 0, .int 0, .int 0, .int 0])), (q1, .inl ((mj_cI κ).1, 400, .inl (fun _ => 0)))] 1 400) _ 10 [some (mj_o (some a0))] [mj_o (some q1), mj_o (some a0)] M
  refine mx_putF (k := 0) (Y' := [(a0, .inr (6, [.ref q1, .int 0, .null, .int 0, .int 0, .int 0, .int 0, .int 0, .int 0])), (q1, .inl ((mj_cI κ).1, 400, .inl (fun _ => 0)))]) C hN lF_X5_11 ⟨_, rfl, rfl⟩ fR_6_0 rfl (fun _ => rfl) rfl rfl (Nat.le_of_ble_eq_true rfl) dX5_init_10 rfl ?_
  refine mx_aload_n (mx_D C hmc hms rfl rfl) dX5_init_13 rfl ?_
  refine mj_iconst (v := 0) (mx_D C hmc hms rfl rfl) dX5_init_14 (by decide) ?_
  refine mx_put (k := 0) (Y' := [(a0, .inr (6, [.ref q1, .int 0, .null, .int 0, .int 0, .int 0, .int 0, .int 0, .int 0])), (q1, .inl ((mj_cI κ).1, 400, .inl (fun _ => 0)))]) C lF_X5_15 fR_6_1 rfl (fun _ => rfl) (vp_nar_int _) rfl (Nat.le_of_ble_eq_true rfl) dX5_init_15 rfl ?_
  refine mx_aload_n (mx_D C hmc hms rfl rfl) dX5_init_18 rfl ?_
  refine mx_new (fs := [.null, .null, .int 0, .int 0]) tyX4 C (ci := 5) rfl inTX4 tyX4_ok (by exact (mj_in2 167 rfl rfl)) (by exact (mj_in2 103 rfl rfl)) (by exact (mj_in1 10 rfl rfl)) (fun j hj => by rcases (show j = 0 ∨ j = 1 ∨ j = 2 ∨ j = 3 by omega) with rfl | rfl | rfl | rfl <;> rfl) (mx_lc hmc rfl) (mx_ls hms rfl) dX5_init_19 (fun q2 => ?_)
  show mj_R (mj_ky κ [(a0, .inr (6, [.ref q1, .int 0, .null, .int 0, .int 0, .int 0, .int 0, .int 0, .int 0])), (q1, .inl ((mj_cI κ).1, 400, .inl (fun _ => 0))), (q2, .inr (5, [.null, .null, .int 0, .int 0]))] 2 404) _ 22 [some (mj_o (some a0))] [mj_o (some q2), mj_o (some a0)] M
  refine mj_dup (mx_D C hmc hms rfl rfl) dX5_init_22 ?_
  refine mx_callIN (av := []) (Y0 := [(a0, .inr (6, [.ref q1, .int 0, .null, .int 0, .int 0, .int 0, .int 0, .int 0, .int 0])), (q1, .inl ((mj_cI κ).1, 400, .inl (fun _ => 0)))]) (ce := 2) (sl := 404) C lN_X5_21 lk_X4_init rfl (mj_in2 105 rfl rfl) rfl (K_X4_init (a0 := q2)) rfl (mx_fit hR hmc hms rfl rfl rfl rfl) rfl (Nat.le_of_ble_eq_true rfl) dX5_init_23 (fun r Y' hp => ?_)
  obtain ⟨rfl, q3, q4, rfl⟩ := hp
  show mj_R (mj_ky κ [(a0, .inr (6, [.ref q1, .int 0, .null, .int 0, .int 0, .int 0, .int 0, .int 0, .int 0])), (q1, .inl ((mj_cI κ).1, 400, .inl (fun _ => 0))), (q2, .inr (5, [.ref q3, .ref q4, .int 0, .int 0])), (q3, .inl ((mj_cI κ).1, 24, .inl (fun _ => 0))), (q4, .inl ((mj_cI κ).1, 24, .inl (fun _ => 0)))] 4 452) _ 26 [some (mj_o (some a0))] [mj_o (some q2), mj_o (some a0)] M
  refine mx_putF (k := 0) (Y' := [(a0, .inr (6, [.ref q1, .int 0, .ref q2, .int 0, .int 0, .int 0, .int 0, .int 0, .int 0])), (q1, .inl ((mj_cI κ).1, 400, .inl (fun _ => 0))), (q2, .inr (5, [.ref q3, .ref q4, .int 0, .int 0])), (q3, .inl ((mj_cI κ).1, 24, .inl (fun _ => 0))), (q4, .inl ((mj_cI κ).1, 24, .inl (fun _ => 0)))]) C hN lF_X5_22 ⟨_, rfl, rfl⟩ fR_6_2 rfl (fun _ => rfl) rfl rfl (Nat.le_of_ble_eq_true rfl) dX5_init_26 rfl ?_
  refine mx_aload_n (mx_D C hmc hms rfl rfl) dX5_init_29 rfl ?_
  refine mj_iconst (v := 0) (mx_D C hmc hms rfl rfl) dX5_init_30 (by decide) ?_
  refine mx_put (k := 0) (Y' := [(a0, .inr (6, [.ref q1, .int 0, .ref q2, .int 0, .int 0, .int 0, .int 0, .int 0, .int 0])), (q1, .inl ((mj_cI κ).1, 400, .inl (fun _ => 0))), (q2, .inr (5, [.ref q3, .ref q4, .int 0, .int 0])), (q3, .inl ((mj_cI κ).1, 24, .inl (fun _ => 0))), (q4, .inl ((mj_cI κ).1, 24, .inl (fun _ => 0)))]) C lF_X5_26 fR_6_3 rfl (fun _ => rfl) (vp_nar_int _) rfl (Nat.le_of_ble_eq_true rfl) dX5_init_31 rfl ?_
  refine mx_aload_n (mx_D C hmc hms rfl rfl) dX5_init_34 rfl ?_
  refine mj_iconst (v := (-1)) (mx_D C hmc hms rfl rfl) dX5_init_35 (by decide) ?_
  refine mx_put (k := 0) (Y' := [(a0, .inr (6, [.ref q1, .int 0, .ref q2, .int 0, .int (-1), .int 0, .int 0, .int 0, .int 0])), (q1, .inl ((mj_cI κ).1, 400, .inl (fun _ => 0))), (q2, .inr (5, [.ref q3, .ref q4, .int 0, .int 0])), (q3, .inl ((mj_cI κ).1, 24, .inl (fun _ => 0))), (q4, .inl ((mj_cI κ).1, 24, .inl (fun _ => 0)))]) C lF_X5_29 fR_6_4 rfl (fun _ => rfl) (vp_nar_int _) rfl (Nat.le_of_ble_eq_true rfl) dX5_init_36 rfl ?_
  refine mx_aload_n (mx_D C hmc hms rfl rfl) dX5_init_39 rfl ?_
  refine mj_iconst (v := 0) (mx_D C hmc hms rfl rfl) dX5_init_40 (by decide) ?_
  refine mx_put (k := 0) (Y' := [(a0, .inr (6, [.ref q1, .int 0, .ref q2, .int 0, .int (-1), .int 0, .int 0, .int 0, .int 0])), (q1, .inl ((mj_cI κ).1, 400, .inl (fun _ => 0))), (q2, .inr (5, [.ref q3, .ref q4, .int 0, .int 0])), (q3, .inl ((mj_cI κ).1, 24, .inl (fun _ => 0))), (q4, .inl ((mj_cI κ).1, 24, .inl (fun _ => 0)))]) C lF_X5_32 fR_6_5 rfl (fun _ => rfl) (vp_nar_int _) rfl (Nat.le_of_ble_eq_true rfl) dX5_init_41 rfl ?_
  refine mx_aload_n (mx_D C hmc hms rfl rfl) dX5_init_44 rfl ?_
  refine mj_iconst (v := 0) (mx_D C hmc hms rfl rfl) dX5_init_45 (by decide) ?_
  refine mx_put (k := 0) (Y' := [(a0, .inr (6, [.ref q1, .int 0, .ref q2, .int 0, .int (-1), .int 0, .int 0, .int 0, .int 0])), (q1, .inl ((mj_cI κ).1, 400, .inl (fun _ => 0))), (q2, .inr (5, [.ref q3, .ref q4, .int 0, .int 0])), (q3, .inl ((mj_cI κ).1, 24, .inl (fun _ => 0))), (q4, .inl ((mj_cI κ).1, 24, .inl (fun _ => 0)))]) C lF_X5_35 fR_6_6 rfl (fun _ => rfl) (vp_nar_int _) rfl (Nat.le_of_ble_eq_true rfl) dX5_init_46 rfl ?_
  refine mx_aload_n (mx_D C hmc hms rfl rfl) dX5_init_49 rfl ?_
  refine mj_iconst (v := 0) (mx_D C hmc hms rfl rfl) dX5_init_50 (by decide) ?_
  refine mx_put (k := 0) (Y' := [(a0, .inr (6, [.ref q1, .int 0, .ref q2, .int 0, .int (-1), .int 0, .int 0, .int 0, .int 0])), (q1, .inl ((mj_cI κ).1, 400, .inl (fun _ => 0))), (q2, .inr (5, [.ref q3, .ref q4, .int 0, .int 0])), (q3, .inl ((mj_cI κ).1, 24, .inl (fun _ => 0))), (q4, .inl ((mj_cI κ).1, 24, .inl (fun _ => 0)))]) C lF_X5_38 fR_6_7 rfl (fun _ => rfl) (vp_nar_int _) rfl (Nat.le_of_ble_eq_true rfl) dX5_init_51 rfl ?_
  refine mx_aload_n (mx_D C hmc hms rfl rfl) dX5_init_54 rfl ?_
  refine mj_iconst (v := 0) (mx_D C hmc hms rfl rfl) dX5_init_55 (by decide) ?_
  refine mx_put (k := 0) (Y' := [(a0, .inr (6, [.ref q1, .int 0, .ref q2, .int 0, .int (-1), .int 0, .int 0, .int 0, .int 0])), (q1, .inl ((mj_cI κ).1, 400, .inl (fun _ => 0))), (q2, .inr (5, [.ref q3, .ref q4, .int 0, .int 0])), (q3, .inl ((mj_cI κ).1, 24, .inl (fun _ => 0))), (q4, .inl ((mj_cI κ).1, 24, .inl (fun _ => 0)))]) C lF_X5_41 fR_6_8 rfl (fun _ => rfl) (vp_nar_int _) rfl (Nat.le_of_ble_eq_true rfl) dX5_init_56 rfl ?_
  exact mx_vret C hT (Nat.le_of_ble_eq_true rfl) (Nat.le_of_ble_eq_true rfl) dX5_init_59 ⟨rfl, q1, q2, q3, q4, rfl⟩
set_option maxHeartbeats 8000000 in
set_option maxRecDepth 40000 in
theorem K_X3_init {cI : mj_I} {a0 : Nat} : mx_Sem cI yX3_init cX3_init 1 none 3 46 2467 [mj_o (some a0)] [(a0, .inr (4, [.null, .null, .null, .null, .null, .null, .null, .null]))] (fun r Y' => r = none ∧ ∃ q1 q2 q3 q4 q5 q6 q7 q8 q9 q10 q11 q12 q13 q14 q15 q16 q17 q18 q19 q20 q21 q22 q23 q24 q25 q26 q27 q28 q29 q30 q31 q32 q33 q34 q35 q36 q37 q38 q39 q40 q41 q42 q43 q44 q45 q46 : Nat, Y' = [(a0, .inr (4, [.ref q1, .ref q3, .ref q6, .ref q10, .ref q18, .ref q34, .ref q39, .ref q44])), (q1, .inr (1, [.int 0, .int 0, .ref q2])), (q2, .inl (cI.1, 11, .inl (mj_sa 0))), (q3, .inr (3, [.ref q1, .ref q4, .int 0, .ref q5, .int 0, .int 0])), (q4, .inl (cI.1, 700, .inl (fun _ => 0))), (q5, .inl (cI.1, 100, .inl (fun _ => 0))), (q6, .inr (2, [.ref q1, .ref q7, .int 0, .ref q8, .int 0, .int 0, .ref q9])), (q7, .inl (cI.1, 240, .inl (fun _ => 0))), (q8, .inl (cI.1, 60, .inl (fun _ => 0))), (q9, .inl (cI.1, 9, .inl (fun _ => 0))), (q10, .inr (7, [.ref q1, .ref q3, .int 0, .int 0, .int 0, .int 0, .int 0, .ref q11, .ref q16, .int 0, .ref q17, .int 0, .int 0])), (q11, .inr (8, [.ref q12, .ref q13, .ref q14, .ref q15, .int 0])), (q12, .inl (cI.1, 20, .inl (fun _ => 0))), (q13, .inl (cI.1, 20, .inl (fun _ => 0))), (q14, .inl (cI.1, 20, .inl (fun _ => 0))), (q15, .inl (cI.1, 20, .inl (fun _ => 0))), (q16, .inl (cI.1, 100, .inl (fun _ => 0))), (q17, .inl (cI.1, 100, .inl (fun _ => 0))), (q18, .inr (9, [.ref q1, .ref q3, .ref q6, .ref q19, .ref q24, .ref q29, .int 6, .int 0, .int 0, .int 0, .int 0, .int 0, .int (-1), .int 0, .int (-1), .int 0])), (q19, .inr (8, [.ref q20, .ref q21, .ref q22, .ref q23, .int 0])), (q20, .inl (cI.1, 20, .inl (fun _ => 0))), (q21, .inl (cI.1, 20, .inl (fun _ => 0))), (q22, .inl (cI.1, 20, .inl (fun _ => 0))), (q23, .inl (cI.1, 20, .inl (fun _ => 0))), (q24, .inr (8, [.ref q25, .ref q26, .ref q27, .ref q28, .int 0])), (q25, .inl (cI.1, 20, .inl (fun _ => 0))), (q26, .inl (cI.1, 20, .inl (fun _ => 0))), (q27, .inl (cI.1, 20, .inl (fun _ => 0))), (q28, .inl (cI.1, 20, .inl (fun _ => 0))), (q29, .inr (8, [.ref q30, .ref q31, .ref q32, .ref q33, .int 0])), (q30, .inl (cI.1, 20, .inl (fun _ => 0))), (q31, .inl (cI.1, 20, .inl (fun _ => 0))), (q32, .inl (cI.1, 20, .inl (fun _ => 0))), (q33, .inl (cI.1, 20, .inl (fun _ => 0))), (q34, .inr (10, [.ref q1, .int 5, .int 6, .ref q35, .ref q36, .ref q37, .ref q38, .int 0, .int 0, .int 0, .int 0])), (q35, .inl (cI.1, 240, .inl (fun _ => 0))), (q36, .inl (cI.1, 48, .inl (fun _ => 0))), (q37, .inl (cI.1, 48, .inl (fun _ => 0))), (q38, .inl (cI.1, 8, .inl (fun _ => 0))), (q39, .inr (10, [.ref q1, .int 3, .int 7, .ref q40, .ref q41, .ref q42, .ref q43, .int 0, .int 0, .int 0, .int 0])), (q40, .inl (cI.1, 240, .inl (fun _ => 0))), (q41, .inl (cI.1, 48, .inl (fun _ => 0))), (q42, .inl (cI.1, 48, .inl (fun _ => 0))), (q43, .inl (cI.1, 8, .inl (fun _ => 0))), (q44, .inr (5, [.ref q45, .ref q46, .int 0, .int 0])), (q45, .inl (cI.1, 24, .inl (fun _ => 0))), (q46, .inl (cI.1, 24, .inl (fun _ => 0)))]) := by
  refine mx_intro (by decide) (Nat.le_of_ble_eq_true rfl) ?_
  intro κ M C hcI hR hmc hms hT hN
  subst hcI
  have C : mj_C κ cX3_init 1 RX3 := C
  show mj_R (mj_ky κ [(a0, .inr (4, [.null, .null, .null, .null, .null, .null, .null, .null]))] 0 0) (mx_F κ M 46 2467 _) 0 [some (mj_o (some a0))] [] M
  refine mx_aload_n (mx_D C hmc hms rfl rfl) dX3_init_0 rfl ?_
  refine mx_objInit C lM_X3_3 rfl mx_oi mx_oc (mj_rmc hR (by decide)) (Nat.le_of_ble_eq_true rfl) dX3_init_1 ?_
  refine mx_aload_n (mx_D C hmc hms rfl rfl) dX3_init_4 rfl ?_
  refine mx_new (fs := [.int 0, .int 0, .null]) tyX0 C (ci := 1) rfl inTX0 tyX0_ok (by exact (mj_in1 38 rfl rfl)) (by exact (mj_in1 39 rfl rfl)) (by exact (mj_in1 3 rfl rfl)) (fun j hj => by rcases (show j = 0 ∨ j = 1 ∨ j = 2 by omega) with rfl | rfl | rfl <;> rfl) (mx_lc hmc rfl) (mx_ls hms rfl) dX3_init_5 (fun q1 => ?_)
  show mj_R (mj_ky κ [(a0, .inr (4, [.null, .null, .null, .null, .null, .null, .null, .null])), (q1, .inr (1, [.int 0, .int 0, .null]))] 1 3) _ 8 [some (mj_o (some a0))] [mj_o (some q1), mj_o (some a0)] M
  refine mj_dup (mx_D C hmc hms rfl rfl) dX3_init_8 ?_
  refine mx_callIN (av := []) (Y0 := [(a0, .inr (4, [.null, .null, .null, .null, .null, .null, .null, .null]))]) (ce := 1) (sl := 3) C lN_X3_11 lk_X0_init rfl (mj_in1 41 rfl rfl) rfl (K_X0_init (a0 := q1)) rfl (mx_fit hR hmc hms rfl rfl rfl rfl) rfl (Nat.le_of_ble_eq_true rfl) dX3_init_9 (fun r Y' hp => ?_)
  obtain ⟨rfl, q2, rfl⟩ := hp
  show mj_R (mj_ky κ [(a0, .inr (4, [.null, .null, .null, .null, .null, .null, .null, .null])), (q1, .inr (1, [.int 0, .int 0, .ref q2])), (q2, .inl ((mj_cI κ).1, 11, .inl (mj_sa 0)))] 2 14) _ 12 [some (mj_o (some a0))] [mj_o (some q1), mj_o (some a0)] M
  refine mx_putF (k := 0) (Y' := [(a0, .inr (4, [.ref q1, .null, .null, .null, .null, .null, .null, .null])), (q1, .inr (1, [.int 0, .int 0, .ref q2])), (q2, .inl ((mj_cI κ).1, 11, .inl (mj_sa 0)))]) C hN lF_X3_12 ⟨_, rfl, rfl⟩ fR_4_0 rfl (fun _ => rfl) rfl rfl (Nat.le_of_ble_eq_true rfl) dX3_init_12 rfl ?_
  refine mx_aload_n (mx_D C hmc hms rfl rfl) dX3_init_15 rfl ?_
  refine mx_new (fs := [.null, .null, .int 0, .null, .int 0, .int 0]) tyX2 C (ci := 3) rfl inTX2 tyX2_ok (by exact (mj_in1 74 rfl rfl)) (by exact (mj_in1 75 rfl rfl)) (by exact (mj_in1 4 rfl rfl)) (fun j hj => by rcases (show j = 0 ∨ j = 1 ∨ j = 2 ∨ j = 3 ∨ j = 4 ∨ j = 5 by omega) with rfl | rfl | rfl | rfl | rfl | rfl <;> rfl) (mx_lc hmc rfl) (mx_ls hms rfl) dX3_init_16 (fun q3 => ?_)
  show mj_R (mj_ky κ [(a0, .inr (4, [.ref q1, .null, .null, .null, .null, .null, .null, .null])), (q1, .inr (1, [.int 0, .int 0, .ref q2])), (q2, .inl ((mj_cI κ).1, 11, .inl (mj_sa 0))), (q3, .inr (3, [.null, .null, .int 0, .null, .int 0, .int 0]))] 3 20) _ 19 [some (mj_o (some a0))] [mj_o (some q3), mj_o (some a0)] M
  refine mj_dup (mx_D C hmc hms rfl rfl) dX3_init_19 ?_
  refine mx_aload_n (mx_D C hmc hms rfl rfl) dX3_init_20 rfl ?_
  refine mx_get (k := 0) (w := mj_o (some q1)) C lF_X3_12 rfl rfl (fun _ => rfl) dX3_init_21 ?_
  refine mx_callI (av := [mj_o (some q1)]) (Y0 := [(a0, .inr (4, [.ref q1, .null, .null, .null, .null, .null, .null, .null])), (q1, .inr (1, [.int 0, .int 0, .ref q2])), (q2, .inl ((mj_cI κ).1, 11, .inl (mj_sa 0)))]) (ce := 3) (sl := 20) C lM_X3_20 lk_X2_init rfl (mj_in1 77 rfl rfl) rfl (K_X2_init (a0 := q3) (a1 := q1)) rfl (mx_fit hR hmc hms rfl rfl rfl rfl) rfl (Nat.le_of_ble_eq_true rfl) dX3_init_24 (fun r Y' hp => ?_)
  obtain ⟨rfl, q4, q5, rfl⟩ := hp
  show mj_R (mj_ky κ [(a0, .inr (4, [.ref q1, .null, .null, .null, .null, .null, .null, .null])), (q1, .inr (1, [.int 0, .int 0, .ref q2])), (q2, .inl ((mj_cI κ).1, 11, .inl (mj_sa 0))), (q3, .inr (3, [.ref q1, .ref q4, .int 0, .ref q5, .int 0, .int 0])), (q4, .inl ((mj_cI κ).1, 700, .inl (fun _ => 0))), (q5, .inl ((mj_cI κ).1, 100, .inl (fun _ => 0)))] 5 820) _ 27 [some (mj_o (some a0))] [mj_o (some q3), mj_o (some a0)] M
  refine mx_putF (k := 0) (Y' := [(a0, .inr (4, [.ref q1, .ref q3, .null, .null, .null, .null, .null, .null])), (q1, .inr (1, [.int 0, .int 0, .ref q2])), (q2, .inl ((mj_cI κ).1, 11, .inl (mj_sa 0))), (q3, .inr (3, [.ref q1, .ref q4, .int 0, .ref q5, .int 0, .int 0])), (q4, .inl ((mj_cI κ).1, 700, .inl (fun _ => 0))), (q5, .inl ((mj_cI κ).1, 100, .inl (fun _ => 0)))]) C hN lF_X3_23 ⟨_, rfl, rfl⟩ fR_4_1 rfl (fun _ => rfl) rfl rfl (Nat.le_of_ble_eq_true rfl) dX3_init_27 rfl ?_
  refine mx_aload_n (mx_D C hmc hms rfl rfl) dX3_init_30 rfl ?_
  refine mx_new (fs := [.null, .null, .int 0, .null, .int 0, .int 0, .null]) tyX1 C (ci := 2) rfl inTX1 tyX1_ok (by exact (mj_in1 101 rfl rfl)) (by exact (mj_in1 102 rfl rfl)) (by exact (mj_in1 5 rfl rfl)) (fun j hj => by rcases (show j = 0 ∨ j = 1 ∨ j = 2 ∨ j = 3 ∨ j = 4 ∨ j = 5 ∨ j = 6 by omega) with rfl | rfl | rfl | rfl | rfl | rfl | rfl <;> rfl) (mx_lc hmc rfl) (mx_ls hms rfl) dX3_init_31 (fun q6 => ?_)
  show mj_R (mj_ky κ [(a0, .inr (4, [.ref q1, .ref q3, .null, .null, .null, .null, .null, .null])), (q1, .inr (1, [.int 0, .int 0, .ref q2])), (q2, .inl ((mj_cI κ).1, 11, .inl (mj_sa 0))), (q3, .inr (3, [.ref q1, .ref q4, .int 0, .ref q5, .int 0, .int 0])), (q4, .inl ((mj_cI κ).1, 700, .inl (fun _ => 0))), (q5, .inl ((mj_cI κ).1, 100, .inl (fun _ => 0))), (q6, .inr (2, [.null, .null, .int 0, .null, .int 0, .int 0, .null]))] 6 827) _ 34 [some (mj_o (some a0))] [mj_o (some q6), mj_o (some a0)] M
  refine mj_dup (mx_D C hmc hms rfl rfl) dX3_init_34 ?_
  refine mx_aload_n (mx_D C hmc hms rfl rfl) dX3_init_35 rfl ?_
  refine mx_get (k := 0) (w := mj_o (some q1)) C lF_X3_12 rfl rfl (fun _ => rfl) dX3_init_36 ?_
  refine mx_callI (av := [mj_o (some q1)]) (Y0 := [(a0, .inr (4, [.ref q1, .ref q3, .null, .null, .null, .null, .null, .null])), (q1, .inr (1, [.int 0, .int 0, .ref q2])), (q2, .inl ((mj_cI κ).1, 11, .inl (mj_sa 0))), (q3, .inr (3, [.ref q1, .ref q4, .int 0, .ref q5, .int 0, .int 0])), (q4, .inl ((mj_cI κ).1, 700, .inl (fun _ => 0))), (q5, .inl ((mj_cI κ).1, 100, .inl (fun _ => 0)))]) (ce := 6) (sl := 827) C lM_X3_29 lk_X1_init rfl (mj_in1 104 rfl rfl) rfl (K_X1_init (a0 := q6) (a1 := q1)) rfl (mx_fit hR hmc hms rfl rfl rfl rfl) rfl (Nat.le_of_ble_eq_true rfl) dX3_init_39 (fun r Y' hp => ?_)
  obtain ⟨rfl, q7, q8, q9, rfl⟩ := hp
  show mj_R (mj_ky κ [(a0, .inr (4, [.ref q1, .ref q3, .null, .null, .null, .null, .null, .null])), (q1, .inr (1, [.int 0, .int 0, .ref q2])), (q2, .inl ((mj_cI κ).1, 11, .inl (mj_sa 0))), (q3, .inr (3, [.ref q1, .ref q4, .int 0, .ref q5, .int 0, .int 0])), (q4, .inl ((mj_cI κ).1, 700, .inl (fun _ => 0))), (q5, .inl ((mj_cI κ).1, 100, .inl (fun _ => 0))), (q6, .inr (2, [.ref q1, .ref q7, .int 0, .ref q8, .int 0, .int 0, .ref q9])), (q7, .inl ((mj_cI κ).1, 240, .inl (fun _ => 0))), (q8, .inl ((mj_cI κ).1, 60, .inl (fun _ => 0))), (q9, .inl ((mj_cI κ).1, 9, .inl (fun _ => 0)))] 9 1136) _ 42 [some (mj_o (some a0))] [mj_o (some q6), mj_o (some a0)] M
  refine mx_putF (k := 0) (Y' := [(a0, .inr (4, [.ref q1, .ref q3, .ref q6, .null, .null, .null, .null, .null])), (q1, .inr (1, [.int 0, .int 0, .ref q2])), (q2, .inl ((mj_cI κ).1, 11, .inl (mj_sa 0))), (q3, .inr (3, [.ref q1, .ref q4, .int 0, .ref q5, .int 0, .int 0])), (q4, .inl ((mj_cI κ).1, 700, .inl (fun _ => 0))), (q5, .inl ((mj_cI κ).1, 100, .inl (fun _ => 0))), (q6, .inr (2, [.ref q1, .ref q7, .int 0, .ref q8, .int 0, .int 0, .ref q9])), (q7, .inl ((mj_cI κ).1, 240, .inl (fun _ => 0))), (q8, .inl ((mj_cI κ).1, 60, .inl (fun _ => 0))), (q9, .inl ((mj_cI κ).1, 9, .inl (fun _ => 0)))]) C hN lF_X3_30 ⟨_, rfl, rfl⟩ fR_4_2 rfl (fun _ => rfl) rfl rfl (Nat.le_of_ble_eq_true rfl) dX3_init_42 rfl ?_
  refine mx_aload_n (mx_D C hmc hms rfl rfl) dX3_init_45 rfl ?_
  refine mx_new (fs := [.null, .null, .int 0, .int 0, .int 0, .int 0, .int 0, .null, .null, .int 0, .null, .int 0, .int 0]) tyX6 C (ci := 7) rfl inTX6 tyX6_ok (by exact (mj_in1 133 rfl rfl)) (by exact (mj_in1 134 rfl rfl)) (by exact (mj_in1 6 rfl rfl)) (fun j hj => by rcases (show j = 0 ∨ j = 1 ∨ j = 2 ∨ j = 3 ∨ j = 4 ∨ j = 5 ∨ j = 6 ∨ j = 7 ∨ j = 8 ∨ j = 9 ∨ j = 10 ∨ j = 11 ∨ j = 12 by omega) with rfl | rfl | rfl | rfl | rfl | rfl | rfl | rfl | rfl | rfl | rfl | rfl | rfl <;> rfl) (mx_lc hmc rfl) (mx_ls hms rfl) dX3_init_46 (fun q10 => ?_)
  show mj_R (mj_ky κ [(a0, .inr (4, [.ref q1, .ref q3, .ref q6, .null, .null, .null, .null, .null])), (q1, .inr (1, [.int 0, .int 0, .ref q2])), (q2, .inl ((mj_cI κ).1, 11, .inl (mj_sa 0))), (q3, .inr (3, [.ref q1, .ref q4, .int 0, .ref q5, .int 0, .int 0])), (q4, .inl ((mj_cI κ).1, 700, .inl (fun _ => 0))), (q5, .inl ((mj_cI κ).1, 100, .inl (fun _ => 0))), (q6, .inr (2, [.ref q1, .ref q7, .int 0, .ref q8, .int 0, .int 0, .ref q9])), (q7, .inl ((mj_cI κ).1, 240, .inl (fun _ => 0))), (q8, .inl ((mj_cI κ).1, 60, .inl (fun _ => 0))), (q9, .inl ((mj_cI κ).1, 9, .inl (fun _ => 0))), (q10, .inr (7, [.null, .null, .int 0, .int 0, .int 0, .int 0, .int 0, .null, .null, .int 0, .null, .int 0, .int 0]))] 10 1149) _ 49 [some (mj_o (some a0))] [mj_o (some q10), mj_o (some a0)] M
  refine mj_dup (mx_D C hmc hms rfl rfl) dX3_init_49 ?_
  refine mx_aload_n (mx_D C hmc hms rfl rfl) dX3_init_50 rfl ?_
  refine mx_get (k := 0) (w := mj_o (some q1)) C lF_X3_12 rfl rfl (fun _ => rfl) dX3_init_51 ?_
  refine mx_aload_n (mx_D C hmc hms rfl rfl) dX3_init_54 rfl ?_
  refine mx_get (k := 0) (w := mj_o (some q3)) C lF_X3_23 rfl rfl (fun _ => rfl) dX3_init_55 ?_
  refine mx_callI (av := [mj_o (some q1), mj_o (some q3)]) (Y0 := [(a0, .inr (4, [.ref q1, .ref q3, .ref q6, .null, .null, .null, .null, .null])), (q1, .inr (1, [.int 0, .int 0, .ref q2])), (q2, .inl ((mj_cI κ).1, 11, .inl (mj_sa 0))), (q3, .inr (3, [.ref q1, .ref q4, .int 0, .ref q5, .int 0, .int 0])), (q4, .inl ((mj_cI κ).1, 700, .inl (fun _ => 0))), (q5, .inl ((mj_cI κ).1, 100, .inl (fun _ => 0))), (q6, .inr (2, [.ref q1, .ref q7, .int 0, .ref q8, .int 0, .int 0, .ref q9])), (q7, .inl ((mj_cI κ).1, 240, .inl (fun _ => 0))), (q8, .inl ((mj_cI κ).1, 60, .inl (fun _ => 0))), (q9, .inl ((mj_cI κ).1, 9, .inl (fun _ => 0)))]) (ce := 10) (sl := 1149) C lM_X3_36 lk_X6_init rfl (mj_in1 136 rfl rfl) rfl (K_X6_init (a0 := q10) (a1 := q1) (a2 := q3)) rfl (mx_fit hR hmc hms rfl rfl rfl rfl) rfl (Nat.le_of_ble_eq_true rfl) dX3_init_58 (fun r Y' hp => ?_)
  obtain ⟨rfl, q11, q12, q13, q14, q15, q16, q17, rfl⟩ := hp
  show mj_R (mj_ky κ [(a0, .inr (4, [.ref q1, .ref q3, .ref q6, .null, .null, .null, .null, .null])), (q1, .inr (1, [.int 0, .int 0, .ref q2])), (q2, .inl ((mj_cI κ).1, 11, .inl (mj_sa 0))), (q3, .inr (3, [.ref q1, .ref q4, .int 0, .ref q5, .int 0, .int 0])), (q4, .inl ((mj_cI κ).1, 700, .inl (fun _ => 0))), (q5, .inl ((mj_cI κ).1, 100, .inl (fun _ => 0))), (q6, .inr (2, [.ref q1, .ref q7, .int 0, .ref q8, .int 0, .int 0, .ref q9])), (q7, .inl ((mj_cI κ).1, 240, .inl (fun _ => 0))), (q8, .inl ((mj_cI κ).1, 60, .inl (fun _ => 0))), (q9, .inl ((mj_cI κ).1, 9, .inl (fun _ => 0))), (q10, .inr (7, [.ref q1, .ref q3, .int 0, .int 0, .int 0, .int 0, .int 0, .ref q11, .ref q16, .int 0, .ref q17, .int 0, .int 0])), (q11, .inr (8, [.ref q12, .ref q13, .ref q14, .ref q15, .int 0])), (q12, .inl ((mj_cI κ).1, 20, .inl (fun _ => 0))), (q13, .inl ((mj_cI κ).1, 20, .inl (fun _ => 0))), (q14, .inl ((mj_cI κ).1, 20, .inl (fun _ => 0))), (q15, .inl ((mj_cI κ).1, 20, .inl (fun _ => 0))), (q16, .inl ((mj_cI κ).1, 100, .inl (fun _ => 0))), (q17, .inl ((mj_cI κ).1, 100, .inl (fun _ => 0)))] 17 1434) _ 61 [some (mj_o (some a0))] [mj_o (some q10), mj_o (some a0)] M
  refine mx_putF (k := 0) (Y' := [(a0, .inr (4, [.ref q1, .ref q3, .ref q6, .ref q10, .null, .null, .null, .null])), (q1, .inr (1, [.int 0, .int 0, .ref q2])), (q2, .inl ((mj_cI κ).1, 11, .inl (mj_sa 0))), (q3, .inr (3, [.ref q1, .ref q4, .int 0, .ref q5, .int 0, .int 0])), (q4, .inl ((mj_cI κ).1, 700, .inl (fun _ => 0))), (q5, .inl ((mj_cI κ).1, 100, .inl (fun _ => 0))), (q6, .inr (2, [.ref q1, .ref q7, .int 0, .ref q8, .int 0, .int 0, .ref q9])), (q7, .inl ((mj_cI κ).1, 240, .inl (fun _ => 0))), (q8, .inl ((mj_cI κ).1, 60, .inl (fun _ => 0))), (q9, .inl ((mj_cI κ).1, 9, .inl (fun _ => 0))), (q10, .inr (7, [.ref q1, .ref q3, .int 0, .int 0, .int 0, .int 0, .int 0, .ref q11, .ref q16, .int 0, .ref q17, .int 0, .int 0])), (q11, .inr (8, [.ref q12, .ref q13, .ref q14, .ref q15, .int 0])), (q12, .inl ((mj_cI κ).1, 20, .inl (fun _ => 0))), (q13, .inl ((mj_cI κ).1, 20, .inl (fun _ => 0))), (q14, .inl ((mj_cI κ).1, 20, .inl (fun _ => 0))), (q15, .inl ((mj_cI κ).1, 20, .inl (fun _ => 0))), (q16, .inl ((mj_cI κ).1, 100, .inl (fun _ => 0))), (q17, .inl ((mj_cI κ).1, 100, .inl (fun _ => 0)))]) C hN lF_X3_39 ⟨_, rfl, rfl⟩ fR_4_3 rfl (fun _ => rfl) rfl rfl (Nat.le_of_ble_eq_true rfl) dX3_init_61 rfl ?_
  refine mx_aload_n (mx_D C hmc hms rfl rfl) dX3_init_64 rfl ?_
  refine mx_new (fs := [.null, .null, .null, .null, .null, .null, .int 0, .int 0, .int 0, .int 0, .int 0, .int 0, .int 0, .int 0, .int 0, .int 0]) tyX8 C (ci := 9) rfl inTX8 tyX8_ok (by exact (mj_in1 228 rfl rfl)) (by exact (mj_in1 229 rfl rfl)) (by exact (mj_in1 8 rfl rfl)) (fun j hj => by rcases (show j = 0 ∨ j = 1 ∨ j = 2 ∨ j = 3 ∨ j = 4 ∨ j = 5 ∨ j = 6 ∨ j = 7 ∨ j = 8 ∨ j = 9 ∨ j = 10 ∨ j = 11 ∨ j = 12 ∨ j = 13 ∨ j = 14 ∨ j = 15 by omega) with rfl | rfl | rfl | rfl | rfl | rfl | rfl | rfl | rfl | rfl | rfl | rfl | rfl | rfl | rfl | rfl <;> rfl) (mx_lc hmc rfl) (mx_ls hms rfl) dX3_init_65 (fun q18 => ?_)
  show mj_R (mj_ky κ [(a0, .inr (4, [.ref q1, .ref q3, .ref q6, .ref q10, .null, .null, .null, .null])), (q1, .inr (1, [.int 0, .int 0, .ref q2])), (q2, .inl ((mj_cI κ).1, 11, .inl (mj_sa 0))), (q3, .inr (3, [.ref q1, .ref q4, .int 0, .ref q5, .int 0, .int 0])), (q4, .inl ((mj_cI κ).1, 700, .inl (fun _ => 0))), (q5, .inl ((mj_cI κ).1, 100, .inl (fun _ => 0))), (q6, .inr (2, [.ref q1, .ref q7, .int 0, .ref q8, .int 0, .int 0, .ref q9])), (q7, .inl ((mj_cI κ).1, 240, .inl (fun _ => 0))), (q8, .inl ((mj_cI κ).1, 60, .inl (fun _ => 0))), (q9, .inl ((mj_cI κ).1, 9, .inl (fun _ => 0))), (q10, .inr (7, [.ref q1, .ref q3, .int 0, .int 0, .int 0, .int 0, .int 0, .ref q11, .ref q16, .int 0, .ref q17, .int 0, .int 0])), (q11, .inr (8, [.ref q12, .ref q13, .ref q14, .ref q15, .int 0])), (q12, .inl ((mj_cI κ).1, 20, .inl (fun _ => 0))), (q13, .inl ((mj_cI κ).1, 20, .inl (fun _ => 0))), (q14, .inl ((mj_cI κ).1, 20, .inl (fun _ => 0))), (q15, .inl ((mj_cI κ).1, 20, .inl (fun _ => 0))), (q16, .inl ((mj_cI κ).1, 100, .inl (fun _ => 0))), (q17, .inl ((mj_cI κ).1, 100, .inl (fun _ => 0))), (q18, .inr (9, [.null, .null, .null, .null, .null, .null, .int 0, .int 0, .int 0, .int 0, .int 0, .int 0, .int 0, .int 0, .int 0, .int 0]))] 18 1450) _ 68 [some (mj_o (some a0))] [mj_o (some q18), mj_o (some a0)] M
  refine mj_dup (mx_D C hmc hms rfl rfl) dX3_init_68 ?_
  refine mx_aload_n (mx_D C hmc hms rfl rfl) dX3_init_69 rfl ?_
  refine mx_get (k := 0) (w := mj_o (some q1)) C lF_X3_12 rfl rfl (fun _ => rfl) dX3_init_70 ?_
  refine mx_aload_n (mx_D C hmc hms rfl rfl) dX3_init_73 rfl ?_
  refine mx_get (k := 0) (w := mj_o (some q3)) C lF_X3_23 rfl rfl (fun _ => rfl) dX3_init_74 ?_
  refine mx_aload_n (mx_D C hmc hms rfl rfl) dX3_init_77 rfl ?_
  refine mx_get (k := 0) (w := mj_o (some q6)) C lF_X3_30 rfl rfl (fun _ => rfl) dX3_init_78 ?_
  refine mx_callI (av := [mj_o (some q1), mj_o (some q3), mj_o (some q6)]) (Y0 := [(a0, .inr (4, [.ref q1, .ref q3, .ref q6, .ref q10, .null, .null, .null, .null])), (q1, .inr (1, [.int 0, .int 0, .ref q2])), (q2, .inl ((mj_cI κ).1, 11, .inl (mj_sa 0))), (q3, .inr (3, [.ref q1, .ref q4, .int 0, .ref q5, .int 0, .int 0])), (q4, .inl ((mj_cI κ).1, 700, .inl (fun _ => 0))), (q5, .inl ((mj_cI κ).1, 100, .inl (fun _ => 0))), (q6, .inr (2, [.ref q1, .ref q7, .int 0, .ref q8, .int 0, .int 0, .ref q9])), (q7, .inl ((mj_cI κ).1, 240, .inl (fun _ => 0))), (q8, .inl ((mj_cI κ).1, 60, .inl (fun _ => 0))), (q9, .inl ((mj_cI κ).1, 9, .inl (fun _ => 0))), (q10, .inr (7, [.ref q1, .ref q3, .int 0, .int 0, .int 0, .int 0, .int 0, .ref q11, .ref q16, .int 0, .ref q17, .int 0, .int 0])), (q11, .inr (8, [.ref q12, .ref q13, .ref q14, .ref q15, .int 0])), (q12, .inl ((mj_cI κ).1, 20, .inl (fun _ => 0))), (q13, .inl ((mj_cI κ).1, 20, .inl (fun _ => 0))), (q14, .inl ((mj_cI κ).1, 20, .inl (fun _ => 0))), (q15, .inl ((mj_cI κ).1, 20, .inl (fun _ => 0))), (q16, .inl ((mj_cI κ).1, 100, .inl (fun _ => 0))), (q17, .inl ((mj_cI κ).1, 100, .inl (fun _ => 0)))]) (ce := 18) (sl := 1450) C lM_X3_45 lk_X8_init rfl (mj_in1 231 rfl rfl) rfl (K_X8_init (a0 := q18) (a1 := q1) (a2 := q3) (a3 := q6)) rfl (mx_fit hR hmc hms rfl rfl rfl rfl) rfl (Nat.le_of_ble_eq_true rfl) dX3_init_81 (fun r Y' hp => ?_)
  obtain ⟨rfl, q19, q20, q21, q22, q23, q24, q25, q26, q27, q28, q29, q30, q31, q32, q33, rfl⟩ := hp
  show mj_R (mj_ky κ [(a0, .inr (4, [.ref q1, .ref q3, .ref q6, .ref q10, .null, .null, .null, .null])), (q1, .inr (1, [.int 0, .int 0, .ref q2])), (q2, .inl ((mj_cI κ).1, 11, .inl (mj_sa 0))), (q3, .inr (3, [.ref q1, .ref q4, .int 0, .ref q5, .int 0, .int 0])), (q4, .inl ((mj_cI κ).1, 700, .inl (fun _ => 0))), (q5, .inl ((mj_cI κ).1, 100, .inl (fun _ => 0))), (q6, .inr (2, [.ref q1, .ref q7, .int 0, .ref q8, .int 0, .int 0, .ref q9])), (q7, .inl ((mj_cI κ).1, 240, .inl (fun _ => 0))), (q8, .inl ((mj_cI κ).1, 60, .inl (fun _ => 0))), (q9, .inl ((mj_cI κ).1, 9, .inl (fun _ => 0))), (q10, .inr (7, [.ref q1, .ref q3, .int 0, .int 0, .int 0, .int 0, .int 0, .ref q11, .ref q16, .int 0, .ref q17, .int 0, .int 0])), (q11, .inr (8, [.ref q12, .ref q13, .ref q14, .ref q15, .int 0])), (q12, .inl ((mj_cI κ).1, 20, .inl (fun _ => 0))), (q13, .inl ((mj_cI κ).1, 20, .inl (fun _ => 0))), (q14, .inl ((mj_cI κ).1, 20, .inl (fun _ => 0))), (q15, .inl ((mj_cI κ).1, 20, .inl (fun _ => 0))), (q16, .inl ((mj_cI κ).1, 100, .inl (fun _ => 0))), (q17, .inl ((mj_cI κ).1, 100, .inl (fun _ => 0))), (q18, .inr (9, [.ref q1, .ref q3, .ref q6, .ref q19, .ref q24, .ref q29, .int 6, .int 0, .int 0, .int 0, .int 0, .int 0, .int (-1), .int 0, .int (-1), .int 0])), (q19, .inr (8, [.ref q20, .ref q21, .ref q22, .ref q23, .int 0])), (q20, .inl ((mj_cI κ).1, 20, .inl (fun _ => 0))), (q21, .inl ((mj_cI κ).1, 20, .inl (fun _ => 0))), (q22, .inl ((mj_cI κ).1, 20, .inl (fun _ => 0))), (q23, .inl ((mj_cI κ).1, 20, .inl (fun _ => 0))), (q24, .inr (8, [.ref q25, .ref q26, .ref q27, .ref q28, .int 0])), (q25, .inl ((mj_cI κ).1, 20, .inl (fun _ => 0))), (q26, .inl ((mj_cI κ).1, 20, .inl (fun _ => 0))), (q27, .inl ((mj_cI κ).1, 20, .inl (fun _ => 0))), (q28, .inl ((mj_cI κ).1, 20, .inl (fun _ => 0))), (q29, .inr (8, [.ref q30, .ref q31, .ref q32, .ref q33, .int 0])), (q30, .inl ((mj_cI κ).1, 20, .inl (fun _ => 0))), (q31, .inl ((mj_cI κ).1, 20, .inl (fun _ => 0))), (q32, .inl ((mj_cI κ).1, 20, .inl (fun _ => 0))), (q33, .inl ((mj_cI κ).1, 20, .inl (fun _ => 0)))] 33 1705) _ 84 [some (mj_o (some a0))] [mj_o (some q18), mj_o (some a0)] M
  refine mx_putF (k := 0) (Y' := [(a0, .inr (4, [.ref q1, .ref q3, .ref q6, .ref q10, .ref q18, .null, .null, .null])), (q1, .inr (1, [.int 0, .int 0, .ref q2])), (q2, .inl ((mj_cI κ).1, 11, .inl (mj_sa 0))), (q3, .inr (3, [.ref q1, .ref q4, .int 0, .ref q5, .int 0, .int 0])), (q4, .inl ((mj_cI κ).1, 700, .inl (fun _ => 0))), (q5, .inl ((mj_cI κ).1, 100, .inl (fun _ => 0))), (q6, .inr (2, [.ref q1, .ref q7, .int 0, .ref q8, .int 0, .int 0, .ref q9])), (q7, .inl ((mj_cI κ).1, 240, .inl (fun _ => 0))), (q8, .inl ((mj_cI κ).1, 60, .inl (fun _ => 0))), (q9, .inl ((mj_cI κ).1, 9, .inl (fun _ => 0))), (q10, .inr (7, [.ref q1, .ref q3, .int 0, .int 0, .int 0, .int 0, .int 0, .ref q11, .ref q16, .int 0, .ref q17, .int 0, .int 0])), (q11, .inr (8, [.ref q12, .ref q13, .ref q14, .ref q15, .int 0])), (q12, .inl ((mj_cI κ).1, 20, .inl (fun _ => 0))), (q13, .inl ((mj_cI κ).1, 20, .inl (fun _ => 0))), (q14, .inl ((mj_cI κ).1, 20, .inl (fun _ => 0))), (q15, .inl ((mj_cI κ).1, 20, .inl (fun _ => 0))), (q16, .inl ((mj_cI κ).1, 100, .inl (fun _ => 0))), (q17, .inl ((mj_cI κ).1, 100, .inl (fun _ => 0))), (q18, .inr (9, [.ref q1, .ref q3, .ref q6, .ref q19, .ref q24, .ref q29, .int 6, .int 0, .int 0, .int 0, .int 0, .int 0, .int (-1), .int 0, .int (-1), .int 0])), (q19, .inr (8, [.ref q20, .ref q21, .ref q22, .ref q23, .int 0])), (q20, .inl ((mj_cI κ).1, 20, .inl (fun _ => 0))), (q21, .inl ((mj_cI κ).1, 20, .inl (fun _ => 0))), (q22, .inl ((mj_cI κ).1, 20, .inl (fun _ => 0))), (q23, .inl ((mj_cI κ).1, 20, .inl (fun _ => 0))), (q24, .inr (8, [.ref q25, .ref q26, .ref q27, .ref q28, .int 0])), (q25, .inl ((mj_cI κ).1, 20, .inl (fun _ => 0))), (q26, .inl ((mj_cI κ).1, 20, .inl (fun _ => 0))), (q27, .inl ((mj_cI κ).1, 20, .inl (fun _ => 0))), (q28, .inl ((mj_cI κ).1, 20, .inl (fun _ => 0))), (q29, .inr (8, [.ref q30, .ref q31, .ref q32, .ref q33, .int 0])), (q30, .inl ((mj_cI κ).1, 20, .inl (fun _ => 0))), (q31, .inl ((mj_cI κ).1, 20, .inl (fun _ => 0))), (q32, .inl ((mj_cI κ).1, 20, .inl (fun _ => 0))), (q33, .inl ((mj_cI κ).1, 20, .inl (fun _ => 0)))]) C hN lF_X3_48 ⟨_, rfl, rfl⟩ fR_4_4 rfl (fun _ => rfl) rfl rfl (Nat.le_of_ble_eq_true rfl) dX3_init_84 rfl ?_
  refine mx_aload_n (mx_D C hmc hms rfl rfl) dX3_init_87 rfl ?_
  refine mx_new (fs := [.null, .int 0, .int 0, .null, .null, .null, .null, .int 0, .int 0, .int 0, .int 0]) tyX9 C (ci := 10) rfl inTX9 tyX9_ok (by exact (mj_in2 58 rfl rfl)) (by exact (mj_in2 59 rfl rfl)) (by exact (mj_in1 9 rfl rfl)) (fun j hj => by rcases (show j = 0 ∨ j = 1 ∨ j = 2 ∨ j = 3 ∨ j = 4 ∨ j = 5 ∨ j = 6 ∨ j = 7 ∨ j = 8 ∨ j = 9 ∨ j = 10 by omega) with rfl | rfl | rfl | rfl | rfl | rfl | rfl | rfl | rfl | rfl | rfl <;> rfl) (mx_lc hmc rfl) (mx_ls hms rfl) dX3_init_88 (fun q34 => ?_)
  show mj_R (mj_ky κ [(a0, .inr (4, [.ref q1, .ref q3, .ref q6, .ref q10, .ref q18, .null, .null, .null])), (q1, .inr (1, [.int 0, .int 0, .ref q2])), (q2, .inl ((mj_cI κ).1, 11, .inl (mj_sa 0))), (q3, .inr (3, [.ref q1, .ref q4, .int 0, .ref q5, .int 0, .int 0])), (q4, .inl ((mj_cI κ).1, 700, .inl (fun _ => 0))), (q5, .inl ((mj_cI κ).1, 100, .inl (fun _ => 0))), (q6, .inr (2, [.ref q1, .ref q7, .int 0, .ref q8, .int 0, .int 0, .ref q9])), (q7, .inl ((mj_cI κ).1, 240, .inl (fun _ => 0))), (q8, .inl ((mj_cI κ).1, 60, .inl (fun _ => 0))), (q9, .inl ((mj_cI κ).1, 9, .inl (fun _ => 0))), (q10, .inr (7, [.ref q1, .ref q3, .int 0, .int 0, .int 0, .int 0, .int 0, .ref q11, .ref q16, .int 0, .ref q17, .int 0, .int 0])), (q11, .inr (8, [.ref q12, .ref q13, .ref q14, .ref q15, .int 0])), (q12, .inl ((mj_cI κ).1, 20, .inl (fun _ => 0))), (q13, .inl ((mj_cI κ).1, 20, .inl (fun _ => 0))), (q14, .inl ((mj_cI κ).1, 20, .inl (fun _ => 0))), (q15, .inl ((mj_cI κ).1, 20, .inl (fun _ => 0))), (q16, .inl ((mj_cI κ).1, 100, .inl (fun _ => 0))), (q17, .inl ((mj_cI κ).1, 100, .inl (fun _ => 0))), (q18, .inr (9, [.ref q1, .ref q3, .ref q6, .ref q19, .ref q24, .ref q29, .int 6, .int 0, .int 0, .int 0, .int 0, .int 0, .int (-1), .int 0, .int (-1), .int 0])), (q19, .inr (8, [.ref q20, .ref q21, .ref q22, .ref q23, .int 0])), (q20, .inl ((mj_cI κ).1, 20, .inl (fun _ => 0))), (q21, .inl ((mj_cI κ).1, 20, .inl (fun _ => 0))), (q22, .inl ((mj_cI κ).1, 20, .inl (fun _ => 0))), (q23, .inl ((mj_cI κ).1, 20, .inl (fun _ => 0))), (q24, .inr (8, [.ref q25, .ref q26, .ref q27, .ref q28, .int 0])), (q25, .inl ((mj_cI κ).1, 20, .inl (fun _ => 0))), (q26, .inl ((mj_cI κ).1, 20, .inl (fun _ => 0))), (q27, .inl ((mj_cI κ).1, 20, .inl (fun _ => 0))), (q28, .inl ((mj_cI κ).1, 20, .inl (fun _ => 0))), (q29, .inr (8, [.ref q30, .ref q31, .ref q32, .ref q33, .int 0])), (q30, .inl ((mj_cI κ).1, 20, .inl (fun _ => 0))), (q31, .inl ((mj_cI κ).1, 20, .inl (fun _ => 0))), (q32, .inl ((mj_cI κ).1, 20, .inl (fun _ => 0))), (q33, .inl ((mj_cI κ).1, 20, .inl (fun _ => 0))), (q34, .inr (10, [.null, .int 0, .int 0, .null, .null, .null, .null, .int 0, .int 0, .int 0, .int 0]))] 34 1716) _ 91 [some (mj_o (some a0))] [mj_o (some q34), mj_o (some a0)] M
  refine mj_dup (mx_D C hmc hms rfl rfl) dX3_init_91 ?_
  refine mx_aload_n (mx_D C hmc hms rfl rfl) dX3_init_92 rfl ?_
  refine mx_get (k := 0) (w := mj_o (some q1)) C lF_X3_12 rfl rfl (fun _ => rfl) dX3_init_93 ?_
  refine mj_iconst (v := 5) (mx_D C hmc hms rfl rfl) dX3_init_96 (by decide) ?_
  refine mj_bipush (v := 6) (mx_D C hmc hms rfl rfl) dX3_init_97 (by decide) ?_
  refine mx_callI (av := [mj_o (some q1), .inl 5, .inl 6]) (Y0 := [(a0, .inr (4, [.ref q1, .ref q3, .ref q6, .ref q10, .ref q18, .null, .null, .null])), (q1, .inr (1, [.int 0, .int 0, .ref q2])), (q2, .inl ((mj_cI κ).1, 11, .inl (mj_sa 0))), (q3, .inr (3, [.ref q1, .ref q4, .int 0, .ref q5, .int 0, .int 0])), (q4, .inl ((mj_cI κ).1, 700, .inl (fun _ => 0))), (q5, .inl ((mj_cI κ).1, 100, .inl (fun _ => 0))), (q6, .inr (2, [.ref q1, .ref q7, .int 0, .ref q8, .int 0, .int 0, .ref q9])), (q7, .inl ((mj_cI κ).1, 240, .inl (fun _ => 0))), (q8, .inl ((mj_cI κ).1, 60, .inl (fun _ => 0))), (q9, .inl ((mj_cI κ).1, 9, .inl (fun _ => 0))), (q10, .inr (7, [.ref q1, .ref q3, .int 0, .int 0, .int 0, .int 0, .int 0, .ref q11, .ref q16, .int 0, .ref q17, .int 0, .int 0])), (q11, .inr (8, [.ref q12, .ref q13, .ref q14, .ref q15, .int 0])), (q12, .inl ((mj_cI κ).1, 20, .inl (fun _ => 0))), (q13, .inl ((mj_cI κ).1, 20, .inl (fun _ => 0))), (q14, .inl ((mj_cI κ).1, 20, .inl (fun _ => 0))), (q15, .inl ((mj_cI κ).1, 20, .inl (fun _ => 0))), (q16, .inl ((mj_cI κ).1, 100, .inl (fun _ => 0))), (q17, .inl ((mj_cI κ).1, 100, .inl (fun _ => 0))), (q18, .inr (9, [.ref q1, .ref q3, .ref q6, .ref q19, .ref q24, .ref q29, .int 6, .int 0, .int 0, .int 0, .int 0, .int 0, .int (-1), .int 0, .int (-1), .int 0])), (q19, .inr (8, [.ref q20, .ref q21, .ref q22, .ref q23, .int 0])), (q20, .inl ((mj_cI κ).1, 20, .inl (fun _ => 0))), (q21, .inl ((mj_cI κ).1, 20, .inl (fun _ => 0))), (q22, .inl ((mj_cI κ).1, 20, .inl (fun _ => 0))), (q23, .inl ((mj_cI κ).1, 20, .inl (fun _ => 0))), (q24, .inr (8, [.ref q25, .ref q26, .ref q27, .ref q28, .int 0])), (q25, .inl ((mj_cI κ).1, 20, .inl (fun _ => 0))), (q26, .inl ((mj_cI κ).1, 20, .inl (fun _ => 0))), (q27, .inl ((mj_cI κ).1, 20, .inl (fun _ => 0))), (q28, .inl ((mj_cI κ).1, 20, .inl (fun _ => 0))), (q29, .inr (8, [.ref q30, .ref q31, .ref q32, .ref q33, .int 0])), (q30, .inl ((mj_cI κ).1, 20, .inl (fun _ => 0))), (q31, .inl ((mj_cI κ).1, 20, .inl (fun _ => 0))), (q32, .inl ((mj_cI κ).1, 20, .inl (fun _ => 0))), (q33, .inl ((mj_cI κ).1, 20, .inl (fun _ => 0)))]) (ce := 34) (sl := 1716) C lM_X3_54 lk_X9_init rfl (mj_in2 61 rfl rfl) rfl (K_X9_init (a0 := q34) (a1 := q1) (a2 := 5) (a3 := 6)) rfl (mx_fit hR hmc hms rfl rfl rfl rfl) rfl (Nat.le_of_ble_eq_true rfl) dX3_init_99 (fun r Y' hp => ?_)
  obtain ⟨rfl, q35, q36, q37, q38, rfl⟩ := hp
  show mj_R (mj_ky κ [(a0, .inr (4, [.ref q1, .ref q3, .ref q6, .ref q10, .ref q18, .null, .null, .null])), (q1, .inr (1, [.int 0, .int 0, .ref q2])), (q2, .inl ((mj_cI κ).1, 11, .inl (mj_sa 0))), (q3, .inr (3, [.ref q1, .ref q4, .int 0, .ref q5, .int 0, .int 0])), (q4, .inl ((mj_cI κ).1, 700, .inl (fun _ => 0))), (q5, .inl ((mj_cI κ).1, 100, .inl (fun _ => 0))), (q6, .inr (2, [.ref q1, .ref q7, .int 0, .ref q8, .int 0, .int 0, .ref q9])), (q7, .inl ((mj_cI κ).1, 240, .inl (fun _ => 0))), (q8, .inl ((mj_cI κ).1, 60, .inl (fun _ => 0))), (q9, .inl ((mj_cI κ).1, 9, .inl (fun _ => 0))), (q10, .inr (7, [.ref q1, .ref q3, .int 0, .int 0, .int 0, .int 0, .int 0, .ref q11, .ref q16, .int 0, .ref q17, .int 0, .int 0])), (q11, .inr (8, [.ref q12, .ref q13, .ref q14, .ref q15, .int 0])), (q12, .inl ((mj_cI κ).1, 20, .inl (fun _ => 0))), (q13, .inl ((mj_cI κ).1, 20, .inl (fun _ => 0))), (q14, .inl ((mj_cI κ).1, 20, .inl (fun _ => 0))), (q15, .inl ((mj_cI κ).1, 20, .inl (fun _ => 0))), (q16, .inl ((mj_cI κ).1, 100, .inl (fun _ => 0))), (q17, .inl ((mj_cI κ).1, 100, .inl (fun _ => 0))), (q18, .inr (9, [.ref q1, .ref q3, .ref q6, .ref q19, .ref q24, .ref q29, .int 6, .int 0, .int 0, .int 0, .int 0, .int 0, .int (-1), .int 0, .int (-1), .int 0])), (q19, .inr (8, [.ref q20, .ref q21, .ref q22, .ref q23, .int 0])), (q20, .inl ((mj_cI κ).1, 20, .inl (fun _ => 0))), (q21, .inl ((mj_cI κ).1, 20, .inl (fun _ => 0))), (q22, .inl ((mj_cI κ).1, 20, .inl (fun _ => 0))), (q23, .inl ((mj_cI κ).1, 20, .inl (fun _ => 0))), (q24, .inr (8, [.ref q25, .ref q26, .ref q27, .ref q28, .int 0])), (q25, .inl ((mj_cI κ).1, 20, .inl (fun _ => 0))), (q26, .inl ((mj_cI κ).1, 20, .inl (fun _ => 0))), (q27, .inl ((mj_cI κ).1, 20, .inl (fun _ => 0))), (q28, .inl ((mj_cI κ).1, 20, .inl (fun _ => 0))), (q29, .inr (8, [.ref q30, .ref q31, .ref q32, .ref q33, .int 0])), (q30, .inl ((mj_cI κ).1, 20, .inl (fun _ => 0))), (q31, .inl ((mj_cI κ).1, 20, .inl (fun _ => 0))), (q32, .inl ((mj_cI κ).1, 20, .inl (fun _ => 0))), (q33, .inl ((mj_cI κ).1, 20, .inl (fun _ => 0))), (q34, .inr (10, [.ref q1, .int 5, .int 6, .ref q35, .ref q36, .ref q37, .ref q38, .int 0, .int 0, .int 0, .int 0])), (q35, .inl ((mj_cI κ).1, 240, .inl (fun _ => 0))), (q36, .inl ((mj_cI κ).1, 48, .inl (fun _ => 0))), (q37, .inl ((mj_cI κ).1, 48, .inl (fun _ => 0))), (q38, .inl ((mj_cI κ).1, 8, .inl (fun _ => 0)))] 38 2060) _ 102 [some (mj_o (some a0))] [mj_o (some q34), mj_o (some a0)] M
  refine mx_putF (k := 0) (Y' := [(a0, .inr (4, [.ref q1, .ref q3, .ref q6, .ref q10, .ref q18, .ref q34, .null, .null])), (q1, .inr (1, [.int 0, .int 0, .ref q2])), (q2, .inl ((mj_cI κ).1, 11, .inl (mj_sa 0))), (q3, .inr (3, [.ref q1, .ref q4, .int 0, .ref q5, .int 0, .int 0])), (q4, .inl ((mj_cI κ).1, 700, .inl (fun _ => 0))), (q5, .inl ((mj_cI κ).1, 100, .inl (fun _ => 0))), (q6, .inr (2, [.ref q1, .ref q7, .int 0, .ref q8, .int 0, .int 0, .ref q9])), (q7, .inl ((mj_cI κ).1, 240, .inl (fun _ => 0))), (q8, .inl ((mj_cI κ).1, 60, .inl (fun _ => 0))), (q9, .inl ((mj_cI κ).1, 9, .inl (fun _ => 0))), (q10, .inr (7, [.ref q1, .ref q3, .int 0, .int 0, .int 0, .int 0, .int 0, .ref q11, .ref q16, .int 0, .ref q17, .int 0, .int 0])), (q11, .inr (8, [.ref q12, .ref q13, .ref q14, .ref q15, .int 0])), (q12, .inl ((mj_cI κ).1, 20, .inl (fun _ => 0))), (q13, .inl ((mj_cI κ).1, 20, .inl (fun _ => 0))), (q14, .inl ((mj_cI κ).1, 20, .inl (fun _ => 0))), (q15, .inl ((mj_cI κ).1, 20, .inl (fun _ => 0))), (q16, .inl ((mj_cI κ).1, 100, .inl (fun _ => 0))), (q17, .inl ((mj_cI κ).1, 100, .inl (fun _ => 0))), (q18, .inr (9, [.ref q1, .ref q3, .ref q6, .ref q19, .ref q24, .ref q29, .int 6, .int 0, .int 0, .int 0, .int 0, .int 0, .int (-1), .int 0, .int (-1), .int 0])), (q19, .inr (8, [.ref q20, .ref q21, .ref q22, .ref q23, .int 0])), (q20, .inl ((mj_cI κ).1, 20, .inl (fun _ => 0))), (q21, .inl ((mj_cI κ).1, 20, .inl (fun _ => 0))), (q22, .inl ((mj_cI κ).1, 20, .inl (fun _ => 0))), (q23, .inl ((mj_cI κ).1, 20, .inl (fun _ => 0))), (q24, .inr (8, [.ref q25, .ref q26, .ref q27, .ref q28, .int 0])), (q25, .inl ((mj_cI κ).1, 20, .inl (fun _ => 0))), (q26, .inl ((mj_cI κ).1, 20, .inl (fun _ => 0))), (q27, .inl ((mj_cI κ).1, 20, .inl (fun _ => 0))), (q28, .inl ((mj_cI κ).1, 20, .inl (fun _ => 0))), (q29, .inr (8, [.ref q30, .ref q31, .ref q32, .ref q33, .int 0])), (q30, .inl ((mj_cI κ).1, 20, .inl (fun _ => 0))), (q31, .inl ((mj_cI κ).1, 20, .inl (fun _ => 0))), (q32, .inl ((mj_cI κ).1, 20, .inl (fun _ => 0))), (q33, .inl ((mj_cI κ).1, 20, .inl (fun _ => 0))), (q34, .inr (10, [.ref q1, .int 5, .int 6, .ref q35, .ref q36, .ref q37, .ref q38, .int 0, .int 0, .int 0, .int 0])), (q35, .inl ((mj_cI κ).1, 240, .inl (fun _ => 0))), (q36, .inl ((mj_cI κ).1, 48, .inl (fun _ => 0))), (q37, .inl ((mj_cI κ).1, 48, .inl (fun _ => 0))), (q38, .inl ((mj_cI κ).1, 8, .inl (fun _ => 0)))]) C hN lF_X3_57 ⟨_, rfl, rfl⟩ fR_4_5 rfl (fun _ => rfl) rfl rfl (Nat.le_of_ble_eq_true rfl) dX3_init_102 rfl ?_
  refine mx_aload_n (mx_D C hmc hms rfl rfl) dX3_init_105 rfl ?_
  refine mx_new (fs := [.null, .int 0, .int 0, .null, .null, .null, .null, .int 0, .int 0, .int 0, .int 0]) tyX9 C (ci := 10) rfl inTX9 tyX9_ok (by exact (mj_in2 58 rfl rfl)) (by exact (mj_in2 59 rfl rfl)) (by exact (mj_in1 9 rfl rfl)) (fun j hj => by rcases (show j = 0 ∨ j = 1 ∨ j = 2 ∨ j = 3 ∨ j = 4 ∨ j = 5 ∨ j = 6 ∨ j = 7 ∨ j = 8 ∨ j = 9 ∨ j = 10 by omega) with rfl | rfl | rfl | rfl | rfl | rfl | rfl | rfl | rfl | rfl | rfl <;> rfl) (mx_lc hmc rfl) (mx_ls hms rfl) dX3_init_106 (fun q39 => ?_)
  show mj_R (mj_ky κ [(a0, .inr (4, [.ref q1, .ref q3, .ref q6, .ref q10, .ref q18, .ref q34, .null, .null])), (q1, .inr (1, [.int 0, .int 0, .ref q2])), (q2, .inl ((mj_cI κ).1, 11, .inl (mj_sa 0))), (q3, .inr (3, [.ref q1, .ref q4, .int 0, .ref q5, .int 0, .int 0])), (q4, .inl ((mj_cI κ).1, 700, .inl (fun _ => 0))), (q5, .inl ((mj_cI κ).1, 100, .inl (fun _ => 0))), (q6, .inr (2, [.ref q1, .ref q7, .int 0, .ref q8, .int 0, .int 0, .ref q9])), (q7, .inl ((mj_cI κ).1, 240, .inl (fun _ => 0))), (q8, .inl ((mj_cI κ).1, 60, .inl (fun _ => 0))), (q9, .inl ((mj_cI κ).1, 9, .inl (fun _ => 0))), (q10, .inr (7, [.ref q1, .ref q3, .int 0, .int 0, .int 0, .int 0, .int 0, .ref q11, .ref q16, .int 0, .ref q17, .int 0, .int 0])), (q11, .inr (8, [.ref q12, .ref q13, .ref q14, .ref q15, .int 0])), (q12, .inl ((mj_cI κ).1, 20, .inl (fun _ => 0))), (q13, .inl ((mj_cI κ).1, 20, .inl (fun _ => 0))), (q14, .inl ((mj_cI κ).1, 20, .inl (fun _ => 0))), (q15, .inl ((mj_cI κ).1, 20, .inl (fun _ => 0))), (q16, .inl ((mj_cI κ).1, 100, .inl (fun _ => 0))), (q17, .inl ((mj_cI κ).1, 100, .inl (fun _ => 0))), (q18, .inr (9, [.ref q1, .ref q3, .ref q6, .ref q19, .ref q24, .ref q29, .int 6, .int 0, .int 0, .int 0, .int 0, .int 0, .int (-1), .int 0, .int (-1), .int 0])), (q19, .inr (8, [.ref q20, .ref q21, .ref q22, .ref q23, .int 0])), (q20, .inl ((mj_cI κ).1, 20, .inl (fun _ => 0))), (q21, .inl ((mj_cI κ).1, 20, .inl (fun _ => 0))), (q22, .inl ((mj_cI κ).1, 20, .inl (fun _ => 0))), (q23, .inl ((mj_cI κ).1, 20, .inl (fun _ => 0))), (q24, .inr (8, [.ref q25, .ref q26, .ref q27, .ref q28, .int 0])), (q25, .inl ((mj_cI κ).1, 20, .inl (fun _ => 0))), (q26, .inl ((mj_cI κ).1, 20, .inl (fun _ => 0))), (q27, .inl ((mj_cI κ).1, 20, .inl (fun _ => 0))), (q28, .inl ((mj_cI κ).1, 20, .inl (fun _ => 0))), (q29, .inr (8, [.ref q30, .ref q31, .ref q32, .ref q33, .int 0])), (q30, .inl ((mj_cI κ).1, 20, .inl (fun _ => 0))), (q31, .inl ((mj_cI κ).1, 20, .inl (fun _ => 0))), (q32, .inl ((mj_cI κ).1, 20, .inl (fun _ => 0))), (q33, .inl ((mj_cI κ).1, 20, .inl (fun _ => 0))), (q34, .inr (10, [.ref q1, .int 5, .int 6, .ref q35, .ref q36, .ref q37, .ref q38, .int 0, .int 0, .int 0, .int 0])), (q35, .inl ((mj_cI κ).1, 240, .inl (fun _ => 0))), (q36, .inl ((mj_cI κ).1, 48, .inl (fun _ => 0))), (q37, .inl ((mj_cI κ).1, 48, .inl (fun _ => 0))), (q38, .inl ((mj_cI κ).1, 8, .inl (fun _ => 0))), (q39, .inr (10, [.null, .int 0, .int 0, .null, .null, .null, .null, .int 0, .int 0, .int 0, .int 0]))] 39 2071) _ 109 [some (mj_o (some a0))] [mj_o (some q39), mj_o (some a0)] M
  refine mj_dup (mx_D C hmc hms rfl rfl) dX3_init_109 ?_
  refine mx_aload_n (mx_D C hmc hms rfl rfl) dX3_init_110 rfl ?_
  refine mx_get (k := 0) (w := mj_o (some q1)) C lF_X3_12 rfl rfl (fun _ => rfl) dX3_init_111 ?_
  refine mj_iconst (v := 3) (mx_D C hmc hms rfl rfl) dX3_init_114 (by decide) ?_
  refine mj_bipush (v := 7) (mx_D C hmc hms rfl rfl) dX3_init_115 (by decide) ?_
  refine mx_callI (av := [mj_o (some q1), .inl 3, .inl 7]) (Y0 := [(a0, .inr (4, [.ref q1, .ref q3, .ref q6, .ref q10, .ref q18, .ref q34, .null, .null])), (q1, .inr (1, [.int 0, .int 0, .ref q2])), (q2, .inl ((mj_cI κ).1, 11, .inl (mj_sa 0))), (q3, .inr (3, [.ref q1, .ref q4, .int 0, .ref q5, .int 0, .int 0])), (q4, .inl ((mj_cI κ).1, 700, .inl (fun _ => 0))), (q5, .inl ((mj_cI κ).1, 100, .inl (fun _ => 0))), (q6, .inr (2, [.ref q1, .ref q7, .int 0, .ref q8, .int 0, .int 0, .ref q9])), (q7, .inl ((mj_cI κ).1, 240, .inl (fun _ => 0))), (q8, .inl ((mj_cI κ).1, 60, .inl (fun _ => 0))), (q9, .inl ((mj_cI κ).1, 9, .inl (fun _ => 0))), (q10, .inr (7, [.ref q1, .ref q3, .int 0, .int 0, .int 0, .int 0, .int 0, .ref q11, .ref q16, .int 0, .ref q17, .int 0, .int 0])), (q11, .inr (8, [.ref q12, .ref q13, .ref q14, .ref q15, .int 0])), (q12, .inl ((mj_cI κ).1, 20, .inl (fun _ => 0))), (q13, .inl ((mj_cI κ).1, 20, .inl (fun _ => 0))), (q14, .inl ((mj_cI κ).1, 20, .inl (fun _ => 0))), (q15, .inl ((mj_cI κ).1, 20, .inl (fun _ => 0))), (q16, .inl ((mj_cI κ).1, 100, .inl (fun _ => 0))), (q17, .inl ((mj_cI κ).1, 100, .inl (fun _ => 0))), (q18, .inr (9, [.ref q1, .ref q3, .ref q6, .ref q19, .ref q24, .ref q29, .int 6, .int 0, .int 0, .int 0, .int 0, .int 0, .int (-1), .int 0, .int (-1), .int 0])), (q19, .inr (8, [.ref q20, .ref q21, .ref q22, .ref q23, .int 0])), (q20, .inl ((mj_cI κ).1, 20, .inl (fun _ => 0))), (q21, .inl ((mj_cI κ).1, 20, .inl (fun _ => 0))), (q22, .inl ((mj_cI κ).1, 20, .inl (fun _ => 0))), (q23, .inl ((mj_cI κ).1, 20, .inl (fun _ => 0))), (q24, .inr (8, [.ref q25, .ref q26, .ref q27, .ref q28, .int 0])), (q25, .inl ((mj_cI κ).1, 20, .inl (fun _ => 0))), (q26, .inl ((mj_cI κ).1, 20, .inl (fun _ => 0))), (q27, .inl ((mj_cI κ).1, 20, .inl (fun _ => 0))), (q28, .inl ((mj_cI κ).1, 20, .inl (fun _ => 0))), (q29, .inr (8, [.ref q30, .ref q31, .ref q32, .ref q33, .int 0])), (q30, .inl ((mj_cI κ).1, 20, .inl (fun _ => 0))), (q31, .inl ((mj_cI κ).1, 20, .inl (fun _ => 0))), (q32, .inl ((mj_cI κ).1, 20, .inl (fun _ => 0))), (q33, .inl ((mj_cI κ).1, 20, .inl (fun _ => 0))), (q34, .inr (10, [.ref q1, .int 5, .int 6, .ref q35, .ref q36, .ref q37, .ref q38, .int 0, .int 0, .int 0, .int 0])), (q35, .inl ((mj_cI κ).1, 240, .inl (fun _ => 0))), (q36, .inl ((mj_cI κ).1, 48, .inl (fun _ => 0))), (q37, .inl ((mj_cI κ).1, 48, .inl (fun _ => 0))), (q38, .inl ((mj_cI κ).1, 8, .inl (fun _ => 0)))]) (ce := 39) (sl := 2071) C lM_X3_54 lk_X9_init rfl (mj_in2 61 rfl rfl) rfl (K_X9_init (a0 := q39) (a1 := q1) (a2 := 3) (a3 := 7)) rfl (mx_fit hR hmc hms rfl rfl rfl rfl) rfl (Nat.le_of_ble_eq_true rfl) dX3_init_117 (fun r Y' hp => ?_)
  obtain ⟨rfl, q40, q41, q42, q43, rfl⟩ := hp
  show mj_R (mj_ky κ [(a0, .inr (4, [.ref q1, .ref q3, .ref q6, .ref q10, .ref q18, .ref q34, .null, .null])), (q1, .inr (1, [.int 0, .int 0, .ref q2])), (q2, .inl ((mj_cI κ).1, 11, .inl (mj_sa 0))), (q3, .inr (3, [.ref q1, .ref q4, .int 0, .ref q5, .int 0, .int 0])), (q4, .inl ((mj_cI κ).1, 700, .inl (fun _ => 0))), (q5, .inl ((mj_cI κ).1, 100, .inl (fun _ => 0))), (q6, .inr (2, [.ref q1, .ref q7, .int 0, .ref q8, .int 0, .int 0, .ref q9])), (q7, .inl ((mj_cI κ).1, 240, .inl (fun _ => 0))), (q8, .inl ((mj_cI κ).1, 60, .inl (fun _ => 0))), (q9, .inl ((mj_cI κ).1, 9, .inl (fun _ => 0))), (q10, .inr (7, [.ref q1, .ref q3, .int 0, .int 0, .int 0, .int 0, .int 0, .ref q11, .ref q16, .int 0, .ref q17, .int 0, .int 0])), (q11, .inr (8, [.ref q12, .ref q13, .ref q14, .ref q15, .int 0])), (q12, .inl ((mj_cI κ).1, 20, .inl (fun _ => 0))), (q13, .inl ((mj_cI κ).1, 20, .inl (fun _ => 0))), (q14, .inl ((mj_cI κ).1, 20, .inl (fun _ => 0))), (q15, .inl ((mj_cI κ).1, 20, .inl (fun _ => 0))), (q16, .inl ((mj_cI κ).1, 100, .inl (fun _ => 0))), (q17, .inl ((mj_cI κ).1, 100, .inl (fun _ => 0))), (q18, .inr (9, [.ref q1, .ref q3, .ref q6, .ref q19, .ref q24, .ref q29, .int 6, .int 0, .int 0, .int 0, .int 0, .int 0, .int (-1), .int 0, .int (-1), .int 0])), (q19, .inr (8, [.ref q20, .ref q21, .ref q22, .ref q23, .int 0])), (q20, .inl ((mj_cI κ).1, 20, .inl (fun _ => 0))), (q21, .inl ((mj_cI κ).1, 20, .inl (fun _ => 0))), (q22, .inl ((mj_cI κ).1, 20, .inl (fun _ => 0))), (q23, .inl ((mj_cI κ).1, 20, .inl (fun _ => 0))), (q24, .inr (8, [.ref q25, .ref q26, .ref q27, .ref q28, .int 0])), (q25, .inl ((mj_cI κ).1, 20, .inl (fun _ => 0))), (q26, .inl ((mj_cI κ).1, 20, .inl (fun _ => 0))), (q27, .inl ((mj_cI κ).1, 20, .inl (fun _ => 0))), (q28, .inl ((mj_cI κ).1, 20, .inl (fun _ => 0))), (q29, .inr (8, [.ref q30, .ref q31, .ref q32, .ref q33, .int 0])), (q30, .inl ((mj_cI κ).1, 20, .inl (fun _ => 0))), (q31, .inl ((mj_cI κ).1, 20, .inl (fun _ => 0))), (q32, .inl ((mj_cI κ).1, 20, .inl (fun _ => 0))), (q33, .inl ((mj_cI κ).1, 20, .inl (fun _ => 0))), (q34, .inr (10, [.ref q1, .int 5, .int 6, .ref q35, .ref q36, .ref q37, .ref q38, .int 0, .int 0, .int 0, .int 0])), (q35, .inl ((mj_cI κ).1, 240, .inl (fun _ => 0))), (q36, .inl ((mj_cI κ).1, 48, .inl (fun _ => 0))), (q37, .inl ((mj_cI κ).1, 48, .inl (fun _ => 0))), (q38, .inl ((mj_cI κ).1, 8, .inl (fun _ => 0))), (q39, .inr (10, [.ref q1, .int 3, .int 7, .ref q40, .ref q41, .ref q42, .ref q43, .int 0, .int 0, .int 0, .int 0])), (q40, .inl ((mj_cI κ).1, 240, .inl (fun _ => 0))), (q41, .inl ((mj_cI κ).1, 48, .inl (fun _ => 0))), (q42, .inl ((mj_cI κ).1, 48, .inl (fun _ => 0))), (q43, .inl ((mj_cI κ).1, 8, .inl (fun _ => 0)))] 43 2415) _ 120 [some (mj_o (some a0))] [mj_o (some q39), mj_o (some a0)] M
  refine mx_putF (k := 0) (Y' := [(a0, .inr (4, [.ref q1, .ref q3, .ref q6, .ref q10, .ref q18, .ref q34, .ref q39, .null])), (q1, .inr (1, [.int 0, .int 0, .ref q2])), (q2, .inl ((mj_cI κ).1, 11, .inl (mj_sa 0))), (q3, .inr (3, [.ref q1, .ref q4, .int 0, .ref q5, .int 0, .int 0])), (q4, .inl ((mj_cI κ).1, 700, .inl (fun _ => 0))), (q5, .inl ((mj_cI κ).1, 100, .inl (fun _ => 0))), (q6, .inr (2, [.ref q1, .ref q7, .int 0, .ref q8, .int 0, .int 0, .ref q9])), (q7, .inl ((mj_cI κ).1, 240, .inl (fun _ => 0))), (q8, .inl ((mj_cI κ).1, 60, .inl (fun _ => 0))), (q9, .inl ((mj_cI κ).1, 9, .inl (fun _ => 0))), (q10, .inr (7, [.ref q1, .ref q3, .int 0, .int 0, .int 0, .int 0, .int 0, .ref q11, .ref q16, .int 0, .ref q17, .int 0, .int 0])), (q11, .inr (8, [.ref q12, .ref q13, .ref q14, .ref q15, .int 0])), (q12, .inl ((mj_cI κ).1, 20, .inl (fun _ => 0))), (q13, .inl ((mj_cI κ).1, 20, .inl (fun _ => 0))), (q14, .inl ((mj_cI κ).1, 20, .inl (fun _ => 0))), (q15, .inl ((mj_cI κ).1, 20, .inl (fun _ => 0))), (q16, .inl ((mj_cI κ).1, 100, .inl (fun _ => 0))), (q17, .inl ((mj_cI κ).1, 100, .inl (fun _ => 0))), (q18, .inr (9, [.ref q1, .ref q3, .ref q6, .ref q19, .ref q24, .ref q29, .int 6, .int 0, .int 0, .int 0, .int 0, .int 0, .int (-1), .int 0, .int (-1), .int 0])), (q19, .inr (8, [.ref q20, .ref q21, .ref q22, .ref q23, .int 0])), (q20, .inl ((mj_cI κ).1, 20, .inl (fun _ => 0))), (q21, .inl ((mj_cI κ).1, 20, .inl (fun _ => 0))), (q22, .inl ((mj_cI κ).1, 20, .inl (fun _ => 0))), (q23, .inl ((mj_cI κ).1, 20, .inl (fun _ => 0))), (q24, .inr (8, [.ref q25, .ref q26, .ref q27, .ref q28, .int 0])), (q25, .inl ((mj_cI κ).1, 20, .inl (fun _ => 0))), (q26, .inl ((mj_cI κ).1, 20, .inl (fun _ => 0))), (q27, .inl ((mj_cI κ).1, 20, .inl (fun _ => 0))), (q28, .inl ((mj_cI κ).1, 20, .inl (fun _ => 0))), (q29, .inr (8, [.ref q30, .ref q31, .ref q32, .ref q33, .int 0])), (q30, .inl ((mj_cI κ).1, 20, .inl (fun _ => 0))), (q31, .inl ((mj_cI κ).1, 20, .inl (fun _ => 0))), (q32, .inl ((mj_cI κ).1, 20, .inl (fun _ => 0))), (q33, .inl ((mj_cI κ).1, 20, .inl (fun _ => 0))), (q34, .inr (10, [.ref q1, .int 5, .int 6, .ref q35, .ref q36, .ref q37, .ref q38, .int 0, .int 0, .int 0, .int 0])), (q35, .inl ((mj_cI κ).1, 240, .inl (fun _ => 0))), (q36, .inl ((mj_cI κ).1, 48, .inl (fun _ => 0))), (q37, .inl ((mj_cI κ).1, 48, .inl (fun _ => 0))), (q38, .inl ((mj_cI κ).1, 8, .inl (fun _ => 0))), (q39, .inr (10, [.ref q1, .int 3, .int 7, .ref q40, .ref q41, .ref q42, .ref q43, .int 0, .int 0, .int 0, .int 0])), (q40, .inl ((mj_cI κ).1, 240, .inl (fun _ => 0))), (q41, .inl ((mj_cI κ).1, 48, .inl (fun _ => 0))), (q42, .inl ((mj_cI κ).1, 48, .inl (fun _ => 0))), (q43, .inl ((mj_cI κ).1, 8, .inl (fun _ => 0)))]) C hN lF_X3_61 ⟨_, rfl, rfl⟩ fR_4_6 rfl (fun _ => rfl) rfl rfl (Nat.le_of_ble_eq_true rfl) dX3_init_120 rfl ?_
  refine mx_aload_n (mx_D C hmc hms rfl rfl) dX3_init_123 rfl ?_
  refine mx_new (fs := [.null, .null, .int 0, .int 0]) tyX4 C (ci := 5) rfl inTX4 tyX4_ok (by exact (mj_in2 102 rfl rfl)) (by exact (mj_in2 103 rfl rfl)) (by exact (mj_in1 10 rfl rfl)) (fun j hj => by rcases (show j = 0 ∨ j = 1 ∨ j = 2 ∨ j = 3 by omega) with rfl | rfl | rfl | rfl <;> rfl) (mx_lc hmc rfl) (mx_ls hms rfl) dX3_init_124 (fun q44 => ?_)
  show mj_R (mj_ky κ [(a0, .inr (4, [.ref q1, .ref q3, .ref q6, .ref q10, .ref q18, .ref q34, .ref q39, .null])), (q1, .inr (1, [.int 0, .int 0, .ref q2])), (q2, .inl ((mj_cI κ).1, 11, .inl (mj_sa 0))), (q3, .inr (3, [.ref q1, .ref q4, .int 0, .ref q5, .int 0, .int 0])), (q4, .inl ((mj_cI κ).1, 700, .inl (fun _ => 0))), (q5, .inl ((mj_cI κ).1, 100, .inl (fun _ => 0))), (q6, .inr (2, [.ref q1, .ref q7, .int 0, .ref q8, .int 0, .int 0, .ref q9])), (q7, .inl ((mj_cI κ).1, 240, .inl (fun _ => 0))), (q8, .inl ((mj_cI κ).1, 60, .inl (fun _ => 0))), (q9, .inl ((mj_cI κ).1, 9, .inl (fun _ => 0))), (q10, .inr (7, [.ref q1, .ref q3, .int 0, .int 0, .int 0, .int 0, .int 0, .ref q11, .ref q16, .int 0, .ref q17, .int 0, .int 0])), (q11, .inr (8, [.ref q12, .ref q13, .ref q14, .ref q15, .int 0])), (q12, .inl ((mj_cI κ).1, 20, .inl (fun _ => 0))), (q13, .inl ((mj_cI κ).1, 20, .inl (fun _ => 0))), (q14, .inl ((mj_cI κ).1, 20, .inl (fun _ => 0))), (q15, .inl ((mj_cI κ).1, 20, .inl (fun _ => 0))), (q16, .inl ((mj_cI κ).1, 100, .inl (fun _ => 0))), (q17, .inl ((mj_cI κ).1, 100, .inl (fun _ => 0))), (q18, .inr (9, [.ref q1, .ref q3, .ref q6, .ref q19, .ref q24, .ref q29, .int 6, .int 0, .int 0, .int 0, .int 0, .int 0, .int (-1), .int 0, .int (-1), .int 0])), (q19, .inr (8, [.ref q20, .ref q21, .ref q22, .ref q23, .int 0])), (q20, .inl ((mj_cI κ).1, 20, .inl (fun _ => 0))), (q21, .inl ((mj_cI κ).1, 20, .inl (fun _ => 0))), (q22, .inl ((mj_cI κ).1, 20, .inl (fun _ => 0))), (q23, .inl ((mj_cI κ).1, 20, .inl (fun _ => 0))), (q24, .inr (8, [.ref q25, .ref q26, .ref q27, .ref q28, .int 0])), (q25, .inl ((mj_cI κ).1, 20, .inl (fun _ => 0))), (q26, .inl ((mj_cI κ).1, 20, .inl (fun _ => 0))), (q27, .inl ((mj_cI κ).1, 20, .inl (fun _ => 0))), (q28, .inl ((mj_cI κ).1, 20, .inl (fun _ => 0))), (q29, .inr (8, [.ref q30, .ref q31, .ref q32, .ref q33, .int 0])), (q30, .inl ((mj_cI κ).1, 20, .inl (fun _ => 0))), (q31, .inl ((mj_cI κ).1, 20, .inl (fun _ => 0))), (q32, .inl ((mj_cI κ).1, 20, .inl (fun _ => 0))), (q33, .inl ((mj_cI κ).1, 20, .inl (fun _ => 0))), (q34, .inr (10, [.ref q1, .int 5, .int 6, .ref q35, .ref q36, .ref q37, .ref q38, .int 0, .int 0, .int 0, .int 0])), (q35, .inl ((mj_cI κ).1, 240, .inl (fun _ => 0))), (q36, .inl ((mj_cI κ).1, 48, .inl (fun _ => 0))), (q37, .inl ((mj_cI κ).1, 48, .inl (fun _ => 0))), (q38, .inl ((mj_cI κ).1, 8, .inl (fun _ => 0))), (q39, .inr (10, [.ref q1, .int 3, .int 7, .ref q40, .ref q41, .ref q42, .ref q43, .int 0, .int 0, .int 0, .int 0])), (q40, .inl ((mj_cI κ).1, 240, .inl (fun _ => 0))), (q41, .inl ((mj_cI κ).1, 48, .inl (fun _ => 0))), (q42, .inl ((mj_cI κ).1, 48, .inl (fun _ => 0))), (q43, .inl ((mj_cI κ).1, 8, .inl (fun _ => 0))), (q44, .inr (5, [.null, .null, .int 0, .int 0]))] 44 2419) _ 127 [some (mj_o (some a0))] [mj_o (some q44), mj_o (some a0)] M
  refine mj_dup (mx_D C hmc hms rfl rfl) dX3_init_127 ?_
  refine mx_callIN (av := []) (Y0 := [(a0, .inr (4, [.ref q1, .ref q3, .ref q6, .ref q10, .ref q18, .ref q34, .ref q39, .null])), (q1, .inr (1, [.int 0, .int 0, .ref q2])), (q2, .inl ((mj_cI κ).1, 11, .inl (mj_sa 0))), (q3, .inr (3, [.ref q1, .ref q4, .int 0, .ref q5, .int 0, .int 0])), (q4, .inl ((mj_cI κ).1, 700, .inl (fun _ => 0))), (q5, .inl ((mj_cI κ).1, 100, .inl (fun _ => 0))), (q6, .inr (2, [.ref q1, .ref q7, .int 0, .ref q8, .int 0, .int 0, .ref q9])), (q7, .inl ((mj_cI κ).1, 240, .inl (fun _ => 0))), (q8, .inl ((mj_cI κ).1, 60, .inl (fun _ => 0))), (q9, .inl ((mj_cI κ).1, 9, .inl (fun _ => 0))), (q10, .inr (7, [.ref q1, .ref q3, .int 0, .int 0, .int 0, .int 0, .int 0, .ref q11, .ref q16, .int 0, .ref q17, .int 0, .int 0])), (q11, .inr (8, [.ref q12, .ref q13, .ref q14, .ref q15, .int 0])), (q12, .inl ((mj_cI κ).1, 20, .inl (fun _ => 0))), (q13, .inl ((mj_cI κ).1, 20, .inl (fun _ => 0))), (q14, .inl ((mj_cI κ).1, 20, .inl (fun _ => 0))), (q15, .inl ((mj_cI κ).1, 20, .inl (fun _ => 0))), (q16, .inl ((mj_cI κ).1, 100, .inl (fun _ => 0))), (q17, .inl ((mj_cI κ).1, 100, .inl (fun _ => 0))), (q18, .inr (9, [.ref q1, .ref q3, .ref q6, .ref q19, .ref q24, .ref q29, .int 6, .int 0, .int 0, .int 0, .int 0, .int 0, .int (-1), .int 0, .int (-1), .int 0])), (q19, .inr (8, [.ref q20, .ref q21, .ref q22, .ref q23, .int 0])), (q20, .inl ((mj_cI κ).1, 20, .inl (fun _ => 0))), (q21, .inl ((mj_cI κ).1, 20, .inl (fun _ => 0))), (q22, .inl ((mj_cI κ).1, 20, .inl (fun _ => 0))), (q23, .inl ((mj_cI κ).1, 20, .inl (fun _ => 0))), (q24, .inr (8, [.ref q25, .ref q26, .ref q27, .ref q28, .int 0])), (q25, .inl ((mj_cI κ).1, 20, .inl (fun _ => 0))), (q26, .inl ((mj_cI κ).1, 20, .inl (fun _ => 0))), (q27, .inl ((mj_cI κ).1, 20, .inl (fun _ => 0))), (q28, .inl ((mj_cI κ).1, 20, .inl (fun _ => 0))), (q29, .inr (8, [.ref q30, .ref q31, .ref q32, .ref q33, .int 0])), (q30, .inl ((mj_cI κ).1, 20, .inl (fun _ => 0))), (q31, .inl ((mj_cI κ).1, 20, .inl (fun _ => 0))), (q32, .inl ((mj_cI κ).1, 20, .inl (fun _ => 0))), (q33, .inl ((mj_cI κ).1, 20, .inl (fun _ => 0))), (q34, .inr (10, [.ref q1, .int 5, .int 6, .ref q35, .ref q36, .ref q37, .ref q38, .int 0, .int 0, .int 0, .int 0])), (q35, .inl ((mj_cI κ).1, 240, .inl (fun _ => 0))), (q36, .inl ((mj_cI κ).1, 48, .inl (fun _ => 0))), (q37, .inl ((mj_cI κ).1, 48, .inl (fun _ => 0))), (q38, .inl ((mj_cI κ).1, 8, .inl (fun _ => 0))), (q39, .inr (10, [.ref q1, .int 3, .int 7, .ref q40, .ref q41, .ref q42, .ref q43, .int 0, .int 0, .int 0, .int 0])), (q40, .inl ((mj_cI κ).1, 240, .inl (fun _ => 0))), (q41, .inl ((mj_cI κ).1, 48, .inl (fun _ => 0))), (q42, .inl ((mj_cI κ).1, 48, .inl (fun _ => 0))), (q43, .inl ((mj_cI κ).1, 8, .inl (fun _ => 0)))]) (ce := 44) (sl := 2419) C lN_X3_66 lk_X4_init rfl (mj_in2 105 rfl rfl) rfl (K_X4_init (a0 := q44)) rfl (mx_fit hR hmc hms rfl rfl rfl rfl) rfl (Nat.le_of_ble_eq_true rfl) dX3_init_128 (fun r Y' hp => ?_)
  obtain ⟨rfl, q45, q46, rfl⟩ := hp
  show mj_R (mj_ky κ [(a0, .inr (4, [.ref q1, .ref q3, .ref q6, .ref q10, .ref q18, .ref q34, .ref q39, .null])), (q1, .inr (1, [.int 0, .int 0, .ref q2])), (q2, .inl ((mj_cI κ).1, 11, .inl (mj_sa 0))), (q3, .inr (3, [.ref q1, .ref q4, .int 0, .ref q5, .int 0, .int 0])), (q4, .inl ((mj_cI κ).1, 700, .inl (fun _ => 0))), (q5, .inl ((mj_cI κ).1, 100, .inl (fun _ => 0))), (q6, .inr (2, [.ref q1, .ref q7, .int 0, .ref q8, .int 0, .int 0, .ref q9])), (q7, .inl ((mj_cI κ).1, 240, .inl (fun _ => 0))), (q8, .inl ((mj_cI κ).1, 60, .inl (fun _ => 0))), (q9, .inl ((mj_cI κ).1, 9, .inl (fun _ => 0))), (q10, .inr (7, [.ref q1, .ref q3, .int 0, .int 0, .int 0, .int 0, .int 0, .ref q11, .ref q16, .int 0, .ref q17, .int 0, .int 0])), (q11, .inr (8, [.ref q12, .ref q13, .ref q14, .ref q15, .int 0])), (q12, .inl ((mj_cI κ).1, 20, .inl (fun _ => 0))), (q13, .inl ((mj_cI κ).1, 20, .inl (fun _ => 0))), (q14, .inl ((mj_cI κ).1, 20, .inl (fun _ => 0))), (q15, .inl ((mj_cI κ).1, 20, .inl (fun _ => 0))), (q16, .inl ((mj_cI κ).1, 100, .inl (fun _ => 0))), (q17, .inl ((mj_cI κ).1, 100, .inl (fun _ => 0))), (q18, .inr (9, [.ref q1, .ref q3, .ref q6, .ref q19, .ref q24, .ref q29, .int 6, .int 0, .int 0, .int 0, .int 0, .int 0, .int (-1), .int 0, .int (-1), .int 0])), (q19, .inr (8, [.ref q20, .ref q21, .ref q22, .ref q23, .int 0])), (q20, .inl ((mj_cI κ).1, 20, .inl (fun _ => 0))), (q21, .inl ((mj_cI κ).1, 20, .inl (fun _ => 0))), (q22, .inl ((mj_cI κ).1, 20, .inl (fun _ => 0))), (q23, .inl ((mj_cI κ).1, 20, .inl (fun _ => 0))), (q24, .inr (8, [.ref q25, .ref q26, .ref q27, .ref q28, .int 0])), (q25, .inl ((mj_cI κ).1, 20, .inl (fun _ => 0))), (q26, .inl ((mj_cI κ).1, 20, .inl (fun _ => 0))), (q27, .inl ((mj_cI κ).1, 20, .inl (fun _ => 0))), (q28, .inl ((mj_cI κ).1, 20, .inl (fun _ => 0))), (q29, .inr (8, [.ref q30, .ref q31, .ref q32, .ref q33, .int 0])), (q30, .inl ((mj_cI κ).1, 20, .inl (fun _ => 0))), (q31, .inl ((mj_cI κ).1, 20, .inl (fun _ => 0))), (q32, .inl ((mj_cI κ).1, 20, .inl (fun _ => 0))), (q33, .inl ((mj_cI κ).1, 20, .inl (fun _ => 0))), (q34, .inr (10, [.ref q1, .int 5, .int 6, .ref q35, .ref q36, .ref q37, .ref q38, .int 0, .int 0, .int 0, .int 0])), (q35, .inl ((mj_cI κ).1, 240, .inl (fun _ => 0))), (q36, .inl ((mj_cI κ).1, 48, .inl (fun _ => 0))), (q37, .inl ((mj_cI κ).1, 48, .inl (fun _ => 0))), (q38, .inl ((mj_cI κ).1, 8, .inl (fun _ => 0))), (q39, .inr (10, [.ref q1, .int 3, .int 7, .ref q40, .ref q41, .ref q42, .ref q43, .int 0, .int 0, .int 0, .int 0])), (q40, .inl ((mj_cI κ).1, 240, .inl (fun _ => 0))), (q41, .inl ((mj_cI κ).1, 48, .inl (fun _ => 0))), (q42, .inl ((mj_cI κ).1, 48, .inl (fun _ => 0))), (q43, .inl ((mj_cI κ).1, 8, .inl (fun _ => 0))), (q44, .inr (5, [.ref q45, .ref q46, .int 0, .int 0])), (q45, .inl ((mj_cI κ).1, 24, .inl (fun _ => 0))), (q46, .inl ((mj_cI κ).1, 24, .inl (fun _ => 0)))] 46 2467) _ 131 [some (mj_o (some a0))] [mj_o (some q44), mj_o (some a0)] M
  refine mx_putF (k := 0) (Y' := [(a0, .inr (4, [.ref q1, .ref q3, .ref q6, .ref q10, .ref q18, .ref q34, .ref q39, .ref q44])), (q1, .inr (1, [.int 0, .int 0, .ref q2])), (q2, .inl ((mj_cI κ).1, 11, .inl (mj_sa 0))), (q3, .inr (3, [.ref q1, .ref q4, .int 0, .ref q5, .int 0, .int 0])), (q4, .inl ((mj_cI κ).1, 700, .inl (fun _ => 0))), (q5, .inl ((mj_cI κ).1, 100, .inl (fun _ => 0))), (q6, .inr (2, [.ref q1, .ref q7, .int 0, .ref q8, .int 0, .int 0, .ref q9])), (q7, .inl ((mj_cI κ).1, 240, .inl (fun _ => 0))), (q8, .inl ((mj_cI κ).1, 60, .inl (fun _ => 0))), (q9, .inl ((mj_cI κ).1, 9, .inl (fun _ => 0))), (q10, .inr (7, [.ref q1, .ref q3, .int 0, .int 0, .int 0, .int 0, .int 0, .ref q11, .ref q16, .int 0, .ref q17, .int 0, .int 0])), (q11, .inr (8, [.ref q12, .ref q13, .ref q14, .ref q15, .int 0])), (q12, .inl ((mj_cI κ).1, 20, .inl (fun _ => 0))), (q13, .inl ((mj_cI κ).1, 20, .inl (fun _ => 0))), (q14, .inl ((mj_cI κ).1, 20, .inl (fun _ => 0))), (q15, .inl ((mj_cI κ).1, 20, .inl (fun _ => 0))), (q16, .inl ((mj_cI κ).1, 100, .inl (fun _ => 0))), (q17, .inl ((mj_cI κ).1, 100, .inl (fun _ => 0))), (q18, .inr (9, [.ref q1, .ref q3, .ref q6, .ref q19, .ref q24, .ref q29, .int 6, .int 0, .int 0, .int 0, .int 0, .int 0, .int (-1), .int 0, .int (-1), .int 0])), (q19, .inr (8, [.ref q20, .ref q21, .ref q22, .ref q23, .int 0])), (q20, .inl ((mj_cI κ).1, 20, .inl (fun _ => 0))), (q21, .inl ((mj_cI κ).1, 20, .inl (fun _ => 0))), (q22, .inl ((mj_cI κ).1, 20, .inl (fun _ => 0))), (q23, .inl ((mj_cI κ).1, 20, .inl (fun _ => 0))), (q24, .inr (8, [.ref q25, .ref q26, .ref q27, .ref q28, .int 0])), (q25, .inl ((mj_cI κ).1, 20, .inl (fun _ => 0))), (q26, .inl ((mj_cI κ).1, 20, .inl (fun _ => 0))), (q27, .inl ((mj_cI κ).1, 20, .inl (fun _ => 0))), (q28, .inl ((mj_cI κ).1, 20, .inl (fun _ => 0))), (q29, .inr (8, [.ref q30, .ref q31, .ref q32, .ref q33, .int 0])), (q30, .inl ((mj_cI κ).1, 20, .inl (fun _ => 0))), (q31, .inl ((mj_cI κ).1, 20, .inl (fun _ => 0))), (q32, .inl ((mj_cI κ).1, 20, .inl (fun _ => 0))), (q33, .inl ((mj_cI κ).1, 20, .inl (fun _ => 0))), (q34, .inr (10, [.ref q1, .int 5, .int 6, .ref q35, .ref q36, .ref q37, .ref q38, .int 0, .int 0, .int 0, .int 0])), (q35, .inl ((mj_cI κ).1, 240, .inl (fun _ => 0))), (q36, .inl ((mj_cI κ).1, 48, .inl (fun _ => 0))), (q37, .inl ((mj_cI κ).1, 48, .inl (fun _ => 0))), (q38, .inl ((mj_cI κ).1, 8, .inl (fun _ => 0))), (q39, .inr (10, [.ref q1, .int 3, .int 7, .ref q40, .ref q41, .ref q42, .ref q43, .int 0, .int 0, .int 0, .int 0])), (q40, .inl ((mj_cI κ).1, 240, .inl (fun _ => 0))), (q41, .inl ((mj_cI κ).1, 48, .inl (fun _ => 0))), (q42, .inl ((mj_cI κ).1, 48, .inl (fun _ => 0))), (q43, .inl ((mj_cI κ).1, 8, .inl (fun _ => 0))), (q44, .inr (5, [.ref q45, .ref q46, .int 0, .int 0])), (q45, .inl ((mj_cI κ).1, 24, .inl (fun _ => 0))), (q46, .inl ((mj_cI κ).1, 24, .inl (fun _ => 0)))]) C hN lF_X3_67 ⟨_, rfl, rfl⟩ fR_4_7 rfl (fun _ => rfl) rfl rfl (Nat.le_of_ble_eq_true rfl) dX3_init_131 rfl ?_
  exact mx_vret C hT (Nat.le_of_ble_eq_true rfl) (Nat.le_of_ble_eq_true rfl) dX3_init_134 ⟨rfl, q1, q2, q3, q4, q5, q6, q7, q8, q9, q10, q11, q12, q13, q14, q15, q16, q17, q18, q19, q20, q21, q22, q23, q24, q25, q26, q27, q28, q29, q30, q31, q32, q33, q34, q35, q36, q37, q38, q39, q40, q41, q42, q43, q44, q45, q46, rfl⟩
def lst_X11_init_q4 : List Int32 := [32, 65, 67, 84, 73, 86, 69, 32, 82, 69, 83, 69, 78, 68, 83, 32, 87, 65, 73, 84, 73, 78, 71, 32, 67, 72, 69, 67, 75, 83, 32, 68, 73, 82, 69, 67, 84, 83, 32, 79, 70, 70, 32, 79, 80, 69, 78, 32, 87, 65, 73, 84, 32, 76, 79, 67, 75, 69, 68, 32, 83, 84, 69, 80, 32, 78, 85, 77, 66, 69, 82, 32, 82, 69, 80, 79, 82, 84, 32, 76, 73, 77, 73, 84, 32, 83, 84, 79, 80, 32, 72, 69, 76, 68, 32]
def lst_X11_init_q7 : List Int32 := [32, 115, 101, 110, 100, 32, 112, 97, 115, 116, 32, 115, 101, 116, 32, 114, 101, 110, 117, 109, 98, 101, 114, 32, 116, 105, 99, 107, 32, 100, 114, 111, 112, 32, 115, 116, 97, 114, 116, 32, 99, 104, 101, 99, 107, 32, 117, 110, 108, 111, 99, 107, 32, 115, 116, 111, 112, 32, 111, 110, 32, 116, 97, 107, 101, 32, 108, 111, 115, 101, 32]
set_option maxHeartbeats 8000000 in
set_option maxRecDepth 40000 in
theorem K_X11_init {cI : mj_I} {a0 : Nat} : mx_Sem cI yX11_init cX11_init 1 none 1 9 6467 [mj_o (some a0)] [(a0, .inr (12, [.int 0, .null, .null, .null, .int 0, .null, .null, .int 0, .null, .int 0, .int 0, .int 0, .int 0, .int 0, .null, .int 0, .int 0, .int 0, .int 0, .int 0, .null, .int 0, .null]))] (fun r Y' => r = none ∧ ∃ q1 q2 q3 q4 q5 q6 q7 q8 q9 : Nat, Y' = [(a0, .inr (12, [.int 0, .ref q1, .ref q2, .ref q3, .int 0, .ref q4, .ref q5, .int 0, .ref q6, .int 0, .int 0, .int 0, .int 0, .int 0, .ref q7, .int 0, .int 0, .int 0, .int (-1), .int 0, .ref q8, .int 0, .ref q9])), (q1, .inl (cI.1, 1897, .inl (fun _ => 0))), (q2, .inl (cI.1, 1897, .inl (fun _ => 0))), (q3, .inl (cI.1, 5, .inl (fun _ => 0))), (q4, .inl (cI.1, 95, .inl (mj_pre lst_X11_init_q4 95))), (q5, .inl (cI.1, 60, .inl (fun _ => 0))), (q6, .inl (cI.1, 400, .inl (fun _ => 0))), (q7, .inl (cI.1, 71, .inl (mj_pre lst_X11_init_q7 71))), (q8, .inl (cI.1, 96, .inl (fun _ => 0))), (q9, .inl (cI.1, 1946, .inl (fun _ => 0)))]) := by
  refine mx_intro (by decide) (Nat.le_of_ble_eq_true rfl) ?_
  intro κ M C hcI hR hmc hms hT hN
  subst hcI
  have C : mj_C κ cX11_init 1 RX11 := C
  show mj_R (mj_ky κ [(a0, .inr (12, [.int 0, .null, .null, .null, .int 0, .null, .null, .int 0, .null, .int 0, .int 0, .int 0, .int 0, .int 0, .null, .int 0, .int 0, .int 0, .int 0, .int 0, .null, .int 0, .null]))] 0 0) (mx_F κ M 9 6467 _) 0 [some (mj_o (some a0))] [] M
  refine mx_aload_n (mx_D C hmc hms rfl rfl) dX11_init_0 rfl ?_
  refine mx_objInit C lM_X11_1 rfl mx_oi mx_oc (mj_rmc hR (by decide)) (Nat.le_of_ble_eq_true rfl) dX11_init_1 ?_
  refine mx_aload_n (mx_D C hmc hms rfl rfl) dX11_init_4 rfl ?_
  refine mj_sipush (v := 1897) (mx_D C hmc hms rfl rfl) dX11_init_5 (by decide) ?_
  refine mx_newi (N' := 1897) C mx_ai (by decide) (by decide) (by decide) (mx_lc hmc rfl) (mx_ls hms rfl) dX11_init_8 (fun q1 => ?_)
  show mj_R (mj_ky κ [(a0, .inr (12, [.int 0, .null, .null, .null, .int 0, .null, .null, .int 0, .null, .int 0, .int 0, .int 0, .int 0, .int 0, .null, .int 0, .int 0, .int 0, .int 0, .int 0, .null, .int 0, .null])), (q1, .inl ((mj_cI κ).1, 1897, .inl (fun _ => 0)))] 1 1897) _ 10 [some (mj_o (some a0))] [mj_o (some q1), mj_o (some a0)] M
  refine mx_putF (k := 0) (Y' := [(a0, .inr (12, [.int 0, .ref q1, .null, .null, .int 0, .null, .null, .int 0, .null, .int 0, .int 0, .int 0, .int 0, .int 0, .null, .int 0, .int 0, .int 0, .int 0, .int 0, .null, .int 0, .null])), (q1, .inl ((mj_cI κ).1, 1897, .inl (fun _ => 0)))]) C hN lF_X11_7 ⟨_, rfl, rfl⟩ fR_12_1 rfl (fun _ => rfl) rfl rfl (Nat.le_of_ble_eq_true rfl) dX11_init_10 rfl ?_
  refine mx_aload_n (mx_D C hmc hms rfl rfl) dX11_init_13 rfl ?_
  refine mj_sipush (v := 1897) (mx_D C hmc hms rfl rfl) dX11_init_14 (by decide) ?_
  refine mx_newi (N' := 1897) C mx_ai (by decide) (by decide) (by decide) (mx_lc hmc rfl) (mx_ls hms rfl) dX11_init_17 (fun q2 => ?_)
  show mj_R (mj_ky κ [(a0, .inr (12, [.int 0, .ref q1, .null, .null, .int 0, .null, .null, .int 0, .null, .int 0, .int 0, .int 0, .int 0, .int 0, .null, .int 0, .int 0, .int 0, .int 0, .int 0, .null, .int 0, .null])), (q1, .inl ((mj_cI κ).1, 1897, .inl (fun _ => 0))), (q2, .inl ((mj_cI κ).1, 1897, .inl (fun _ => 0)))] 2 3794) _ 19 [some (mj_o (some a0))] [mj_o (some q2), mj_o (some a0)] M
  refine mx_putF (k := 0) (Y' := [(a0, .inr (12, [.int 0, .ref q1, .ref q2, .null, .int 0, .null, .null, .int 0, .null, .int 0, .int 0, .int 0, .int 0, .int 0, .null, .int 0, .int 0, .int 0, .int 0, .int 0, .null, .int 0, .null])), (q1, .inl ((mj_cI κ).1, 1897, .inl (fun _ => 0))), (q2, .inl ((mj_cI κ).1, 1897, .inl (fun _ => 0)))]) C hN lF_X11_13 ⟨_, rfl, rfl⟩ fR_12_2 rfl (fun _ => rfl) rfl rfl (Nat.le_of_ble_eq_true rfl) dX11_init_19 rfl ?_
  refine mx_aload_n (mx_D C hmc hms rfl rfl) dX11_init_22 rfl ?_
  refine mj_iconst (v := 5) (mx_D C hmc hms rfl rfl) dX11_init_23 (by decide) ?_
  refine mx_newi (N' := 5) C mx_ai (by decide) (by decide) (by decide) (mx_lc hmc rfl) (mx_ls hms rfl) dX11_init_24 (fun q3 => ?_)
  show mj_R (mj_ky κ [(a0, .inr (12, [.int 0, .ref q1, .ref q2, .null, .int 0, .null, .null, .int 0, .null, .int 0, .int 0, .int 0, .int 0, .int 0, .null, .int 0, .int 0, .int 0, .int 0, .int 0, .null, .int 0, .null])), (q1, .inl ((mj_cI κ).1, 1897, .inl (fun _ => 0))), (q2, .inl ((mj_cI κ).1, 1897, .inl (fun _ => 0))), (q3, .inl ((mj_cI κ).1, 5, .inl (fun _ => 0)))] 3 3799) _ 26 [some (mj_o (some a0))] [mj_o (some q3), mj_o (some a0)] M
  refine mx_putF (k := 0) (Y' := [(a0, .inr (12, [.int 0, .ref q1, .ref q2, .ref q3, .int 0, .null, .null, .int 0, .null, .int 0, .int 0, .int 0, .int 0, .int 0, .null, .int 0, .int 0, .int 0, .int 0, .int 0, .null, .int 0, .null])), (q1, .inl ((mj_cI κ).1, 1897, .inl (fun _ => 0))), (q2, .inl ((mj_cI κ).1, 1897, .inl (fun _ => 0))), (q3, .inl ((mj_cI κ).1, 5, .inl (fun _ => 0)))]) C hN lF_X11_16 ⟨_, rfl, rfl⟩ fR_12_3 rfl (fun _ => rfl) rfl rfl (Nat.le_of_ble_eq_true rfl) dX11_init_26 rfl ?_
  refine mx_aload_n (mx_D C hmc hms rfl rfl) dX11_init_29 rfl ?_
  refine mj_bipush (v := 95) (mx_D C hmc hms rfl rfl) dX11_init_30 (by decide) ?_
  refine mx_newi (N' := 95) C mx_ai (by decide) (by decide) (by decide) (mx_lc hmc rfl) (mx_ls hms rfl) dX11_init_32 (fun q4 => ?_)
  show mj_R (mj_ky κ [(a0, .inr (12, [.int 0, .ref q1, .ref q2, .ref q3, .int 0, .null, .null, .int 0, .null, .int 0, .int 0, .int 0, .int 0, .int 0, .null, .int 0, .int 0, .int 0, .int 0, .int 0, .null, .int 0, .null])), (q1, .inl ((mj_cI κ).1, 1897, .inl (fun _ => 0))), (q2, .inl ((mj_cI κ).1, 1897, .inl (fun _ => 0))), (q3, .inl ((mj_cI κ).1, 5, .inl (fun _ => 0))), (q4, .inl ((mj_cI κ).1, 95, .inl (fun _ => 0)))] 4 3894) _ 34 [some (mj_o (some a0))] [mj_o (some q4), mj_o (some a0)] M
  refine mj_dup (mx_D C hmc hms rfl rfl) dX11_init_34 ?_
  refine mj_iconst (v := 0) (mx_D C hmc hms rfl rfl) dX11_init_35 (by decide) ?_
  refine mj_bipush (v := 32) (mx_D C hmc hms rfl rfl) dX11_init_36 (by decide) ?_
  rw [← mj_pre_0 lst_X11_init_q4]
  refine mx_astf (k := 4) (f := mj_pre lst_X11_init_q4 0) (f' := mj_pre lst_X11_init_q4 1) (Y' := [(a0, .inr (12, [.int 0, .ref q1, .ref q2, .ref q3, .int 0, .null, .null, .int 0, .null, .int 0, .int 0, .int 0, .int 0, .int 0, .null, .int 0, .int 0, .int 0, .int 0, .int 0, .null, .int 0, .null])), (q1, .inl ((mj_cI κ).1, 1897, .inl (fun _ => 0))), (q2, .inl ((mj_cI κ).1, 1897, .inl (fun _ => 0))), (q3, .inl ((mj_cI κ).1, 5, .inl (fun _ => 0))), (q4, .inl ((mj_cI κ).1, 95, .inl (mj_pre lst_X11_init_q4 1)))]) C rfl (mj_okn 0 95 (Nat.le_of_ble_eq_true rfl) (Nat.le_of_ble_eq_true rfl)) (mj_pre_u (mj_cln 0 (Nat.le_of_ble_eq_true rfl)) rfl) dX11_init_38 rfl ?_
  refine mj_dup (mx_D C hmc hms rfl rfl) dX11_init_39 ?_
  refine mj_iconst (v := 1) (mx_D C hmc hms rfl rfl) dX11_init_40 (by decide) ?_
  refine mj_bipush (v := 65) (mx_D C hmc hms rfl rfl) dX11_init_41 (by decide) ?_
  refine mx_astf (k := 4) (f := mj_pre lst_X11_init_q4 1) (f' := mj_pre lst_X11_init_q4 2) (Y' := [(a0, .inr (12, [.int 0, .ref q1, .ref q2, .ref q3, .int 0, .null, .null, .int 0, .null, .int 0, .int 0, .int 0, .int 0, .int 0, .null, .int 0, .int 0, .int 0, .int 0, .int 0, .null, .int 0, .null])), (q1, .inl ((mj_cI κ).1, 1897, .inl (fun _ => 0))), (q2, .inl ((mj_cI κ).1, 1897, .inl (fun _ => 0))), (q3, .inl ((mj_cI κ).1, 5, .inl (fun _ => 0))), (q4, .inl ((mj_cI κ).1, 95, .inl (mj_pre lst_X11_init_q4 2)))]) C rfl (mj_okn 1 95 (Nat.le_of_ble_eq_true rfl) (Nat.le_of_ble_eq_true rfl)) (mj_pre_u (mj_cln 1 (Nat.le_of_ble_eq_true rfl)) rfl) dX11_init_43 rfl ?_
  refine mj_dup (mx_D C hmc hms rfl rfl) dX11_init_44 ?_
  refine mj_iconst (v := 2) (mx_D C hmc hms rfl rfl) dX11_init_45 (by decide) ?_
  refine mj_bipush (v := 67) (mx_D C hmc hms rfl rfl) dX11_init_46 (by decide) ?_
  refine mx_astf (k := 4) (f := mj_pre lst_X11_init_q4 2) (f' := mj_pre lst_X11_init_q4 3) (Y' := [(a0, .inr (12, [.int 0, .ref q1, .ref q2, .ref q3, .int 0, .null, .null, .int 0, .null, .int 0, .int 0, .int 0, .int 0, .int 0, .null, .int 0, .int 0, .int 0, .int 0, .int 0, .null, .int 0, .null])), (q1, .inl ((mj_cI κ).1, 1897, .inl (fun _ => 0))), (q2, .inl ((mj_cI κ).1, 1897, .inl (fun _ => 0))), (q3, .inl ((mj_cI κ).1, 5, .inl (fun _ => 0))), (q4, .inl ((mj_cI κ).1, 95, .inl (mj_pre lst_X11_init_q4 3)))]) C rfl (mj_okn 2 95 (Nat.le_of_ble_eq_true rfl) (Nat.le_of_ble_eq_true rfl)) (mj_pre_u (mj_cln 2 (Nat.le_of_ble_eq_true rfl)) rfl) dX11_init_48 rfl ?_
  refine mj_dup (mx_D C hmc hms rfl rfl) dX11_init_49 ?_
  refine mj_iconst (v := 3) (mx_D C hmc hms rfl rfl) dX11_init_50 (by decide) ?_
  refine mj_bipush (v := 84) (mx_D C hmc hms rfl rfl) dX11_init_51 (by decide) ?_
  refine mx_astf (k := 4) (f := mj_pre lst_X11_init_q4 3) (f' := mj_pre lst_X11_init_q4 4) (Y' := [(a0, .inr (12, [.int 0, .ref q1, .ref q2, .ref q3, .int 0, .null, .null, .int 0, .null, .int 0, .int 0, .int 0, .int 0, .int 0, .null, .int 0, .int 0, .int 0, .int 0, .int 0, .null, .int 0, .null])), (q1, .inl ((mj_cI κ).1, 1897, .inl (fun _ => 0))), (q2, .inl ((mj_cI κ).1, 1897, .inl (fun _ => 0))), (q3, .inl ((mj_cI κ).1, 5, .inl (fun _ => 0))), (q4, .inl ((mj_cI κ).1, 95, .inl (mj_pre lst_X11_init_q4 4)))]) C rfl (mj_okn 3 95 (Nat.le_of_ble_eq_true rfl) (Nat.le_of_ble_eq_true rfl)) (mj_pre_u (mj_cln 3 (Nat.le_of_ble_eq_true rfl)) rfl) dX11_init_53 rfl ?_
  refine mj_dup (mx_D C hmc hms rfl rfl) dX11_init_54 ?_
  refine mj_iconst (v := 4) (mx_D C hmc hms rfl rfl) dX11_init_55 (by decide) ?_
  refine mj_bipush (v := 73) (mx_D C hmc hms rfl rfl) dX11_init_56 (by decide) ?_
  refine mx_astf (k := 4) (f := mj_pre lst_X11_init_q4 4) (f' := mj_pre lst_X11_init_q4 5) (Y' := [(a0, .inr (12, [.int 0, .ref q1, .ref q2, .ref q3, .int 0, .null, .null, .int 0, .null, .int 0, .int 0, .int 0, .int 0, .int 0, .null, .int 0, .int 0, .int 0, .int 0, .int 0, .null, .int 0, .null])), (q1, .inl ((mj_cI κ).1, 1897, .inl (fun _ => 0))), (q2, .inl ((mj_cI κ).1, 1897, .inl (fun _ => 0))), (q3, .inl ((mj_cI κ).1, 5, .inl (fun _ => 0))), (q4, .inl ((mj_cI κ).1, 95, .inl (mj_pre lst_X11_init_q4 5)))]) C rfl (mj_okn 4 95 (Nat.le_of_ble_eq_true rfl) (Nat.le_of_ble_eq_true rfl)) (mj_pre_u (mj_cln 4 (Nat.le_of_ble_eq_true rfl)) rfl) dX11_init_58 rfl ?_
  refine mj_dup (mx_D C hmc hms rfl rfl) dX11_init_59 ?_
  refine mj_iconst (v := 5) (mx_D C hmc hms rfl rfl) dX11_init_60 (by decide) ?_
  refine mj_bipush (v := 86) (mx_D C hmc hms rfl rfl) dX11_init_61 (by decide) ?_
  refine mx_astf (k := 4) (f := mj_pre lst_X11_init_q4 5) (f' := mj_pre lst_X11_init_q4 6) (Y' := [(a0, .inr (12, [.int 0, .ref q1, .ref q2, .ref q3, .int 0, .null, .null, .int 0, .null, .int 0, .int 0, .int 0, .int 0, .int 0, .null, .int 0, .int 0, .int 0, .int 0, .int 0, .null, .int 0, .null])), (q1, .inl ((mj_cI κ).1, 1897, .inl (fun _ => 0))), (q2, .inl ((mj_cI κ).1, 1897, .inl (fun _ => 0))), (q3, .inl ((mj_cI κ).1, 5, .inl (fun _ => 0))), (q4, .inl ((mj_cI κ).1, 95, .inl (mj_pre lst_X11_init_q4 6)))]) C rfl (mj_okn 5 95 (Nat.le_of_ble_eq_true rfl) (Nat.le_of_ble_eq_true rfl)) (mj_pre_u (mj_cln 5 (Nat.le_of_ble_eq_true rfl)) rfl) dX11_init_63 rfl ?_
  refine mj_dup (mx_D C hmc hms rfl rfl) dX11_init_64 ?_
  refine mj_bipush (v := 6) (mx_D C hmc hms rfl rfl) dX11_init_65 (by decide) ?_
  refine mj_bipush (v := 69) (mx_D C hmc hms rfl rfl) dX11_init_67 (by decide) ?_
  refine mx_astf (k := 4) (f := mj_pre lst_X11_init_q4 6) (f' := mj_pre lst_X11_init_q4 7) (Y' := [(a0, .inr (12, [.int 0, .ref q1, .ref q2, .ref q3, .int 0, .null, .null, .int 0, .null, .int 0, .int 0, .int 0, .int 0, .int 0, .null, .int 0, .int 0, .int 0, .int 0, .int 0, .null, .int 0, .null])), (q1, .inl ((mj_cI κ).1, 1897, .inl (fun _ => 0))), (q2, .inl ((mj_cI κ).1, 1897, .inl (fun _ => 0))), (q3, .inl ((mj_cI κ).1, 5, .inl (fun _ => 0))), (q4, .inl ((mj_cI κ).1, 95, .inl (mj_pre lst_X11_init_q4 7)))]) C rfl (mj_okn 6 95 (Nat.le_of_ble_eq_true rfl) (Nat.le_of_ble_eq_true rfl)) (mj_pre_u (mj_cln 6 (Nat.le_of_ble_eq_true rfl)) rfl) dX11_init_69 rfl ?_
  refine mj_dup (mx_D C hmc hms rfl rfl) dX11_init_70 ?_
  refine mj_bipush (v := 7) (mx_D C hmc hms rfl rfl) dX11_init_71 (by decide) ?_
  refine mj_bipush (v := 32) (mx_D C hmc hms rfl rfl) dX11_init_73 (by decide) ?_
  refine mx_astf (k := 4) (f := mj_pre lst_X11_init_q4 7) (f' := mj_pre lst_X11_init_q4 8) (Y' := [(a0, .inr (12, [.int 0, .ref q1, .ref q2, .ref q3, .int 0, .null, .null, .int 0, .null, .int 0, .int 0, .int 0, .int 0, .int 0, .null, .int 0, .int 0, .int 0, .int 0, .int 0, .null, .int 0, .null])), (q1, .inl ((mj_cI κ).1, 1897, .inl (fun _ => 0))), (q2, .inl ((mj_cI κ).1, 1897, .inl (fun _ => 0))), (q3, .inl ((mj_cI κ).1, 5, .inl (fun _ => 0))), (q4, .inl ((mj_cI κ).1, 95, .inl (mj_pre lst_X11_init_q4 8)))]) C rfl (mj_okn 7 95 (Nat.le_of_ble_eq_true rfl) (Nat.le_of_ble_eq_true rfl)) (mj_pre_u (mj_cln 7 (Nat.le_of_ble_eq_true rfl)) rfl) dX11_init_75 rfl ?_
  refine mj_dup (mx_D C hmc hms rfl rfl) dX11_init_76 ?_
  refine mj_bipush (v := 8) (mx_D C hmc hms rfl rfl) dX11_init_77 (by decide) ?_
  refine mj_bipush (v := 82) (mx_D C hmc hms rfl rfl) dX11_init_79 (by decide) ?_
  refine mx_astf (k := 4) (f := mj_pre lst_X11_init_q4 8) (f' := mj_pre lst_X11_init_q4 9) (Y' := [(a0, .inr (12, [.int 0, .ref q1, .ref q2, .ref q3, .int 0, .null, .null, .int 0, .null, .int 0, .int 0, .int 0, .int 0, .int 0, .null, .int 0, .int 0, .int 0, .int 0, .int 0, .null, .int 0, .null])), (q1, .inl ((mj_cI κ).1, 1897, .inl (fun _ => 0))), (q2, .inl ((mj_cI κ).1, 1897, .inl (fun _ => 0))), (q3, .inl ((mj_cI κ).1, 5, .inl (fun _ => 0))), (q4, .inl ((mj_cI κ).1, 95, .inl (mj_pre lst_X11_init_q4 9)))]) C rfl (mj_okn 8 95 (Nat.le_of_ble_eq_true rfl) (Nat.le_of_ble_eq_true rfl)) (mj_pre_u (mj_cln 8 (Nat.le_of_ble_eq_true rfl)) rfl) dX11_init_81 rfl ?_
  refine mj_dup (mx_D C hmc hms rfl rfl) dX11_init_82 ?_
  refine mj_bipush (v := 9) (mx_D C hmc hms rfl rfl) dX11_init_83 (by decide) ?_
  refine mj_bipush (v := 69) (mx_D C hmc hms rfl rfl) dX11_init_85 (by decide) ?_
  refine mx_astf (k := 4) (f := mj_pre lst_X11_init_q4 9) (f' := mj_pre lst_X11_init_q4 10) (Y' := [(a0, .inr (12, [.int 0, .ref q1, .ref q2, .ref q3, .int 0, .null, .null, .int 0, .null, .int 0, .int 0, .int 0, .int 0, .int 0, .null, .int 0, .int 0, .int 0, .int 0, .int 0, .null, .int 0, .null])), (q1, .inl ((mj_cI κ).1, 1897, .inl (fun _ => 0))), (q2, .inl ((mj_cI κ).1, 1897, .inl (fun _ => 0))), (q3, .inl ((mj_cI κ).1, 5, .inl (fun _ => 0))), (q4, .inl ((mj_cI κ).1, 95, .inl (mj_pre lst_X11_init_q4 10)))]) C rfl (mj_okn 9 95 (Nat.le_of_ble_eq_true rfl) (Nat.le_of_ble_eq_true rfl)) (mj_pre_u (mj_cln 9 (Nat.le_of_ble_eq_true rfl)) rfl) dX11_init_87 rfl ?_
  refine mj_dup (mx_D C hmc hms rfl rfl) dX11_init_88 ?_
  refine mj_bipush (v := 10) (mx_D C hmc hms rfl rfl) dX11_init_89 (by decide) ?_
  refine mj_bipush (v := 83) (mx_D C hmc hms rfl rfl) dX11_init_91 (by decide) ?_
  refine mx_astf (k := 4) (f := mj_pre lst_X11_init_q4 10) (f' := mj_pre lst_X11_init_q4 11) (Y' := [(a0, .inr (12, [.int 0, .ref q1, .ref q2, .ref q3, .int 0, .null, .null, .int 0, .null, .int 0, .int 0, .int 0, .int 0, .int 0, .null, .int 0, .int 0, .int 0, .int 0, .int 0, .null, .int 0, .null])), (q1, .inl ((mj_cI κ).1, 1897, .inl (fun _ => 0))), (q2, .inl ((mj_cI κ).1, 1897, .inl (fun _ => 0))), (q3, .inl ((mj_cI κ).1, 5, .inl (fun _ => 0))), (q4, .inl ((mj_cI κ).1, 95, .inl (mj_pre lst_X11_init_q4 11)))]) C rfl (mj_okn 10 95 (Nat.le_of_ble_eq_true rfl) (Nat.le_of_ble_eq_true rfl)) (mj_pre_u (mj_cln 10 (Nat.le_of_ble_eq_true rfl)) rfl) dX11_init_93 rfl ?_
  refine mj_dup (mx_D C hmc hms rfl rfl) dX11_init_94 ?_
  refine mj_bipush (v := 11) (mx_D C hmc hms rfl rfl) dX11_init_95 (by decide) ?_
  refine mj_bipush (v := 69) (mx_D C hmc hms rfl rfl) dX11_init_97 (by decide) ?_
  refine mx_astf (k := 4) (f := mj_pre lst_X11_init_q4 11) (f' := mj_pre lst_X11_init_q4 12) (Y' := [(a0, .inr (12, [.int 0, .ref q1, .ref q2, .ref q3, .int 0, .null, .null, .int 0, .null, .int 0, .int 0, .int 0, .int 0, .int 0, .null, .int 0, .int 0, .int 0, .int 0, .int 0, .null, .int 0, .null])), (q1, .inl ((mj_cI κ).1, 1897, .inl (fun _ => 0))), (q2, .inl ((mj_cI κ).1, 1897, .inl (fun _ => 0))), (q3, .inl ((mj_cI κ).1, 5, .inl (fun _ => 0))), (q4, .inl ((mj_cI κ).1, 95, .inl (mj_pre lst_X11_init_q4 12)))]) C rfl (mj_okn 11 95 (Nat.le_of_ble_eq_true rfl) (Nat.le_of_ble_eq_true rfl)) (mj_pre_u (mj_cln 11 (Nat.le_of_ble_eq_true rfl)) rfl) dX11_init_99 rfl ?_
  refine mj_dup (mx_D C hmc hms rfl rfl) dX11_init_100 ?_
  refine mj_bipush (v := 12) (mx_D C hmc hms rfl rfl) dX11_init_101 (by decide) ?_
  refine mj_bipush (v := 78) (mx_D C hmc hms rfl rfl) dX11_init_103 (by decide) ?_
  refine mx_astf (k := 4) (f := mj_pre lst_X11_init_q4 12) (f' := mj_pre lst_X11_init_q4 13) (Y' := [(a0, .inr (12, [.int 0, .ref q1, .ref q2, .ref q3, .int 0, .null, .null, .int 0, .null, .int 0, .int 0, .int 0, .int 0, .int 0, .null, .int 0, .int 0, .int 0, .int 0, .int 0, .null, .int 0, .null])), (q1, .inl ((mj_cI κ).1, 1897, .inl (fun _ => 0))), (q2, .inl ((mj_cI κ).1, 1897, .inl (fun _ => 0))), (q3, .inl ((mj_cI κ).1, 5, .inl (fun _ => 0))), (q4, .inl ((mj_cI κ).1, 95, .inl (mj_pre lst_X11_init_q4 13)))]) C rfl (mj_okn 12 95 (Nat.le_of_ble_eq_true rfl) (Nat.le_of_ble_eq_true rfl)) (mj_pre_u (mj_cln 12 (Nat.le_of_ble_eq_true rfl)) rfl) dX11_init_105 rfl ?_
  refine mj_dup (mx_D C hmc hms rfl rfl) dX11_init_106 ?_
  refine mj_bipush (v := 13) (mx_D C hmc hms rfl rfl) dX11_init_107 (by decide) ?_
  refine mj_bipush (v := 68) (mx_D C hmc hms rfl rfl) dX11_init_109 (by decide) ?_
  refine mx_astf (k := 4) (f := mj_pre lst_X11_init_q4 13) (f' := mj_pre lst_X11_init_q4 14) (Y' := [(a0, .inr (12, [.int 0, .ref q1, .ref q2, .ref q3, .int 0, .null, .null, .int 0, .null, .int 0, .int 0, .int 0, .int 0, .int 0, .null, .int 0, .int 0, .int 0, .int 0, .int 0, .null, .int 0, .null])), (q1, .inl ((mj_cI κ).1, 1897, .inl (fun _ => 0))), (q2, .inl ((mj_cI κ).1, 1897, .inl (fun _ => 0))), (q3, .inl ((mj_cI κ).1, 5, .inl (fun _ => 0))), (q4, .inl ((mj_cI κ).1, 95, .inl (mj_pre lst_X11_init_q4 14)))]) C rfl (mj_okn 13 95 (Nat.le_of_ble_eq_true rfl) (Nat.le_of_ble_eq_true rfl)) (mj_pre_u (mj_cln 13 (Nat.le_of_ble_eq_true rfl)) rfl) dX11_init_111 rfl ?_
  refine mj_dup (mx_D C hmc hms rfl rfl) dX11_init_112 ?_
  refine mj_bipush (v := 14) (mx_D C hmc hms rfl rfl) dX11_init_113 (by decide) ?_
  refine mj_bipush (v := 83) (mx_D C hmc hms rfl rfl) dX11_init_115 (by decide) ?_
  refine mx_astf (k := 4) (f := mj_pre lst_X11_init_q4 14) (f' := mj_pre lst_X11_init_q4 15) (Y' := [(a0, .inr (12, [.int 0, .ref q1, .ref q2, .ref q3, .int 0, .null, .null, .int 0, .null, .int 0, .int 0, .int 0, .int 0, .int 0, .null, .int 0, .int 0, .int 0, .int 0, .int 0, .null, .int 0, .null])), (q1, .inl ((mj_cI κ).1, 1897, .inl (fun _ => 0))), (q2, .inl ((mj_cI κ).1, 1897, .inl (fun _ => 0))), (q3, .inl ((mj_cI κ).1, 5, .inl (fun _ => 0))), (q4, .inl ((mj_cI κ).1, 95, .inl (mj_pre lst_X11_init_q4 15)))]) C rfl (mj_okn 14 95 (Nat.le_of_ble_eq_true rfl) (Nat.le_of_ble_eq_true rfl)) (mj_pre_u (mj_cln 14 (Nat.le_of_ble_eq_true rfl)) rfl) dX11_init_117 rfl ?_
  refine mj_dup (mx_D C hmc hms rfl rfl) dX11_init_118 ?_
  refine mj_bipush (v := 15) (mx_D C hmc hms rfl rfl) dX11_init_119 (by decide) ?_
  refine mj_bipush (v := 32) (mx_D C hmc hms rfl rfl) dX11_init_121 (by decide) ?_
  refine mx_astf (k := 4) (f := mj_pre lst_X11_init_q4 15) (f' := mj_pre lst_X11_init_q4 16) (Y' := [(a0, .inr (12, [.int 0, .ref q1, .ref q2, .ref q3, .int 0, .null, .null, .int 0, .null, .int 0, .int 0, .int 0, .int 0, .int 0, .null, .int 0, .int 0, .int 0, .int 0, .int 0, .null, .int 0, .null])), (q1, .inl ((mj_cI κ).1, 1897, .inl (fun _ => 0))), (q2, .inl ((mj_cI κ).1, 1897, .inl (fun _ => 0))), (q3, .inl ((mj_cI κ).1, 5, .inl (fun _ => 0))), (q4, .inl ((mj_cI κ).1, 95, .inl (mj_pre lst_X11_init_q4 16)))]) C rfl (mj_okn 15 95 (Nat.le_of_ble_eq_true rfl) (Nat.le_of_ble_eq_true rfl)) (mj_pre_u (mj_cln 15 (Nat.le_of_ble_eq_true rfl)) rfl) dX11_init_123 rfl ?_
  refine mj_dup (mx_D C hmc hms rfl rfl) dX11_init_124 ?_
  refine mj_bipush (v := 16) (mx_D C hmc hms rfl rfl) dX11_init_125 (by decide) ?_
  refine mj_bipush (v := 87) (mx_D C hmc hms rfl rfl) dX11_init_127 (by decide) ?_
  refine mx_astf (k := 4) (f := mj_pre lst_X11_init_q4 16) (f' := mj_pre lst_X11_init_q4 17) (Y' := [(a0, .inr (12, [.int 0, .ref q1, .ref q2, .ref q3, .int 0, .null, .null, .int 0, .null, .int 0, .int 0, .int 0, .int 0, .int 0, .null, .int 0, .int 0, .int 0, .int 0, .int 0, .null, .int 0, .null])), (q1, .inl ((mj_cI κ).1, 1897, .inl (fun _ => 0))), (q2, .inl ((mj_cI κ).1, 1897, .inl (fun _ => 0))), (q3, .inl ((mj_cI κ).1, 5, .inl (fun _ => 0))), (q4, .inl ((mj_cI κ).1, 95, .inl (mj_pre lst_X11_init_q4 17)))]) C rfl (mj_okn 16 95 (Nat.le_of_ble_eq_true rfl) (Nat.le_of_ble_eq_true rfl)) (mj_pre_u (mj_cln 16 (Nat.le_of_ble_eq_true rfl)) rfl) dX11_init_129 rfl ?_
  refine mj_dup (mx_D C hmc hms rfl rfl) dX11_init_130 ?_
  refine mj_bipush (v := 17) (mx_D C hmc hms rfl rfl) dX11_init_131 (by decide) ?_
  refine mj_bipush (v := 65) (mx_D C hmc hms rfl rfl) dX11_init_133 (by decide) ?_
  refine mx_astf (k := 4) (f := mj_pre lst_X11_init_q4 17) (f' := mj_pre lst_X11_init_q4 18) (Y' := [(a0, .inr (12, [.int 0, .ref q1, .ref q2, .ref q3, .int 0, .null, .null, .int 0, .null, .int 0, .int 0, .int 0, .int 0, .int 0, .null, .int 0, .int 0, .int 0, .int 0, .int 0, .null, .int 0, .null])), (q1, .inl ((mj_cI κ).1, 1897, .inl (fun _ => 0))), (q2, .inl ((mj_cI κ).1, 1897, .inl (fun _ => 0))), (q3, .inl ((mj_cI κ).1, 5, .inl (fun _ => 0))), (q4, .inl ((mj_cI κ).1, 95, .inl (mj_pre lst_X11_init_q4 18)))]) C rfl (mj_okn 17 95 (Nat.le_of_ble_eq_true rfl) (Nat.le_of_ble_eq_true rfl)) (mj_pre_u (mj_cln 17 (Nat.le_of_ble_eq_true rfl)) rfl) dX11_init_135 rfl ?_
  refine mj_dup (mx_D C hmc hms rfl rfl) dX11_init_136 ?_
  refine mj_bipush (v := 18) (mx_D C hmc hms rfl rfl) dX11_init_137 (by decide) ?_
  refine mj_bipush (v := 73) (mx_D C hmc hms rfl rfl) dX11_init_139 (by decide) ?_
  refine mx_astf (k := 4) (f := mj_pre lst_X11_init_q4 18) (f' := mj_pre lst_X11_init_q4 19) (Y' := [(a0, .inr (12, [.int 0, .ref q1, .ref q2, .ref q3, .int 0, .null, .null, .int 0, .null, .int 0, .int 0, .int 0, .int 0, .int 0, .null, .int 0, .int 0, .int 0, .int 0, .int 0, .null, .int 0, .null])), (q1, .inl ((mj_cI κ).1, 1897, .inl (fun _ => 0))), (q2, .inl ((mj_cI κ).1, 1897, .inl (fun _ => 0))), (q3, .inl ((mj_cI κ).1, 5, .inl (fun _ => 0))), (q4, .inl ((mj_cI κ).1, 95, .inl (mj_pre lst_X11_init_q4 19)))]) C rfl (mj_okn 18 95 (Nat.le_of_ble_eq_true rfl) (Nat.le_of_ble_eq_true rfl)) (mj_pre_u (mj_cln 18 (Nat.le_of_ble_eq_true rfl)) rfl) dX11_init_141 rfl ?_
  refine mj_dup (mx_D C hmc hms rfl rfl) dX11_init_142 ?_
  refine mj_bipush (v := 19) (mx_D C hmc hms rfl rfl) dX11_init_143 (by decide) ?_
  refine mj_bipush (v := 84) (mx_D C hmc hms rfl rfl) dX11_init_145 (by decide) ?_
  refine mx_astf (k := 4) (f := mj_pre lst_X11_init_q4 19) (f' := mj_pre lst_X11_init_q4 20) (Y' := [(a0, .inr (12, [.int 0, .ref q1, .ref q2, .ref q3, .int 0, .null, .null, .int 0, .null, .int 0, .int 0, .int 0, .int 0, .int 0, .null, .int 0, .int 0, .int 0, .int 0, .int 0, .null, .int 0, .null])), (q1, .inl ((mj_cI κ).1, 1897, .inl (fun _ => 0))), (q2, .inl ((mj_cI κ).1, 1897, .inl (fun _ => 0))), (q3, .inl ((mj_cI κ).1, 5, .inl (fun _ => 0))), (q4, .inl ((mj_cI κ).1, 95, .inl (mj_pre lst_X11_init_q4 20)))]) C rfl (mj_okn 19 95 (Nat.le_of_ble_eq_true rfl) (Nat.le_of_ble_eq_true rfl)) (mj_pre_u (mj_cln 19 (Nat.le_of_ble_eq_true rfl)) rfl) dX11_init_147 rfl ?_
  refine mj_dup (mx_D C hmc hms rfl rfl) dX11_init_148 ?_
  refine mj_bipush (v := 20) (mx_D C hmc hms rfl rfl) dX11_init_149 (by decide) ?_
  refine mj_bipush (v := 73) (mx_D C hmc hms rfl rfl) dX11_init_151 (by decide) ?_
  refine mx_astf (k := 4) (f := mj_pre lst_X11_init_q4 20) (f' := mj_pre lst_X11_init_q4 21) (Y' := [(a0, .inr (12, [.int 0, .ref q1, .ref q2, .ref q3, .int 0, .null, .null, .int 0, .null, .int 0, .int 0, .int 0, .int 0, .int 0, .null, .int 0, .int 0, .int 0, .int 0, .int 0, .null, .int 0, .null])), (q1, .inl ((mj_cI κ).1, 1897, .inl (fun _ => 0))), (q2, .inl ((mj_cI κ).1, 1897, .inl (fun _ => 0))), (q3, .inl ((mj_cI κ).1, 5, .inl (fun _ => 0))), (q4, .inl ((mj_cI κ).1, 95, .inl (mj_pre lst_X11_init_q4 21)))]) C rfl (mj_okn 20 95 (Nat.le_of_ble_eq_true rfl) (Nat.le_of_ble_eq_true rfl)) (mj_pre_u (mj_cln 20 (Nat.le_of_ble_eq_true rfl)) rfl) dX11_init_153 rfl ?_
  refine mj_dup (mx_D C hmc hms rfl rfl) dX11_init_154 ?_
  refine mj_bipush (v := 21) (mx_D C hmc hms rfl rfl) dX11_init_155 (by decide) ?_
  refine mj_bipush (v := 78) (mx_D C hmc hms rfl rfl) dX11_init_157 (by decide) ?_
  refine mx_astf (k := 4) (f := mj_pre lst_X11_init_q4 21) (f' := mj_pre lst_X11_init_q4 22) (Y' := [(a0, .inr (12, [.int 0, .ref q1, .ref q2, .ref q3, .int 0, .null, .null, .int 0, .null, .int 0, .int 0, .int 0, .int 0, .int 0, .null, .int 0, .int 0, .int 0, .int 0, .int 0, .null, .int 0, .null])), (q1, .inl ((mj_cI κ).1, 1897, .inl (fun _ => 0))), (q2, .inl ((mj_cI κ).1, 1897, .inl (fun _ => 0))), (q3, .inl ((mj_cI κ).1, 5, .inl (fun _ => 0))), (q4, .inl ((mj_cI κ).1, 95, .inl (mj_pre lst_X11_init_q4 22)))]) C rfl (mj_okn 21 95 (Nat.le_of_ble_eq_true rfl) (Nat.le_of_ble_eq_true rfl)) (mj_pre_u (mj_cln 21 (Nat.le_of_ble_eq_true rfl)) rfl) dX11_init_159 rfl ?_
  refine mj_dup (mx_D C hmc hms rfl rfl) dX11_init_160 ?_
  refine mj_bipush (v := 22) (mx_D C hmc hms rfl rfl) dX11_init_161 (by decide) ?_
  refine mj_bipush (v := 71) (mx_D C hmc hms rfl rfl) dX11_init_163 (by decide) ?_
  refine mx_astf (k := 4) (f := mj_pre lst_X11_init_q4 22) (f' := mj_pre lst_X11_init_q4 23) (Y' := [(a0, .inr (12, [.int 0, .ref q1, .ref q2, .ref q3, .int 0, .null, .null, .int 0, .null, .int 0, .int 0, .int 0, .int 0, .int 0, .null, .int 0, .int 0, .int 0, .int 0, .int 0, .null, .int 0, .null])), (q1, .inl ((mj_cI κ).1, 1897, .inl (fun _ => 0))), (q2, .inl ((mj_cI κ).1, 1897, .inl (fun _ => 0))), (q3, .inl ((mj_cI κ).1, 5, .inl (fun _ => 0))), (q4, .inl ((mj_cI κ).1, 95, .inl (mj_pre lst_X11_init_q4 23)))]) C rfl (mj_okn 22 95 (Nat.le_of_ble_eq_true rfl) (Nat.le_of_ble_eq_true rfl)) (mj_pre_u (mj_cln 22 (Nat.le_of_ble_eq_true rfl)) rfl) dX11_init_165 rfl ?_
  refine mj_dup (mx_D C hmc hms rfl rfl) dX11_init_166 ?_
  refine mj_bipush (v := 23) (mx_D C hmc hms rfl rfl) dX11_init_167 (by decide) ?_
  refine mj_bipush (v := 32) (mx_D C hmc hms rfl rfl) dX11_init_169 (by decide) ?_
  refine mx_astf (k := 4) (f := mj_pre lst_X11_init_q4 23) (f' := mj_pre lst_X11_init_q4 24) (Y' := [(a0, .inr (12, [.int 0, .ref q1, .ref q2, .ref q3, .int 0, .null, .null, .int 0, .null, .int 0, .int 0, .int 0, .int 0, .int 0, .null, .int 0, .int 0, .int 0, .int 0, .int 0, .null, .int 0, .null])), (q1, .inl ((mj_cI κ).1, 1897, .inl (fun _ => 0))), (q2, .inl ((mj_cI κ).1, 1897, .inl (fun _ => 0))), (q3, .inl ((mj_cI κ).1, 5, .inl (fun _ => 0))), (q4, .inl ((mj_cI κ).1, 95, .inl (mj_pre lst_X11_init_q4 24)))]) C rfl (mj_okn 23 95 (Nat.le_of_ble_eq_true rfl) (Nat.le_of_ble_eq_true rfl)) (mj_pre_u (mj_cln 23 (Nat.le_of_ble_eq_true rfl)) rfl) dX11_init_171 rfl ?_
  refine mj_dup (mx_D C hmc hms rfl rfl) dX11_init_172 ?_
  refine mj_bipush (v := 24) (mx_D C hmc hms rfl rfl) dX11_init_173 (by decide) ?_
  refine mj_bipush (v := 67) (mx_D C hmc hms rfl rfl) dX11_init_175 (by decide) ?_
  refine mx_astf (k := 4) (f := mj_pre lst_X11_init_q4 24) (f' := mj_pre lst_X11_init_q4 25) (Y' := [(a0, .inr (12, [.int 0, .ref q1, .ref q2, .ref q3, .int 0, .null, .null, .int 0, .null, .int 0, .int 0, .int 0, .int 0, .int 0, .null, .int 0, .int 0, .int 0, .int 0, .int 0, .null, .int 0, .null])), (q1, .inl ((mj_cI κ).1, 1897, .inl (fun _ => 0))), (q2, .inl ((mj_cI κ).1, 1897, .inl (fun _ => 0))), (q3, .inl ((mj_cI κ).1, 5, .inl (fun _ => 0))), (q4, .inl ((mj_cI κ).1, 95, .inl (mj_pre lst_X11_init_q4 25)))]) C rfl (mj_okn 24 95 (Nat.le_of_ble_eq_true rfl) (Nat.le_of_ble_eq_true rfl)) (mj_pre_u (mj_cln 24 (Nat.le_of_ble_eq_true rfl)) rfl) dX11_init_177 rfl ?_
  refine mj_dup (mx_D C hmc hms rfl rfl) dX11_init_178 ?_
  refine mj_bipush (v := 25) (mx_D C hmc hms rfl rfl) dX11_init_179 (by decide) ?_
  refine mj_bipush (v := 72) (mx_D C hmc hms rfl rfl) dX11_init_181 (by decide) ?_
  refine mx_astf (k := 4) (f := mj_pre lst_X11_init_q4 25) (f' := mj_pre lst_X11_init_q4 26) (Y' := [(a0, .inr (12, [.int 0, .ref q1, .ref q2, .ref q3, .int 0, .null, .null, .int 0, .null, .int 0, .int 0, .int 0, .int 0, .int 0, .null, .int 0, .int 0, .int 0, .int 0, .int 0, .null, .int 0, .null])), (q1, .inl ((mj_cI κ).1, 1897, .inl (fun _ => 0))), (q2, .inl ((mj_cI κ).1, 1897, .inl (fun _ => 0))), (q3, .inl ((mj_cI κ).1, 5, .inl (fun _ => 0))), (q4, .inl ((mj_cI κ).1, 95, .inl (mj_pre lst_X11_init_q4 26)))]) C rfl (mj_okn 25 95 (Nat.le_of_ble_eq_true rfl) (Nat.le_of_ble_eq_true rfl)) (mj_pre_u (mj_cln 25 (Nat.le_of_ble_eq_true rfl)) rfl) dX11_init_183 rfl ?_
  refine mj_dup (mx_D C hmc hms rfl rfl) dX11_init_184 ?_
  refine mj_bipush (v := 26) (mx_D C hmc hms rfl rfl) dX11_init_185 (by decide) ?_
  refine mj_bipush (v := 69) (mx_D C hmc hms rfl rfl) dX11_init_187 (by decide) ?_
  refine mx_astf (k := 4) (f := mj_pre lst_X11_init_q4 26) (f' := mj_pre lst_X11_init_q4 27) (Y' := [(a0, .inr (12, [.int 0, .ref q1, .ref q2, .ref q3, .int 0, .null, .null, .int 0, .null, .int 0, .int 0, .int 0, .int 0, .int 0, .null, .int 0, .int 0, .int 0, .int 0, .int 0, .null, .int 0, .null])), (q1, .inl ((mj_cI κ).1, 1897, .inl (fun _ => 0))), (q2, .inl ((mj_cI κ).1, 1897, .inl (fun _ => 0))), (q3, .inl ((mj_cI κ).1, 5, .inl (fun _ => 0))), (q4, .inl ((mj_cI κ).1, 95, .inl (mj_pre lst_X11_init_q4 27)))]) C rfl (mj_okn 26 95 (Nat.le_of_ble_eq_true rfl) (Nat.le_of_ble_eq_true rfl)) (mj_pre_u (mj_cln 26 (Nat.le_of_ble_eq_true rfl)) rfl) dX11_init_189 rfl ?_
  refine mj_dup (mx_D C hmc hms rfl rfl) dX11_init_190 ?_
  refine mj_bipush (v := 27) (mx_D C hmc hms rfl rfl) dX11_init_191 (by decide) ?_
  refine mj_bipush (v := 67) (mx_D C hmc hms rfl rfl) dX11_init_193 (by decide) ?_
  refine mx_astf (k := 4) (f := mj_pre lst_X11_init_q4 27) (f' := mj_pre lst_X11_init_q4 28) (Y' := [(a0, .inr (12, [.int 0, .ref q1, .ref q2, .ref q3, .int 0, .null, .null, .int 0, .null, .int 0, .int 0, .int 0, .int 0, .int 0, .null, .int 0, .int 0, .int 0, .int 0, .int 0, .null, .int 0, .null])), (q1, .inl ((mj_cI κ).1, 1897, .inl (fun _ => 0))), (q2, .inl ((mj_cI κ).1, 1897, .inl (fun _ => 0))), (q3, .inl ((mj_cI κ).1, 5, .inl (fun _ => 0))), (q4, .inl ((mj_cI κ).1, 95, .inl (mj_pre lst_X11_init_q4 28)))]) C rfl (mj_okn 27 95 (Nat.le_of_ble_eq_true rfl) (Nat.le_of_ble_eq_true rfl)) (mj_pre_u (mj_cln 27 (Nat.le_of_ble_eq_true rfl)) rfl) dX11_init_195 rfl ?_
  refine mj_dup (mx_D C hmc hms rfl rfl) dX11_init_196 ?_
  refine mj_bipush (v := 28) (mx_D C hmc hms rfl rfl) dX11_init_197 (by decide) ?_
  refine mj_bipush (v := 75) (mx_D C hmc hms rfl rfl) dX11_init_199 (by decide) ?_
  refine mx_astf (k := 4) (f := mj_pre lst_X11_init_q4 28) (f' := mj_pre lst_X11_init_q4 29) (Y' := [(a0, .inr (12, [.int 0, .ref q1, .ref q2, .ref q3, .int 0, .null, .null, .int 0, .null, .int 0, .int 0, .int 0, .int 0, .int 0, .null, .int 0, .int 0, .int 0, .int 0, .int 0, .null, .int 0, .null])), (q1, .inl ((mj_cI κ).1, 1897, .inl (fun _ => 0))), (q2, .inl ((mj_cI κ).1, 1897, .inl (fun _ => 0))), (q3, .inl ((mj_cI κ).1, 5, .inl (fun _ => 0))), (q4, .inl ((mj_cI κ).1, 95, .inl (mj_pre lst_X11_init_q4 29)))]) C rfl (mj_okn 28 95 (Nat.le_of_ble_eq_true rfl) (Nat.le_of_ble_eq_true rfl)) (mj_pre_u (mj_cln 28 (Nat.le_of_ble_eq_true rfl)) rfl) dX11_init_201 rfl ?_
  refine mj_dup (mx_D C hmc hms rfl rfl) dX11_init_202 ?_
  refine mj_bipush (v := 29) (mx_D C hmc hms rfl rfl) dX11_init_203 (by decide) ?_
  refine mj_bipush (v := 83) (mx_D C hmc hms rfl rfl) dX11_init_205 (by decide) ?_
  refine mx_astf (k := 4) (f := mj_pre lst_X11_init_q4 29) (f' := mj_pre lst_X11_init_q4 30) (Y' := [(a0, .inr (12, [.int 0, .ref q1, .ref q2, .ref q3, .int 0, .null, .null, .int 0, .null, .int 0, .int 0, .int 0, .int 0, .int 0, .null, .int 0, .int 0, .int 0, .int 0, .int 0, .null, .int 0, .null])), (q1, .inl ((mj_cI κ).1, 1897, .inl (fun _ => 0))), (q2, .inl ((mj_cI κ).1, 1897, .inl (fun _ => 0))), (q3, .inl ((mj_cI κ).1, 5, .inl (fun _ => 0))), (q4, .inl ((mj_cI κ).1, 95, .inl (mj_pre lst_X11_init_q4 30)))]) C rfl (mj_okn 29 95 (Nat.le_of_ble_eq_true rfl) (Nat.le_of_ble_eq_true rfl)) (mj_pre_u (mj_cln 29 (Nat.le_of_ble_eq_true rfl)) rfl) dX11_init_207 rfl ?_
  refine mj_dup (mx_D C hmc hms rfl rfl) dX11_init_208 ?_
  refine mj_bipush (v := 30) (mx_D C hmc hms rfl rfl) dX11_init_209 (by decide) ?_
  refine mj_bipush (v := 32) (mx_D C hmc hms rfl rfl) dX11_init_211 (by decide) ?_
  refine mx_astf (k := 4) (f := mj_pre lst_X11_init_q4 30) (f' := mj_pre lst_X11_init_q4 31) (Y' := [(a0, .inr (12, [.int 0, .ref q1, .ref q2, .ref q3, .int 0, .null, .null, .int 0, .null, .int 0, .int 0, .int 0, .int 0, .int 0, .null, .int 0, .int 0, .int 0, .int 0, .int 0, .null, .int 0, .null])), (q1, .inl ((mj_cI κ).1, 1897, .inl (fun _ => 0))), (q2, .inl ((mj_cI κ).1, 1897, .inl (fun _ => 0))), (q3, .inl ((mj_cI κ).1, 5, .inl (fun _ => 0))), (q4, .inl ((mj_cI κ).1, 95, .inl (mj_pre lst_X11_init_q4 31)))]) C rfl (mj_okn 30 95 (Nat.le_of_ble_eq_true rfl) (Nat.le_of_ble_eq_true rfl)) (mj_pre_u (mj_cln 30 (Nat.le_of_ble_eq_true rfl)) rfl) dX11_init_213 rfl ?_
  refine mj_dup (mx_D C hmc hms rfl rfl) dX11_init_214 ?_
  refine mj_bipush (v := 31) (mx_D C hmc hms rfl rfl) dX11_init_215 (by decide) ?_
  refine mj_bipush (v := 68) (mx_D C hmc hms rfl rfl) dX11_init_217 (by decide) ?_
  refine mx_astf (k := 4) (f := mj_pre lst_X11_init_q4 31) (f' := mj_pre lst_X11_init_q4 32) (Y' := [(a0, .inr (12, [.int 0, .ref q1, .ref q2, .ref q3, .int 0, .null, .null, .int 0, .null, .int 0, .int 0, .int 0, .int 0, .int 0, .null, .int 0, .int 0, .int 0, .int 0, .int 0, .null, .int 0, .null])), (q1, .inl ((mj_cI κ).1, 1897, .inl (fun _ => 0))), (q2, .inl ((mj_cI κ).1, 1897, .inl (fun _ => 0))), (q3, .inl ((mj_cI κ).1, 5, .inl (fun _ => 0))), (q4, .inl ((mj_cI κ).1, 95, .inl (mj_pre lst_X11_init_q4 32)))]) C rfl (mj_okn 31 95 (Nat.le_of_ble_eq_true rfl) (Nat.le_of_ble_eq_true rfl)) (mj_pre_u (mj_cln 31 (Nat.le_of_ble_eq_true rfl)) rfl) dX11_init_219 rfl ?_
  refine mj_dup (mx_D C hmc hms rfl rfl) dX11_init_220 ?_
  refine mj_bipush (v := 32) (mx_D C hmc hms rfl rfl) dX11_init_221 (by decide) ?_
  refine mj_bipush (v := 73) (mx_D C hmc hms rfl rfl) dX11_init_223 (by decide) ?_
  refine mx_astf (k := 4) (f := mj_pre lst_X11_init_q4 32) (f' := mj_pre lst_X11_init_q4 33) (Y' := [(a0, .inr (12, [.int 0, .ref q1, .ref q2, .ref q3, .int 0, .null, .null, .int 0, .null, .int 0, .int 0, .int 0, .int 0, .int 0, .null, .int 0, .int 0, .int 0, .int 0, .int 0, .null, .int 0, .null])), (q1, .inl ((mj_cI κ).1, 1897, .inl (fun _ => 0))), (q2, .inl ((mj_cI κ).1, 1897, .inl (fun _ => 0))), (q3, .inl ((mj_cI κ).1, 5, .inl (fun _ => 0))), (q4, .inl ((mj_cI κ).1, 95, .inl (mj_pre lst_X11_init_q4 33)))]) C rfl (mj_okn 32 95 (Nat.le_of_ble_eq_true rfl) (Nat.le_of_ble_eq_true rfl)) (mj_pre_u (mj_cln 32 (Nat.le_of_ble_eq_true rfl)) rfl) dX11_init_225 rfl ?_
  refine mj_dup (mx_D C hmc hms rfl rfl) dX11_init_226 ?_
  refine mj_bipush (v := 33) (mx_D C hmc hms rfl rfl) dX11_init_227 (by decide) ?_
  refine mj_bipush (v := 82) (mx_D C hmc hms rfl rfl) dX11_init_229 (by decide) ?_
  refine mx_astf (k := 4) (f := mj_pre lst_X11_init_q4 33) (f' := mj_pre lst_X11_init_q4 34) (Y' := [(a0, .inr (12, [.int 0, .ref q1, .ref q2, .ref q3, .int 0, .null, .null, .int 0, .null, .int 0, .int 0, .int 0, .int 0, .int 0, .null, .int 0, .int 0, .int 0, .int 0, .int 0, .null, .int 0, .null])), (q1, .inl ((mj_cI κ).1, 1897, .inl (fun _ => 0))), (q2, .inl ((mj_cI κ).1, 1897, .inl (fun _ => 0))), (q3, .inl ((mj_cI κ).1, 5, .inl (fun _ => 0))), (q4, .inl ((mj_cI κ).1, 95, .inl (mj_pre lst_X11_init_q4 34)))]) C rfl (mj_okn 33 95 (Nat.le_of_ble_eq_true rfl) (Nat.le_of_ble_eq_true rfl)) (mj_pre_u (mj_cln 33 (Nat.le_of_ble_eq_true rfl)) rfl) dX11_init_231 rfl ?_
  refine mj_dup (mx_D C hmc hms rfl rfl) dX11_init_232 ?_
  refine mj_bipush (v := 34) (mx_D C hmc hms rfl rfl) dX11_init_233 (by decide) ?_
  refine mj_bipush (v := 69) (mx_D C hmc hms rfl rfl) dX11_init_235 (by decide) ?_
  refine mx_astf (k := 4) (f := mj_pre lst_X11_init_q4 34) (f' := mj_pre lst_X11_init_q4 35) (Y' := [(a0, .inr (12, [.int 0, .ref q1, .ref q2, .ref q3, .int 0, .null, .null, .int 0, .null, .int 0, .int 0, .int 0, .int 0, .int 0, .null, .int 0, .int 0, .int 0, .int 0, .int 0, .null, .int 0, .null])), (q1, .inl ((mj_cI κ).1, 1897, .inl (fun _ => 0))), (q2, .inl ((mj_cI κ).1, 1897, .inl (fun _ => 0))), (q3, .inl ((mj_cI κ).1, 5, .inl (fun _ => 0))), (q4, .inl ((mj_cI κ).1, 95, .inl (mj_pre lst_X11_init_q4 35)))]) C rfl (mj_okn 34 95 (Nat.le_of_ble_eq_true rfl) (Nat.le_of_ble_eq_true rfl)) (mj_pre_u (mj_cln 34 (Nat.le_of_ble_eq_true rfl)) rfl) dX11_init_237 rfl ?_
  refine mj_dup (mx_D C hmc hms rfl rfl) dX11_init_238 ?_
  refine mj_bipush (v := 35) (mx_D C hmc hms rfl rfl) dX11_init_239 (by decide) ?_
  refine mj_bipush (v := 67) (mx_D C hmc hms rfl rfl) dX11_init_241 (by decide) ?_
  refine mx_astf (k := 4) (f := mj_pre lst_X11_init_q4 35) (f' := mj_pre lst_X11_init_q4 36) (Y' := [(a0, .inr (12, [.int 0, .ref q1, .ref q2, .ref q3, .int 0, .null, .null, .int 0, .null, .int 0, .int 0, .int 0, .int 0, .int 0, .null, .int 0, .int 0, .int 0, .int 0, .int 0, .null, .int 0, .null])), (q1, .inl ((mj_cI κ).1, 1897, .inl (fun _ => 0))), (q2, .inl ((mj_cI κ).1, 1897, .inl (fun _ => 0))), (q3, .inl ((mj_cI κ).1, 5, .inl (fun _ => 0))), (q4, .inl ((mj_cI κ).1, 95, .inl (mj_pre lst_X11_init_q4 36)))]) C rfl (mj_okn 35 95 (Nat.le_of_ble_eq_true rfl) (Nat.le_of_ble_eq_true rfl)) (mj_pre_u (mj_cln 35 (Nat.le_of_ble_eq_true rfl)) rfl) dX11_init_243 rfl ?_
  refine mj_dup (mx_D C hmc hms rfl rfl) dX11_init_244 ?_
  refine mj_bipush (v := 36) (mx_D C hmc hms rfl rfl) dX11_init_245 (by decide) ?_
  refine mj_bipush (v := 84) (mx_D C hmc hms rfl rfl) dX11_init_247 (by decide) ?_
  refine mx_astf (k := 4) (f := mj_pre lst_X11_init_q4 36) (f' := mj_pre lst_X11_init_q4 37) (Y' := [(a0, .inr (12, [.int 0, .ref q1, .ref q2, .ref q3, .int 0, .null, .null, .int 0, .null, .int 0, .int 0, .int 0, .int 0, .int 0, .null, .int 0, .int 0, .int 0, .int 0, .int 0, .null, .int 0, .null])), (q1, .inl ((mj_cI κ).1, 1897, .inl (fun _ => 0))), (q2, .inl ((mj_cI κ).1, 1897, .inl (fun _ => 0))), (q3, .inl ((mj_cI κ).1, 5, .inl (fun _ => 0))), (q4, .inl ((mj_cI κ).1, 95, .inl (mj_pre lst_X11_init_q4 37)))]) C rfl (mj_okn 36 95 (Nat.le_of_ble_eq_true rfl) (Nat.le_of_ble_eq_true rfl)) (mj_pre_u (mj_cln 36 (Nat.le_of_ble_eq_true rfl)) rfl) dX11_init_249 rfl ?_
  refine mj_dup (mx_D C hmc hms rfl rfl) dX11_init_250 ?_
  refine mj_bipush (v := 37) (mx_D C hmc hms rfl rfl) dX11_init_251 (by decide) ?_
  refine mj_bipush (v := 83) (mx_D C hmc hms rfl rfl) dX11_init_253 (by decide) ?_
  refine mx_astf (k := 4) (f := mj_pre lst_X11_init_q4 37) (f' := mj_pre lst_X11_init_q4 38) (Y' := [(a0, .inr (12, [.int 0, .ref q1, .ref q2, .ref q3, .int 0, .null, .null, .int 0, .null, .int 0, .int 0, .int 0, .int 0, .int 0, .null, .int 0, .int 0, .int 0, .int 0, .int 0, .null, .int 0, .null])), (q1, .inl ((mj_cI κ).1, 1897, .inl (fun _ => 0))), (q2, .inl ((mj_cI κ).1, 1897, .inl (fun _ => 0))), (q3, .inl ((mj_cI κ).1, 5, .inl (fun _ => 0))), (q4, .inl ((mj_cI κ).1, 95, .inl (mj_pre lst_X11_init_q4 38)))]) C rfl (mj_okn 37 95 (Nat.le_of_ble_eq_true rfl) (Nat.le_of_ble_eq_true rfl)) (mj_pre_u (mj_cln 37 (Nat.le_of_ble_eq_true rfl)) rfl) dX11_init_255 rfl ?_
  refine mj_dup (mx_D C hmc hms rfl rfl) dX11_init_256 ?_
  refine mj_bipush (v := 38) (mx_D C hmc hms rfl rfl) dX11_init_257 (by decide) ?_
  refine mj_bipush (v := 32) (mx_D C hmc hms rfl rfl) dX11_init_259 (by decide) ?_
  refine mx_astf (k := 4) (f := mj_pre lst_X11_init_q4 38) (f' := mj_pre lst_X11_init_q4 39) (Y' := [(a0, .inr (12, [.int 0, .ref q1, .ref q2, .ref q3, .int 0, .null, .null, .int 0, .null, .int 0, .int 0, .int 0, .int 0, .int 0, .null, .int 0, .int 0, .int 0, .int 0, .int 0, .null, .int 0, .null])), (q1, .inl ((mj_cI κ).1, 1897, .inl (fun _ => 0))), (q2, .inl ((mj_cI κ).1, 1897, .inl (fun _ => 0))), (q3, .inl ((mj_cI κ).1, 5, .inl (fun _ => 0))), (q4, .inl ((mj_cI κ).1, 95, .inl (mj_pre lst_X11_init_q4 39)))]) C rfl (mj_okn 38 95 (Nat.le_of_ble_eq_true rfl) (Nat.le_of_ble_eq_true rfl)) (mj_pre_u (mj_cln 38 (Nat.le_of_ble_eq_true rfl)) rfl) dX11_init_261 rfl ?_
  refine mj_dup (mx_D C hmc hms rfl rfl) dX11_init_262 ?_
  refine mj_bipush (v := 39) (mx_D C hmc hms rfl rfl) dX11_init_263 (by decide) ?_
  refine mj_bipush (v := 79) (mx_D C hmc hms rfl rfl) dX11_init_265 (by decide) ?_
  refine mx_astf (k := 4) (f := mj_pre lst_X11_init_q4 39) (f' := mj_pre lst_X11_init_q4 40) (Y' := [(a0, .inr (12, [.int 0, .ref q1, .ref q2, .ref q3, .int 0, .null, .null, .int 0, .null, .int 0, .int 0, .int 0, .int 0, .int 0, .null, .int 0, .int 0, .int 0, .int 0, .int 0, .null, .int 0, .null])), (q1, .inl ((mj_cI κ).1, 1897, .inl (fun _ => 0))), (q2, .inl ((mj_cI κ).1, 1897, .inl (fun _ => 0))), (q3, .inl ((mj_cI κ).1, 5, .inl (fun _ => 0))), (q4, .inl ((mj_cI κ).1, 95, .inl (mj_pre lst_X11_init_q4 40)))]) C rfl (mj_okn 39 95 (Nat.le_of_ble_eq_true rfl) (Nat.le_of_ble_eq_true rfl)) (mj_pre_u (mj_cln 39 (Nat.le_of_ble_eq_true rfl)) rfl) dX11_init_267 rfl ?_
  refine mj_dup (mx_D C hmc hms rfl rfl) dX11_init_268 ?_
  refine mj_bipush (v := 40) (mx_D C hmc hms rfl rfl) dX11_init_269 (by decide) ?_
  refine mj_bipush (v := 70) (mx_D C hmc hms rfl rfl) dX11_init_271 (by decide) ?_
  refine mx_astf (k := 4) (f := mj_pre lst_X11_init_q4 40) (f' := mj_pre lst_X11_init_q4 41) (Y' := [(a0, .inr (12, [.int 0, .ref q1, .ref q2, .ref q3, .int 0, .null, .null, .int 0, .null, .int 0, .int 0, .int 0, .int 0, .int 0, .null, .int 0, .int 0, .int 0, .int 0, .int 0, .null, .int 0, .null])), (q1, .inl ((mj_cI κ).1, 1897, .inl (fun _ => 0))), (q2, .inl ((mj_cI κ).1, 1897, .inl (fun _ => 0))), (q3, .inl ((mj_cI κ).1, 5, .inl (fun _ => 0))), (q4, .inl ((mj_cI κ).1, 95, .inl (mj_pre lst_X11_init_q4 41)))]) C rfl (mj_okn 40 95 (Nat.le_of_ble_eq_true rfl) (Nat.le_of_ble_eq_true rfl)) (mj_pre_u (mj_cln 40 (Nat.le_of_ble_eq_true rfl)) rfl) dX11_init_273 rfl ?_
  refine mj_dup (mx_D C hmc hms rfl rfl) dX11_init_274 ?_
  refine mj_bipush (v := 41) (mx_D C hmc hms rfl rfl) dX11_init_275 (by decide) ?_
  refine mj_bipush (v := 70) (mx_D C hmc hms rfl rfl) dX11_init_277 (by decide) ?_
  refine mx_astf (k := 4) (f := mj_pre lst_X11_init_q4 41) (f' := mj_pre lst_X11_init_q4 42) (Y' := [(a0, .inr (12, [.int 0, .ref q1, .ref q2, .ref q3, .int 0, .null, .null, .int 0, .null, .int 0, .int 0, .int 0, .int 0, .int 0, .null, .int 0, .int 0, .int 0, .int 0, .int 0, .null, .int 0, .null])), (q1, .inl ((mj_cI κ).1, 1897, .inl (fun _ => 0))), (q2, .inl ((mj_cI κ).1, 1897, .inl (fun _ => 0))), (q3, .inl ((mj_cI κ).1, 5, .inl (fun _ => 0))), (q4, .inl ((mj_cI κ).1, 95, .inl (mj_pre lst_X11_init_q4 42)))]) C rfl (mj_okn 41 95 (Nat.le_of_ble_eq_true rfl) (Nat.le_of_ble_eq_true rfl)) (mj_pre_u (mj_cln 41 (Nat.le_of_ble_eq_true rfl)) rfl) dX11_init_279 rfl ?_
  refine mj_dup (mx_D C hmc hms rfl rfl) dX11_init_280 ?_
  refine mj_bipush (v := 42) (mx_D C hmc hms rfl rfl) dX11_init_281 (by decide) ?_
  refine mj_bipush (v := 32) (mx_D C hmc hms rfl rfl) dX11_init_283 (by decide) ?_
  refine mx_astf (k := 4) (f := mj_pre lst_X11_init_q4 42) (f' := mj_pre lst_X11_init_q4 43) (Y' := [(a0, .inr (12, [.int 0, .ref q1, .ref q2, .ref q3, .int 0, .null, .null, .int 0, .null, .int 0, .int 0, .int 0, .int 0, .int 0, .null, .int 0, .int 0, .int 0, .int 0, .int 0, .null, .int 0, .null])), (q1, .inl ((mj_cI κ).1, 1897, .inl (fun _ => 0))), (q2, .inl ((mj_cI κ).1, 1897, .inl (fun _ => 0))), (q3, .inl ((mj_cI κ).1, 5, .inl (fun _ => 0))), (q4, .inl ((mj_cI κ).1, 95, .inl (mj_pre lst_X11_init_q4 43)))]) C rfl (mj_okn 42 95 (Nat.le_of_ble_eq_true rfl) (Nat.le_of_ble_eq_true rfl)) (mj_pre_u (mj_cln 42 (Nat.le_of_ble_eq_true rfl)) rfl) dX11_init_285 rfl ?_
  refine mj_dup (mx_D C hmc hms rfl rfl) dX11_init_286 ?_
  refine mj_bipush (v := 43) (mx_D C hmc hms rfl rfl) dX11_init_287 (by decide) ?_
  refine mj_bipush (v := 79) (mx_D C hmc hms rfl rfl) dX11_init_289 (by decide) ?_
  refine mx_astf (k := 4) (f := mj_pre lst_X11_init_q4 43) (f' := mj_pre lst_X11_init_q4 44) (Y' := [(a0, .inr (12, [.int 0, .ref q1, .ref q2, .ref q3, .int 0, .null, .null, .int 0, .null, .int 0, .int 0, .int 0, .int 0, .int 0, .null, .int 0, .int 0, .int 0, .int 0, .int 0, .null, .int 0, .null])), (q1, .inl ((mj_cI κ).1, 1897, .inl (fun _ => 0))), (q2, .inl ((mj_cI κ).1, 1897, .inl (fun _ => 0))), (q3, .inl ((mj_cI κ).1, 5, .inl (fun _ => 0))), (q4, .inl ((mj_cI κ).1, 95, .inl (mj_pre lst_X11_init_q4 44)))]) C rfl (mj_okn 43 95 (Nat.le_of_ble_eq_true rfl) (Nat.le_of_ble_eq_true rfl)) (mj_pre_u (mj_cln 43 (Nat.le_of_ble_eq_true rfl)) rfl) dX11_init_291 rfl ?_
  refine mj_dup (mx_D C hmc hms rfl rfl) dX11_init_292 ?_
  refine mj_bipush (v := 44) (mx_D C hmc hms rfl rfl) dX11_init_293 (by decide) ?_
  refine mj_bipush (v := 80) (mx_D C hmc hms rfl rfl) dX11_init_295 (by decide) ?_
  refine mx_astf (k := 4) (f := mj_pre lst_X11_init_q4 44) (f' := mj_pre lst_X11_init_q4 45) (Y' := [(a0, .inr (12, [.int 0, .ref q1, .ref q2, .ref q3, .int 0, .null, .null, .int 0, .null, .int 0, .int 0, .int 0, .int 0, .int 0, .null, .int 0, .int 0, .int 0, .int 0, .int 0, .null, .int 0, .null])), (q1, .inl ((mj_cI κ).1, 1897, .inl (fun _ => 0))), (q2, .inl ((mj_cI κ).1, 1897, .inl (fun _ => 0))), (q3, .inl ((mj_cI κ).1, 5, .inl (fun _ => 0))), (q4, .inl ((mj_cI κ).1, 95, .inl (mj_pre lst_X11_init_q4 45)))]) C rfl (mj_okn 44 95 (Nat.le_of_ble_eq_true rfl) (Nat.le_of_ble_eq_true rfl)) (mj_pre_u (mj_cln 44 (Nat.le_of_ble_eq_true rfl)) rfl) dX11_init_297 rfl ?_
  refine mj_dup (mx_D C hmc hms rfl rfl) dX11_init_298 ?_
  refine mj_bipush (v := 45) (mx_D C hmc hms rfl rfl) dX11_init_299 (by decide) ?_
  refine mj_bipush (v := 69) (mx_D C hmc hms rfl rfl) dX11_init_301 (by decide) ?_
  refine mx_astf (k := 4) (f := mj_pre lst_X11_init_q4 45) (f' := mj_pre lst_X11_init_q4 46) (Y' := [(a0, .inr (12, [.int 0, .ref q1, .ref q2, .ref q3, .int 0, .null, .null, .int 0, .null, .int 0, .int 0, .int 0, .int 0, .int 0, .null, .int 0, .int 0, .int 0, .int 0, .int 0, .null, .int 0, .null])), (q1, .inl ((mj_cI κ).1, 1897, .inl (fun _ => 0))), (q2, .inl ((mj_cI κ).1, 1897, .inl (fun _ => 0))), (q3, .inl ((mj_cI κ).1, 5, .inl (fun _ => 0))), (q4, .inl ((mj_cI κ).1, 95, .inl (mj_pre lst_X11_init_q4 46)))]) C rfl (mj_okn 45 95 (Nat.le_of_ble_eq_true rfl) (Nat.le_of_ble_eq_true rfl)) (mj_pre_u (mj_cln 45 (Nat.le_of_ble_eq_true rfl)) rfl) dX11_init_303 rfl ?_
  refine mj_dup (mx_D C hmc hms rfl rfl) dX11_init_304 ?_
  refine mj_bipush (v := 46) (mx_D C hmc hms rfl rfl) dX11_init_305 (by decide) ?_
  refine mj_bipush (v := 78) (mx_D C hmc hms rfl rfl) dX11_init_307 (by decide) ?_
  refine mx_astf (k := 4) (f := mj_pre lst_X11_init_q4 46) (f' := mj_pre lst_X11_init_q4 47) (Y' := [(a0, .inr (12, [.int 0, .ref q1, .ref q2, .ref q3, .int 0, .null, .null, .int 0, .null, .int 0, .int 0, .int 0, .int 0, .int 0, .null, .int 0, .int 0, .int 0, .int 0, .int 0, .null, .int 0, .null])), (q1, .inl ((mj_cI κ).1, 1897, .inl (fun _ => 0))), (q2, .inl ((mj_cI κ).1, 1897, .inl (fun _ => 0))), (q3, .inl ((mj_cI κ).1, 5, .inl (fun _ => 0))), (q4, .inl ((mj_cI κ).1, 95, .inl (mj_pre lst_X11_init_q4 47)))]) C rfl (mj_okn 46 95 (Nat.le_of_ble_eq_true rfl) (Nat.le_of_ble_eq_true rfl)) (mj_pre_u (mj_cln 46 (Nat.le_of_ble_eq_true rfl)) rfl) dX11_init_309 rfl ?_
  refine mj_dup (mx_D C hmc hms rfl rfl) dX11_init_310 ?_
  refine mj_bipush (v := 47) (mx_D C hmc hms rfl rfl) dX11_init_311 (by decide) ?_
  refine mj_bipush (v := 32) (mx_D C hmc hms rfl rfl) dX11_init_313 (by decide) ?_
  refine mx_astf (k := 4) (f := mj_pre lst_X11_init_q4 47) (f' := mj_pre lst_X11_init_q4 48) (Y' := [(a0, .inr (12, [.int 0, .ref q1, .ref q2, .ref q3, .int 0, .null, .null, .int 0, .null, .int 0, .int 0, .int 0, .int 0, .int 0, .null, .int 0, .int 0, .int 0, .int 0, .int 0, .null, .int 0, .null])), (q1, .inl ((mj_cI κ).1, 1897, .inl (fun _ => 0))), (q2, .inl ((mj_cI κ).1, 1897, .inl (fun _ => 0))), (q3, .inl ((mj_cI κ).1, 5, .inl (fun _ => 0))), (q4, .inl ((mj_cI κ).1, 95, .inl (mj_pre lst_X11_init_q4 48)))]) C rfl (mj_okn 47 95 (Nat.le_of_ble_eq_true rfl) (Nat.le_of_ble_eq_true rfl)) (mj_pre_u (mj_cln 47 (Nat.le_of_ble_eq_true rfl)) rfl) dX11_init_315 rfl ?_
  refine mj_dup (mx_D C hmc hms rfl rfl) dX11_init_316 ?_
  refine mj_bipush (v := 48) (mx_D C hmc hms rfl rfl) dX11_init_317 (by decide) ?_
  refine mj_bipush (v := 87) (mx_D C hmc hms rfl rfl) dX11_init_319 (by decide) ?_
  refine mx_astf (k := 4) (f := mj_pre lst_X11_init_q4 48) (f' := mj_pre lst_X11_init_q4 49) (Y' := [(a0, .inr (12, [.int 0, .ref q1, .ref q2, .ref q3, .int 0, .null, .null, .int 0, .null, .int 0, .int 0, .int 0, .int 0, .int 0, .null, .int 0, .int 0, .int 0, .int 0, .int 0, .null, .int 0, .null])), (q1, .inl ((mj_cI κ).1, 1897, .inl (fun _ => 0))), (q2, .inl ((mj_cI κ).1, 1897, .inl (fun _ => 0))), (q3, .inl ((mj_cI κ).1, 5, .inl (fun _ => 0))), (q4, .inl ((mj_cI κ).1, 95, .inl (mj_pre lst_X11_init_q4 49)))]) C rfl (mj_okn 48 95 (Nat.le_of_ble_eq_true rfl) (Nat.le_of_ble_eq_true rfl)) (mj_pre_u (mj_cln 48 (Nat.le_of_ble_eq_true rfl)) rfl) dX11_init_321 rfl ?_
  refine mj_dup (mx_D C hmc hms rfl rfl) dX11_init_322 ?_
  refine mj_bipush (v := 49) (mx_D C hmc hms rfl rfl) dX11_init_323 (by decide) ?_
  refine mj_bipush (v := 65) (mx_D C hmc hms rfl rfl) dX11_init_325 (by decide) ?_
  refine mx_astf (k := 4) (f := mj_pre lst_X11_init_q4 49) (f' := mj_pre lst_X11_init_q4 50) (Y' := [(a0, .inr (12, [.int 0, .ref q1, .ref q2, .ref q3, .int 0, .null, .null, .int 0, .null, .int 0, .int 0, .int 0, .int 0, .int 0, .null, .int 0, .int 0, .int 0, .int 0, .int 0, .null, .int 0, .null])), (q1, .inl ((mj_cI κ).1, 1897, .inl (fun _ => 0))), (q2, .inl ((mj_cI κ).1, 1897, .inl (fun _ => 0))), (q3, .inl ((mj_cI κ).1, 5, .inl (fun _ => 0))), (q4, .inl ((mj_cI κ).1, 95, .inl (mj_pre lst_X11_init_q4 50)))]) C rfl (mj_okn 49 95 (Nat.le_of_ble_eq_true rfl) (Nat.le_of_ble_eq_true rfl)) (mj_pre_u (mj_cln 49 (Nat.le_of_ble_eq_true rfl)) rfl) dX11_init_327 rfl ?_
  refine mj_dup (mx_D C hmc hms rfl rfl) dX11_init_328 ?_
  refine mj_bipush (v := 50) (mx_D C hmc hms rfl rfl) dX11_init_329 (by decide) ?_
  refine mj_bipush (v := 73) (mx_D C hmc hms rfl rfl) dX11_init_331 (by decide) ?_
  refine mx_astf (k := 4) (f := mj_pre lst_X11_init_q4 50) (f' := mj_pre lst_X11_init_q4 51) (Y' := [(a0, .inr (12, [.int 0, .ref q1, .ref q2, .ref q3, .int 0, .null, .null, .int 0, .null, .int 0, .int 0, .int 0, .int 0, .int 0, .null, .int 0, .int 0, .int 0, .int 0, .int 0, .null, .int 0, .null])), (q1, .inl ((mj_cI κ).1, 1897, .inl (fun _ => 0))), (q2, .inl ((mj_cI κ).1, 1897, .inl (fun _ => 0))), (q3, .inl ((mj_cI κ).1, 5, .inl (fun _ => 0))), (q4, .inl ((mj_cI κ).1, 95, .inl (mj_pre lst_X11_init_q4 51)))]) C rfl (mj_okn 50 95 (Nat.le_of_ble_eq_true rfl) (Nat.le_of_ble_eq_true rfl)) (mj_pre_u (mj_cln 50 (Nat.le_of_ble_eq_true rfl)) rfl) dX11_init_333 rfl ?_
  refine mj_dup (mx_D C hmc hms rfl rfl) dX11_init_334 ?_
  refine mj_bipush (v := 51) (mx_D C hmc hms rfl rfl) dX11_init_335 (by decide) ?_
  refine mj_bipush (v := 84) (mx_D C hmc hms rfl rfl) dX11_init_337 (by decide) ?_
  refine mx_astf (k := 4) (f := mj_pre lst_X11_init_q4 51) (f' := mj_pre lst_X11_init_q4 52) (Y' := [(a0, .inr (12, [.int 0, .ref q1, .ref q2, .ref q3, .int 0, .null, .null, .int 0, .null, .int 0, .int 0, .int 0, .int 0, .int 0, .null, .int 0, .int 0, .int 0, .int 0, .int 0, .null, .int 0, .null])), (q1, .inl ((mj_cI κ).1, 1897, .inl (fun _ => 0))), (q2, .inl ((mj_cI κ).1, 1897, .inl (fun _ => 0))), (q3, .inl ((mj_cI κ).1, 5, .inl (fun _ => 0))), (q4, .inl ((mj_cI κ).1, 95, .inl (mj_pre lst_X11_init_q4 52)))]) C rfl (mj_okn 51 95 (Nat.le_of_ble_eq_true rfl) (Nat.le_of_ble_eq_true rfl)) (mj_pre_u (mj_cln 51 (Nat.le_of_ble_eq_true rfl)) rfl) dX11_init_339 rfl ?_
  refine mj_dup (mx_D C hmc hms rfl rfl) dX11_init_340 ?_
  refine mj_bipush (v := 52) (mx_D C hmc hms rfl rfl) dX11_init_341 (by decide) ?_
  refine mj_bipush (v := 32) (mx_D C hmc hms rfl rfl) dX11_init_343 (by decide) ?_
  refine mx_astf (k := 4) (f := mj_pre lst_X11_init_q4 52) (f' := mj_pre lst_X11_init_q4 53) (Y' := [(a0, .inr (12, [.int 0, .ref q1, .ref q2, .ref q3, .int 0, .null, .null, .int 0, .null, .int 0, .int 0, .int 0, .int 0, .int 0, .null, .int 0, .int 0, .int 0, .int 0, .int 0, .null, .int 0, .null])), (q1, .inl ((mj_cI κ).1, 1897, .inl (fun _ => 0))), (q2, .inl ((mj_cI κ).1, 1897, .inl (fun _ => 0))), (q3, .inl ((mj_cI κ).1, 5, .inl (fun _ => 0))), (q4, .inl ((mj_cI κ).1, 95, .inl (mj_pre lst_X11_init_q4 53)))]) C rfl (mj_okn 52 95 (Nat.le_of_ble_eq_true rfl) (Nat.le_of_ble_eq_true rfl)) (mj_pre_u (mj_cln 52 (Nat.le_of_ble_eq_true rfl)) rfl) dX11_init_345 rfl ?_
  refine mj_dup (mx_D C hmc hms rfl rfl) dX11_init_346 ?_
  refine mj_bipush (v := 53) (mx_D C hmc hms rfl rfl) dX11_init_347 (by decide) ?_
  refine mj_bipush (v := 76) (mx_D C hmc hms rfl rfl) dX11_init_349 (by decide) ?_
  refine mx_astf (k := 4) (f := mj_pre lst_X11_init_q4 53) (f' := mj_pre lst_X11_init_q4 54) (Y' := [(a0, .inr (12, [.int 0, .ref q1, .ref q2, .ref q3, .int 0, .null, .null, .int 0, .null, .int 0, .int 0, .int 0, .int 0, .int 0, .null, .int 0, .int 0, .int 0, .int 0, .int 0, .null, .int 0, .null])), (q1, .inl ((mj_cI κ).1, 1897, .inl (fun _ => 0))), (q2, .inl ((mj_cI κ).1, 1897, .inl (fun _ => 0))), (q3, .inl ((mj_cI κ).1, 5, .inl (fun _ => 0))), (q4, .inl ((mj_cI κ).1, 95, .inl (mj_pre lst_X11_init_q4 54)))]) C rfl (mj_okn 53 95 (Nat.le_of_ble_eq_true rfl) (Nat.le_of_ble_eq_true rfl)) (mj_pre_u (mj_cln 53 (Nat.le_of_ble_eq_true rfl)) rfl) dX11_init_351 rfl ?_
  refine mj_dup (mx_D C hmc hms rfl rfl) dX11_init_352 ?_
  refine mj_bipush (v := 54) (mx_D C hmc hms rfl rfl) dX11_init_353 (by decide) ?_
  refine mj_bipush (v := 79) (mx_D C hmc hms rfl rfl) dX11_init_355 (by decide) ?_
  refine mx_astf (k := 4) (f := mj_pre lst_X11_init_q4 54) (f' := mj_pre lst_X11_init_q4 55) (Y' := [(a0, .inr (12, [.int 0, .ref q1, .ref q2, .ref q3, .int 0, .null, .null, .int 0, .null, .int 0, .int 0, .int 0, .int 0, .int 0, .null, .int 0, .int 0, .int 0, .int 0, .int 0, .null, .int 0, .null])), (q1, .inl ((mj_cI κ).1, 1897, .inl (fun _ => 0))), (q2, .inl ((mj_cI κ).1, 1897, .inl (fun _ => 0))), (q3, .inl ((mj_cI κ).1, 5, .inl (fun _ => 0))), (q4, .inl ((mj_cI κ).1, 95, .inl (mj_pre lst_X11_init_q4 55)))]) C rfl (mj_okn 54 95 (Nat.le_of_ble_eq_true rfl) (Nat.le_of_ble_eq_true rfl)) (mj_pre_u (mj_cln 54 (Nat.le_of_ble_eq_true rfl)) rfl) dX11_init_357 rfl ?_
  refine mj_dup (mx_D C hmc hms rfl rfl) dX11_init_358 ?_
  refine mj_bipush (v := 55) (mx_D C hmc hms rfl rfl) dX11_init_359 (by decide) ?_
  refine mj_bipush (v := 67) (mx_D C hmc hms rfl rfl) dX11_init_361 (by decide) ?_
  refine mx_astf (k := 4) (f := mj_pre lst_X11_init_q4 55) (f' := mj_pre lst_X11_init_q4 56) (Y' := [(a0, .inr (12, [.int 0, .ref q1, .ref q2, .ref q3, .int 0, .null, .null, .int 0, .null, .int 0, .int 0, .int 0, .int 0, .int 0, .null, .int 0, .int 0, .int 0, .int 0, .int 0, .null, .int 0, .null])), (q1, .inl ((mj_cI κ).1, 1897, .inl (fun _ => 0))), (q2, .inl ((mj_cI κ).1, 1897, .inl (fun _ => 0))), (q3, .inl ((mj_cI κ).1, 5, .inl (fun _ => 0))), (q4, .inl ((mj_cI κ).1, 95, .inl (mj_pre lst_X11_init_q4 56)))]) C rfl (mj_okn 55 95 (Nat.le_of_ble_eq_true rfl) (Nat.le_of_ble_eq_true rfl)) (mj_pre_u (mj_cln 55 (Nat.le_of_ble_eq_true rfl)) rfl) dX11_init_363 rfl ?_
  refine mj_dup (mx_D C hmc hms rfl rfl) dX11_init_364 ?_
  refine mj_bipush (v := 56) (mx_D C hmc hms rfl rfl) dX11_init_365 (by decide) ?_
  refine mj_bipush (v := 75) (mx_D C hmc hms rfl rfl) dX11_init_367 (by decide) ?_
  refine mx_astf (k := 4) (f := mj_pre lst_X11_init_q4 56) (f' := mj_pre lst_X11_init_q4 57) (Y' := [(a0, .inr (12, [.int 0, .ref q1, .ref q2, .ref q3, .int 0, .null, .null, .int 0, .null, .int 0, .int 0, .int 0, .int 0, .int 0, .null, .int 0, .int 0, .int 0, .int 0, .int 0, .null, .int 0, .null])), (q1, .inl ((mj_cI κ).1, 1897, .inl (fun _ => 0))), (q2, .inl ((mj_cI κ).1, 1897, .inl (fun _ => 0))), (q3, .inl ((mj_cI κ).1, 5, .inl (fun _ => 0))), (q4, .inl ((mj_cI κ).1, 95, .inl (mj_pre lst_X11_init_q4 57)))]) C rfl (mj_okn 56 95 (Nat.le_of_ble_eq_true rfl) (Nat.le_of_ble_eq_true rfl)) (mj_pre_u (mj_cln 56 (Nat.le_of_ble_eq_true rfl)) rfl) dX11_init_369 rfl ?_
  refine mj_dup (mx_D C hmc hms rfl rfl) dX11_init_370 ?_
  refine mj_bipush (v := 57) (mx_D C hmc hms rfl rfl) dX11_init_371 (by decide) ?_
  refine mj_bipush (v := 69) (mx_D C hmc hms rfl rfl) dX11_init_373 (by decide) ?_
  refine mx_astf (k := 4) (f := mj_pre lst_X11_init_q4 57) (f' := mj_pre lst_X11_init_q4 58) (Y' := [(a0, .inr (12, [.int 0, .ref q1, .ref q2, .ref q3, .int 0, .null, .null, .int 0, .null, .int 0, .int 0, .int 0, .int 0, .int 0, .null, .int 0, .int 0, .int 0, .int 0, .int 0, .null, .int 0, .null])), (q1, .inl ((mj_cI κ).1, 1897, .inl (fun _ => 0))), (q2, .inl ((mj_cI κ).1, 1897, .inl (fun _ => 0))), (q3, .inl ((mj_cI κ).1, 5, .inl (fun _ => 0))), (q4, .inl ((mj_cI κ).1, 95, .inl (mj_pre lst_X11_init_q4 58)))]) C rfl (mj_okn 57 95 (Nat.le_of_ble_eq_true rfl) (Nat.le_of_ble_eq_true rfl)) (mj_pre_u (mj_cln 57 (Nat.le_of_ble_eq_true rfl)) rfl) dX11_init_375 rfl ?_
  refine mj_dup (mx_D C hmc hms rfl rfl) dX11_init_376 ?_
  refine mj_bipush (v := 58) (mx_D C hmc hms rfl rfl) dX11_init_377 (by decide) ?_
  refine mj_bipush (v := 68) (mx_D C hmc hms rfl rfl) dX11_init_379 (by decide) ?_
  refine mx_astf (k := 4) (f := mj_pre lst_X11_init_q4 58) (f' := mj_pre lst_X11_init_q4 59) (Y' := [(a0, .inr (12, [.int 0, .ref q1, .ref q2, .ref q3, .int 0, .null, .null, .int 0, .null, .int 0, .int 0, .int 0, .int 0, .int 0, .null, .int 0, .int 0, .int 0, .int 0, .int 0, .null, .int 0, .null])), (q1, .inl ((mj_cI κ).1, 1897, .inl (fun _ => 0))), (q2, .inl ((mj_cI κ).1, 1897, .inl (fun _ => 0))), (q3, .inl ((mj_cI κ).1, 5, .inl (fun _ => 0))), (q4, .inl ((mj_cI κ).1, 95, .inl (mj_pre lst_X11_init_q4 59)))]) C rfl (mj_okn 58 95 (Nat.le_of_ble_eq_true rfl) (Nat.le_of_ble_eq_true rfl)) (mj_pre_u (mj_cln 58 (Nat.le_of_ble_eq_true rfl)) rfl) dX11_init_381 rfl ?_
  refine mj_dup (mx_D C hmc hms rfl rfl) dX11_init_382 ?_
  refine mj_bipush (v := 59) (mx_D C hmc hms rfl rfl) dX11_init_383 (by decide) ?_
  refine mj_bipush (v := 32) (mx_D C hmc hms rfl rfl) dX11_init_385 (by decide) ?_
  refine mx_astf (k := 4) (f := mj_pre lst_X11_init_q4 59) (f' := mj_pre lst_X11_init_q4 60) (Y' := [(a0, .inr (12, [.int 0, .ref q1, .ref q2, .ref q3, .int 0, .null, .null, .int 0, .null, .int 0, .int 0, .int 0, .int 0, .int 0, .null, .int 0, .int 0, .int 0, .int 0, .int 0, .null, .int 0, .null])), (q1, .inl ((mj_cI κ).1, 1897, .inl (fun _ => 0))), (q2, .inl ((mj_cI κ).1, 1897, .inl (fun _ => 0))), (q3, .inl ((mj_cI κ).1, 5, .inl (fun _ => 0))), (q4, .inl ((mj_cI κ).1, 95, .inl (mj_pre lst_X11_init_q4 60)))]) C rfl (mj_okn 59 95 (Nat.le_of_ble_eq_true rfl) (Nat.le_of_ble_eq_true rfl)) (mj_pre_u (mj_cln 59 (Nat.le_of_ble_eq_true rfl)) rfl) dX11_init_387 rfl ?_
  refine mj_dup (mx_D C hmc hms rfl rfl) dX11_init_388 ?_
  refine mj_bipush (v := 60) (mx_D C hmc hms rfl rfl) dX11_init_389 (by decide) ?_
  refine mj_bipush (v := 83) (mx_D C hmc hms rfl rfl) dX11_init_391 (by decide) ?_
  refine mx_astf (k := 4) (f := mj_pre lst_X11_init_q4 60) (f' := mj_pre lst_X11_init_q4 61) (Y' := [(a0, .inr (12, [.int 0, .ref q1, .ref q2, .ref q3, .int 0, .null, .null, .int 0, .null, .int 0, .int 0, .int 0, .int 0, .int 0, .null, .int 0, .int 0, .int 0, .int 0, .int 0, .null, .int 0, .null])), (q1, .inl ((mj_cI κ).1, 1897, .inl (fun _ => 0))), (q2, .inl ((mj_cI κ).1, 1897, .inl (fun _ => 0))), (q3, .inl ((mj_cI κ).1, 5, .inl (fun _ => 0))), (q4, .inl ((mj_cI κ).1, 95, .inl (mj_pre lst_X11_init_q4 61)))]) C rfl (mj_okn 60 95 (Nat.le_of_ble_eq_true rfl) (Nat.le_of_ble_eq_true rfl)) (mj_pre_u (mj_cln 60 (Nat.le_of_ble_eq_true rfl)) rfl) dX11_init_393 rfl ?_
  refine mj_dup (mx_D C hmc hms rfl rfl) dX11_init_394 ?_
  refine mj_bipush (v := 61) (mx_D C hmc hms rfl rfl) dX11_init_395 (by decide) ?_
  refine mj_bipush (v := 84) (mx_D C hmc hms rfl rfl) dX11_init_397 (by decide) ?_
  refine mx_astf (k := 4) (f := mj_pre lst_X11_init_q4 61) (f' := mj_pre lst_X11_init_q4 62) (Y' := [(a0, .inr (12, [.int 0, .ref q1, .ref q2, .ref q3, .int 0, .null, .null, .int 0, .null, .int 0, .int 0, .int 0, .int 0, .int 0, .null, .int 0, .int 0, .int 0, .int 0, .int 0, .null, .int 0, .null])), (q1, .inl ((mj_cI κ).1, 1897, .inl (fun _ => 0))), (q2, .inl ((mj_cI κ).1, 1897, .inl (fun _ => 0))), (q3, .inl ((mj_cI κ).1, 5, .inl (fun _ => 0))), (q4, .inl ((mj_cI κ).1, 95, .inl (mj_pre lst_X11_init_q4 62)))]) C rfl (mj_okn 61 95 (Nat.le_of_ble_eq_true rfl) (Nat.le_of_ble_eq_true rfl)) (mj_pre_u (mj_cln 61 (Nat.le_of_ble_eq_true rfl)) rfl) dX11_init_399 rfl ?_
  refine mj_dup (mx_D C hmc hms rfl rfl) dX11_init_400 ?_
  refine mj_bipush (v := 62) (mx_D C hmc hms rfl rfl) dX11_init_401 (by decide) ?_
  refine mj_bipush (v := 69) (mx_D C hmc hms rfl rfl) dX11_init_403 (by decide) ?_
  refine mx_astf (k := 4) (f := mj_pre lst_X11_init_q4 62) (f' := mj_pre lst_X11_init_q4 63) (Y' := [(a0, .inr (12, [.int 0, .ref q1, .ref q2, .ref q3, .int 0, .null, .null, .int 0, .null, .int 0, .int 0, .int 0, .int 0, .int 0, .null, .int 0, .int 0, .int 0, .int 0, .int 0, .null, .int 0, .null])), (q1, .inl ((mj_cI κ).1, 1897, .inl (fun _ => 0))), (q2, .inl ((mj_cI κ).1, 1897, .inl (fun _ => 0))), (q3, .inl ((mj_cI κ).1, 5, .inl (fun _ => 0))), (q4, .inl ((mj_cI κ).1, 95, .inl (mj_pre lst_X11_init_q4 63)))]) C rfl (mj_okn 62 95 (Nat.le_of_ble_eq_true rfl) (Nat.le_of_ble_eq_true rfl)) (mj_pre_u (mj_cln 62 (Nat.le_of_ble_eq_true rfl)) rfl) dX11_init_405 rfl ?_
  refine mj_dup (mx_D C hmc hms rfl rfl) dX11_init_406 ?_
  refine mj_bipush (v := 63) (mx_D C hmc hms rfl rfl) dX11_init_407 (by decide) ?_
  refine mj_bipush (v := 80) (mx_D C hmc hms rfl rfl) dX11_init_409 (by decide) ?_
  refine mx_astf (k := 4) (f := mj_pre lst_X11_init_q4 63) (f' := mj_pre lst_X11_init_q4 64) (Y' := [(a0, .inr (12, [.int 0, .ref q1, .ref q2, .ref q3, .int 0, .null, .null, .int 0, .null, .int 0, .int 0, .int 0, .int 0, .int 0, .null, .int 0, .int 0, .int 0, .int 0, .int 0, .null, .int 0, .null])), (q1, .inl ((mj_cI κ).1, 1897, .inl (fun _ => 0))), (q2, .inl ((mj_cI κ).1, 1897, .inl (fun _ => 0))), (q3, .inl ((mj_cI κ).1, 5, .inl (fun _ => 0))), (q4, .inl ((mj_cI κ).1, 95, .inl (mj_pre lst_X11_init_q4 64)))]) C rfl (mj_okn 63 95 (Nat.le_of_ble_eq_true rfl) (Nat.le_of_ble_eq_true rfl)) (mj_pre_u (mj_cln 63 (Nat.le_of_ble_eq_true rfl)) rfl) dX11_init_411 rfl ?_
  refine mj_dup (mx_D C hmc hms rfl rfl) dX11_init_412 ?_
  refine mj_bipush (v := 64) (mx_D C hmc hms rfl rfl) dX11_init_413 (by decide) ?_
  refine mj_bipush (v := 32) (mx_D C hmc hms rfl rfl) dX11_init_415 (by decide) ?_
  refine mx_astf (k := 4) (f := mj_pre lst_X11_init_q4 64) (f' := mj_pre lst_X11_init_q4 65) (Y' := [(a0, .inr (12, [.int 0, .ref q1, .ref q2, .ref q3, .int 0, .null, .null, .int 0, .null, .int 0, .int 0, .int 0, .int 0, .int 0, .null, .int 0, .int 0, .int 0, .int 0, .int 0, .null, .int 0, .null])), (q1, .inl ((mj_cI κ).1, 1897, .inl (fun _ => 0))), (q2, .inl ((mj_cI κ).1, 1897, .inl (fun _ => 0))), (q3, .inl ((mj_cI κ).1, 5, .inl (fun _ => 0))), (q4, .inl ((mj_cI κ).1, 95, .inl (mj_pre lst_X11_init_q4 65)))]) C rfl (mj_okn 64 95 (Nat.le_of_ble_eq_true rfl) (Nat.le_of_ble_eq_true rfl)) (mj_pre_u (mj_cln 64 (Nat.le_of_ble_eq_true rfl)) rfl) dX11_init_417 rfl ?_
  refine mj_dup (mx_D C hmc hms rfl rfl) dX11_init_418 ?_
  refine mj_bipush (v := 65) (mx_D C hmc hms rfl rfl) dX11_init_419 (by decide) ?_
  refine mj_bipush (v := 78) (mx_D C hmc hms rfl rfl) dX11_init_421 (by decide) ?_
  refine mx_astf (k := 4) (f := mj_pre lst_X11_init_q4 65) (f' := mj_pre lst_X11_init_q4 66) (Y' := [(a0, .inr (12, [.int 0, .ref q1, .ref q2, .ref q3, .int 0, .null, .null, .int 0, .null, .int 0, .int 0, .int 0, .int 0, .int 0, .null, .int 0, .int 0, .int 0, .int 0, .int 0, .null, .int 0, .null])), (q1, .inl ((mj_cI κ).1, 1897, .inl (fun _ => 0))), (q2, .inl ((mj_cI κ).1, 1897, .inl (fun _ => 0))), (q3, .inl ((mj_cI κ).1, 5, .inl (fun _ => 0))), (q4, .inl ((mj_cI κ).1, 95, .inl (mj_pre lst_X11_init_q4 66)))]) C rfl (mj_okn 65 95 (Nat.le_of_ble_eq_true rfl) (Nat.le_of_ble_eq_true rfl)) (mj_pre_u (mj_cln 65 (Nat.le_of_ble_eq_true rfl)) rfl) dX11_init_423 rfl ?_
  refine mj_dup (mx_D C hmc hms rfl rfl) dX11_init_424 ?_
  refine mj_bipush (v := 66) (mx_D C hmc hms rfl rfl) dX11_init_425 (by decide) ?_
  refine mj_bipush (v := 85) (mx_D C hmc hms rfl rfl) dX11_init_427 (by decide) ?_
  refine mx_astf (k := 4) (f := mj_pre lst_X11_init_q4 66) (f' := mj_pre lst_X11_init_q4 67) (Y' := [(a0, .inr (12, [.int 0, .ref q1, .ref q2, .ref q3, .int 0, .null, .null, .int 0, .null, .int 0, .int 0, .int 0, .int 0, .int 0, .null, .int 0, .int 0, .int 0, .int 0, .int 0, .null, .int 0, .null])), (q1, .inl ((mj_cI κ).1, 1897, .inl (fun _ => 0))), (q2, .inl ((mj_cI κ).1, 1897, .inl (fun _ => 0))), (q3, .inl ((mj_cI κ).1, 5, .inl (fun _ => 0))), (q4, .inl ((mj_cI κ).1, 95, .inl (mj_pre lst_X11_init_q4 67)))]) C rfl (mj_okn 66 95 (Nat.le_of_ble_eq_true rfl) (Nat.le_of_ble_eq_true rfl)) (mj_pre_u (mj_cln 66 (Nat.le_of_ble_eq_true rfl)) rfl) dX11_init_429 rfl ?_
  refine mj_dup (mx_D C hmc hms rfl rfl) dX11_init_430 ?_
  refine mj_bipush (v := 67) (mx_D C hmc hms rfl rfl) dX11_init_431 (by decide) ?_
  refine mj_bipush (v := 77) (mx_D C hmc hms rfl rfl) dX11_init_433 (by decide) ?_
  refine mx_astf (k := 4) (f := mj_pre lst_X11_init_q4 67) (f' := mj_pre lst_X11_init_q4 68) (Y' := [(a0, .inr (12, [.int 0, .ref q1, .ref q2, .ref q3, .int 0, .null, .null, .int 0, .null, .int 0, .int 0, .int 0, .int 0, .int 0, .null, .int 0, .int 0, .int 0, .int 0, .int 0, .null, .int 0, .null])), (q1, .inl ((mj_cI κ).1, 1897, .inl (fun _ => 0))), (q2, .inl ((mj_cI κ).1, 1897, .inl (fun _ => 0))), (q3, .inl ((mj_cI κ).1, 5, .inl (fun _ => 0))), (q4, .inl ((mj_cI κ).1, 95, .inl (mj_pre lst_X11_init_q4 68)))]) C rfl (mj_okn 67 95 (Nat.le_of_ble_eq_true rfl) (Nat.le_of_ble_eq_true rfl)) (mj_pre_u (mj_cln 67 (Nat.le_of_ble_eq_true rfl)) rfl) dX11_init_435 rfl ?_
  refine mj_dup (mx_D C hmc hms rfl rfl) dX11_init_436 ?_
  refine mj_bipush (v := 68) (mx_D C hmc hms rfl rfl) dX11_init_437 (by decide) ?_
  refine mj_bipush (v := 66) (mx_D C hmc hms rfl rfl) dX11_init_439 (by decide) ?_
  refine mx_astf (k := 4) (f := mj_pre lst_X11_init_q4 68) (f' := mj_pre lst_X11_init_q4 69) (Y' := [(a0, .inr (12, [.int 0, .ref q1, .ref q2, .ref q3, .int 0, .null, .null, .int 0, .null, .int 0, .int 0, .int 0, .int 0, .int 0, .null, .int 0, .int 0, .int 0, .int 0, .int 0, .null, .int 0, .null])), (q1, .inl ((mj_cI κ).1, 1897, .inl (fun _ => 0))), (q2, .inl ((mj_cI κ).1, 1897, .inl (fun _ => 0))), (q3, .inl ((mj_cI κ).1, 5, .inl (fun _ => 0))), (q4, .inl ((mj_cI κ).1, 95, .inl (mj_pre lst_X11_init_q4 69)))]) C rfl (mj_okn 68 95 (Nat.le_of_ble_eq_true rfl) (Nat.le_of_ble_eq_true rfl)) (mj_pre_u (mj_cln 68 (Nat.le_of_ble_eq_true rfl)) rfl) dX11_init_441 rfl ?_
  refine mj_dup (mx_D C hmc hms rfl rfl) dX11_init_442 ?_
  refine mj_bipush (v := 69) (mx_D C hmc hms rfl rfl) dX11_init_443 (by decide) ?_
  refine mj_bipush (v := 69) (mx_D C hmc hms rfl rfl) dX11_init_445 (by decide) ?_
  refine mx_astf (k := 4) (f := mj_pre lst_X11_init_q4 69) (f' := mj_pre lst_X11_init_q4 70) (Y' := [(a0, .inr (12, [.int 0, .ref q1, .ref q2, .ref q3, .int 0, .null, .null, .int 0, .null, .int 0, .int 0, .int 0, .int 0, .int 0, .null, .int 0, .int 0, .int 0, .int 0, .int 0, .null, .int 0, .null])), (q1, .inl ((mj_cI κ).1, 1897, .inl (fun _ => 0))), (q2, .inl ((mj_cI κ).1, 1897, .inl (fun _ => 0))), (q3, .inl ((mj_cI κ).1, 5, .inl (fun _ => 0))), (q4, .inl ((mj_cI κ).1, 95, .inl (mj_pre lst_X11_init_q4 70)))]) C rfl (mj_okn 69 95 (Nat.le_of_ble_eq_true rfl) (Nat.le_of_ble_eq_true rfl)) (mj_pre_u (mj_cln 69 (Nat.le_of_ble_eq_true rfl)) rfl) dX11_init_447 rfl ?_
  refine mj_dup (mx_D C hmc hms rfl rfl) dX11_init_448 ?_
  refine mj_bipush (v := 70) (mx_D C hmc hms rfl rfl) dX11_init_449 (by decide) ?_
  refine mj_bipush (v := 82) (mx_D C hmc hms rfl rfl) dX11_init_451 (by decide) ?_
  refine mx_astf (k := 4) (f := mj_pre lst_X11_init_q4 70) (f' := mj_pre lst_X11_init_q4 71) (Y' := [(a0, .inr (12, [.int 0, .ref q1, .ref q2, .ref q3, .int 0, .null, .null, .int 0, .null, .int 0, .int 0, .int 0, .int 0, .int 0, .null, .int 0, .int 0, .int 0, .int 0, .int 0, .null, .int 0, .null])), (q1, .inl ((mj_cI κ).1, 1897, .inl (fun _ => 0))), (q2, .inl ((mj_cI κ).1, 1897, .inl (fun _ => 0))), (q3, .inl ((mj_cI κ).1, 5, .inl (fun _ => 0))), (q4, .inl ((mj_cI κ).1, 95, .inl (mj_pre lst_X11_init_q4 71)))]) C rfl (mj_okn 70 95 (Nat.le_of_ble_eq_true rfl) (Nat.le_of_ble_eq_true rfl)) (mj_pre_u (mj_cln 70 (Nat.le_of_ble_eq_true rfl)) rfl) dX11_init_453 rfl ?_
  refine mj_dup (mx_D C hmc hms rfl rfl) dX11_init_454 ?_
  refine mj_bipush (v := 71) (mx_D C hmc hms rfl rfl) dX11_init_455 (by decide) ?_
  refine mj_bipush (v := 32) (mx_D C hmc hms rfl rfl) dX11_init_457 (by decide) ?_
  refine mx_astf (k := 4) (f := mj_pre lst_X11_init_q4 71) (f' := mj_pre lst_X11_init_q4 72) (Y' := [(a0, .inr (12, [.int 0, .ref q1, .ref q2, .ref q3, .int 0, .null, .null, .int 0, .null, .int 0, .int 0, .int 0, .int 0, .int 0, .null, .int 0, .int 0, .int 0, .int 0, .int 0, .null, .int 0, .null])), (q1, .inl ((mj_cI κ).1, 1897, .inl (fun _ => 0))), (q2, .inl ((mj_cI κ).1, 1897, .inl (fun _ => 0))), (q3, .inl ((mj_cI κ).1, 5, .inl (fun _ => 0))), (q4, .inl ((mj_cI κ).1, 95, .inl (mj_pre lst_X11_init_q4 72)))]) C rfl (mj_okn 71 95 (Nat.le_of_ble_eq_true rfl) (Nat.le_of_ble_eq_true rfl)) (mj_pre_u (mj_cln 71 (Nat.le_of_ble_eq_true rfl)) rfl) dX11_init_459 rfl ?_
  refine mj_dup (mx_D C hmc hms rfl rfl) dX11_init_460 ?_
  refine mj_bipush (v := 72) (mx_D C hmc hms rfl rfl) dX11_init_461 (by decide) ?_
  refine mj_bipush (v := 82) (mx_D C hmc hms rfl rfl) dX11_init_463 (by decide) ?_
  refine mx_astf (k := 4) (f := mj_pre lst_X11_init_q4 72) (f' := mj_pre lst_X11_init_q4 73) (Y' := [(a0, .inr (12, [.int 0, .ref q1, .ref q2, .ref q3, .int 0, .null, .null, .int 0, .null, .int 0, .int 0, .int 0, .int 0, .int 0, .null, .int 0, .int 0, .int 0, .int 0, .int 0, .null, .int 0, .null])), (q1, .inl ((mj_cI κ).1, 1897, .inl (fun _ => 0))), (q2, .inl ((mj_cI κ).1, 1897, .inl (fun _ => 0))), (q3, .inl ((mj_cI κ).1, 5, .inl (fun _ => 0))), (q4, .inl ((mj_cI κ).1, 95, .inl (mj_pre lst_X11_init_q4 73)))]) C rfl (mj_okn 72 95 (Nat.le_of_ble_eq_true rfl) (Nat.le_of_ble_eq_true rfl)) (mj_pre_u (mj_cln 72 (Nat.le_of_ble_eq_true rfl)) rfl) dX11_init_465 rfl ?_
  refine mj_dup (mx_D C hmc hms rfl rfl) dX11_init_466 ?_
  refine mj_bipush (v := 73) (mx_D C hmc hms rfl rfl) dX11_init_467 (by decide) ?_
  refine mj_bipush (v := 69) (mx_D C hmc hms rfl rfl) dX11_init_469 (by decide) ?_
  refine mx_astf (k := 4) (f := mj_pre lst_X11_init_q4 73) (f' := mj_pre lst_X11_init_q4 74) (Y' := [(a0, .inr (12, [.int 0, .ref q1, .ref q2, .ref q3, .int 0, .null, .null, .int 0, .null, .int 0, .int 0, .int 0, .int 0, .int 0, .null, .int 0, .int 0, .int 0, .int 0, .int 0, .null, .int 0, .null])), (q1, .inl ((mj_cI κ).1, 1897, .inl (fun _ => 0))), (q2, .inl ((mj_cI κ).1, 1897, .inl (fun _ => 0))), (q3, .inl ((mj_cI κ).1, 5, .inl (fun _ => 0))), (q4, .inl ((mj_cI κ).1, 95, .inl (mj_pre lst_X11_init_q4 74)))]) C rfl (mj_okn 73 95 (Nat.le_of_ble_eq_true rfl) (Nat.le_of_ble_eq_true rfl)) (mj_pre_u (mj_cln 73 (Nat.le_of_ble_eq_true rfl)) rfl) dX11_init_471 rfl ?_
  refine mj_dup (mx_D C hmc hms rfl rfl) dX11_init_472 ?_
  refine mj_bipush (v := 74) (mx_D C hmc hms rfl rfl) dX11_init_473 (by decide) ?_
  refine mj_bipush (v := 80) (mx_D C hmc hms rfl rfl) dX11_init_475 (by decide) ?_
  refine mx_astf (k := 4) (f := mj_pre lst_X11_init_q4 74) (f' := mj_pre lst_X11_init_q4 75) (Y' := [(a0, .inr (12, [.int 0, .ref q1, .ref q2, .ref q3, .int 0, .null, .null, .int 0, .null, .int 0, .int 0, .int 0, .int 0, .int 0, .null, .int 0, .int 0, .int 0, .int 0, .int 0, .null, .int 0, .null])), (q1, .inl ((mj_cI κ).1, 1897, .inl (fun _ => 0))), (q2, .inl ((mj_cI κ).1, 1897, .inl (fun _ => 0))), (q3, .inl ((mj_cI κ).1, 5, .inl (fun _ => 0))), (q4, .inl ((mj_cI κ).1, 95, .inl (mj_pre lst_X11_init_q4 75)))]) C rfl (mj_okn 74 95 (Nat.le_of_ble_eq_true rfl) (Nat.le_of_ble_eq_true rfl)) (mj_pre_u (mj_cln 74 (Nat.le_of_ble_eq_true rfl)) rfl) dX11_init_477 rfl ?_
  refine mj_dup (mx_D C hmc hms rfl rfl) dX11_init_478 ?_
  refine mj_bipush (v := 75) (mx_D C hmc hms rfl rfl) dX11_init_479 (by decide) ?_
  refine mj_bipush (v := 79) (mx_D C hmc hms rfl rfl) dX11_init_481 (by decide) ?_
  refine mx_astf (k := 4) (f := mj_pre lst_X11_init_q4 75) (f' := mj_pre lst_X11_init_q4 76) (Y' := [(a0, .inr (12, [.int 0, .ref q1, .ref q2, .ref q3, .int 0, .null, .null, .int 0, .null, .int 0, .int 0, .int 0, .int 0, .int 0, .null, .int 0, .int 0, .int 0, .int 0, .int 0, .null, .int 0, .null])), (q1, .inl ((mj_cI κ).1, 1897, .inl (fun _ => 0))), (q2, .inl ((mj_cI κ).1, 1897, .inl (fun _ => 0))), (q3, .inl ((mj_cI κ).1, 5, .inl (fun _ => 0))), (q4, .inl ((mj_cI κ).1, 95, .inl (mj_pre lst_X11_init_q4 76)))]) C rfl (mj_okn 75 95 (Nat.le_of_ble_eq_true rfl) (Nat.le_of_ble_eq_true rfl)) (mj_pre_u (mj_cln 75 (Nat.le_of_ble_eq_true rfl)) rfl) dX11_init_483 rfl ?_
  refine mj_dup (mx_D C hmc hms rfl rfl) dX11_init_484 ?_
  refine mj_bipush (v := 76) (mx_D C hmc hms rfl rfl) dX11_init_485 (by decide) ?_
  refine mj_bipush (v := 82) (mx_D C hmc hms rfl rfl) dX11_init_487 (by decide) ?_
  refine mx_astf (k := 4) (f := mj_pre lst_X11_init_q4 76) (f' := mj_pre lst_X11_init_q4 77) (Y' := [(a0, .inr (12, [.int 0, .ref q1, .ref q2, .ref q3, .int 0, .null, .null, .int 0, .null, .int 0, .int 0, .int 0, .int 0, .int 0, .null, .int 0, .int 0, .int 0, .int 0, .int 0, .null, .int 0, .null])), (q1, .inl ((mj_cI κ).1, 1897, .inl (fun _ => 0))), (q2, .inl ((mj_cI κ).1, 1897, .inl (fun _ => 0))), (q3, .inl ((mj_cI κ).1, 5, .inl (fun _ => 0))), (q4, .inl ((mj_cI κ).1, 95, .inl (mj_pre lst_X11_init_q4 77)))]) C rfl (mj_okn 76 95 (Nat.le_of_ble_eq_true rfl) (Nat.le_of_ble_eq_true rfl)) (mj_pre_u (mj_cln 76 (Nat.le_of_ble_eq_true rfl)) rfl) dX11_init_489 rfl ?_
  refine mj_dup (mx_D C hmc hms rfl rfl) dX11_init_490 ?_
  refine mj_bipush (v := 77) (mx_D C hmc hms rfl rfl) dX11_init_491 (by decide) ?_
  refine mj_bipush (v := 84) (mx_D C hmc hms rfl rfl) dX11_init_493 (by decide) ?_
  refine mx_astf (k := 4) (f := mj_pre lst_X11_init_q4 77) (f' := mj_pre lst_X11_init_q4 78) (Y' := [(a0, .inr (12, [.int 0, .ref q1, .ref q2, .ref q3, .int 0, .null, .null, .int 0, .null, .int 0, .int 0, .int 0, .int 0, .int 0, .null, .int 0, .int 0, .int 0, .int 0, .int 0, .null, .int 0, .null])), (q1, .inl ((mj_cI κ).1, 1897, .inl (fun _ => 0))), (q2, .inl ((mj_cI κ).1, 1897, .inl (fun _ => 0))), (q3, .inl ((mj_cI κ).1, 5, .inl (fun _ => 0))), (q4, .inl ((mj_cI κ).1, 95, .inl (mj_pre lst_X11_init_q4 78)))]) C rfl (mj_okn 77 95 (Nat.le_of_ble_eq_true rfl) (Nat.le_of_ble_eq_true rfl)) (mj_pre_u (mj_cln 77 (Nat.le_of_ble_eq_true rfl)) rfl) dX11_init_495 rfl ?_
  refine mj_dup (mx_D C hmc hms rfl rfl) dX11_init_496 ?_
  refine mj_bipush (v := 78) (mx_D C hmc hms rfl rfl) dX11_init_497 (by decide) ?_
  refine mj_bipush (v := 32) (mx_D C hmc hms rfl rfl) dX11_init_499 (by decide) ?_
  refine mx_astf (k := 4) (f := mj_pre lst_X11_init_q4 78) (f' := mj_pre lst_X11_init_q4 79) (Y' := [(a0, .inr (12, [.int 0, .ref q1, .ref q2, .ref q3, .int 0, .null, .null, .int 0, .null, .int 0, .int 0, .int 0, .int 0, .int 0, .null, .int 0, .int 0, .int 0, .int 0, .int 0, .null, .int 0, .null])), (q1, .inl ((mj_cI κ).1, 1897, .inl (fun _ => 0))), (q2, .inl ((mj_cI κ).1, 1897, .inl (fun _ => 0))), (q3, .inl ((mj_cI κ).1, 5, .inl (fun _ => 0))), (q4, .inl ((mj_cI κ).1, 95, .inl (mj_pre lst_X11_init_q4 79)))]) C rfl (mj_okn 78 95 (Nat.le_of_ble_eq_true rfl) (Nat.le_of_ble_eq_true rfl)) (mj_pre_u (mj_cln 78 (Nat.le_of_ble_eq_true rfl)) rfl) dX11_init_501 rfl ?_
  refine mj_dup (mx_D C hmc hms rfl rfl) dX11_init_502 ?_
  refine mj_bipush (v := 79) (mx_D C hmc hms rfl rfl) dX11_init_503 (by decide) ?_
  refine mj_bipush (v := 76) (mx_D C hmc hms rfl rfl) dX11_init_505 (by decide) ?_
  refine mx_astf (k := 4) (f := mj_pre lst_X11_init_q4 79) (f' := mj_pre lst_X11_init_q4 80) (Y' := [(a0, .inr (12, [.int 0, .ref q1, .ref q2, .ref q3, .int 0, .null, .null, .int 0, .null, .int 0, .int 0, .int 0, .int 0, .int 0, .null, .int 0, .int 0, .int 0, .int 0, .int 0, .null, .int 0, .null])), (q1, .inl ((mj_cI κ).1, 1897, .inl (fun _ => 0))), (q2, .inl ((mj_cI κ).1, 1897, .inl (fun _ => 0))), (q3, .inl ((mj_cI κ).1, 5, .inl (fun _ => 0))), (q4, .inl ((mj_cI κ).1, 95, .inl (mj_pre lst_X11_init_q4 80)))]) C rfl (mj_okn 79 95 (Nat.le_of_ble_eq_true rfl) (Nat.le_of_ble_eq_true rfl)) (mj_pre_u (mj_cln 79 (Nat.le_of_ble_eq_true rfl)) rfl) dX11_init_507 rfl ?_
  refine mj_dup (mx_D C hmc hms rfl rfl) dX11_init_508 ?_
  refine mj_bipush (v := 80) (mx_D C hmc hms rfl rfl) dX11_init_509 (by decide) ?_
  refine mj_bipush (v := 73) (mx_D C hmc hms rfl rfl) dX11_init_511 (by decide) ?_
  refine mx_astf (k := 4) (f := mj_pre lst_X11_init_q4 80) (f' := mj_pre lst_X11_init_q4 81) (Y' := [(a0, .inr (12, [.int 0, .ref q1, .ref q2, .ref q3, .int 0, .null, .null, .int 0, .null, .int 0, .int 0, .int 0, .int 0, .int 0, .null, .int 0, .int 0, .int 0, .int 0, .int 0, .null, .int 0, .null])), (q1, .inl ((mj_cI κ).1, 1897, .inl (fun _ => 0))), (q2, .inl ((mj_cI κ).1, 1897, .inl (fun _ => 0))), (q3, .inl ((mj_cI κ).1, 5, .inl (fun _ => 0))), (q4, .inl ((mj_cI κ).1, 95, .inl (mj_pre lst_X11_init_q4 81)))]) C rfl (mj_okn 80 95 (Nat.le_of_ble_eq_true rfl) (Nat.le_of_ble_eq_true rfl)) (mj_pre_u (mj_cln 80 (Nat.le_of_ble_eq_true rfl)) rfl) dX11_init_513 rfl ?_
  refine mj_dup (mx_D C hmc hms rfl rfl) dX11_init_514 ?_
  refine mj_bipush (v := 81) (mx_D C hmc hms rfl rfl) dX11_init_515 (by decide) ?_
  refine mj_bipush (v := 77) (mx_D C hmc hms rfl rfl) dX11_init_517 (by decide) ?_
  refine mx_astf (k := 4) (f := mj_pre lst_X11_init_q4 81) (f' := mj_pre lst_X11_init_q4 82) (Y' := [(a0, .inr (12, [.int 0, .ref q1, .ref q2, .ref q3, .int 0, .null, .null, .int 0, .null, .int 0, .int 0, .int 0, .int 0, .int 0, .null, .int 0, .int 0, .int 0, .int 0, .int 0, .null, .int 0, .null])), (q1, .inl ((mj_cI κ).1, 1897, .inl (fun _ => 0))), (q2, .inl ((mj_cI κ).1, 1897, .inl (fun _ => 0))), (q3, .inl ((mj_cI κ).1, 5, .inl (fun _ => 0))), (q4, .inl ((mj_cI κ).1, 95, .inl (mj_pre lst_X11_init_q4 82)))]) C rfl (mj_okn 81 95 (Nat.le_of_ble_eq_true rfl) (Nat.le_of_ble_eq_true rfl)) (mj_pre_u (mj_cln 81 (Nat.le_of_ble_eq_true rfl)) rfl) dX11_init_519 rfl ?_
  refine mj_dup (mx_D C hmc hms rfl rfl) dX11_init_520 ?_
  refine mj_bipush (v := 82) (mx_D C hmc hms rfl rfl) dX11_init_521 (by decide) ?_
  refine mj_bipush (v := 73) (mx_D C hmc hms rfl rfl) dX11_init_523 (by decide) ?_
  refine mx_astf (k := 4) (f := mj_pre lst_X11_init_q4 82) (f' := mj_pre lst_X11_init_q4 83) (Y' := [(a0, .inr (12, [.int 0, .ref q1, .ref q2, .ref q3, .int 0, .null, .null, .int 0, .null, .int 0, .int 0, .int 0, .int 0, .int 0, .null, .int 0, .int 0, .int 0, .int 0, .int 0, .null, .int 0, .null])), (q1, .inl ((mj_cI κ).1, 1897, .inl (fun _ => 0))), (q2, .inl ((mj_cI κ).1, 1897, .inl (fun _ => 0))), (q3, .inl ((mj_cI κ).1, 5, .inl (fun _ => 0))), (q4, .inl ((mj_cI κ).1, 95, .inl (mj_pre lst_X11_init_q4 83)))]) C rfl (mj_okn 82 95 (Nat.le_of_ble_eq_true rfl) (Nat.le_of_ble_eq_true rfl)) (mj_pre_u (mj_cln 82 (Nat.le_of_ble_eq_true rfl)) rfl) dX11_init_525 rfl ?_
  refine mj_dup (mx_D C hmc hms rfl rfl) dX11_init_526 ?_
  refine mj_bipush (v := 83) (mx_D C hmc hms rfl rfl) dX11_init_527 (by decide) ?_
  refine mj_bipush (v := 84) (mx_D C hmc hms rfl rfl) dX11_init_529 (by decide) ?_
  refine mx_astf (k := 4) (f := mj_pre lst_X11_init_q4 83) (f' := mj_pre lst_X11_init_q4 84) (Y' := [(a0, .inr (12, [.int 0, .ref q1, .ref q2, .ref q3, .int 0, .null, .null, .int 0, .null, .int 0, .int 0, .int 0, .int 0, .int 0, .null, .int 0, .int 0, .int 0, .int 0, .int 0, .null, .int 0, .null])), (q1, .inl ((mj_cI κ).1, 1897, .inl (fun _ => 0))), (q2, .inl ((mj_cI κ).1, 1897, .inl (fun _ => 0))), (q3, .inl ((mj_cI κ).1, 5, .inl (fun _ => 0))), (q4, .inl ((mj_cI κ).1, 95, .inl (mj_pre lst_X11_init_q4 84)))]) C rfl (mj_okn 83 95 (Nat.le_of_ble_eq_true rfl) (Nat.le_of_ble_eq_true rfl)) (mj_pre_u (mj_cln 83 (Nat.le_of_ble_eq_true rfl)) rfl) dX11_init_531 rfl ?_
  refine mj_dup (mx_D C hmc hms rfl rfl) dX11_init_532 ?_
  refine mj_bipush (v := 84) (mx_D C hmc hms rfl rfl) dX11_init_533 (by decide) ?_
  refine mj_bipush (v := 32) (mx_D C hmc hms rfl rfl) dX11_init_535 (by decide) ?_
  refine mx_astf (k := 4) (f := mj_pre lst_X11_init_q4 84) (f' := mj_pre lst_X11_init_q4 85) (Y' := [(a0, .inr (12, [.int 0, .ref q1, .ref q2, .ref q3, .int 0, .null, .null, .int 0, .null, .int 0, .int 0, .int 0, .int 0, .int 0, .null, .int 0, .int 0, .int 0, .int 0, .int 0, .null, .int 0, .null])), (q1, .inl ((mj_cI κ).1, 1897, .inl (fun _ => 0))), (q2, .inl ((mj_cI κ).1, 1897, .inl (fun _ => 0))), (q3, .inl ((mj_cI κ).1, 5, .inl (fun _ => 0))), (q4, .inl ((mj_cI κ).1, 95, .inl (mj_pre lst_X11_init_q4 85)))]) C rfl (mj_okn 84 95 (Nat.le_of_ble_eq_true rfl) (Nat.le_of_ble_eq_true rfl)) (mj_pre_u (mj_cln 84 (Nat.le_of_ble_eq_true rfl)) rfl) dX11_init_537 rfl ?_
  refine mj_dup (mx_D C hmc hms rfl rfl) dX11_init_538 ?_
  refine mj_bipush (v := 85) (mx_D C hmc hms rfl rfl) dX11_init_539 (by decide) ?_
  refine mj_bipush (v := 83) (mx_D C hmc hms rfl rfl) dX11_init_541 (by decide) ?_
  refine mx_astf (k := 4) (f := mj_pre lst_X11_init_q4 85) (f' := mj_pre lst_X11_init_q4 86) (Y' := [(a0, .inr (12, [.int 0, .ref q1, .ref q2, .ref q3, .int 0, .null, .null, .int 0, .null, .int 0, .int 0, .int 0, .int 0, .int 0, .null, .int 0, .int 0, .int 0, .int 0, .int 0, .null, .int 0, .null])), (q1, .inl ((mj_cI κ).1, 1897, .inl (fun _ => 0))), (q2, .inl ((mj_cI κ).1, 1897, .inl (fun _ => 0))), (q3, .inl ((mj_cI κ).1, 5, .inl (fun _ => 0))), (q4, .inl ((mj_cI κ).1, 95, .inl (mj_pre lst_X11_init_q4 86)))]) C rfl (mj_okn 85 95 (Nat.le_of_ble_eq_true rfl) (Nat.le_of_ble_eq_true rfl)) (mj_pre_u (mj_cln 85 (Nat.le_of_ble_eq_true rfl)) rfl) dX11_init_543 rfl ?_
  refine mj_dup (mx_D C hmc hms rfl rfl) dX11_init_544 ?_
  refine mj_bipush (v := 86) (mx_D C hmc hms rfl rfl) dX11_init_545 (by decide) ?_
  refine mj_bipush (v := 84) (mx_D C hmc hms rfl rfl) dX11_init_547 (by decide) ?_
  refine mx_astf (k := 4) (f := mj_pre lst_X11_init_q4 86) (f' := mj_pre lst_X11_init_q4 87) (Y' := [(a0, .inr (12, [.int 0, .ref q1, .ref q2, .ref q3, .int 0, .null, .null, .int 0, .null, .int 0, .int 0, .int 0, .int 0, .int 0, .null, .int 0, .int 0, .int 0, .int 0, .int 0, .null, .int 0, .null])), (q1, .inl ((mj_cI κ).1, 1897, .inl (fun _ => 0))), (q2, .inl ((mj_cI κ).1, 1897, .inl (fun _ => 0))), (q3, .inl ((mj_cI κ).1, 5, .inl (fun _ => 0))), (q4, .inl ((mj_cI κ).1, 95, .inl (mj_pre lst_X11_init_q4 87)))]) C rfl (mj_okn 86 95 (Nat.le_of_ble_eq_true rfl) (Nat.le_of_ble_eq_true rfl)) (mj_pre_u (mj_cln 86 (Nat.le_of_ble_eq_true rfl)) rfl) dX11_init_549 rfl ?_
  refine mj_dup (mx_D C hmc hms rfl rfl) dX11_init_550 ?_
  refine mj_bipush (v := 87) (mx_D C hmc hms rfl rfl) dX11_init_551 (by decide) ?_
  refine mj_bipush (v := 79) (mx_D C hmc hms rfl rfl) dX11_init_553 (by decide) ?_
  refine mx_astf (k := 4) (f := mj_pre lst_X11_init_q4 87) (f' := mj_pre lst_X11_init_q4 88) (Y' := [(a0, .inr (12, [.int 0, .ref q1, .ref q2, .ref q3, .int 0, .null, .null, .int 0, .null, .int 0, .int 0, .int 0, .int 0, .int 0, .null, .int 0, .int 0, .int 0, .int 0, .int 0, .null, .int 0, .null])), (q1, .inl ((mj_cI κ).1, 1897, .inl (fun _ => 0))), (q2, .inl ((mj_cI κ).1, 1897, .inl (fun _ => 0))), (q3, .inl ((mj_cI κ).1, 5, .inl (fun _ => 0))), (q4, .inl ((mj_cI κ).1, 95, .inl (mj_pre lst_X11_init_q4 88)))]) C rfl (mj_okn 87 95 (Nat.le_of_ble_eq_true rfl) (Nat.le_of_ble_eq_true rfl)) (mj_pre_u (mj_cln 87 (Nat.le_of_ble_eq_true rfl)) rfl) dX11_init_555 rfl ?_
  refine mj_dup (mx_D C hmc hms rfl rfl) dX11_init_556 ?_
  refine mj_bipush (v := 88) (mx_D C hmc hms rfl rfl) dX11_init_557 (by decide) ?_
  refine mj_bipush (v := 80) (mx_D C hmc hms rfl rfl) dX11_init_559 (by decide) ?_
  refine mx_astf (k := 4) (f := mj_pre lst_X11_init_q4 88) (f' := mj_pre lst_X11_init_q4 89) (Y' := [(a0, .inr (12, [.int 0, .ref q1, .ref q2, .ref q3, .int 0, .null, .null, .int 0, .null, .int 0, .int 0, .int 0, .int 0, .int 0, .null, .int 0, .int 0, .int 0, .int 0, .int 0, .null, .int 0, .null])), (q1, .inl ((mj_cI κ).1, 1897, .inl (fun _ => 0))), (q2, .inl ((mj_cI κ).1, 1897, .inl (fun _ => 0))), (q3, .inl ((mj_cI κ).1, 5, .inl (fun _ => 0))), (q4, .inl ((mj_cI κ).1, 95, .inl (mj_pre lst_X11_init_q4 89)))]) C rfl (mj_okn 88 95 (Nat.le_of_ble_eq_true rfl) (Nat.le_of_ble_eq_true rfl)) (mj_pre_u (mj_cln 88 (Nat.le_of_ble_eq_true rfl)) rfl) dX11_init_561 rfl ?_
  refine mj_dup (mx_D C hmc hms rfl rfl) dX11_init_562 ?_
  refine mj_bipush (v := 89) (mx_D C hmc hms rfl rfl) dX11_init_563 (by decide) ?_
  refine mj_bipush (v := 32) (mx_D C hmc hms rfl rfl) dX11_init_565 (by decide) ?_
  refine mx_astf (k := 4) (f := mj_pre lst_X11_init_q4 89) (f' := mj_pre lst_X11_init_q4 90) (Y' := [(a0, .inr (12, [.int 0, .ref q1, .ref q2, .ref q3, .int 0, .null, .null, .int 0, .null, .int 0, .int 0, .int 0, .int 0, .int 0, .null, .int 0, .int 0, .int 0, .int 0, .int 0, .null, .int 0, .null])), (q1, .inl ((mj_cI κ).1, 1897, .inl (fun _ => 0))), (q2, .inl ((mj_cI κ).1, 1897, .inl (fun _ => 0))), (q3, .inl ((mj_cI κ).1, 5, .inl (fun _ => 0))), (q4, .inl ((mj_cI κ).1, 95, .inl (mj_pre lst_X11_init_q4 90)))]) C rfl (mj_okn 89 95 (Nat.le_of_ble_eq_true rfl) (Nat.le_of_ble_eq_true rfl)) (mj_pre_u (mj_cln 89 (Nat.le_of_ble_eq_true rfl)) rfl) dX11_init_567 rfl ?_
  refine mj_dup (mx_D C hmc hms rfl rfl) dX11_init_568 ?_
  refine mj_bipush (v := 90) (mx_D C hmc hms rfl rfl) dX11_init_569 (by decide) ?_
  refine mj_bipush (v := 72) (mx_D C hmc hms rfl rfl) dX11_init_571 (by decide) ?_
  refine mx_astf (k := 4) (f := mj_pre lst_X11_init_q4 90) (f' := mj_pre lst_X11_init_q4 91) (Y' := [(a0, .inr (12, [.int 0, .ref q1, .ref q2, .ref q3, .int 0, .null, .null, .int 0, .null, .int 0, .int 0, .int 0, .int 0, .int 0, .null, .int 0, .int 0, .int 0, .int 0, .int 0, .null, .int 0, .null])), (q1, .inl ((mj_cI κ).1, 1897, .inl (fun _ => 0))), (q2, .inl ((mj_cI κ).1, 1897, .inl (fun _ => 0))), (q3, .inl ((mj_cI κ).1, 5, .inl (fun _ => 0))), (q4, .inl ((mj_cI κ).1, 95, .inl (mj_pre lst_X11_init_q4 91)))]) C rfl (mj_okn 90 95 (Nat.le_of_ble_eq_true rfl) (Nat.le_of_ble_eq_true rfl)) (mj_pre_u (mj_cln 90 (Nat.le_of_ble_eq_true rfl)) rfl) dX11_init_573 rfl ?_
  refine mj_dup (mx_D C hmc hms rfl rfl) dX11_init_574 ?_
  refine mj_bipush (v := 91) (mx_D C hmc hms rfl rfl) dX11_init_575 (by decide) ?_
  refine mj_bipush (v := 69) (mx_D C hmc hms rfl rfl) dX11_init_577 (by decide) ?_
  refine mx_astf (k := 4) (f := mj_pre lst_X11_init_q4 91) (f' := mj_pre lst_X11_init_q4 92) (Y' := [(a0, .inr (12, [.int 0, .ref q1, .ref q2, .ref q3, .int 0, .null, .null, .int 0, .null, .int 0, .int 0, .int 0, .int 0, .int 0, .null, .int 0, .int 0, .int 0, .int 0, .int 0, .null, .int 0, .null])), (q1, .inl ((mj_cI κ).1, 1897, .inl (fun _ => 0))), (q2, .inl ((mj_cI κ).1, 1897, .inl (fun _ => 0))), (q3, .inl ((mj_cI κ).1, 5, .inl (fun _ => 0))), (q4, .inl ((mj_cI κ).1, 95, .inl (mj_pre lst_X11_init_q4 92)))]) C rfl (mj_okn 91 95 (Nat.le_of_ble_eq_true rfl) (Nat.le_of_ble_eq_true rfl)) (mj_pre_u (mj_cln 91 (Nat.le_of_ble_eq_true rfl)) rfl) dX11_init_579 rfl ?_
  refine mj_dup (mx_D C hmc hms rfl rfl) dX11_init_580 ?_
  refine mj_bipush (v := 92) (mx_D C hmc hms rfl rfl) dX11_init_581 (by decide) ?_
  refine mj_bipush (v := 76) (mx_D C hmc hms rfl rfl) dX11_init_583 (by decide) ?_
  refine mx_astf (k := 4) (f := mj_pre lst_X11_init_q4 92) (f' := mj_pre lst_X11_init_q4 93) (Y' := [(a0, .inr (12, [.int 0, .ref q1, .ref q2, .ref q3, .int 0, .null, .null, .int 0, .null, .int 0, .int 0, .int 0, .int 0, .int 0, .null, .int 0, .int 0, .int 0, .int 0, .int 0, .null, .int 0, .null])), (q1, .inl ((mj_cI κ).1, 1897, .inl (fun _ => 0))), (q2, .inl ((mj_cI κ).1, 1897, .inl (fun _ => 0))), (q3, .inl ((mj_cI κ).1, 5, .inl (fun _ => 0))), (q4, .inl ((mj_cI κ).1, 95, .inl (mj_pre lst_X11_init_q4 93)))]) C rfl (mj_okn 92 95 (Nat.le_of_ble_eq_true rfl) (Nat.le_of_ble_eq_true rfl)) (mj_pre_u (mj_cln 92 (Nat.le_of_ble_eq_true rfl)) rfl) dX11_init_585 rfl ?_
  refine mj_dup (mx_D C hmc hms rfl rfl) dX11_init_586 ?_
  refine mj_bipush (v := 93) (mx_D C hmc hms rfl rfl) dX11_init_587 (by decide) ?_
  refine mj_bipush (v := 68) (mx_D C hmc hms rfl rfl) dX11_init_589 (by decide) ?_
  refine mx_astf (k := 4) (f := mj_pre lst_X11_init_q4 93) (f' := mj_pre lst_X11_init_q4 94) (Y' := [(a0, .inr (12, [.int 0, .ref q1, .ref q2, .ref q3, .int 0, .null, .null, .int 0, .null, .int 0, .int 0, .int 0, .int 0, .int 0, .null, .int 0, .int 0, .int 0, .int 0, .int 0, .null, .int 0, .null])), (q1, .inl ((mj_cI κ).1, 1897, .inl (fun _ => 0))), (q2, .inl ((mj_cI κ).1, 1897, .inl (fun _ => 0))), (q3, .inl ((mj_cI κ).1, 5, .inl (fun _ => 0))), (q4, .inl ((mj_cI κ).1, 95, .inl (mj_pre lst_X11_init_q4 94)))]) C rfl (mj_okn 93 95 (Nat.le_of_ble_eq_true rfl) (Nat.le_of_ble_eq_true rfl)) (mj_pre_u (mj_cln 93 (Nat.le_of_ble_eq_true rfl)) rfl) dX11_init_591 rfl ?_
  refine mj_dup (mx_D C hmc hms rfl rfl) dX11_init_592 ?_
  refine mj_bipush (v := 94) (mx_D C hmc hms rfl rfl) dX11_init_593 (by decide) ?_
  refine mj_bipush (v := 32) (mx_D C hmc hms rfl rfl) dX11_init_595 (by decide) ?_
  refine mx_astf (k := 4) (f := mj_pre lst_X11_init_q4 94) (f' := mj_pre lst_X11_init_q4 95) (Y' := [(a0, .inr (12, [.int 0, .ref q1, .ref q2, .ref q3, .int 0, .null, .null, .int 0, .null, .int 0, .int 0, .int 0, .int 0, .int 0, .null, .int 0, .int 0, .int 0, .int 0, .int 0, .null, .int 0, .null])), (q1, .inl ((mj_cI κ).1, 1897, .inl (fun _ => 0))), (q2, .inl ((mj_cI κ).1, 1897, .inl (fun _ => 0))), (q3, .inl ((mj_cI κ).1, 5, .inl (fun _ => 0))), (q4, .inl ((mj_cI κ).1, 95, .inl (mj_pre lst_X11_init_q4 95)))]) C rfl (mj_okn 94 95 (Nat.le_of_ble_eq_true rfl) (Nat.le_of_ble_eq_true rfl)) (mj_pre_u (mj_cln 94 (Nat.le_of_ble_eq_true rfl)) rfl) dX11_init_597 rfl ?_
  refine mx_putF (k := 0) (Y' := [(a0, .inr (12, [.int 0, .ref q1, .ref q2, .ref q3, .int 0, .ref q4, .null, .int 0, .null, .int 0, .int 0, .int 0, .int 0, .int 0, .null, .int 0, .int 0, .int 0, .int 0, .int 0, .null, .int 0, .null])), (q1, .inl ((mj_cI κ).1, 1897, .inl (fun _ => 0))), (q2, .inl ((mj_cI κ).1, 1897, .inl (fun _ => 0))), (q3, .inl ((mj_cI κ).1, 5, .inl (fun _ => 0))), (q4, .inl ((mj_cI κ).1, 95, .inl (mj_pre lst_X11_init_q4 95)))]) C hN lF_X11_19 ⟨_, rfl, rfl⟩ fR_12_5 rfl (fun _ => rfl) rfl rfl (Nat.le_of_ble_eq_true rfl) dX11_init_598 rfl ?_
  refine mx_aload_n (mx_D C hmc hms rfl rfl) dX11_init_601 rfl ?_
  refine mj_bipush (v := 60) (mx_D C hmc hms rfl rfl) dX11_init_602 (by decide) ?_
  refine mx_newi (N' := 60) C mx_ai (by decide) (by decide) (by decide) (mx_lc hmc rfl) (mx_ls hms rfl) dX11_init_604 (fun q5 => ?_)
  show mj_R (mj_ky κ [(a0, .inr (12, [.int 0, .ref q1, .ref q2, .ref q3, .int 0, .ref q4, .null, .int 0, .null, .int 0, .int 0, .int 0, .int 0, .int 0, .null, .int 0, .int 0, .int 0, .int 0, .int 0, .null, .int 0, .null])), (q1, .inl ((mj_cI κ).1, 1897, .inl (fun _ => 0))), (q2, .inl ((mj_cI κ).1, 1897, .inl (fun _ => 0))), (q3, .inl ((mj_cI κ).1, 5, .inl (fun _ => 0))), (q4, .inl ((mj_cI κ).1, 95, .inl (mj_pre lst_X11_init_q4 95))), (q5, .inl ((mj_cI κ).1, 60, .inl (fun _ => 0)))] 5 3954) _ 606 [some (mj_o (some a0))] [mj_o (some q5), mj_o (some a0)] M
  refine mx_putF (k := 0) (Y' := [(a0, .inr (12, [.int 0, .ref q1, .ref q2, .ref q3, .int 0, .ref q4, .ref q5, .int 0, .null, .int 0, .int 0, .int 0, .int 0, .int 0, .null, .int 0, .int 0, .int 0, .int 0, .int 0, .null, .int 0, .null])), (q1, .inl ((mj_cI κ).1, 1897, .inl (fun _ => 0))), (q2, .inl ((mj_cI κ).1, 1897, .inl (fun _ => 0))), (q3, .inl ((mj_cI κ).1, 5, .inl (fun _ => 0))), (q4, .inl ((mj_cI κ).1, 95, .inl (mj_pre lst_X11_init_q4 95))), (q5, .inl ((mj_cI κ).1, 60, .inl (fun _ => 0)))]) C hN lF_X11_22 ⟨_, rfl, rfl⟩ fR_12_6 rfl (fun _ => rfl) rfl rfl (Nat.le_of_ble_eq_true rfl) dX11_init_606 rfl ?_
  refine mx_aload_n (mx_D C hmc hms rfl rfl) dX11_init_609 rfl ?_
  refine mj_sipush (v := 400) (mx_D C hmc hms rfl rfl) dX11_init_610 (by decide) ?_
  refine mx_newi (N' := 400) C mx_ai (by decide) (by decide) (by decide) (mx_lc hmc rfl) (mx_ls hms rfl) dX11_init_613 (fun q6 => ?_)
  show mj_R (mj_ky κ [(a0, .inr (12, [.int 0, .ref q1, .ref q2, .ref q3, .int 0, .ref q4, .ref q5, .int 0, .null, .int 0, .int 0, .int 0, .int 0, .int 0, .null, .int 0, .int 0, .int 0, .int 0, .int 0, .null, .int 0, .null])), (q1, .inl ((mj_cI κ).1, 1897, .inl (fun _ => 0))), (q2, .inl ((mj_cI κ).1, 1897, .inl (fun _ => 0))), (q3, .inl ((mj_cI κ).1, 5, .inl (fun _ => 0))), (q4, .inl ((mj_cI κ).1, 95, .inl (mj_pre lst_X11_init_q4 95))), (q5, .inl ((mj_cI κ).1, 60, .inl (fun _ => 0))), (q6, .inl ((mj_cI κ).1, 400, .inl (fun _ => 0)))] 6 4354) _ 615 [some (mj_o (some a0))] [mj_o (some q6), mj_o (some a0)] M
  refine mx_putF (k := 0) (Y' := [(a0, .inr (12, [.int 0, .ref q1, .ref q2, .ref q3, .int 0, .ref q4, .ref q5, .int 0, .ref q6, .int 0, .int 0, .int 0, .int 0, .int 0, .null, .int 0, .int 0, .int 0, .int 0, .int 0, .null, .int 0, .null])), (q1, .inl ((mj_cI κ).1, 1897, .inl (fun _ => 0))), (q2, .inl ((mj_cI κ).1, 1897, .inl (fun _ => 0))), (q3, .inl ((mj_cI κ).1, 5, .inl (fun _ => 0))), (q4, .inl ((mj_cI κ).1, 95, .inl (mj_pre lst_X11_init_q4 95))), (q5, .inl ((mj_cI κ).1, 60, .inl (fun _ => 0))), (q6, .inl ((mj_cI κ).1, 400, .inl (fun _ => 0)))]) C hN lF_X11_25 ⟨_, rfl, rfl⟩ fR_12_8 rfl (fun _ => rfl) rfl rfl (Nat.le_of_ble_eq_true rfl) dX11_init_615 rfl ?_
  refine mx_aload_n (mx_D C hmc hms rfl rfl) dX11_init_618 rfl ?_
  refine mj_bipush (v := 71) (mx_D C hmc hms rfl rfl) dX11_init_619 (by decide) ?_
  refine mx_newi (N' := 71) C mx_ai (by decide) (by decide) (by decide) (mx_lc hmc rfl) (mx_ls hms rfl) dX11_init_621 (fun q7 => ?_)
  show mj_R (mj_ky κ [(a0, .inr (12, [.int 0, .ref q1, .ref q2, .ref q3, .int 0, .ref q4, .ref q5, .int 0, .ref q6, .int 0, .int 0, .int 0, .int 0, .int 0, .null, .int 0, .int 0, .int 0, .int 0, .int 0, .null, .int 0, .null])), (q1, .inl ((mj_cI κ).1, 1897, .inl (fun _ => 0))), (q2, .inl ((mj_cI κ).1, 1897, .inl (fun _ => 0))), (q3, .inl ((mj_cI κ).1, 5, .inl (fun _ => 0))), (q4, .inl ((mj_cI κ).1, 95, .inl (mj_pre lst_X11_init_q4 95))), (q5, .inl ((mj_cI κ).1, 60, .inl (fun _ => 0))), (q6, .inl ((mj_cI κ).1, 400, .inl (fun _ => 0))), (q7, .inl ((mj_cI κ).1, 71, .inl (fun _ => 0)))] 7 4425) _ 623 [some (mj_o (some a0))] [mj_o (some q7), mj_o (some a0)] M
  refine mj_dup (mx_D C hmc hms rfl rfl) dX11_init_623 ?_
  refine mj_iconst (v := 0) (mx_D C hmc hms rfl rfl) dX11_init_624 (by decide) ?_
  refine mj_bipush (v := 32) (mx_D C hmc hms rfl rfl) dX11_init_625 (by decide) ?_
  rw [← mj_pre_0 lst_X11_init_q7]
  refine mx_astf (k := 7) (f := mj_pre lst_X11_init_q7 0) (f' := mj_pre lst_X11_init_q7 1) (Y' := [(a0, .inr (12, [.int 0, .ref q1, .ref q2, .ref q3, .int 0, .ref q4, .ref q5, .int 0, .ref q6, .int 0, .int 0, .int 0, .int 0, .int 0, .null, .int 0, .int 0, .int 0, .int 0, .int 0, .null, .int 0, .null])), (q1, .inl ((mj_cI κ).1, 1897, .inl (fun _ => 0))), (q2, .inl ((mj_cI κ).1, 1897, .inl (fun _ => 0))), (q3, .inl ((mj_cI κ).1, 5, .inl (fun _ => 0))), (q4, .inl ((mj_cI κ).1, 95, .inl (mj_pre lst_X11_init_q4 95))), (q5, .inl ((mj_cI κ).1, 60, .inl (fun _ => 0))), (q6, .inl ((mj_cI κ).1, 400, .inl (fun _ => 0))), (q7, .inl ((mj_cI κ).1, 71, .inl (mj_pre lst_X11_init_q7 1)))]) C rfl (mj_okn 0 71 (Nat.le_of_ble_eq_true rfl) (Nat.le_of_ble_eq_true rfl)) (mj_pre_u (mj_cln 0 (Nat.le_of_ble_eq_true rfl)) rfl) dX11_init_627 rfl ?_
  refine mj_dup (mx_D C hmc hms rfl rfl) dX11_init_628 ?_
  refine mj_iconst (v := 1) (mx_D C hmc hms rfl rfl) dX11_init_629 (by decide) ?_
  refine mj_bipush (v := 115) (mx_D C hmc hms rfl rfl) dX11_init_630 (by decide) ?_
  refine mx_astf (k := 7) (f := mj_pre lst_X11_init_q7 1) (f' := mj_pre lst_X11_init_q7 2) (Y' := [(a0, .inr (12, [.int 0, .ref q1, .ref q2, .ref q3, .int 0, .ref q4, .ref q5, .int 0, .ref q6, .int 0, .int 0, .int 0, .int 0, .int 0, .null, .int 0, .int 0, .int 0, .int 0, .int 0, .null, .int 0, .null])), (q1, .inl ((mj_cI κ).1, 1897, .inl (fun _ => 0))), (q2, .inl ((mj_cI κ).1, 1897, .inl (fun _ => 0))), (q3, .inl ((mj_cI κ).1, 5, .inl (fun _ => 0))), (q4, .inl ((mj_cI κ).1, 95, .inl (mj_pre lst_X11_init_q4 95))), (q5, .inl ((mj_cI κ).1, 60, .inl (fun _ => 0))), (q6, .inl ((mj_cI κ).1, 400, .inl (fun _ => 0))), (q7, .inl ((mj_cI κ).1, 71, .inl (mj_pre lst_X11_init_q7 2)))]) C rfl (mj_okn 1 71 (Nat.le_of_ble_eq_true rfl) (Nat.le_of_ble_eq_true rfl)) (mj_pre_u (mj_cln 1 (Nat.le_of_ble_eq_true rfl)) rfl) dX11_init_632 rfl ?_
  refine mj_dup (mx_D C hmc hms rfl rfl) dX11_init_633 ?_
  refine mj_iconst (v := 2) (mx_D C hmc hms rfl rfl) dX11_init_634 (by decide) ?_
  refine mj_bipush (v := 101) (mx_D C hmc hms rfl rfl) dX11_init_635 (by decide) ?_
  refine mx_astf (k := 7) (f := mj_pre lst_X11_init_q7 2) (f' := mj_pre lst_X11_init_q7 3) (Y' := [(a0, .inr (12, [.int 0, .ref q1, .ref q2, .ref q3, .int 0, .ref q4, .ref q5, .int 0, .ref q6, .int 0, .int 0, .int 0, .int 0, .int 0, .null, .int 0, .int 0, .int 0, .int 0, .int 0, .null, .int 0, .null])), (q1, .inl ((mj_cI κ).1, 1897, .inl (fun _ => 0))), (q2, .inl ((mj_cI κ).1, 1897, .inl (fun _ => 0))), (q3, .inl ((mj_cI κ).1, 5, .inl (fun _ => 0))), (q4, .inl ((mj_cI κ).1, 95, .inl (mj_pre lst_X11_init_q4 95))), (q5, .inl ((mj_cI κ).1, 60, .inl (fun _ => 0))), (q6, .inl ((mj_cI κ).1, 400, .inl (fun _ => 0))), (q7, .inl ((mj_cI κ).1, 71, .inl (mj_pre lst_X11_init_q7 3)))]) C rfl (mj_okn 2 71 (Nat.le_of_ble_eq_true rfl) (Nat.le_of_ble_eq_true rfl)) (mj_pre_u (mj_cln 2 (Nat.le_of_ble_eq_true rfl)) rfl) dX11_init_637 rfl ?_
  refine mj_dup (mx_D C hmc hms rfl rfl) dX11_init_638 ?_
  refine mj_iconst (v := 3) (mx_D C hmc hms rfl rfl) dX11_init_639 (by decide) ?_
  refine mj_bipush (v := 110) (mx_D C hmc hms rfl rfl) dX11_init_640 (by decide) ?_
  refine mx_astf (k := 7) (f := mj_pre lst_X11_init_q7 3) (f' := mj_pre lst_X11_init_q7 4) (Y' := [(a0, .inr (12, [.int 0, .ref q1, .ref q2, .ref q3, .int 0, .ref q4, .ref q5, .int 0, .ref q6, .int 0, .int 0, .int 0, .int 0, .int 0, .null, .int 0, .int 0, .int 0, .int 0, .int 0, .null, .int 0, .null])), (q1, .inl ((mj_cI κ).1, 1897, .inl (fun _ => 0))), (q2, .inl ((mj_cI κ).1, 1897, .inl (fun _ => 0))), (q3, .inl ((mj_cI κ).1, 5, .inl (fun _ => 0))), (q4, .inl ((mj_cI κ).1, 95, .inl (mj_pre lst_X11_init_q4 95))), (q5, .inl ((mj_cI κ).1, 60, .inl (fun _ => 0))), (q6, .inl ((mj_cI κ).1, 400, .inl (fun _ => 0))), (q7, .inl ((mj_cI κ).1, 71, .inl (mj_pre lst_X11_init_q7 4)))]) C rfl (mj_okn 3 71 (Nat.le_of_ble_eq_true rfl) (Nat.le_of_ble_eq_true rfl)) (mj_pre_u (mj_cln 3 (Nat.le_of_ble_eq_true rfl)) rfl) dX11_init_642 rfl ?_
  refine mj_dup (mx_D C hmc hms rfl rfl) dX11_init_643 ?_
  refine mj_iconst (v := 4) (mx_D C hmc hms rfl rfl) dX11_init_644 (by decide) ?_
  refine mj_bipush (v := 100) (mx_D C hmc hms rfl rfl) dX11_init_645 (by decide) ?_
  refine mx_astf (k := 7) (f := mj_pre lst_X11_init_q7 4) (f' := mj_pre lst_X11_init_q7 5) (Y' := [(a0, .inr (12, [.int 0, .ref q1, .ref q2, .ref q3, .int 0, .ref q4, .ref q5, .int 0, .ref q6, .int 0, .int 0, .int 0, .int 0, .int 0, .null, .int 0, .int 0, .int 0, .int 0, .int 0, .null, .int 0, .null])), (q1, .inl ((mj_cI κ).1, 1897, .inl (fun _ => 0))), (q2, .inl ((mj_cI κ).1, 1897, .inl (fun _ => 0))), (q3, .inl ((mj_cI κ).1, 5, .inl (fun _ => 0))), (q4, .inl ((mj_cI κ).1, 95, .inl (mj_pre lst_X11_init_q4 95))), (q5, .inl ((mj_cI κ).1, 60, .inl (fun _ => 0))), (q6, .inl ((mj_cI κ).1, 400, .inl (fun _ => 0))), (q7, .inl ((mj_cI κ).1, 71, .inl (mj_pre lst_X11_init_q7 5)))]) C rfl (mj_okn 4 71 (Nat.le_of_ble_eq_true rfl) (Nat.le_of_ble_eq_true rfl)) (mj_pre_u (mj_cln 4 (Nat.le_of_ble_eq_true rfl)) rfl) dX11_init_647 rfl ?_
  refine mj_dup (mx_D C hmc hms rfl rfl) dX11_init_648 ?_
  refine mj_iconst (v := 5) (mx_D C hmc hms rfl rfl) dX11_init_649 (by decide) ?_
  refine mj_bipush (v := 32) (mx_D C hmc hms rfl rfl) dX11_init_650 (by decide) ?_
  refine mx_astf (k := 7) (f := mj_pre lst_X11_init_q7 5) (f' := mj_pre lst_X11_init_q7 6) (Y' := [(a0, .inr (12, [.int 0, .ref q1, .ref q2, .ref q3, .int 0, .ref q4, .ref q5, .int 0, .ref q6, .int 0, .int 0, .int 0, .int 0, .int 0, .null, .int 0, .int 0, .int 0, .int 0, .int 0, .null, .int 0, .null])), (q1, .inl ((mj_cI κ).1, 1897, .inl (fun _ => 0))), (q2, .inl ((mj_cI κ).1, 1897, .inl (fun _ => 0))), (q3, .inl ((mj_cI κ).1, 5, .inl (fun _ => 0))), (q4, .inl ((mj_cI κ).1, 95, .inl (mj_pre lst_X11_init_q4 95))), (q5, .inl ((mj_cI κ).1, 60, .inl (fun _ => 0))), (q6, .inl ((mj_cI κ).1, 400, .inl (fun _ => 0))), (q7, .inl ((mj_cI κ).1, 71, .inl (mj_pre lst_X11_init_q7 6)))]) C rfl (mj_okn 5 71 (Nat.le_of_ble_eq_true rfl) (Nat.le_of_ble_eq_true rfl)) (mj_pre_u (mj_cln 5 (Nat.le_of_ble_eq_true rfl)) rfl) dX11_init_652 rfl ?_
  refine mj_dup (mx_D C hmc hms rfl rfl) dX11_init_653 ?_
  refine mj_bipush (v := 6) (mx_D C hmc hms rfl rfl) dX11_init_654 (by decide) ?_
  refine mj_bipush (v := 112) (mx_D C hmc hms rfl rfl) dX11_init_656 (by decide) ?_
  refine mx_astf (k := 7) (f := mj_pre lst_X11_init_q7 6) (f' := mj_pre lst_X11_init_q7 7) (Y' := [(a0, .inr (12, [.int 0, .ref q1, .ref q2, .ref q3, .int 0, .ref q4, .ref q5, .int 0, .ref q6, .int 0, .int 0, .int 0, .int 0, .int 0, .null, .int 0, .int 0, .int 0, .int 0, .int 0, .null, .int 0, .null])), (q1, .inl ((mj_cI κ).1, 1897, .inl (fun _ => 0))), (q2, .inl ((mj_cI κ).1, 1897, .inl (fun _ => 0))), (q3, .inl ((mj_cI κ).1, 5, .inl (fun _ => 0))), (q4, .inl ((mj_cI κ).1, 95, .inl (mj_pre lst_X11_init_q4 95))), (q5, .inl ((mj_cI κ).1, 60, .inl (fun _ => 0))), (q6, .inl ((mj_cI κ).1, 400, .inl (fun _ => 0))), (q7, .inl ((mj_cI κ).1, 71, .inl (mj_pre lst_X11_init_q7 7)))]) C rfl (mj_okn 6 71 (Nat.le_of_ble_eq_true rfl) (Nat.le_of_ble_eq_true rfl)) (mj_pre_u (mj_cln 6 (Nat.le_of_ble_eq_true rfl)) rfl) dX11_init_658 rfl ?_
  refine mj_dup (mx_D C hmc hms rfl rfl) dX11_init_659 ?_
  refine mj_bipush (v := 7) (mx_D C hmc hms rfl rfl) dX11_init_660 (by decide) ?_
  refine mj_bipush (v := 97) (mx_D C hmc hms rfl rfl) dX11_init_662 (by decide) ?_
  refine mx_astf (k := 7) (f := mj_pre lst_X11_init_q7 7) (f' := mj_pre lst_X11_init_q7 8) (Y' := [(a0, .inr (12, [.int 0, .ref q1, .ref q2, .ref q3, .int 0, .ref q4, .ref q5, .int 0, .ref q6, .int 0, .int 0, .int 0, .int 0, .int 0, .null, .int 0, .int 0, .int 0, .int 0, .int 0, .null, .int 0, .null])), (q1, .inl ((mj_cI κ).1, 1897, .inl (fun _ => 0))), (q2, .inl ((mj_cI κ).1, 1897, .inl (fun _ => 0))), (q3, .inl ((mj_cI κ).1, 5, .inl (fun _ => 0))), (q4, .inl ((mj_cI κ).1, 95, .inl (mj_pre lst_X11_init_q4 95))), (q5, .inl ((mj_cI κ).1, 60, .inl (fun _ => 0))), (q6, .inl ((mj_cI κ).1, 400, .inl (fun _ => 0))), (q7, .inl ((mj_cI κ).1, 71, .inl (mj_pre lst_X11_init_q7 8)))]) C rfl (mj_okn 7 71 (Nat.le_of_ble_eq_true rfl) (Nat.le_of_ble_eq_true rfl)) (mj_pre_u (mj_cln 7 (Nat.le_of_ble_eq_true rfl)) rfl) dX11_init_664 rfl ?_
  refine mj_dup (mx_D C hmc hms rfl rfl) dX11_init_665 ?_
  refine mj_bipush (v := 8) (mx_D C hmc hms rfl rfl) dX11_init_666 (by decide) ?_
  refine mj_bipush (v := 115) (mx_D C hmc hms rfl rfl) dX11_init_668 (by decide) ?_
  refine mx_astf (k := 7) (f := mj_pre lst_X11_init_q7 8) (f' := mj_pre lst_X11_init_q7 9) (Y' := [(a0, .inr (12, [.int 0, .ref q1, .ref q2, .ref q3, .int 0, .ref q4, .ref q5, .int 0, .ref q6, .int 0, .int 0, .int 0, .int 0, .int 0, .null, .int 0, .int 0, .int 0, .int 0, .int 0, .null, .int 0, .null])), (q1, .inl ((mj_cI κ).1, 1897, .inl (fun _ => 0))), (q2, .inl ((mj_cI κ).1, 1897, .inl (fun _ => 0))), (q3, .inl ((mj_cI κ).1, 5, .inl (fun _ => 0))), (q4, .inl ((mj_cI κ).1, 95, .inl (mj_pre lst_X11_init_q4 95))), (q5, .inl ((mj_cI κ).1, 60, .inl (fun _ => 0))), (q6, .inl ((mj_cI κ).1, 400, .inl (fun _ => 0))), (q7, .inl ((mj_cI κ).1, 71, .inl (mj_pre lst_X11_init_q7 9)))]) C rfl (mj_okn 8 71 (Nat.le_of_ble_eq_true rfl) (Nat.le_of_ble_eq_true rfl)) (mj_pre_u (mj_cln 8 (Nat.le_of_ble_eq_true rfl)) rfl) dX11_init_670 rfl ?_
  refine mj_dup (mx_D C hmc hms rfl rfl) dX11_init_671 ?_
  refine mj_bipush (v := 9) (mx_D C hmc hms rfl rfl) dX11_init_672 (by decide) ?_
  refine mj_bipush (v := 116) (mx_D C hmc hms rfl rfl) dX11_init_674 (by decide) ?_
  refine mx_astf (k := 7) (f := mj_pre lst_X11_init_q7 9) (f' := mj_pre lst_X11_init_q7 10) (Y' := [(a0, .inr (12, [.int 0, .ref q1, .ref q2, .ref q3, .int 0, .ref q4, .ref q5, .int 0, .ref q6, .int 0, .int 0, .int 0, .int 0, .int 0, .null, .int 0, .int 0, .int 0, .int 0, .int 0, .null, .int 0, .null])), (q1, .inl ((mj_cI κ).1, 1897, .inl (fun _ => 0))), (q2, .inl ((mj_cI κ).1, 1897, .inl (fun _ => 0))), (q3, .inl ((mj_cI κ).1, 5, .inl (fun _ => 0))), (q4, .inl ((mj_cI κ).1, 95, .inl (mj_pre lst_X11_init_q4 95))), (q5, .inl ((mj_cI κ).1, 60, .inl (fun _ => 0))), (q6, .inl ((mj_cI κ).1, 400, .inl (fun _ => 0))), (q7, .inl ((mj_cI κ).1, 71, .inl (mj_pre lst_X11_init_q7 10)))]) C rfl (mj_okn 9 71 (Nat.le_of_ble_eq_true rfl) (Nat.le_of_ble_eq_true rfl)) (mj_pre_u (mj_cln 9 (Nat.le_of_ble_eq_true rfl)) rfl) dX11_init_676 rfl ?_
  refine mj_dup (mx_D C hmc hms rfl rfl) dX11_init_677 ?_
  refine mj_bipush (v := 10) (mx_D C hmc hms rfl rfl) dX11_init_678 (by decide) ?_
  refine mj_bipush (v := 32) (mx_D C hmc hms rfl rfl) dX11_init_680 (by decide) ?_
  refine mx_astf (k := 7) (f := mj_pre lst_X11_init_q7 10) (f' := mj_pre lst_X11_init_q7 11) (Y' := [(a0, .inr (12, [.int 0, .ref q1, .ref q2, .ref q3, .int 0, .ref q4, .ref q5, .int 0, .ref q6, .int 0, .int 0, .int 0, .int 0, .int 0, .null, .int 0, .int 0, .int 0, .int 0, .int 0, .null, .int 0, .null])), (q1, .inl ((mj_cI κ).1, 1897, .inl (fun _ => 0))), (q2, .inl ((mj_cI κ).1, 1897, .inl (fun _ => 0))), (q3, .inl ((mj_cI κ).1, 5, .inl (fun _ => 0))), (q4, .inl ((mj_cI κ).1, 95, .inl (mj_pre lst_X11_init_q4 95))), (q5, .inl ((mj_cI κ).1, 60, .inl (fun _ => 0))), (q6, .inl ((mj_cI κ).1, 400, .inl (fun _ => 0))), (q7, .inl ((mj_cI κ).1, 71, .inl (mj_pre lst_X11_init_q7 11)))]) C rfl (mj_okn 10 71 (Nat.le_of_ble_eq_true rfl) (Nat.le_of_ble_eq_true rfl)) (mj_pre_u (mj_cln 10 (Nat.le_of_ble_eq_true rfl)) rfl) dX11_init_682 rfl ?_
  refine mj_dup (mx_D C hmc hms rfl rfl) dX11_init_683 ?_
  refine mj_bipush (v := 11) (mx_D C hmc hms rfl rfl) dX11_init_684 (by decide) ?_
  refine mj_bipush (v := 115) (mx_D C hmc hms rfl rfl) dX11_init_686 (by decide) ?_
  refine mx_astf (k := 7) (f := mj_pre lst_X11_init_q7 11) (f' := mj_pre lst_X11_init_q7 12) (Y' := [(a0, .inr (12, [.int 0, .ref q1, .ref q2, .ref q3, .int 0, .ref q4, .ref q5, .int 0, .ref q6, .int 0, .int 0, .int 0, .int 0, .int 0, .null, .int 0, .int 0, .int 0, .int 0, .int 0, .null, .int 0, .null])), (q1, .inl ((mj_cI κ).1, 1897, .inl (fun _ => 0))), (q2, .inl ((mj_cI κ).1, 1897, .inl (fun _ => 0))), (q3, .inl ((mj_cI κ).1, 5, .inl (fun _ => 0))), (q4, .inl ((mj_cI κ).1, 95, .inl (mj_pre lst_X11_init_q4 95))), (q5, .inl ((mj_cI κ).1, 60, .inl (fun _ => 0))), (q6, .inl ((mj_cI κ).1, 400, .inl (fun _ => 0))), (q7, .inl ((mj_cI κ).1, 71, .inl (mj_pre lst_X11_init_q7 12)))]) C rfl (mj_okn 11 71 (Nat.le_of_ble_eq_true rfl) (Nat.le_of_ble_eq_true rfl)) (mj_pre_u (mj_cln 11 (Nat.le_of_ble_eq_true rfl)) rfl) dX11_init_688 rfl ?_
  refine mj_dup (mx_D C hmc hms rfl rfl) dX11_init_689 ?_
  refine mj_bipush (v := 12) (mx_D C hmc hms rfl rfl) dX11_init_690 (by decide) ?_
  refine mj_bipush (v := 101) (mx_D C hmc hms rfl rfl) dX11_init_692 (by decide) ?_
  refine mx_astf (k := 7) (f := mj_pre lst_X11_init_q7 12) (f' := mj_pre lst_X11_init_q7 13) (Y' := [(a0, .inr (12, [.int 0, .ref q1, .ref q2, .ref q3, .int 0, .ref q4, .ref q5, .int 0, .ref q6, .int 0, .int 0, .int 0, .int 0, .int 0, .null, .int 0, .int 0, .int 0, .int 0, .int 0, .null, .int 0, .null])), (q1, .inl ((mj_cI κ).1, 1897, .inl (fun _ => 0))), (q2, .inl ((mj_cI κ).1, 1897, .inl (fun _ => 0))), (q3, .inl ((mj_cI κ).1, 5, .inl (fun _ => 0))), (q4, .inl ((mj_cI κ).1, 95, .inl (mj_pre lst_X11_init_q4 95))), (q5, .inl ((mj_cI κ).1, 60, .inl (fun _ => 0))), (q6, .inl ((mj_cI κ).1, 400, .inl (fun _ => 0))), (q7, .inl ((mj_cI κ).1, 71, .inl (mj_pre lst_X11_init_q7 13)))]) C rfl (mj_okn 12 71 (Nat.le_of_ble_eq_true rfl) (Nat.le_of_ble_eq_true rfl)) (mj_pre_u (mj_cln 12 (Nat.le_of_ble_eq_true rfl)) rfl) dX11_init_694 rfl ?_
  refine mj_dup (mx_D C hmc hms rfl rfl) dX11_init_695 ?_
  refine mj_bipush (v := 13) (mx_D C hmc hms rfl rfl) dX11_init_696 (by decide) ?_
  refine mj_bipush (v := 116) (mx_D C hmc hms rfl rfl) dX11_init_698 (by decide) ?_
  refine mx_astf (k := 7) (f := mj_pre lst_X11_init_q7 13) (f' := mj_pre lst_X11_init_q7 14) (Y' := [(a0, .inr (12, [.int 0, .ref q1, .ref q2, .ref q3, .int 0, .ref q4, .ref q5, .int 0, .ref q6, .int 0, .int 0, .int 0, .int 0, .int 0, .null, .int 0, .int 0, .int 0, .int 0, .int 0, .null, .int 0, .null])), (q1, .inl ((mj_cI κ).1, 1897, .inl (fun _ => 0))), (q2, .inl ((mj_cI κ).1, 1897, .inl (fun _ => 0))), (q3, .inl ((mj_cI κ).1, 5, .inl (fun _ => 0))), (q4, .inl ((mj_cI κ).1, 95, .inl (mj_pre lst_X11_init_q4 95))), (q5, .inl ((mj_cI κ).1, 60, .inl (fun _ => 0))), (q6, .inl ((mj_cI κ).1, 400, .inl (fun _ => 0))), (q7, .inl ((mj_cI κ).1, 71, .inl (mj_pre lst_X11_init_q7 14)))]) C rfl (mj_okn 13 71 (Nat.le_of_ble_eq_true rfl) (Nat.le_of_ble_eq_true rfl)) (mj_pre_u (mj_cln 13 (Nat.le_of_ble_eq_true rfl)) rfl) dX11_init_700 rfl ?_
  refine mj_dup (mx_D C hmc hms rfl rfl) dX11_init_701 ?_
  refine mj_bipush (v := 14) (mx_D C hmc hms rfl rfl) dX11_init_702 (by decide) ?_
  refine mj_bipush (v := 32) (mx_D C hmc hms rfl rfl) dX11_init_704 (by decide) ?_
  refine mx_astf (k := 7) (f := mj_pre lst_X11_init_q7 14) (f' := mj_pre lst_X11_init_q7 15) (Y' := [(a0, .inr (12, [.int 0, .ref q1, .ref q2, .ref q3, .int 0, .ref q4, .ref q5, .int 0, .ref q6, .int 0, .int 0, .int 0, .int 0, .int 0, .null, .int 0, .int 0, .int 0, .int 0, .int 0, .null, .int 0, .null])), (q1, .inl ((mj_cI κ).1, 1897, .inl (fun _ => 0))), (q2, .inl ((mj_cI κ).1, 1897, .inl (fun _ => 0))), (q3, .inl ((mj_cI κ).1, 5, .inl (fun _ => 0))), (q4, .inl ((mj_cI κ).1, 95, .inl (mj_pre lst_X11_init_q4 95))), (q5, .inl ((mj_cI κ).1, 60, .inl (fun _ => 0))), (q6, .inl ((mj_cI κ).1, 400, .inl (fun _ => 0))), (q7, .inl ((mj_cI κ).1, 71, .inl (mj_pre lst_X11_init_q7 15)))]) C rfl (mj_okn 14 71 (Nat.le_of_ble_eq_true rfl) (Nat.le_of_ble_eq_true rfl)) (mj_pre_u (mj_cln 14 (Nat.le_of_ble_eq_true rfl)) rfl) dX11_init_706 rfl ?_
  refine mj_dup (mx_D C hmc hms rfl rfl) dX11_init_707 ?_
  refine mj_bipush (v := 15) (mx_D C hmc hms rfl rfl) dX11_init_708 (by decide) ?_
  refine mj_bipush (v := 114) (mx_D C hmc hms rfl rfl) dX11_init_710 (by decide) ?_
  refine mx_astf (k := 7) (f := mj_pre lst_X11_init_q7 15) (f' := mj_pre lst_X11_init_q7 16) (Y' := [(a0, .inr (12, [.int 0, .ref q1, .ref q2, .ref q3, .int 0, .ref q4, .ref q5, .int 0, .ref q6, .int 0, .int 0, .int 0, .int 0, .int 0, .null, .int 0, .int 0, .int 0, .int 0, .int 0, .null, .int 0, .null])), (q1, .inl ((mj_cI κ).1, 1897, .inl (fun _ => 0))), (q2, .inl ((mj_cI κ).1, 1897, .inl (fun _ => 0))), (q3, .inl ((mj_cI κ).1, 5, .inl (fun _ => 0))), (q4, .inl ((mj_cI κ).1, 95, .inl (mj_pre lst_X11_init_q4 95))), (q5, .inl ((mj_cI κ).1, 60, .inl (fun _ => 0))), (q6, .inl ((mj_cI κ).1, 400, .inl (fun _ => 0))), (q7, .inl ((mj_cI κ).1, 71, .inl (mj_pre lst_X11_init_q7 16)))]) C rfl (mj_okn 15 71 (Nat.le_of_ble_eq_true rfl) (Nat.le_of_ble_eq_true rfl)) (mj_pre_u (mj_cln 15 (Nat.le_of_ble_eq_true rfl)) rfl) dX11_init_712 rfl ?_
  refine mj_dup (mx_D C hmc hms rfl rfl) dX11_init_713 ?_
  refine mj_bipush (v := 16) (mx_D C hmc hms rfl rfl) dX11_init_714 (by decide) ?_
  refine mj_bipush (v := 101) (mx_D C hmc hms rfl rfl) dX11_init_716 (by decide) ?_
  refine mx_astf (k := 7) (f := mj_pre lst_X11_init_q7 16) (f' := mj_pre lst_X11_init_q7 17) (Y' := [(a0, .inr (12, [.int 0, .ref q1, .ref q2, .ref q3, .int 0, .ref q4, .ref q5, .int 0, .ref q6, .int 0, .int 0, .int 0, .int 0, .int 0, .null, .int 0, .int 0, .int 0, .int 0, .int 0, .null, .int 0, .null])), (q1, .inl ((mj_cI κ).1, 1897, .inl (fun _ => 0))), (q2, .inl ((mj_cI κ).1, 1897, .inl (fun _ => 0))), (q3, .inl ((mj_cI κ).1, 5, .inl (fun _ => 0))), (q4, .inl ((mj_cI κ).1, 95, .inl (mj_pre lst_X11_init_q4 95))), (q5, .inl ((mj_cI κ).1, 60, .inl (fun _ => 0))), (q6, .inl ((mj_cI κ).1, 400, .inl (fun _ => 0))), (q7, .inl ((mj_cI κ).1, 71, .inl (mj_pre lst_X11_init_q7 17)))]) C rfl (mj_okn 16 71 (Nat.le_of_ble_eq_true rfl) (Nat.le_of_ble_eq_true rfl)) (mj_pre_u (mj_cln 16 (Nat.le_of_ble_eq_true rfl)) rfl) dX11_init_718 rfl ?_
  refine mj_dup (mx_D C hmc hms rfl rfl) dX11_init_719 ?_
  refine mj_bipush (v := 17) (mx_D C hmc hms rfl rfl) dX11_init_720 (by decide) ?_
  refine mj_bipush (v := 110) (mx_D C hmc hms rfl rfl) dX11_init_722 (by decide) ?_
  refine mx_astf (k := 7) (f := mj_pre lst_X11_init_q7 17) (f' := mj_pre lst_X11_init_q7 18) (Y' := [(a0, .inr (12, [.int 0, .ref q1, .ref q2, .ref q3, .int 0, .ref q4, .ref q5, .int 0, .ref q6, .int 0, .int 0, .int 0, .int 0, .int 0, .null, .int 0, .int 0, .int 0, .int 0, .int 0, .null, .int 0, .null])), (q1, .inl ((mj_cI κ).1, 1897, .inl (fun _ => 0))), (q2, .inl ((mj_cI κ).1, 1897, .inl (fun _ => 0))), (q3, .inl ((mj_cI κ).1, 5, .inl (fun _ => 0))), (q4, .inl ((mj_cI κ).1, 95, .inl (mj_pre lst_X11_init_q4 95))), (q5, .inl ((mj_cI κ).1, 60, .inl (fun _ => 0))), (q6, .inl ((mj_cI κ).1, 400, .inl (fun _ => 0))), (q7, .inl ((mj_cI κ).1, 71, .inl (mj_pre lst_X11_init_q7 18)))]) C rfl (mj_okn 17 71 (Nat.le_of_ble_eq_true rfl) (Nat.le_of_ble_eq_true rfl)) (mj_pre_u (mj_cln 17 (Nat.le_of_ble_eq_true rfl)) rfl) dX11_init_724 rfl ?_
  refine mj_dup (mx_D C hmc hms rfl rfl) dX11_init_725 ?_
  refine mj_bipush (v := 18) (mx_D C hmc hms rfl rfl) dX11_init_726 (by decide) ?_
  refine mj_bipush (v := 117) (mx_D C hmc hms rfl rfl) dX11_init_728 (by decide) ?_
  refine mx_astf (k := 7) (f := mj_pre lst_X11_init_q7 18) (f' := mj_pre lst_X11_init_q7 19) (Y' := [(a0, .inr (12, [.int 0, .ref q1, .ref q2, .ref q3, .int 0, .ref q4, .ref q5, .int 0, .ref q6, .int 0, .int 0, .int 0, .int 0, .int 0, .null, .int 0, .int 0, .int 0, .int 0, .int 0, .null, .int 0, .null])), (q1, .inl ((mj_cI κ).1, 1897, .inl (fun _ => 0))), (q2, .inl ((mj_cI κ).1, 1897, .inl (fun _ => 0))), (q3, .inl ((mj_cI κ).1, 5, .inl (fun _ => 0))), (q4, .inl ((mj_cI κ).1, 95, .inl (mj_pre lst_X11_init_q4 95))), (q5, .inl ((mj_cI κ).1, 60, .inl (fun _ => 0))), (q6, .inl ((mj_cI κ).1, 400, .inl (fun _ => 0))), (q7, .inl ((mj_cI κ).1, 71, .inl (mj_pre lst_X11_init_q7 19)))]) C rfl (mj_okn 18 71 (Nat.le_of_ble_eq_true rfl) (Nat.le_of_ble_eq_true rfl)) (mj_pre_u (mj_cln 18 (Nat.le_of_ble_eq_true rfl)) rfl) dX11_init_730 rfl ?_
  refine mj_dup (mx_D C hmc hms rfl rfl) dX11_init_731 ?_
  refine mj_bipush (v := 19) (mx_D C hmc hms rfl rfl) dX11_init_732 (by decide) ?_
  refine mj_bipush (v := 109) (mx_D C hmc hms rfl rfl) dX11_init_734 (by decide) ?_
  refine mx_astf (k := 7) (f := mj_pre lst_X11_init_q7 19) (f' := mj_pre lst_X11_init_q7 20) (Y' := [(a0, .inr (12, [.int 0, .ref q1, .ref q2, .ref q3, .int 0, .ref q4, .ref q5, .int 0, .ref q6, .int 0, .int 0, .int 0, .int 0, .int 0, .null, .int 0, .int 0, .int 0, .int 0, .int 0, .null, .int 0, .null])), (q1, .inl ((mj_cI κ).1, 1897, .inl (fun _ => 0))), (q2, .inl ((mj_cI κ).1, 1897, .inl (fun _ => 0))), (q3, .inl ((mj_cI κ).1, 5, .inl (fun _ => 0))), (q4, .inl ((mj_cI κ).1, 95, .inl (mj_pre lst_X11_init_q4 95))), (q5, .inl ((mj_cI κ).1, 60, .inl (fun _ => 0))), (q6, .inl ((mj_cI κ).1, 400, .inl (fun _ => 0))), (q7, .inl ((mj_cI κ).1, 71, .inl (mj_pre lst_X11_init_q7 20)))]) C rfl (mj_okn 19 71 (Nat.le_of_ble_eq_true rfl) (Nat.le_of_ble_eq_true rfl)) (mj_pre_u (mj_cln 19 (Nat.le_of_ble_eq_true rfl)) rfl) dX11_init_736 rfl ?_
  refine mj_dup (mx_D C hmc hms rfl rfl) dX11_init_737 ?_
  refine mj_bipush (v := 20) (mx_D C hmc hms rfl rfl) dX11_init_738 (by decide) ?_
  refine mj_bipush (v := 98) (mx_D C hmc hms rfl rfl) dX11_init_740 (by decide) ?_
  refine mx_astf (k := 7) (f := mj_pre lst_X11_init_q7 20) (f' := mj_pre lst_X11_init_q7 21) (Y' := [(a0, .inr (12, [.int 0, .ref q1, .ref q2, .ref q3, .int 0, .ref q4, .ref q5, .int 0, .ref q6, .int 0, .int 0, .int 0, .int 0, .int 0, .null, .int 0, .int 0, .int 0, .int 0, .int 0, .null, .int 0, .null])), (q1, .inl ((mj_cI κ).1, 1897, .inl (fun _ => 0))), (q2, .inl ((mj_cI κ).1, 1897, .inl (fun _ => 0))), (q3, .inl ((mj_cI κ).1, 5, .inl (fun _ => 0))), (q4, .inl ((mj_cI κ).1, 95, .inl (mj_pre lst_X11_init_q4 95))), (q5, .inl ((mj_cI κ).1, 60, .inl (fun _ => 0))), (q6, .inl ((mj_cI κ).1, 400, .inl (fun _ => 0))), (q7, .inl ((mj_cI κ).1, 71, .inl (mj_pre lst_X11_init_q7 21)))]) C rfl (mj_okn 20 71 (Nat.le_of_ble_eq_true rfl) (Nat.le_of_ble_eq_true rfl)) (mj_pre_u (mj_cln 20 (Nat.le_of_ble_eq_true rfl)) rfl) dX11_init_742 rfl ?_
  refine mj_dup (mx_D C hmc hms rfl rfl) dX11_init_743 ?_
  refine mj_bipush (v := 21) (mx_D C hmc hms rfl rfl) dX11_init_744 (by decide) ?_
  refine mj_bipush (v := 101) (mx_D C hmc hms rfl rfl) dX11_init_746 (by decide) ?_
  refine mx_astf (k := 7) (f := mj_pre lst_X11_init_q7 21) (f' := mj_pre lst_X11_init_q7 22) (Y' := [(a0, .inr (12, [.int 0, .ref q1, .ref q2, .ref q3, .int 0, .ref q4, .ref q5, .int 0, .ref q6, .int 0, .int 0, .int 0, .int 0, .int 0, .null, .int 0, .int 0, .int 0, .int 0, .int 0, .null, .int 0, .null])), (q1, .inl ((mj_cI κ).1, 1897, .inl (fun _ => 0))), (q2, .inl ((mj_cI κ).1, 1897, .inl (fun _ => 0))), (q3, .inl ((mj_cI κ).1, 5, .inl (fun _ => 0))), (q4, .inl ((mj_cI κ).1, 95, .inl (mj_pre lst_X11_init_q4 95))), (q5, .inl ((mj_cI κ).1, 60, .inl (fun _ => 0))), (q6, .inl ((mj_cI κ).1, 400, .inl (fun _ => 0))), (q7, .inl ((mj_cI κ).1, 71, .inl (mj_pre lst_X11_init_q7 22)))]) C rfl (mj_okn 21 71 (Nat.le_of_ble_eq_true rfl) (Nat.le_of_ble_eq_true rfl)) (mj_pre_u (mj_cln 21 (Nat.le_of_ble_eq_true rfl)) rfl) dX11_init_748 rfl ?_
  refine mj_dup (mx_D C hmc hms rfl rfl) dX11_init_749 ?_
  refine mj_bipush (v := 22) (mx_D C hmc hms rfl rfl) dX11_init_750 (by decide) ?_
  refine mj_bipush (v := 114) (mx_D C hmc hms rfl rfl) dX11_init_752 (by decide) ?_
  refine mx_astf (k := 7) (f := mj_pre lst_X11_init_q7 22) (f' := mj_pre lst_X11_init_q7 23) (Y' := [(a0, .inr (12, [.int 0, .ref q1, .ref q2, .ref q3, .int 0, .ref q4, .ref q5, .int 0, .ref q6, .int 0, .int 0, .int 0, .int 0, .int 0, .null, .int 0, .int 0, .int 0, .int 0, .int 0, .null, .int 0, .null])), (q1, .inl ((mj_cI κ).1, 1897, .inl (fun _ => 0))), (q2, .inl ((mj_cI κ).1, 1897, .inl (fun _ => 0))), (q3, .inl ((mj_cI κ).1, 5, .inl (fun _ => 0))), (q4, .inl ((mj_cI κ).1, 95, .inl (mj_pre lst_X11_init_q4 95))), (q5, .inl ((mj_cI κ).1, 60, .inl (fun _ => 0))), (q6, .inl ((mj_cI κ).1, 400, .inl (fun _ => 0))), (q7, .inl ((mj_cI κ).1, 71, .inl (mj_pre lst_X11_init_q7 23)))]) C rfl (mj_okn 22 71 (Nat.le_of_ble_eq_true rfl) (Nat.le_of_ble_eq_true rfl)) (mj_pre_u (mj_cln 22 (Nat.le_of_ble_eq_true rfl)) rfl) dX11_init_754 rfl ?_
  refine mj_dup (mx_D C hmc hms rfl rfl) dX11_init_755 ?_
  refine mj_bipush (v := 23) (mx_D C hmc hms rfl rfl) dX11_init_756 (by decide) ?_
  refine mj_bipush (v := 32) (mx_D C hmc hms rfl rfl) dX11_init_758 (by decide) ?_
  refine mx_astf (k := 7) (f := mj_pre lst_X11_init_q7 23) (f' := mj_pre lst_X11_init_q7 24) (Y' := [(a0, .inr (12, [.int 0, .ref q1, .ref q2, .ref q3, .int 0, .ref q4, .ref q5, .int 0, .ref q6, .int 0, .int 0, .int 0, .int 0, .int 0, .null, .int 0, .int 0, .int 0, .int 0, .int 0, .null, .int 0, .null])), (q1, .inl ((mj_cI κ).1, 1897, .inl (fun _ => 0))), (q2, .inl ((mj_cI κ).1, 1897, .inl (fun _ => 0))), (q3, .inl ((mj_cI κ).1, 5, .inl (fun _ => 0))), (q4, .inl ((mj_cI κ).1, 95, .inl (mj_pre lst_X11_init_q4 95))), (q5, .inl ((mj_cI κ).1, 60, .inl (fun _ => 0))), (q6, .inl ((mj_cI κ).1, 400, .inl (fun _ => 0))), (q7, .inl ((mj_cI κ).1, 71, .inl (mj_pre lst_X11_init_q7 24)))]) C rfl (mj_okn 23 71 (Nat.le_of_ble_eq_true rfl) (Nat.le_of_ble_eq_true rfl)) (mj_pre_u (mj_cln 23 (Nat.le_of_ble_eq_true rfl)) rfl) dX11_init_760 rfl ?_
  refine mj_dup (mx_D C hmc hms rfl rfl) dX11_init_761 ?_
  refine mj_bipush (v := 24) (mx_D C hmc hms rfl rfl) dX11_init_762 (by decide) ?_
  refine mj_bipush (v := 116) (mx_D C hmc hms rfl rfl) dX11_init_764 (by decide) ?_
  refine mx_astf (k := 7) (f := mj_pre lst_X11_init_q7 24) (f' := mj_pre lst_X11_init_q7 25) (Y' := [(a0, .inr (12, [.int 0, .ref q1, .ref q2, .ref q3, .int 0, .ref q4, .ref q5, .int 0, .ref q6, .int 0, .int 0, .int 0, .int 0, .int 0, .null, .int 0, .int 0, .int 0, .int 0, .int 0, .null, .int 0, .null])), (q1, .inl ((mj_cI κ).1, 1897, .inl (fun _ => 0))), (q2, .inl ((mj_cI κ).1, 1897, .inl (fun _ => 0))), (q3, .inl ((mj_cI κ).1, 5, .inl (fun _ => 0))), (q4, .inl ((mj_cI κ).1, 95, .inl (mj_pre lst_X11_init_q4 95))), (q5, .inl ((mj_cI κ).1, 60, .inl (fun _ => 0))), (q6, .inl ((mj_cI κ).1, 400, .inl (fun _ => 0))), (q7, .inl ((mj_cI κ).1, 71, .inl (mj_pre lst_X11_init_q7 25)))]) C rfl (mj_okn 24 71 (Nat.le_of_ble_eq_true rfl) (Nat.le_of_ble_eq_true rfl)) (mj_pre_u (mj_cln 24 (Nat.le_of_ble_eq_true rfl)) rfl) dX11_init_766 rfl ?_
  refine mj_dup (mx_D C hmc hms rfl rfl) dX11_init_767 ?_
  refine mj_bipush (v := 25) (mx_D C hmc hms rfl rfl) dX11_init_768 (by decide) ?_
  refine mj_bipush (v := 105) (mx_D C hmc hms rfl rfl) dX11_init_770 (by decide) ?_
  refine mx_astf (k := 7) (f := mj_pre lst_X11_init_q7 25) (f' := mj_pre lst_X11_init_q7 26) (Y' := [(a0, .inr (12, [.int 0, .ref q1, .ref q2, .ref q3, .int 0, .ref q4, .ref q5, .int 0, .ref q6, .int 0, .int 0, .int 0, .int 0, .int 0, .null, .int 0, .int 0, .int 0, .int 0, .int 0, .null, .int 0, .null])), (q1, .inl ((mj_cI κ).1, 1897, .inl (fun _ => 0))), (q2, .inl ((mj_cI κ).1, 1897, .inl (fun _ => 0))), (q3, .inl ((mj_cI κ).1, 5, .inl (fun _ => 0))), (q4, .inl ((mj_cI κ).1, 95, .inl (mj_pre lst_X11_init_q4 95))), (q5, .inl ((mj_cI κ).1, 60, .inl (fun _ => 0))), (q6, .inl ((mj_cI κ).1, 400, .inl (fun _ => 0))), (q7, .inl ((mj_cI κ).1, 71, .inl (mj_pre lst_X11_init_q7 26)))]) C rfl (mj_okn 25 71 (Nat.le_of_ble_eq_true rfl) (Nat.le_of_ble_eq_true rfl)) (mj_pre_u (mj_cln 25 (Nat.le_of_ble_eq_true rfl)) rfl) dX11_init_772 rfl ?_
  refine mj_dup (mx_D C hmc hms rfl rfl) dX11_init_773 ?_
  refine mj_bipush (v := 26) (mx_D C hmc hms rfl rfl) dX11_init_774 (by decide) ?_
  refine mj_bipush (v := 99) (mx_D C hmc hms rfl rfl) dX11_init_776 (by decide) ?_
  refine mx_astf (k := 7) (f := mj_pre lst_X11_init_q7 26) (f' := mj_pre lst_X11_init_q7 27) (Y' := [(a0, .inr (12, [.int 0, .ref q1, .ref q2, .ref q3, .int 0, .ref q4, .ref q5, .int 0, .ref q6, .int 0, .int 0, .int 0, .int 0, .int 0, .null, .int 0, .int 0, .int 0, .int 0, .int 0, .null, .int 0, .null])), (q1, .inl ((mj_cI κ).1, 1897, .inl (fun _ => 0))), (q2, .inl ((mj_cI κ).1, 1897, .inl (fun _ => 0))), (q3, .inl ((mj_cI κ).1, 5, .inl (fun _ => 0))), (q4, .inl ((mj_cI κ).1, 95, .inl (mj_pre lst_X11_init_q4 95))), (q5, .inl ((mj_cI κ).1, 60, .inl (fun _ => 0))), (q6, .inl ((mj_cI κ).1, 400, .inl (fun _ => 0))), (q7, .inl ((mj_cI κ).1, 71, .inl (mj_pre lst_X11_init_q7 27)))]) C rfl (mj_okn 26 71 (Nat.le_of_ble_eq_true rfl) (Nat.le_of_ble_eq_true rfl)) (mj_pre_u (mj_cln 26 (Nat.le_of_ble_eq_true rfl)) rfl) dX11_init_778 rfl ?_
  refine mj_dup (mx_D C hmc hms rfl rfl) dX11_init_779 ?_
  refine mj_bipush (v := 27) (mx_D C hmc hms rfl rfl) dX11_init_780 (by decide) ?_
  refine mj_bipush (v := 107) (mx_D C hmc hms rfl rfl) dX11_init_782 (by decide) ?_
  refine mx_astf (k := 7) (f := mj_pre lst_X11_init_q7 27) (f' := mj_pre lst_X11_init_q7 28) (Y' := [(a0, .inr (12, [.int 0, .ref q1, .ref q2, .ref q3, .int 0, .ref q4, .ref q5, .int 0, .ref q6, .int 0, .int 0, .int 0, .int 0, .int 0, .null, .int 0, .int 0, .int 0, .int 0, .int 0, .null, .int 0, .null])), (q1, .inl ((mj_cI κ).1, 1897, .inl (fun _ => 0))), (q2, .inl ((mj_cI κ).1, 1897, .inl (fun _ => 0))), (q3, .inl ((mj_cI κ).1, 5, .inl (fun _ => 0))), (q4, .inl ((mj_cI κ).1, 95, .inl (mj_pre lst_X11_init_q4 95))), (q5, .inl ((mj_cI κ).1, 60, .inl (fun _ => 0))), (q6, .inl ((mj_cI κ).1, 400, .inl (fun _ => 0))), (q7, .inl ((mj_cI κ).1, 71, .inl (mj_pre lst_X11_init_q7 28)))]) C rfl (mj_okn 27 71 (Nat.le_of_ble_eq_true rfl) (Nat.le_of_ble_eq_true rfl)) (mj_pre_u (mj_cln 27 (Nat.le_of_ble_eq_true rfl)) rfl) dX11_init_784 rfl ?_
  refine mj_dup (mx_D C hmc hms rfl rfl) dX11_init_785 ?_
  refine mj_bipush (v := 28) (mx_D C hmc hms rfl rfl) dX11_init_786 (by decide) ?_
  refine mj_bipush (v := 32) (mx_D C hmc hms rfl rfl) dX11_init_788 (by decide) ?_
  refine mx_astf (k := 7) (f := mj_pre lst_X11_init_q7 28) (f' := mj_pre lst_X11_init_q7 29) (Y' := [(a0, .inr (12, [.int 0, .ref q1, .ref q2, .ref q3, .int 0, .ref q4, .ref q5, .int 0, .ref q6, .int 0, .int 0, .int 0, .int 0, .int 0, .null, .int 0, .int 0, .int 0, .int 0, .int 0, .null, .int 0, .null])), (q1, .inl ((mj_cI κ).1, 1897, .inl (fun _ => 0))), (q2, .inl ((mj_cI κ).1, 1897, .inl (fun _ => 0))), (q3, .inl ((mj_cI κ).1, 5, .inl (fun _ => 0))), (q4, .inl ((mj_cI κ).1, 95, .inl (mj_pre lst_X11_init_q4 95))), (q5, .inl ((mj_cI κ).1, 60, .inl (fun _ => 0))), (q6, .inl ((mj_cI κ).1, 400, .inl (fun _ => 0))), (q7, .inl ((mj_cI κ).1, 71, .inl (mj_pre lst_X11_init_q7 29)))]) C rfl (mj_okn 28 71 (Nat.le_of_ble_eq_true rfl) (Nat.le_of_ble_eq_true rfl)) (mj_pre_u (mj_cln 28 (Nat.le_of_ble_eq_true rfl)) rfl) dX11_init_790 rfl ?_
  refine mj_dup (mx_D C hmc hms rfl rfl) dX11_init_791 ?_
  refine mj_bipush (v := 29) (mx_D C hmc hms rfl rfl) dX11_init_792 (by decide) ?_
  refine mj_bipush (v := 100) (mx_D C hmc hms rfl rfl) dX11_init_794 (by decide) ?_
  refine mx_astf (k := 7) (f := mj_pre lst_X11_init_q7 29) (f' := mj_pre lst_X11_init_q7 30) (Y' := [(a0, .inr (12, [.int 0, .ref q1, .ref q2, .ref q3, .int 0, .ref q4, .ref q5, .int 0, .ref q6, .int 0, .int 0, .int 0, .int 0, .int 0, .null, .int 0, .int 0, .int 0, .int 0, .int 0, .null, .int 0, .null])), (q1, .inl ((mj_cI κ).1, 1897, .inl (fun _ => 0))), (q2, .inl ((mj_cI κ).1, 1897, .inl (fun _ => 0))), (q3, .inl ((mj_cI κ).1, 5, .inl (fun _ => 0))), (q4, .inl ((mj_cI κ).1, 95, .inl (mj_pre lst_X11_init_q4 95))), (q5, .inl ((mj_cI κ).1, 60, .inl (fun _ => 0))), (q6, .inl ((mj_cI κ).1, 400, .inl (fun _ => 0))), (q7, .inl ((mj_cI κ).1, 71, .inl (mj_pre lst_X11_init_q7 30)))]) C rfl (mj_okn 29 71 (Nat.le_of_ble_eq_true rfl) (Nat.le_of_ble_eq_true rfl)) (mj_pre_u (mj_cln 29 (Nat.le_of_ble_eq_true rfl)) rfl) dX11_init_796 rfl ?_
  refine mj_dup (mx_D C hmc hms rfl rfl) dX11_init_797 ?_
  refine mj_bipush (v := 30) (mx_D C hmc hms rfl rfl) dX11_init_798 (by decide) ?_
  refine mj_bipush (v := 114) (mx_D C hmc hms rfl rfl) dX11_init_800 (by decide) ?_
  refine mx_astf (k := 7) (f := mj_pre lst_X11_init_q7 30) (f' := mj_pre lst_X11_init_q7 31) (Y' := [(a0, .inr (12, [.int 0, .ref q1, .ref q2, .ref q3, .int 0, .ref q4, .ref q5, .int 0, .ref q6, .int 0, .int 0, .int 0, .int 0, .int 0, .null, .int 0, .int 0, .int 0, .int 0, .int 0, .null, .int 0, .null])), (q1, .inl ((mj_cI κ).1, 1897, .inl (fun _ => 0))), (q2, .inl ((mj_cI κ).1, 1897, .inl (fun _ => 0))), (q3, .inl ((mj_cI κ).1, 5, .inl (fun _ => 0))), (q4, .inl ((mj_cI κ).1, 95, .inl (mj_pre lst_X11_init_q4 95))), (q5, .inl ((mj_cI κ).1, 60, .inl (fun _ => 0))), (q6, .inl ((mj_cI κ).1, 400, .inl (fun _ => 0))), (q7, .inl ((mj_cI κ).1, 71, .inl (mj_pre lst_X11_init_q7 31)))]) C rfl (mj_okn 30 71 (Nat.le_of_ble_eq_true rfl) (Nat.le_of_ble_eq_true rfl)) (mj_pre_u (mj_cln 30 (Nat.le_of_ble_eq_true rfl)) rfl) dX11_init_802 rfl ?_
  refine mj_dup (mx_D C hmc hms rfl rfl) dX11_init_803 ?_
  refine mj_bipush (v := 31) (mx_D C hmc hms rfl rfl) dX11_init_804 (by decide) ?_
  refine mj_bipush (v := 111) (mx_D C hmc hms rfl rfl) dX11_init_806 (by decide) ?_
  refine mx_astf (k := 7) (f := mj_pre lst_X11_init_q7 31) (f' := mj_pre lst_X11_init_q7 32) (Y' := [(a0, .inr (12, [.int 0, .ref q1, .ref q2, .ref q3, .int 0, .ref q4, .ref q5, .int 0, .ref q6, .int 0, .int 0, .int 0, .int 0, .int 0, .null, .int 0, .int 0, .int 0, .int 0, .int 0, .null, .int 0, .null])), (q1, .inl ((mj_cI κ).1, 1897, .inl (fun _ => 0))), (q2, .inl ((mj_cI κ).1, 1897, .inl (fun _ => 0))), (q3, .inl ((mj_cI κ).1, 5, .inl (fun _ => 0))), (q4, .inl ((mj_cI κ).1, 95, .inl (mj_pre lst_X11_init_q4 95))), (q5, .inl ((mj_cI κ).1, 60, .inl (fun _ => 0))), (q6, .inl ((mj_cI κ).1, 400, .inl (fun _ => 0))), (q7, .inl ((mj_cI κ).1, 71, .inl (mj_pre lst_X11_init_q7 32)))]) C rfl (mj_okn 31 71 (Nat.le_of_ble_eq_true rfl) (Nat.le_of_ble_eq_true rfl)) (mj_pre_u (mj_cln 31 (Nat.le_of_ble_eq_true rfl)) rfl) dX11_init_808 rfl ?_
  refine mj_dup (mx_D C hmc hms rfl rfl) dX11_init_809 ?_
  refine mj_bipush (v := 32) (mx_D C hmc hms rfl rfl) dX11_init_810 (by decide) ?_
  refine mj_bipush (v := 112) (mx_D C hmc hms rfl rfl) dX11_init_812 (by decide) ?_
  refine mx_astf (k := 7) (f := mj_pre lst_X11_init_q7 32) (f' := mj_pre lst_X11_init_q7 33) (Y' := [(a0, .inr (12, [.int 0, .ref q1, .ref q2, .ref q3, .int 0, .ref q4, .ref q5, .int 0, .ref q6, .int 0, .int 0, .int 0, .int 0, .int 0, .null, .int 0, .int 0, .int 0, .int 0, .int 0, .null, .int 0, .null])), (q1, .inl ((mj_cI κ).1, 1897, .inl (fun _ => 0))), (q2, .inl ((mj_cI κ).1, 1897, .inl (fun _ => 0))), (q3, .inl ((mj_cI κ).1, 5, .inl (fun _ => 0))), (q4, .inl ((mj_cI κ).1, 95, .inl (mj_pre lst_X11_init_q4 95))), (q5, .inl ((mj_cI κ).1, 60, .inl (fun _ => 0))), (q6, .inl ((mj_cI κ).1, 400, .inl (fun _ => 0))), (q7, .inl ((mj_cI κ).1, 71, .inl (mj_pre lst_X11_init_q7 33)))]) C rfl (mj_okn 32 71 (Nat.le_of_ble_eq_true rfl) (Nat.le_of_ble_eq_true rfl)) (mj_pre_u (mj_cln 32 (Nat.le_of_ble_eq_true rfl)) rfl) dX11_init_814 rfl ?_
  refine mj_dup (mx_D C hmc hms rfl rfl) dX11_init_815 ?_
  refine mj_bipush (v := 33) (mx_D C hmc hms rfl rfl) dX11_init_816 (by decide) ?_
  refine mj_bipush (v := 32) (mx_D C hmc hms rfl rfl) dX11_init_818 (by decide) ?_
  refine mx_astf (k := 7) (f := mj_pre lst_X11_init_q7 33) (f' := mj_pre lst_X11_init_q7 34) (Y' := [(a0, .inr (12, [.int 0, .ref q1, .ref q2, .ref q3, .int 0, .ref q4, .ref q5, .int 0, .ref q6, .int 0, .int 0, .int 0, .int 0, .int 0, .null, .int 0, .int 0, .int 0, .int 0, .int 0, .null, .int 0, .null])), (q1, .inl ((mj_cI κ).1, 1897, .inl (fun _ => 0))), (q2, .inl ((mj_cI κ).1, 1897, .inl (fun _ => 0))), (q3, .inl ((mj_cI κ).1, 5, .inl (fun _ => 0))), (q4, .inl ((mj_cI κ).1, 95, .inl (mj_pre lst_X11_init_q4 95))), (q5, .inl ((mj_cI κ).1, 60, .inl (fun _ => 0))), (q6, .inl ((mj_cI κ).1, 400, .inl (fun _ => 0))), (q7, .inl ((mj_cI κ).1, 71, .inl (mj_pre lst_X11_init_q7 34)))]) C rfl (mj_okn 33 71 (Nat.le_of_ble_eq_true rfl) (Nat.le_of_ble_eq_true rfl)) (mj_pre_u (mj_cln 33 (Nat.le_of_ble_eq_true rfl)) rfl) dX11_init_820 rfl ?_
  refine mj_dup (mx_D C hmc hms rfl rfl) dX11_init_821 ?_
  refine mj_bipush (v := 34) (mx_D C hmc hms rfl rfl) dX11_init_822 (by decide) ?_
  refine mj_bipush (v := 115) (mx_D C hmc hms rfl rfl) dX11_init_824 (by decide) ?_
  refine mx_astf (k := 7) (f := mj_pre lst_X11_init_q7 34) (f' := mj_pre lst_X11_init_q7 35) (Y' := [(a0, .inr (12, [.int 0, .ref q1, .ref q2, .ref q3, .int 0, .ref q4, .ref q5, .int 0, .ref q6, .int 0, .int 0, .int 0, .int 0, .int 0, .null, .int 0, .int 0, .int 0, .int 0, .int 0, .null, .int 0, .null])), (q1, .inl ((mj_cI κ).1, 1897, .inl (fun _ => 0))), (q2, .inl ((mj_cI κ).1, 1897, .inl (fun _ => 0))), (q3, .inl ((mj_cI κ).1, 5, .inl (fun _ => 0))), (q4, .inl ((mj_cI κ).1, 95, .inl (mj_pre lst_X11_init_q4 95))), (q5, .inl ((mj_cI κ).1, 60, .inl (fun _ => 0))), (q6, .inl ((mj_cI κ).1, 400, .inl (fun _ => 0))), (q7, .inl ((mj_cI κ).1, 71, .inl (mj_pre lst_X11_init_q7 35)))]) C rfl (mj_okn 34 71 (Nat.le_of_ble_eq_true rfl) (Nat.le_of_ble_eq_true rfl)) (mj_pre_u (mj_cln 34 (Nat.le_of_ble_eq_true rfl)) rfl) dX11_init_826 rfl ?_
  refine mj_dup (mx_D C hmc hms rfl rfl) dX11_init_827 ?_
  refine mj_bipush (v := 35) (mx_D C hmc hms rfl rfl) dX11_init_828 (by decide) ?_
  refine mj_bipush (v := 116) (mx_D C hmc hms rfl rfl) dX11_init_830 (by decide) ?_
  refine mx_astf (k := 7) (f := mj_pre lst_X11_init_q7 35) (f' := mj_pre lst_X11_init_q7 36) (Y' := [(a0, .inr (12, [.int 0, .ref q1, .ref q2, .ref q3, .int 0, .ref q4, .ref q5, .int 0, .ref q6, .int 0, .int 0, .int 0, .int 0, .int 0, .null, .int 0, .int 0, .int 0, .int 0, .int 0, .null, .int 0, .null])), (q1, .inl ((mj_cI κ).1, 1897, .inl (fun _ => 0))), (q2, .inl ((mj_cI κ).1, 1897, .inl (fun _ => 0))), (q3, .inl ((mj_cI κ).1, 5, .inl (fun _ => 0))), (q4, .inl ((mj_cI κ).1, 95, .inl (mj_pre lst_X11_init_q4 95))), (q5, .inl ((mj_cI κ).1, 60, .inl (fun _ => 0))), (q6, .inl ((mj_cI κ).1, 400, .inl (fun _ => 0))), (q7, .inl ((mj_cI κ).1, 71, .inl (mj_pre lst_X11_init_q7 36)))]) C rfl (mj_okn 35 71 (Nat.le_of_ble_eq_true rfl) (Nat.le_of_ble_eq_true rfl)) (mj_pre_u (mj_cln 35 (Nat.le_of_ble_eq_true rfl)) rfl) dX11_init_832 rfl ?_
  refine mj_dup (mx_D C hmc hms rfl rfl) dX11_init_833 ?_
  refine mj_bipush (v := 36) (mx_D C hmc hms rfl rfl) dX11_init_834 (by decide) ?_
  refine mj_bipush (v := 97) (mx_D C hmc hms rfl rfl) dX11_init_836 (by decide) ?_
  refine mx_astf (k := 7) (f := mj_pre lst_X11_init_q7 36) (f' := mj_pre lst_X11_init_q7 37) (Y' := [(a0, .inr (12, [.int 0, .ref q1, .ref q2, .ref q3, .int 0, .ref q4, .ref q5, .int 0, .ref q6, .int 0, .int 0, .int 0, .int 0, .int 0, .null, .int 0, .int 0, .int 0, .int 0, .int 0, .null, .int 0, .null])), (q1, .inl ((mj_cI κ).1, 1897, .inl (fun _ => 0))), (q2, .inl ((mj_cI κ).1, 1897, .inl (fun _ => 0))), (q3, .inl ((mj_cI κ).1, 5, .inl (fun _ => 0))), (q4, .inl ((mj_cI κ).1, 95, .inl (mj_pre lst_X11_init_q4 95))), (q5, .inl ((mj_cI κ).1, 60, .inl (fun _ => 0))), (q6, .inl ((mj_cI κ).1, 400, .inl (fun _ => 0))), (q7, .inl ((mj_cI κ).1, 71, .inl (mj_pre lst_X11_init_q7 37)))]) C rfl (mj_okn 36 71 (Nat.le_of_ble_eq_true rfl) (Nat.le_of_ble_eq_true rfl)) (mj_pre_u (mj_cln 36 (Nat.le_of_ble_eq_true rfl)) rfl) dX11_init_838 rfl ?_
  refine mj_dup (mx_D C hmc hms rfl rfl) dX11_init_839 ?_
  refine mj_bipush (v := 37) (mx_D C hmc hms rfl rfl) dX11_init_840 (by decide) ?_
  refine mj_bipush (v := 114) (mx_D C hmc hms rfl rfl) dX11_init_842 (by decide) ?_
  refine mx_astf (k := 7) (f := mj_pre lst_X11_init_q7 37) (f' := mj_pre lst_X11_init_q7 38) (Y' := [(a0, .inr (12, [.int 0, .ref q1, .ref q2, .ref q3, .int 0, .ref q4, .ref q5, .int 0, .ref q6, .int 0, .int 0, .int 0, .int 0, .int 0, .null, .int 0, .int 0, .int 0, .int 0, .int 0, .null, .int 0, .null])), (q1, .inl ((mj_cI κ).1, 1897, .inl (fun _ => 0))), (q2, .inl ((mj_cI κ).1, 1897, .inl (fun _ => 0))), (q3, .inl ((mj_cI κ).1, 5, .inl (fun _ => 0))), (q4, .inl ((mj_cI κ).1, 95, .inl (mj_pre lst_X11_init_q4 95))), (q5, .inl ((mj_cI κ).1, 60, .inl (fun _ => 0))), (q6, .inl ((mj_cI κ).1, 400, .inl (fun _ => 0))), (q7, .inl ((mj_cI κ).1, 71, .inl (mj_pre lst_X11_init_q7 38)))]) C rfl (mj_okn 37 71 (Nat.le_of_ble_eq_true rfl) (Nat.le_of_ble_eq_true rfl)) (mj_pre_u (mj_cln 37 (Nat.le_of_ble_eq_true rfl)) rfl) dX11_init_844 rfl ?_
  refine mj_dup (mx_D C hmc hms rfl rfl) dX11_init_845 ?_
  refine mj_bipush (v := 38) (mx_D C hmc hms rfl rfl) dX11_init_846 (by decide) ?_
  refine mj_bipush (v := 116) (mx_D C hmc hms rfl rfl) dX11_init_848 (by decide) ?_
  refine mx_astf (k := 7) (f := mj_pre lst_X11_init_q7 38) (f' := mj_pre lst_X11_init_q7 39) (Y' := [(a0, .inr (12, [.int 0, .ref q1, .ref q2, .ref q3, .int 0, .ref q4, .ref q5, .int 0, .ref q6, .int 0, .int 0, .int 0, .int 0, .int 0, .null, .int 0, .int 0, .int 0, .int 0, .int 0, .null, .int 0, .null])), (q1, .inl ((mj_cI κ).1, 1897, .inl (fun _ => 0))), (q2, .inl ((mj_cI κ).1, 1897, .inl (fun _ => 0))), (q3, .inl ((mj_cI κ).1, 5, .inl (fun _ => 0))), (q4, .inl ((mj_cI κ).1, 95, .inl (mj_pre lst_X11_init_q4 95))), (q5, .inl ((mj_cI κ).1, 60, .inl (fun _ => 0))), (q6, .inl ((mj_cI κ).1, 400, .inl (fun _ => 0))), (q7, .inl ((mj_cI κ).1, 71, .inl (mj_pre lst_X11_init_q7 39)))]) C rfl (mj_okn 38 71 (Nat.le_of_ble_eq_true rfl) (Nat.le_of_ble_eq_true rfl)) (mj_pre_u (mj_cln 38 (Nat.le_of_ble_eq_true rfl)) rfl) dX11_init_850 rfl ?_
  refine mj_dup (mx_D C hmc hms rfl rfl) dX11_init_851 ?_
  refine mj_bipush (v := 39) (mx_D C hmc hms rfl rfl) dX11_init_852 (by decide) ?_
  refine mj_bipush (v := 32) (mx_D C hmc hms rfl rfl) dX11_init_854 (by decide) ?_
  refine mx_astf (k := 7) (f := mj_pre lst_X11_init_q7 39) (f' := mj_pre lst_X11_init_q7 40) (Y' := [(a0, .inr (12, [.int 0, .ref q1, .ref q2, .ref q3, .int 0, .ref q4, .ref q5, .int 0, .ref q6, .int 0, .int 0, .int 0, .int 0, .int 0, .null, .int 0, .int 0, .int 0, .int 0, .int 0, .null, .int 0, .null])), (q1, .inl ((mj_cI κ).1, 1897, .inl (fun _ => 0))), (q2, .inl ((mj_cI κ).1, 1897, .inl (fun _ => 0))), (q3, .inl ((mj_cI κ).1, 5, .inl (fun _ => 0))), (q4, .inl ((mj_cI κ).1, 95, .inl (mj_pre lst_X11_init_q4 95))), (q5, .inl ((mj_cI κ).1, 60, .inl (fun _ => 0))), (q6, .inl ((mj_cI κ).1, 400, .inl (fun _ => 0))), (q7, .inl ((mj_cI κ).1, 71, .inl (mj_pre lst_X11_init_q7 40)))]) C rfl (mj_okn 39 71 (Nat.le_of_ble_eq_true rfl) (Nat.le_of_ble_eq_true rfl)) (mj_pre_u (mj_cln 39 (Nat.le_of_ble_eq_true rfl)) rfl) dX11_init_856 rfl ?_
  refine mj_dup (mx_D C hmc hms rfl rfl) dX11_init_857 ?_
  refine mj_bipush (v := 40) (mx_D C hmc hms rfl rfl) dX11_init_858 (by decide) ?_
  refine mj_bipush (v := 99) (mx_D C hmc hms rfl rfl) dX11_init_860 (by decide) ?_
  refine mx_astf (k := 7) (f := mj_pre lst_X11_init_q7 40) (f' := mj_pre lst_X11_init_q7 41) (Y' := [(a0, .inr (12, [.int 0, .ref q1, .ref q2, .ref q3, .int 0, .ref q4, .ref q5, .int 0, .ref q6, .int 0, .int 0, .int 0, .int 0, .int 0, .null, .int 0, .int 0, .int 0, .int 0, .int 0, .null, .int 0, .null])), (q1, .inl ((mj_cI κ).1, 1897, .inl (fun _ => 0))), (q2, .inl ((mj_cI κ).1, 1897, .inl (fun _ => 0))), (q3, .inl ((mj_cI κ).1, 5, .inl (fun _ => 0))), (q4, .inl ((mj_cI κ).1, 95, .inl (mj_pre lst_X11_init_q4 95))), (q5, .inl ((mj_cI κ).1, 60, .inl (fun _ => 0))), (q6, .inl ((mj_cI κ).1, 400, .inl (fun _ => 0))), (q7, .inl ((mj_cI κ).1, 71, .inl (mj_pre lst_X11_init_q7 41)))]) C rfl (mj_okn 40 71 (Nat.le_of_ble_eq_true rfl) (Nat.le_of_ble_eq_true rfl)) (mj_pre_u (mj_cln 40 (Nat.le_of_ble_eq_true rfl)) rfl) dX11_init_862 rfl ?_
  refine mj_dup (mx_D C hmc hms rfl rfl) dX11_init_863 ?_
  refine mj_bipush (v := 41) (mx_D C hmc hms rfl rfl) dX11_init_864 (by decide) ?_
  refine mj_bipush (v := 104) (mx_D C hmc hms rfl rfl) dX11_init_866 (by decide) ?_
  refine mx_astf (k := 7) (f := mj_pre lst_X11_init_q7 41) (f' := mj_pre lst_X11_init_q7 42) (Y' := [(a0, .inr (12, [.int 0, .ref q1, .ref q2, .ref q3, .int 0, .ref q4, .ref q5, .int 0, .ref q6, .int 0, .int 0, .int 0, .int 0, .int 0, .null, .int 0, .int 0, .int 0, .int 0, .int 0, .null, .int 0, .null])), (q1, .inl ((mj_cI κ).1, 1897, .inl (fun _ => 0))), (q2, .inl ((mj_cI κ).1, 1897, .inl (fun _ => 0))), (q3, .inl ((mj_cI κ).1, 5, .inl (fun _ => 0))), (q4, .inl ((mj_cI κ).1, 95, .inl (mj_pre lst_X11_init_q4 95))), (q5, .inl ((mj_cI κ).1, 60, .inl (fun _ => 0))), (q6, .inl ((mj_cI κ).1, 400, .inl (fun _ => 0))), (q7, .inl ((mj_cI κ).1, 71, .inl (mj_pre lst_X11_init_q7 42)))]) C rfl (mj_okn 41 71 (Nat.le_of_ble_eq_true rfl) (Nat.le_of_ble_eq_true rfl)) (mj_pre_u (mj_cln 41 (Nat.le_of_ble_eq_true rfl)) rfl) dX11_init_868 rfl ?_
  refine mj_dup (mx_D C hmc hms rfl rfl) dX11_init_869 ?_
  refine mj_bipush (v := 42) (mx_D C hmc hms rfl rfl) dX11_init_870 (by decide) ?_
  refine mj_bipush (v := 101) (mx_D C hmc hms rfl rfl) dX11_init_872 (by decide) ?_
  refine mx_astf (k := 7) (f := mj_pre lst_X11_init_q7 42) (f' := mj_pre lst_X11_init_q7 43) (Y' := [(a0, .inr (12, [.int 0, .ref q1, .ref q2, .ref q3, .int 0, .ref q4, .ref q5, .int 0, .ref q6, .int 0, .int 0, .int 0, .int 0, .int 0, .null, .int 0, .int 0, .int 0, .int 0, .int 0, .null, .int 0, .null])), (q1, .inl ((mj_cI κ).1, 1897, .inl (fun _ => 0))), (q2, .inl ((mj_cI κ).1, 1897, .inl (fun _ => 0))), (q3, .inl ((mj_cI κ).1, 5, .inl (fun _ => 0))), (q4, .inl ((mj_cI κ).1, 95, .inl (mj_pre lst_X11_init_q4 95))), (q5, .inl ((mj_cI κ).1, 60, .inl (fun _ => 0))), (q6, .inl ((mj_cI κ).1, 400, .inl (fun _ => 0))), (q7, .inl ((mj_cI κ).1, 71, .inl (mj_pre lst_X11_init_q7 43)))]) C rfl (mj_okn 42 71 (Nat.le_of_ble_eq_true rfl) (Nat.le_of_ble_eq_true rfl)) (mj_pre_u (mj_cln 42 (Nat.le_of_ble_eq_true rfl)) rfl) dX11_init_874 rfl ?_
  refine mj_dup (mx_D C hmc hms rfl rfl) dX11_init_875 ?_
  refine mj_bipush (v := 43) (mx_D C hmc hms rfl rfl) dX11_init_876 (by decide) ?_
  refine mj_bipush (v := 99) (mx_D C hmc hms rfl rfl) dX11_init_878 (by decide) ?_
  refine mx_astf (k := 7) (f := mj_pre lst_X11_init_q7 43) (f' := mj_pre lst_X11_init_q7 44) (Y' := [(a0, .inr (12, [.int 0, .ref q1, .ref q2, .ref q3, .int 0, .ref q4, .ref q5, .int 0, .ref q6, .int 0, .int 0, .int 0, .int 0, .int 0, .null, .int 0, .int 0, .int 0, .int 0, .int 0, .null, .int 0, .null])), (q1, .inl ((mj_cI κ).1, 1897, .inl (fun _ => 0))), (q2, .inl ((mj_cI κ).1, 1897, .inl (fun _ => 0))), (q3, .inl ((mj_cI κ).1, 5, .inl (fun _ => 0))), (q4, .inl ((mj_cI κ).1, 95, .inl (mj_pre lst_X11_init_q4 95))), (q5, .inl ((mj_cI κ).1, 60, .inl (fun _ => 0))), (q6, .inl ((mj_cI κ).1, 400, .inl (fun _ => 0))), (q7, .inl ((mj_cI κ).1, 71, .inl (mj_pre lst_X11_init_q7 44)))]) C rfl (mj_okn 43 71 (Nat.le_of_ble_eq_true rfl) (Nat.le_of_ble_eq_true rfl)) (mj_pre_u (mj_cln 43 (Nat.le_of_ble_eq_true rfl)) rfl) dX11_init_880 rfl ?_
  refine mj_dup (mx_D C hmc hms rfl rfl) dX11_init_881 ?_
  refine mj_bipush (v := 44) (mx_D C hmc hms rfl rfl) dX11_init_882 (by decide) ?_
  refine mj_bipush (v := 107) (mx_D C hmc hms rfl rfl) dX11_init_884 (by decide) ?_
  refine mx_astf (k := 7) (f := mj_pre lst_X11_init_q7 44) (f' := mj_pre lst_X11_init_q7 45) (Y' := [(a0, .inr (12, [.int 0, .ref q1, .ref q2, .ref q3, .int 0, .ref q4, .ref q5, .int 0, .ref q6, .int 0, .int 0, .int 0, .int 0, .int 0, .null, .int 0, .int 0, .int 0, .int 0, .int 0, .null, .int 0, .null])), (q1, .inl ((mj_cI κ).1, 1897, .inl (fun _ => 0))), (q2, .inl ((mj_cI κ).1, 1897, .inl (fun _ => 0))), (q3, .inl ((mj_cI κ).1, 5, .inl (fun _ => 0))), (q4, .inl ((mj_cI κ).1, 95, .inl (mj_pre lst_X11_init_q4 95))), (q5, .inl ((mj_cI κ).1, 60, .inl (fun _ => 0))), (q6, .inl ((mj_cI κ).1, 400, .inl (fun _ => 0))), (q7, .inl ((mj_cI κ).1, 71, .inl (mj_pre lst_X11_init_q7 45)))]) C rfl (mj_okn 44 71 (Nat.le_of_ble_eq_true rfl) (Nat.le_of_ble_eq_true rfl)) (mj_pre_u (mj_cln 44 (Nat.le_of_ble_eq_true rfl)) rfl) dX11_init_886 rfl ?_
  refine mj_dup (mx_D C hmc hms rfl rfl) dX11_init_887 ?_
  refine mj_bipush (v := 45) (mx_D C hmc hms rfl rfl) dX11_init_888 (by decide) ?_
  refine mj_bipush (v := 32) (mx_D C hmc hms rfl rfl) dX11_init_890 (by decide) ?_
  refine mx_astf (k := 7) (f := mj_pre lst_X11_init_q7 45) (f' := mj_pre lst_X11_init_q7 46) (Y' := [(a0, .inr (12, [.int 0, .ref q1, .ref q2, .ref q3, .int 0, .ref q4, .ref q5, .int 0, .ref q6, .int 0, .int 0, .int 0, .int 0, .int 0, .null, .int 0, .int 0, .int 0, .int 0, .int 0, .null, .int 0, .null])), (q1, .inl ((mj_cI κ).1, 1897, .inl (fun _ => 0))), (q2, .inl ((mj_cI κ).1, 1897, .inl (fun _ => 0))), (q3, .inl ((mj_cI κ).1, 5, .inl (fun _ => 0))), (q4, .inl ((mj_cI κ).1, 95, .inl (mj_pre lst_X11_init_q4 95))), (q5, .inl ((mj_cI κ).1, 60, .inl (fun _ => 0))), (q6, .inl ((mj_cI κ).1, 400, .inl (fun _ => 0))), (q7, .inl ((mj_cI κ).1, 71, .inl (mj_pre lst_X11_init_q7 46)))]) C rfl (mj_okn 45 71 (Nat.le_of_ble_eq_true rfl) (Nat.le_of_ble_eq_true rfl)) (mj_pre_u (mj_cln 45 (Nat.le_of_ble_eq_true rfl)) rfl) dX11_init_892 rfl ?_
  refine mj_dup (mx_D C hmc hms rfl rfl) dX11_init_893 ?_
  refine mj_bipush (v := 46) (mx_D C hmc hms rfl rfl) dX11_init_894 (by decide) ?_
  refine mj_bipush (v := 117) (mx_D C hmc hms rfl rfl) dX11_init_896 (by decide) ?_
  refine mx_astf (k := 7) (f := mj_pre lst_X11_init_q7 46) (f' := mj_pre lst_X11_init_q7 47) (Y' := [(a0, .inr (12, [.int 0, .ref q1, .ref q2, .ref q3, .int 0, .ref q4, .ref q5, .int 0, .ref q6, .int 0, .int 0, .int 0, .int 0, .int 0, .null, .int 0, .int 0, .int 0, .int 0, .int 0, .null, .int 0, .null])), (q1, .inl ((mj_cI κ).1, 1897, .inl (fun _ => 0))), (q2, .inl ((mj_cI κ).1, 1897, .inl (fun _ => 0))), (q3, .inl ((mj_cI κ).1, 5, .inl (fun _ => 0))), (q4, .inl ((mj_cI κ).1, 95, .inl (mj_pre lst_X11_init_q4 95))), (q5, .inl ((mj_cI κ).1, 60, .inl (fun _ => 0))), (q6, .inl ((mj_cI κ).1, 400, .inl (fun _ => 0))), (q7, .inl ((mj_cI κ).1, 71, .inl (mj_pre lst_X11_init_q7 47)))]) C rfl (mj_okn 46 71 (Nat.le_of_ble_eq_true rfl) (Nat.le_of_ble_eq_true rfl)) (mj_pre_u (mj_cln 46 (Nat.le_of_ble_eq_true rfl)) rfl) dX11_init_898 rfl ?_
  refine mj_dup (mx_D C hmc hms rfl rfl) dX11_init_899 ?_
  refine mj_bipush (v := 47) (mx_D C hmc hms rfl rfl) dX11_init_900 (by decide) ?_
  refine mj_bipush (v := 110) (mx_D C hmc hms rfl rfl) dX11_init_902 (by decide) ?_
  refine mx_astf (k := 7) (f := mj_pre lst_X11_init_q7 47) (f' := mj_pre lst_X11_init_q7 48) (Y' := [(a0, .inr (12, [.int 0, .ref q1, .ref q2, .ref q3, .int 0, .ref q4, .ref q5, .int 0, .ref q6, .int 0, .int 0, .int 0, .int 0, .int 0, .null, .int 0, .int 0, .int 0, .int 0, .int 0, .null, .int 0, .null])), (q1, .inl ((mj_cI κ).1, 1897, .inl (fun _ => 0))), (q2, .inl ((mj_cI κ).1, 1897, .inl (fun _ => 0))), (q3, .inl ((mj_cI κ).1, 5, .inl (fun _ => 0))), (q4, .inl ((mj_cI κ).1, 95, .inl (mj_pre lst_X11_init_q4 95))), (q5, .inl ((mj_cI κ).1, 60, .inl (fun _ => 0))), (q6, .inl ((mj_cI κ).1, 400, .inl (fun _ => 0))), (q7, .inl ((mj_cI κ).1, 71, .inl (mj_pre lst_X11_init_q7 48)))]) C rfl (mj_okn 47 71 (Nat.le_of_ble_eq_true rfl) (Nat.le_of_ble_eq_true rfl)) (mj_pre_u (mj_cln 47 (Nat.le_of_ble_eq_true rfl)) rfl) dX11_init_904 rfl ?_
  refine mj_dup (mx_D C hmc hms rfl rfl) dX11_init_905 ?_
  refine mj_bipush (v := 48) (mx_D C hmc hms rfl rfl) dX11_init_906 (by decide) ?_
  refine mj_bipush (v := 108) (mx_D C hmc hms rfl rfl) dX11_init_908 (by decide) ?_
  refine mx_astf (k := 7) (f := mj_pre lst_X11_init_q7 48) (f' := mj_pre lst_X11_init_q7 49) (Y' := [(a0, .inr (12, [.int 0, .ref q1, .ref q2, .ref q3, .int 0, .ref q4, .ref q5, .int 0, .ref q6, .int 0, .int 0, .int 0, .int 0, .int 0, .null, .int 0, .int 0, .int 0, .int 0, .int 0, .null, .int 0, .null])), (q1, .inl ((mj_cI κ).1, 1897, .inl (fun _ => 0))), (q2, .inl ((mj_cI κ).1, 1897, .inl (fun _ => 0))), (q3, .inl ((mj_cI κ).1, 5, .inl (fun _ => 0))), (q4, .inl ((mj_cI κ).1, 95, .inl (mj_pre lst_X11_init_q4 95))), (q5, .inl ((mj_cI κ).1, 60, .inl (fun _ => 0))), (q6, .inl ((mj_cI κ).1, 400, .inl (fun _ => 0))), (q7, .inl ((mj_cI κ).1, 71, .inl (mj_pre lst_X11_init_q7 49)))]) C rfl (mj_okn 48 71 (Nat.le_of_ble_eq_true rfl) (Nat.le_of_ble_eq_true rfl)) (mj_pre_u (mj_cln 48 (Nat.le_of_ble_eq_true rfl)) rfl) dX11_init_910 rfl ?_
  refine mj_dup (mx_D C hmc hms rfl rfl) dX11_init_911 ?_
  refine mj_bipush (v := 49) (mx_D C hmc hms rfl rfl) dX11_init_912 (by decide) ?_
  refine mj_bipush (v := 111) (mx_D C hmc hms rfl rfl) dX11_init_914 (by decide) ?_
  refine mx_astf (k := 7) (f := mj_pre lst_X11_init_q7 49) (f' := mj_pre lst_X11_init_q7 50) (Y' := [(a0, .inr (12, [.int 0, .ref q1, .ref q2, .ref q3, .int 0, .ref q4, .ref q5, .int 0, .ref q6, .int 0, .int 0, .int 0, .int 0, .int 0, .null, .int 0, .int 0, .int 0, .int 0, .int 0, .null, .int 0, .null])), (q1, .inl ((mj_cI κ).1, 1897, .inl (fun _ => 0))), (q2, .inl ((mj_cI κ).1, 1897, .inl (fun _ => 0))), (q3, .inl ((mj_cI κ).1, 5, .inl (fun _ => 0))), (q4, .inl ((mj_cI κ).1, 95, .inl (mj_pre lst_X11_init_q4 95))), (q5, .inl ((mj_cI κ).1, 60, .inl (fun _ => 0))), (q6, .inl ((mj_cI κ).1, 400, .inl (fun _ => 0))), (q7, .inl ((mj_cI κ).1, 71, .inl (mj_pre lst_X11_init_q7 50)))]) C rfl (mj_okn 49 71 (Nat.le_of_ble_eq_true rfl) (Nat.le_of_ble_eq_true rfl)) (mj_pre_u (mj_cln 49 (Nat.le_of_ble_eq_true rfl)) rfl) dX11_init_916 rfl ?_
  refine mj_dup (mx_D C hmc hms rfl rfl) dX11_init_917 ?_
  refine mj_bipush (v := 50) (mx_D C hmc hms rfl rfl) dX11_init_918 (by decide) ?_
  refine mj_bipush (v := 99) (mx_D C hmc hms rfl rfl) dX11_init_920 (by decide) ?_
  refine mx_astf (k := 7) (f := mj_pre lst_X11_init_q7 50) (f' := mj_pre lst_X11_init_q7 51) (Y' := [(a0, .inr (12, [.int 0, .ref q1, .ref q2, .ref q3, .int 0, .ref q4, .ref q5, .int 0, .ref q6, .int 0, .int 0, .int 0, .int 0, .int 0, .null, .int 0, .int 0, .int 0, .int 0, .int 0, .null, .int 0, .null])), (q1, .inl ((mj_cI κ).1, 1897, .inl (fun _ => 0))), (q2, .inl ((mj_cI κ).1, 1897, .inl (fun _ => 0))), (q3, .inl ((mj_cI κ).1, 5, .inl (fun _ => 0))), (q4, .inl ((mj_cI κ).1, 95, .inl (mj_pre lst_X11_init_q4 95))), (q5, .inl ((mj_cI κ).1, 60, .inl (fun _ => 0))), (q6, .inl ((mj_cI κ).1, 400, .inl (fun _ => 0))), (q7, .inl ((mj_cI κ).1, 71, .inl (mj_pre lst_X11_init_q7 51)))]) C rfl (mj_okn 50 71 (Nat.le_of_ble_eq_true rfl) (Nat.le_of_ble_eq_true rfl)) (mj_pre_u (mj_cln 50 (Nat.le_of_ble_eq_true rfl)) rfl) dX11_init_922 rfl ?_
  refine mj_dup (mx_D C hmc hms rfl rfl) dX11_init_923 ?_
  refine mj_bipush (v := 51) (mx_D C hmc hms rfl rfl) dX11_init_924 (by decide) ?_
  refine mj_bipush (v := 107) (mx_D C hmc hms rfl rfl) dX11_init_926 (by decide) ?_
  refine mx_astf (k := 7) (f := mj_pre lst_X11_init_q7 51) (f' := mj_pre lst_X11_init_q7 52) (Y' := [(a0, .inr (12, [.int 0, .ref q1, .ref q2, .ref q3, .int 0, .ref q4, .ref q5, .int 0, .ref q6, .int 0, .int 0, .int 0, .int 0, .int 0, .null, .int 0, .int 0, .int 0, .int 0, .int 0, .null, .int 0, .null])), (q1, .inl ((mj_cI κ).1, 1897, .inl (fun _ => 0))), (q2, .inl ((mj_cI κ).1, 1897, .inl (fun _ => 0))), (q3, .inl ((mj_cI κ).1, 5, .inl (fun _ => 0))), (q4, .inl ((mj_cI κ).1, 95, .inl (mj_pre lst_X11_init_q4 95))), (q5, .inl ((mj_cI κ).1, 60, .inl (fun _ => 0))), (q6, .inl ((mj_cI κ).1, 400, .inl (fun _ => 0))), (q7, .inl ((mj_cI κ).1, 71, .inl (mj_pre lst_X11_init_q7 52)))]) C rfl (mj_okn 51 71 (Nat.le_of_ble_eq_true rfl) (Nat.le_of_ble_eq_true rfl)) (mj_pre_u (mj_cln 51 (Nat.le_of_ble_eq_true rfl)) rfl) dX11_init_928 rfl ?_
  refine mj_dup (mx_D C hmc hms rfl rfl) dX11_init_929 ?_
  refine mj_bipush (v := 52) (mx_D C hmc hms rfl rfl) dX11_init_930 (by decide) ?_
  refine mj_bipush (v := 32) (mx_D C hmc hms rfl rfl) dX11_init_932 (by decide) ?_
  refine mx_astf (k := 7) (f := mj_pre lst_X11_init_q7 52) (f' := mj_pre lst_X11_init_q7 53) (Y' := [(a0, .inr (12, [.int 0, .ref q1, .ref q2, .ref q3, .int 0, .ref q4, .ref q5, .int 0, .ref q6, .int 0, .int 0, .int 0, .int 0, .int 0, .null, .int 0, .int 0, .int 0, .int 0, .int 0, .null, .int 0, .null])), (q1, .inl ((mj_cI κ).1, 1897, .inl (fun _ => 0))), (q2, .inl ((mj_cI κ).1, 1897, .inl (fun _ => 0))), (q3, .inl ((mj_cI κ).1, 5, .inl (fun _ => 0))), (q4, .inl ((mj_cI κ).1, 95, .inl (mj_pre lst_X11_init_q4 95))), (q5, .inl ((mj_cI κ).1, 60, .inl (fun _ => 0))), (q6, .inl ((mj_cI κ).1, 400, .inl (fun _ => 0))), (q7, .inl ((mj_cI κ).1, 71, .inl (mj_pre lst_X11_init_q7 53)))]) C rfl (mj_okn 52 71 (Nat.le_of_ble_eq_true rfl) (Nat.le_of_ble_eq_true rfl)) (mj_pre_u (mj_cln 52 (Nat.le_of_ble_eq_true rfl)) rfl) dX11_init_934 rfl ?_
  refine mj_dup (mx_D C hmc hms rfl rfl) dX11_init_935 ?_
  refine mj_bipush (v := 53) (mx_D C hmc hms rfl rfl) dX11_init_936 (by decide) ?_
  refine mj_bipush (v := 115) (mx_D C hmc hms rfl rfl) dX11_init_938 (by decide) ?_
  refine mx_astf (k := 7) (f := mj_pre lst_X11_init_q7 53) (f' := mj_pre lst_X11_init_q7 54) (Y' := [(a0, .inr (12, [.int 0, .ref q1, .ref q2, .ref q3, .int 0, .ref q4, .ref q5, .int 0, .ref q6, .int 0, .int 0, .int 0, .int 0, .int 0, .null, .int 0, .int 0, .int 0, .int 0, .int 0, .null, .int 0, .null])), (q1, .inl ((mj_cI κ).1, 1897, .inl (fun _ => 0))), (q2, .inl ((mj_cI κ).1, 1897, .inl (fun _ => 0))), (q3, .inl ((mj_cI κ).1, 5, .inl (fun _ => 0))), (q4, .inl ((mj_cI κ).1, 95, .inl (mj_pre lst_X11_init_q4 95))), (q5, .inl ((mj_cI κ).1, 60, .inl (fun _ => 0))), (q6, .inl ((mj_cI κ).1, 400, .inl (fun _ => 0))), (q7, .inl ((mj_cI κ).1, 71, .inl (mj_pre lst_X11_init_q7 54)))]) C rfl (mj_okn 53 71 (Nat.le_of_ble_eq_true rfl) (Nat.le_of_ble_eq_true rfl)) (mj_pre_u (mj_cln 53 (Nat.le_of_ble_eq_true rfl)) rfl) dX11_init_940 rfl ?_
  refine mj_dup (mx_D C hmc hms rfl rfl) dX11_init_941 ?_
  refine mj_bipush (v := 54) (mx_D C hmc hms rfl rfl) dX11_init_942 (by decide) ?_
  refine mj_bipush (v := 116) (mx_D C hmc hms rfl rfl) dX11_init_944 (by decide) ?_
  refine mx_astf (k := 7) (f := mj_pre lst_X11_init_q7 54) (f' := mj_pre lst_X11_init_q7 55) (Y' := [(a0, .inr (12, [.int 0, .ref q1, .ref q2, .ref q3, .int 0, .ref q4, .ref q5, .int 0, .ref q6, .int 0, .int 0, .int 0, .int 0, .int 0, .null, .int 0, .int 0, .int 0, .int 0, .int 0, .null, .int 0, .null])), (q1, .inl ((mj_cI κ).1, 1897, .inl (fun _ => 0))), (q2, .inl ((mj_cI κ).1, 1897, .inl (fun _ => 0))), (q3, .inl ((mj_cI κ).1, 5, .inl (fun _ => 0))), (q4, .inl ((mj_cI κ).1, 95, .inl (mj_pre lst_X11_init_q4 95))), (q5, .inl ((mj_cI κ).1, 60, .inl (fun _ => 0))), (q6, .inl ((mj_cI κ).1, 400, .inl (fun _ => 0))), (q7, .inl ((mj_cI κ).1, 71, .inl (mj_pre lst_X11_init_q7 55)))]) C rfl (mj_okn 54 71 (Nat.le_of_ble_eq_true rfl) (Nat.le_of_ble_eq_true rfl)) (mj_pre_u (mj_cln 54 (Nat.le_of_ble_eq_true rfl)) rfl) dX11_init_946 rfl ?_
  refine mj_dup (mx_D C hmc hms rfl rfl) dX11_init_947 ?_
  refine mj_bipush (v := 55) (mx_D C hmc hms rfl rfl) dX11_init_948 (by decide) ?_
  refine mj_bipush (v := 111) (mx_D C hmc hms rfl rfl) dX11_init_950 (by decide) ?_
  refine mx_astf (k := 7) (f := mj_pre lst_X11_init_q7 55) (f' := mj_pre lst_X11_init_q7 56) (Y' := [(a0, .inr (12, [.int 0, .ref q1, .ref q2, .ref q3, .int 0, .ref q4, .ref q5, .int 0, .ref q6, .int 0, .int 0, .int 0, .int 0, .int 0, .null, .int 0, .int 0, .int 0, .int 0, .int 0, .null, .int 0, .null])), (q1, .inl ((mj_cI κ).1, 1897, .inl (fun _ => 0))), (q2, .inl ((mj_cI κ).1, 1897, .inl (fun _ => 0))), (q3, .inl ((mj_cI κ).1, 5, .inl (fun _ => 0))), (q4, .inl ((mj_cI κ).1, 95, .inl (mj_pre lst_X11_init_q4 95))), (q5, .inl ((mj_cI κ).1, 60, .inl (fun _ => 0))), (q6, .inl ((mj_cI κ).1, 400, .inl (fun _ => 0))), (q7, .inl ((mj_cI κ).1, 71, .inl (mj_pre lst_X11_init_q7 56)))]) C rfl (mj_okn 55 71 (Nat.le_of_ble_eq_true rfl) (Nat.le_of_ble_eq_true rfl)) (mj_pre_u (mj_cln 55 (Nat.le_of_ble_eq_true rfl)) rfl) dX11_init_952 rfl ?_
  refine mj_dup (mx_D C hmc hms rfl rfl) dX11_init_953 ?_
  refine mj_bipush (v := 56) (mx_D C hmc hms rfl rfl) dX11_init_954 (by decide) ?_
  refine mj_bipush (v := 112) (mx_D C hmc hms rfl rfl) dX11_init_956 (by decide) ?_
  refine mx_astf (k := 7) (f := mj_pre lst_X11_init_q7 56) (f' := mj_pre lst_X11_init_q7 57) (Y' := [(a0, .inr (12, [.int 0, .ref q1, .ref q2, .ref q3, .int 0, .ref q4, .ref q5, .int 0, .ref q6, .int 0, .int 0, .int 0, .int 0, .int 0, .null, .int 0, .int 0, .int 0, .int 0, .int 0, .null, .int 0, .null])), (q1, .inl ((mj_cI κ).1, 1897, .inl (fun _ => 0))), (q2, .inl ((mj_cI κ).1, 1897, .inl (fun _ => 0))), (q3, .inl ((mj_cI κ).1, 5, .inl (fun _ => 0))), (q4, .inl ((mj_cI κ).1, 95, .inl (mj_pre lst_X11_init_q4 95))), (q5, .inl ((mj_cI κ).1, 60, .inl (fun _ => 0))), (q6, .inl ((mj_cI κ).1, 400, .inl (fun _ => 0))), (q7, .inl ((mj_cI κ).1, 71, .inl (mj_pre lst_X11_init_q7 57)))]) C rfl (mj_okn 56 71 (Nat.le_of_ble_eq_true rfl) (Nat.le_of_ble_eq_true rfl)) (mj_pre_u (mj_cln 56 (Nat.le_of_ble_eq_true rfl)) rfl) dX11_init_958 rfl ?_
  refine mj_dup (mx_D C hmc hms rfl rfl) dX11_init_959 ?_
  refine mj_bipush (v := 57) (mx_D C hmc hms rfl rfl) dX11_init_960 (by decide) ?_
  refine mj_bipush (v := 32) (mx_D C hmc hms rfl rfl) dX11_init_962 (by decide) ?_
  refine mx_astf (k := 7) (f := mj_pre lst_X11_init_q7 57) (f' := mj_pre lst_X11_init_q7 58) (Y' := [(a0, .inr (12, [.int 0, .ref q1, .ref q2, .ref q3, .int 0, .ref q4, .ref q5, .int 0, .ref q6, .int 0, .int 0, .int 0, .int 0, .int 0, .null, .int 0, .int 0, .int 0, .int 0, .int 0, .null, .int 0, .null])), (q1, .inl ((mj_cI κ).1, 1897, .inl (fun _ => 0))), (q2, .inl ((mj_cI κ).1, 1897, .inl (fun _ => 0))), (q3, .inl ((mj_cI κ).1, 5, .inl (fun _ => 0))), (q4, .inl ((mj_cI κ).1, 95, .inl (mj_pre lst_X11_init_q4 95))), (q5, .inl ((mj_cI κ).1, 60, .inl (fun _ => 0))), (q6, .inl ((mj_cI κ).1, 400, .inl (fun _ => 0))), (q7, .inl ((mj_cI κ).1, 71, .inl (mj_pre lst_X11_init_q7 58)))]) C rfl (mj_okn 57 71 (Nat.le_of_ble_eq_true rfl) (Nat.le_of_ble_eq_true rfl)) (mj_pre_u (mj_cln 57 (Nat.le_of_ble_eq_true rfl)) rfl) dX11_init_964 rfl ?_
  refine mj_dup (mx_D C hmc hms rfl rfl) dX11_init_965 ?_
  refine mj_bipush (v := 58) (mx_D C hmc hms rfl rfl) dX11_init_966 (by decide) ?_
  refine mj_bipush (v := 111) (mx_D C hmc hms rfl rfl) dX11_init_968 (by decide) ?_
  refine mx_astf (k := 7) (f := mj_pre lst_X11_init_q7 58) (f' := mj_pre lst_X11_init_q7 59) (Y' := [(a0, .inr (12, [.int 0, .ref q1, .ref q2, .ref q3, .int 0, .ref q4, .ref q5, .int 0, .ref q6, .int 0, .int 0, .int 0, .int 0, .int 0, .null, .int 0, .int 0, .int 0, .int 0, .int 0, .null, .int 0, .null])), (q1, .inl ((mj_cI κ).1, 1897, .inl (fun _ => 0))), (q2, .inl ((mj_cI κ).1, 1897, .inl (fun _ => 0))), (q3, .inl ((mj_cI κ).1, 5, .inl (fun _ => 0))), (q4, .inl ((mj_cI κ).1, 95, .inl (mj_pre lst_X11_init_q4 95))), (q5, .inl ((mj_cI κ).1, 60, .inl (fun _ => 0))), (q6, .inl ((mj_cI κ).1, 400, .inl (fun _ => 0))), (q7, .inl ((mj_cI κ).1, 71, .inl (mj_pre lst_X11_init_q7 59)))]) C rfl (mj_okn 58 71 (Nat.le_of_ble_eq_true rfl) (Nat.le_of_ble_eq_true rfl)) (mj_pre_u (mj_cln 58 (Nat.le_of_ble_eq_true rfl)) rfl) dX11_init_970 rfl ?_
  refine mj_dup (mx_D C hmc hms rfl rfl) dX11_init_971 ?_
  refine mj_bipush (v := 59) (mx_D C hmc hms rfl rfl) dX11_init_972 (by decide) ?_
  refine mj_bipush (v := 110) (mx_D C hmc hms rfl rfl) dX11_init_974 (by decide) ?_
  refine mx_astf (k := 7) (f := mj_pre lst_X11_init_q7 59) (f' := mj_pre lst_X11_init_q7 60) (Y' := [(a0, .inr (12, [.int 0, .ref q1, .ref q2, .ref q3, .int 0, .ref q4, .ref q5, .int 0, .ref q6, .int 0, .int 0, .int 0, .int 0, .int 0, .null, .int 0, .int 0, .int 0, .int 0, .int 0, .null, .int 0, .null])), (q1, .inl ((mj_cI κ).1, 1897, .inl (fun _ => 0))), (q2, .inl ((mj_cI κ).1, 1897, .inl (fun _ => 0))), (q3, .inl ((mj_cI κ).1, 5, .inl (fun _ => 0))), (q4, .inl ((mj_cI κ).1, 95, .inl (mj_pre lst_X11_init_q4 95))), (q5, .inl ((mj_cI κ).1, 60, .inl (fun _ => 0))), (q6, .inl ((mj_cI κ).1, 400, .inl (fun _ => 0))), (q7, .inl ((mj_cI κ).1, 71, .inl (mj_pre lst_X11_init_q7 60)))]) C rfl (mj_okn 59 71 (Nat.le_of_ble_eq_true rfl) (Nat.le_of_ble_eq_true rfl)) (mj_pre_u (mj_cln 59 (Nat.le_of_ble_eq_true rfl)) rfl) dX11_init_976 rfl ?_
  refine mj_dup (mx_D C hmc hms rfl rfl) dX11_init_977 ?_
  refine mj_bipush (v := 60) (mx_D C hmc hms rfl rfl) dX11_init_978 (by decide) ?_
  refine mj_bipush (v := 32) (mx_D C hmc hms rfl rfl) dX11_init_980 (by decide) ?_
  refine mx_astf (k := 7) (f := mj_pre lst_X11_init_q7 60) (f' := mj_pre lst_X11_init_q7 61) (Y' := [(a0, .inr (12, [.int 0, .ref q1, .ref q2, .ref q3, .int 0, .ref q4, .ref q5, .int 0, .ref q6, .int 0, .int 0, .int 0, .int 0, .int 0, .null, .int 0, .int 0, .int 0, .int 0, .int 0, .null, .int 0, .null])), (q1, .inl ((mj_cI κ).1, 1897, .inl (fun _ => 0))), (q2, .inl ((mj_cI κ).1, 1897, .inl (fun _ => 0))), (q3, .inl ((mj_cI κ).1, 5, .inl (fun _ => 0))), (q4, .inl ((mj_cI κ).1, 95, .inl (mj_pre lst_X11_init_q4 95))), (q5, .inl ((mj_cI κ).1, 60, .inl (fun _ => 0))), (q6, .inl ((mj_cI κ).1, 400, .inl (fun _ => 0))), (q7, .inl ((mj_cI κ).1, 71, .inl (mj_pre lst_X11_init_q7 61)))]) C rfl (mj_okn 60 71 (Nat.le_of_ble_eq_true rfl) (Nat.le_of_ble_eq_true rfl)) (mj_pre_u (mj_cln 60 (Nat.le_of_ble_eq_true rfl)) rfl) dX11_init_982 rfl ?_
  refine mj_dup (mx_D C hmc hms rfl rfl) dX11_init_983 ?_
  refine mj_bipush (v := 61) (mx_D C hmc hms rfl rfl) dX11_init_984 (by decide) ?_
  refine mj_bipush (v := 116) (mx_D C hmc hms rfl rfl) dX11_init_986 (by decide) ?_
  refine mx_astf (k := 7) (f := mj_pre lst_X11_init_q7 61) (f' := mj_pre lst_X11_init_q7 62) (Y' := [(a0, .inr (12, [.int 0, .ref q1, .ref q2, .ref q3, .int 0, .ref q4, .ref q5, .int 0, .ref q6, .int 0, .int 0, .int 0, .int 0, .int 0, .null, .int 0, .int 0, .int 0, .int 0, .int 0, .null, .int 0, .null])), (q1, .inl ((mj_cI κ).1, 1897, .inl (fun _ => 0))), (q2, .inl ((mj_cI κ).1, 1897, .inl (fun _ => 0))), (q3, .inl ((mj_cI κ).1, 5, .inl (fun _ => 0))), (q4, .inl ((mj_cI κ).1, 95, .inl (mj_pre lst_X11_init_q4 95))), (q5, .inl ((mj_cI κ).1, 60, .inl (fun _ => 0))), (q6, .inl ((mj_cI κ).1, 400, .inl (fun _ => 0))), (q7, .inl ((mj_cI κ).1, 71, .inl (mj_pre lst_X11_init_q7 62)))]) C rfl (mj_okn 61 71 (Nat.le_of_ble_eq_true rfl) (Nat.le_of_ble_eq_true rfl)) (mj_pre_u (mj_cln 61 (Nat.le_of_ble_eq_true rfl)) rfl) dX11_init_988 rfl ?_
  refine mj_dup (mx_D C hmc hms rfl rfl) dX11_init_989 ?_
  refine mj_bipush (v := 62) (mx_D C hmc hms rfl rfl) dX11_init_990 (by decide) ?_
  refine mj_bipush (v := 97) (mx_D C hmc hms rfl rfl) dX11_init_992 (by decide) ?_
  refine mx_astf (k := 7) (f := mj_pre lst_X11_init_q7 62) (f' := mj_pre lst_X11_init_q7 63) (Y' := [(a0, .inr (12, [.int 0, .ref q1, .ref q2, .ref q3, .int 0, .ref q4, .ref q5, .int 0, .ref q6, .int 0, .int 0, .int 0, .int 0, .int 0, .null, .int 0, .int 0, .int 0, .int 0, .int 0, .null, .int 0, .null])), (q1, .inl ((mj_cI κ).1, 1897, .inl (fun _ => 0))), (q2, .inl ((mj_cI κ).1, 1897, .inl (fun _ => 0))), (q3, .inl ((mj_cI κ).1, 5, .inl (fun _ => 0))), (q4, .inl ((mj_cI κ).1, 95, .inl (mj_pre lst_X11_init_q4 95))), (q5, .inl ((mj_cI κ).1, 60, .inl (fun _ => 0))), (q6, .inl ((mj_cI κ).1, 400, .inl (fun _ => 0))), (q7, .inl ((mj_cI κ).1, 71, .inl (mj_pre lst_X11_init_q7 63)))]) C rfl (mj_okn 62 71 (Nat.le_of_ble_eq_true rfl) (Nat.le_of_ble_eq_true rfl)) (mj_pre_u (mj_cln 62 (Nat.le_of_ble_eq_true rfl)) rfl) dX11_init_994 rfl ?_
  refine mj_dup (mx_D C hmc hms rfl rfl) dX11_init_995 ?_
  refine mj_bipush (v := 63) (mx_D C hmc hms rfl rfl) dX11_init_996 (by decide) ?_
  refine mj_bipush (v := 107) (mx_D C hmc hms rfl rfl) dX11_init_998 (by decide) ?_
  refine mx_astf (k := 7) (f := mj_pre lst_X11_init_q7 63) (f' := mj_pre lst_X11_init_q7 64) (Y' := [(a0, .inr (12, [.int 0, .ref q1, .ref q2, .ref q3, .int 0, .ref q4, .ref q5, .int 0, .ref q6, .int 0, .int 0, .int 0, .int 0, .int 0, .null, .int 0, .int 0, .int 0, .int 0, .int 0, .null, .int 0, .null])), (q1, .inl ((mj_cI κ).1, 1897, .inl (fun _ => 0))), (q2, .inl ((mj_cI κ).1, 1897, .inl (fun _ => 0))), (q3, .inl ((mj_cI κ).1, 5, .inl (fun _ => 0))), (q4, .inl ((mj_cI κ).1, 95, .inl (mj_pre lst_X11_init_q4 95))), (q5, .inl ((mj_cI κ).1, 60, .inl (fun _ => 0))), (q6, .inl ((mj_cI κ).1, 400, .inl (fun _ => 0))), (q7, .inl ((mj_cI κ).1, 71, .inl (mj_pre lst_X11_init_q7 64)))]) C rfl (mj_okn 63 71 (Nat.le_of_ble_eq_true rfl) (Nat.le_of_ble_eq_true rfl)) (mj_pre_u (mj_cln 63 (Nat.le_of_ble_eq_true rfl)) rfl) dX11_init_1000 rfl ?_
  refine mj_dup (mx_D C hmc hms rfl rfl) dX11_init_1001 ?_
  refine mj_bipush (v := 64) (mx_D C hmc hms rfl rfl) dX11_init_1002 (by decide) ?_
  refine mj_bipush (v := 101) (mx_D C hmc hms rfl rfl) dX11_init_1004 (by decide) ?_
  refine mx_astf (k := 7) (f := mj_pre lst_X11_init_q7 64) (f' := mj_pre lst_X11_init_q7 65) (Y' := [(a0, .inr (12, [.int 0, .ref q1, .ref q2, .ref q3, .int 0, .ref q4, .ref q5, .int 0, .ref q6, .int 0, .int 0, .int 0, .int 0, .int 0, .null, .int 0, .int 0, .int 0, .int 0, .int 0, .null, .int 0, .null])), (q1, .inl ((mj_cI κ).1, 1897, .inl (fun _ => 0))), (q2, .inl ((mj_cI κ).1, 1897, .inl (fun _ => 0))), (q3, .inl ((mj_cI κ).1, 5, .inl (fun _ => 0))), (q4, .inl ((mj_cI κ).1, 95, .inl (mj_pre lst_X11_init_q4 95))), (q5, .inl ((mj_cI κ).1, 60, .inl (fun _ => 0))), (q6, .inl ((mj_cI κ).1, 400, .inl (fun _ => 0))), (q7, .inl ((mj_cI κ).1, 71, .inl (mj_pre lst_X11_init_q7 65)))]) C rfl (mj_okn 64 71 (Nat.le_of_ble_eq_true rfl) (Nat.le_of_ble_eq_true rfl)) (mj_pre_u (mj_cln 64 (Nat.le_of_ble_eq_true rfl)) rfl) dX11_init_1006 rfl ?_
  refine mj_dup (mx_D C hmc hms rfl rfl) dX11_init_1007 ?_
  refine mj_bipush (v := 65) (mx_D C hmc hms rfl rfl) dX11_init_1008 (by decide) ?_
  refine mj_bipush (v := 32) (mx_D C hmc hms rfl rfl) dX11_init_1010 (by decide) ?_
  refine mx_astf (k := 7) (f := mj_pre lst_X11_init_q7 65) (f' := mj_pre lst_X11_init_q7 66) (Y' := [(a0, .inr (12, [.int 0, .ref q1, .ref q2, .ref q3, .int 0, .ref q4, .ref q5, .int 0, .ref q6, .int 0, .int 0, .int 0, .int 0, .int 0, .null, .int 0, .int 0, .int 0, .int 0, .int 0, .null, .int 0, .null])), (q1, .inl ((mj_cI κ).1, 1897, .inl (fun _ => 0))), (q2, .inl ((mj_cI κ).1, 1897, .inl (fun _ => 0))), (q3, .inl ((mj_cI κ).1, 5, .inl (fun _ => 0))), (q4, .inl ((mj_cI κ).1, 95, .inl (mj_pre lst_X11_init_q4 95))), (q5, .inl ((mj_cI κ).1, 60, .inl (fun _ => 0))), (q6, .inl ((mj_cI κ).1, 400, .inl (fun _ => 0))), (q7, .inl ((mj_cI κ).1, 71, .inl (mj_pre lst_X11_init_q7 66)))]) C rfl (mj_okn 65 71 (Nat.le_of_ble_eq_true rfl) (Nat.le_of_ble_eq_true rfl)) (mj_pre_u (mj_cln 65 (Nat.le_of_ble_eq_true rfl)) rfl) dX11_init_1012 rfl ?_
  refine mj_dup (mx_D C hmc hms rfl rfl) dX11_init_1013 ?_
  refine mj_bipush (v := 66) (mx_D C hmc hms rfl rfl) dX11_init_1014 (by decide) ?_
  refine mj_bipush (v := 108) (mx_D C hmc hms rfl rfl) dX11_init_1016 (by decide) ?_
  refine mx_astf (k := 7) (f := mj_pre lst_X11_init_q7 66) (f' := mj_pre lst_X11_init_q7 67) (Y' := [(a0, .inr (12, [.int 0, .ref q1, .ref q2, .ref q3, .int 0, .ref q4, .ref q5, .int 0, .ref q6, .int 0, .int 0, .int 0, .int 0, .int 0, .null, .int 0, .int 0, .int 0, .int 0, .int 0, .null, .int 0, .null])), (q1, .inl ((mj_cI κ).1, 1897, .inl (fun _ => 0))), (q2, .inl ((mj_cI κ).1, 1897, .inl (fun _ => 0))), (q3, .inl ((mj_cI κ).1, 5, .inl (fun _ => 0))), (q4, .inl ((mj_cI κ).1, 95, .inl (mj_pre lst_X11_init_q4 95))), (q5, .inl ((mj_cI κ).1, 60, .inl (fun _ => 0))), (q6, .inl ((mj_cI κ).1, 400, .inl (fun _ => 0))), (q7, .inl ((mj_cI κ).1, 71, .inl (mj_pre lst_X11_init_q7 67)))]) C rfl (mj_okn 66 71 (Nat.le_of_ble_eq_true rfl) (Nat.le_of_ble_eq_true rfl)) (mj_pre_u (mj_cln 66 (Nat.le_of_ble_eq_true rfl)) rfl) dX11_init_1018 rfl ?_
  refine mj_dup (mx_D C hmc hms rfl rfl) dX11_init_1019 ?_
  refine mj_bipush (v := 67) (mx_D C hmc hms rfl rfl) dX11_init_1020 (by decide) ?_
  refine mj_bipush (v := 111) (mx_D C hmc hms rfl rfl) dX11_init_1022 (by decide) ?_
  refine mx_astf (k := 7) (f := mj_pre lst_X11_init_q7 67) (f' := mj_pre lst_X11_init_q7 68) (Y' := [(a0, .inr (12, [.int 0, .ref q1, .ref q2, .ref q3, .int 0, .ref q4, .ref q5, .int 0, .ref q6, .int 0, .int 0, .int 0, .int 0, .int 0, .null, .int 0, .int 0, .int 0, .int 0, .int 0, .null, .int 0, .null])), (q1, .inl ((mj_cI κ).1, 1897, .inl (fun _ => 0))), (q2, .inl ((mj_cI κ).1, 1897, .inl (fun _ => 0))), (q3, .inl ((mj_cI κ).1, 5, .inl (fun _ => 0))), (q4, .inl ((mj_cI κ).1, 95, .inl (mj_pre lst_X11_init_q4 95))), (q5, .inl ((mj_cI κ).1, 60, .inl (fun _ => 0))), (q6, .inl ((mj_cI κ).1, 400, .inl (fun _ => 0))), (q7, .inl ((mj_cI κ).1, 71, .inl (mj_pre lst_X11_init_q7 68)))]) C rfl (mj_okn 67 71 (Nat.le_of_ble_eq_true rfl) (Nat.le_of_ble_eq_true rfl)) (mj_pre_u (mj_cln 67 (Nat.le_of_ble_eq_true rfl)) rfl) dX11_init_1024 rfl ?_
  refine mj_dup (mx_D C hmc hms rfl rfl) dX11_init_1025 ?_
  refine mj_bipush (v := 68) (mx_D C hmc hms rfl rfl) dX11_init_1026 (by decide) ?_
  refine mj_bipush (v := 115) (mx_D C hmc hms rfl rfl) dX11_init_1028 (by decide) ?_
  refine mx_astf (k := 7) (f := mj_pre lst_X11_init_q7 68) (f' := mj_pre lst_X11_init_q7 69) (Y' := [(a0, .inr (12, [.int 0, .ref q1, .ref q2, .ref q3, .int 0, .ref q4, .ref q5, .int 0, .ref q6, .int 0, .int 0, .int 0, .int 0, .int 0, .null, .int 0, .int 0, .int 0, .int 0, .int 0, .null, .int 0, .null])), (q1, .inl ((mj_cI κ).1, 1897, .inl (fun _ => 0))), (q2, .inl ((mj_cI κ).1, 1897, .inl (fun _ => 0))), (q3, .inl ((mj_cI κ).1, 5, .inl (fun _ => 0))), (q4, .inl ((mj_cI κ).1, 95, .inl (mj_pre lst_X11_init_q4 95))), (q5, .inl ((mj_cI κ).1, 60, .inl (fun _ => 0))), (q6, .inl ((mj_cI κ).1, 400, .inl (fun _ => 0))), (q7, .inl ((mj_cI κ).1, 71, .inl (mj_pre lst_X11_init_q7 69)))]) C rfl (mj_okn 68 71 (Nat.le_of_ble_eq_true rfl) (Nat.le_of_ble_eq_true rfl)) (mj_pre_u (mj_cln 68 (Nat.le_of_ble_eq_true rfl)) rfl) dX11_init_1030 rfl ?_
  refine mj_dup (mx_D C hmc hms rfl rfl) dX11_init_1031 ?_
  refine mj_bipush (v := 69) (mx_D C hmc hms rfl rfl) dX11_init_1032 (by decide) ?_
  refine mj_bipush (v := 101) (mx_D C hmc hms rfl rfl) dX11_init_1034 (by decide) ?_
  refine mx_astf (k := 7) (f := mj_pre lst_X11_init_q7 69) (f' := mj_pre lst_X11_init_q7 70) (Y' := [(a0, .inr (12, [.int 0, .ref q1, .ref q2, .ref q3, .int 0, .ref q4, .ref q5, .int 0, .ref q6, .int 0, .int 0, .int 0, .int 0, .int 0, .null, .int 0, .int 0, .int 0, .int 0, .int 0, .null, .int 0, .null])), (q1, .inl ((mj_cI κ).1, 1897, .inl (fun _ => 0))), (q2, .inl ((mj_cI κ).1, 1897, .inl (fun _ => 0))), (q3, .inl ((mj_cI κ).1, 5, .inl (fun _ => 0))), (q4, .inl ((mj_cI κ).1, 95, .inl (mj_pre lst_X11_init_q4 95))), (q5, .inl ((mj_cI κ).1, 60, .inl (fun _ => 0))), (q6, .inl ((mj_cI κ).1, 400, .inl (fun _ => 0))), (q7, .inl ((mj_cI κ).1, 71, .inl (mj_pre lst_X11_init_q7 70)))]) C rfl (mj_okn 69 71 (Nat.le_of_ble_eq_true rfl) (Nat.le_of_ble_eq_true rfl)) (mj_pre_u (mj_cln 69 (Nat.le_of_ble_eq_true rfl)) rfl) dX11_init_1036 rfl ?_
  refine mj_dup (mx_D C hmc hms rfl rfl) dX11_init_1037 ?_
  refine mj_bipush (v := 70) (mx_D C hmc hms rfl rfl) dX11_init_1038 (by decide) ?_
  refine mj_bipush (v := 32) (mx_D C hmc hms rfl rfl) dX11_init_1040 (by decide) ?_
  refine mx_astf (k := 7) (f := mj_pre lst_X11_init_q7 70) (f' := mj_pre lst_X11_init_q7 71) (Y' := [(a0, .inr (12, [.int 0, .ref q1, .ref q2, .ref q3, .int 0, .ref q4, .ref q5, .int 0, .ref q6, .int 0, .int 0, .int 0, .int 0, .int 0, .null, .int 0, .int 0, .int 0, .int 0, .int 0, .null, .int 0, .null])), (q1, .inl ((mj_cI κ).1, 1897, .inl (fun _ => 0))), (q2, .inl ((mj_cI κ).1, 1897, .inl (fun _ => 0))), (q3, .inl ((mj_cI κ).1, 5, .inl (fun _ => 0))), (q4, .inl ((mj_cI κ).1, 95, .inl (mj_pre lst_X11_init_q4 95))), (q5, .inl ((mj_cI κ).1, 60, .inl (fun _ => 0))), (q6, .inl ((mj_cI κ).1, 400, .inl (fun _ => 0))), (q7, .inl ((mj_cI κ).1, 71, .inl (mj_pre lst_X11_init_q7 71)))]) C rfl (mj_okn 70 71 (Nat.le_of_ble_eq_true rfl) (Nat.le_of_ble_eq_true rfl)) (mj_pre_u (mj_cln 70 (Nat.le_of_ble_eq_true rfl)) rfl) dX11_init_1042 rfl ?_
  refine mx_putF (k := 0) (Y' := [(a0, .inr (12, [.int 0, .ref q1, .ref q2, .ref q3, .int 0, .ref q4, .ref q5, .int 0, .ref q6, .int 0, .int 0, .int 0, .int 0, .int 0, .ref q7, .int 0, .int 0, .int 0, .int 0, .int 0, .null, .int 0, .null])), (q1, .inl ((mj_cI κ).1, 1897, .inl (fun _ => 0))), (q2, .inl ((mj_cI κ).1, 1897, .inl (fun _ => 0))), (q3, .inl ((mj_cI κ).1, 5, .inl (fun _ => 0))), (q4, .inl ((mj_cI κ).1, 95, .inl (mj_pre lst_X11_init_q4 95))), (q5, .inl ((mj_cI κ).1, 60, .inl (fun _ => 0))), (q6, .inl ((mj_cI κ).1, 400, .inl (fun _ => 0))), (q7, .inl ((mj_cI κ).1, 71, .inl (mj_pre lst_X11_init_q7 71)))]) C hN lF_X11_28 ⟨_, rfl, rfl⟩ fR_12_14 rfl (fun _ => rfl) rfl rfl (Nat.le_of_ble_eq_true rfl) dX11_init_1043 rfl ?_
  refine mx_aload_n (mx_D C hmc hms rfl rfl) dX11_init_1046 rfl ?_
  refine mj_iconst (v := (-1)) (mx_D C hmc hms rfl rfl) dX11_init_1047 (by decide) ?_
  refine mx_put (k := 0) (Y' := [(a0, .inr (12, [.int 0, .ref q1, .ref q2, .ref q3, .int 0, .ref q4, .ref q5, .int 0, .ref q6, .int 0, .int 0, .int 0, .int 0, .int 0, .ref q7, .int 0, .int 0, .int 0, .int (-1), .int 0, .null, .int 0, .null])), (q1, .inl ((mj_cI κ).1, 1897, .inl (fun _ => 0))), (q2, .inl ((mj_cI κ).1, 1897, .inl (fun _ => 0))), (q3, .inl ((mj_cI κ).1, 5, .inl (fun _ => 0))), (q4, .inl ((mj_cI κ).1, 95, .inl (mj_pre lst_X11_init_q4 95))), (q5, .inl ((mj_cI κ).1, 60, .inl (fun _ => 0))), (q6, .inl ((mj_cI κ).1, 400, .inl (fun _ => 0))), (q7, .inl ((mj_cI κ).1, 71, .inl (mj_pre lst_X11_init_q7 71)))]) C lF_X11_31 fR_12_18 rfl (fun _ => rfl) (vp_nar_int _) rfl (Nat.le_of_ble_eq_true rfl) dX11_init_1048 rfl ?_
  refine mx_aload_n (mx_D C hmc hms rfl rfl) dX11_init_1051 rfl ?_
  refine mj_bipush (v := 96) (mx_D C hmc hms rfl rfl) dX11_init_1052 (by decide) ?_
  refine mx_newi (N' := 96) C mx_ai (by decide) (by decide) (by decide) (mx_lc hmc rfl) (mx_ls hms rfl) dX11_init_1054 (fun q8 => ?_)
  show mj_R (mj_ky κ [(a0, .inr (12, [.int 0, .ref q1, .ref q2, .ref q3, .int 0, .ref q4, .ref q5, .int 0, .ref q6, .int 0, .int 0, .int 0, .int 0, .int 0, .ref q7, .int 0, .int 0, .int 0, .int (-1), .int 0, .null, .int 0, .null])), (q1, .inl ((mj_cI κ).1, 1897, .inl (fun _ => 0))), (q2, .inl ((mj_cI κ).1, 1897, .inl (fun _ => 0))), (q3, .inl ((mj_cI κ).1, 5, .inl (fun _ => 0))), (q4, .inl ((mj_cI κ).1, 95, .inl (mj_pre lst_X11_init_q4 95))), (q5, .inl ((mj_cI κ).1, 60, .inl (fun _ => 0))), (q6, .inl ((mj_cI κ).1, 400, .inl (fun _ => 0))), (q7, .inl ((mj_cI κ).1, 71, .inl (mj_pre lst_X11_init_q7 71))), (q8, .inl ((mj_cI κ).1, 96, .inl (fun _ => 0)))] 8 4521) _ 1056 [some (mj_o (some a0))] [mj_o (some q8), mj_o (some a0)] M
  refine mx_putF (k := 0) (Y' := [(a0, .inr (12, [.int 0, .ref q1, .ref q2, .ref q3, .int 0, .ref q4, .ref q5, .int 0, .ref q6, .int 0, .int 0, .int 0, .int 0, .int 0, .ref q7, .int 0, .int 0, .int 0, .int (-1), .int 0, .ref q8, .int 0, .null])), (q1, .inl ((mj_cI κ).1, 1897, .inl (fun _ => 0))), (q2, .inl ((mj_cI κ).1, 1897, .inl (fun _ => 0))), (q3, .inl ((mj_cI κ).1, 5, .inl (fun _ => 0))), (q4, .inl ((mj_cI κ).1, 95, .inl (mj_pre lst_X11_init_q4 95))), (q5, .inl ((mj_cI κ).1, 60, .inl (fun _ => 0))), (q6, .inl ((mj_cI κ).1, 400, .inl (fun _ => 0))), (q7, .inl ((mj_cI κ).1, 71, .inl (mj_pre lst_X11_init_q7 71))), (q8, .inl ((mj_cI κ).1, 96, .inl (fun _ => 0)))]) C hN lF_X11_35 ⟨_, rfl, rfl⟩ fR_12_20 rfl (fun _ => rfl) rfl rfl (Nat.le_of_ble_eq_true rfl) dX11_init_1056 rfl ?_
  refine mx_aload_n (mx_D C hmc hms rfl rfl) dX11_init_1059 rfl ?_
  refine mj_sipush (v := 1946) (mx_D C hmc hms rfl rfl) dX11_init_1060 (by decide) ?_
  refine mx_newi (N' := 1946) C mx_ai (by decide) (by decide) (by decide) (mx_lc hmc rfl) (mx_ls hms rfl) dX11_init_1063 (fun q9 => ?_)
  show mj_R (mj_ky κ [(a0, .inr (12, [.int 0, .ref q1, .ref q2, .ref q3, .int 0, .ref q4, .ref q5, .int 0, .ref q6, .int 0, .int 0, .int 0, .int 0, .int 0, .ref q7, .int 0, .int 0, .int 0, .int (-1), .int 0, .ref q8, .int 0, .null])), (q1, .inl ((mj_cI κ).1, 1897, .inl (fun _ => 0))), (q2, .inl ((mj_cI κ).1, 1897, .inl (fun _ => 0))), (q3, .inl ((mj_cI κ).1, 5, .inl (fun _ => 0))), (q4, .inl ((mj_cI κ).1, 95, .inl (mj_pre lst_X11_init_q4 95))), (q5, .inl ((mj_cI κ).1, 60, .inl (fun _ => 0))), (q6, .inl ((mj_cI κ).1, 400, .inl (fun _ => 0))), (q7, .inl ((mj_cI κ).1, 71, .inl (mj_pre lst_X11_init_q7 71))), (q8, .inl ((mj_cI κ).1, 96, .inl (fun _ => 0))), (q9, .inl ((mj_cI κ).1, 1946, .inl (fun _ => 0)))] 9 6467) _ 1065 [some (mj_o (some a0))] [mj_o (some q9), mj_o (some a0)] M
  refine mx_putF (k := 0) (Y' := [(a0, .inr (12, [.int 0, .ref q1, .ref q2, .ref q3, .int 0, .ref q4, .ref q5, .int 0, .ref q6, .int 0, .int 0, .int 0, .int 0, .int 0, .ref q7, .int 0, .int 0, .int 0, .int (-1), .int 0, .ref q8, .int 0, .ref q9])), (q1, .inl ((mj_cI κ).1, 1897, .inl (fun _ => 0))), (q2, .inl ((mj_cI κ).1, 1897, .inl (fun _ => 0))), (q3, .inl ((mj_cI κ).1, 5, .inl (fun _ => 0))), (q4, .inl ((mj_cI κ).1, 95, .inl (mj_pre lst_X11_init_q4 95))), (q5, .inl ((mj_cI κ).1, 60, .inl (fun _ => 0))), (q6, .inl ((mj_cI κ).1, 400, .inl (fun _ => 0))), (q7, .inl ((mj_cI κ).1, 71, .inl (mj_pre lst_X11_init_q7 71))), (q8, .inl ((mj_cI κ).1, 96, .inl (fun _ => 0))), (q9, .inl ((mj_cI κ).1, 1946, .inl (fun _ => 0)))]) C hN lF_X11_38 ⟨_, rfl, rfl⟩ fR_12_22 rfl (fun _ => rfl) rfl rfl (Nat.le_of_ble_eq_true rfl) dX11_init_1065 rfl ?_
  exact mx_vret C hT (Nat.le_of_ble_eq_true rfl) (Nat.le_of_ble_eq_true rfl) dX11_init_1068 ⟨rfl, q1, q2, q3, q4, q5, q6, q7, q8, q9, rfl⟩
