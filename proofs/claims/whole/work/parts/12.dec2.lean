theorem dX0_draw_0 : decode cX0_draw 0 = .ok (.aload_n 0, 1) := by decide +kernel
theorem dX0_draw_1 : decode cX0_draw 1 = .ok (.aload_n 0, 1) := by decide +kernel
theorem dX0_draw_2 : decode cX0_draw 2 = .ok (.getfield 15, 3) := by decide +kernel
theorem dX0_draw_5 : decode cX0_draw 5 = .ok (.ldc 30, 2) := by decide +kernel
theorem dX0_draw_7 : decode cX0_draw 7 = .ok (.imul, 1) := by decide +kernel
theorem dX0_draw_8 : decode cX0_draw 8 = .ok (.ldc 31, 2) := by decide +kernel
theorem dX0_draw_10 : decode cX0_draw 10 = .ok (.iadd, 1) := by decide +kernel
theorem dX0_draw_11 : decode cX0_draw 11 = .ok (.putfield 15, 3) := by decide +kernel
theorem dX0_draw_14 : decode cX0_draw 14 = .ok (.iload_n 1, 1) := by decide +kernel
theorem dX0_draw_15 : decode cX0_draw 15 = .ok (.ifCond .le 15, 3) := by decide +kernel
theorem dX0_draw_18 : decode cX0_draw 18 = .ok (.aload_n 0, 1) := by decide +kernel
theorem dX0_draw_19 : decode cX0_draw 19 = .ok (.getfield 15, 3) := by decide +kernel
theorem dX0_draw_22 : decode cX0_draw 22 = .ok (.bipush 8, 2) := by decide +kernel
theorem dX0_draw_24 : decode cX0_draw 24 = .ok (.iushr, 1) := by decide +kernel
theorem dX0_draw_25 : decode cX0_draw 25 = .ok (.iload_n 1, 1) := by decide +kernel
theorem dX0_draw_26 : decode cX0_draw 26 = .ok (.irem, 1) := by decide +kernel
theorem dX0_draw_27 : decode cX0_draw 27 = .ok (.goto 4, 3) := by decide +kernel
theorem dX0_draw_30 : decode cX0_draw 30 = .ok (.iconst 0, 1) := by decide +kernel
theorem dX0_draw_31 : decode cX0_draw 31 = .ok (.ireturn, 1) := by decide +kernel
theorem dX0_change_0 : decode cX0_change 0 = .ok (.iload_n 1, 1) := by decide +kernel
theorem dX0_change_1 : decode cX0_change 1 = .ok (.ifCond .lt 9, 3) := by decide +kernel
theorem dX0_change_4 : decode cX0_change 4 = .ok (.iload_n 1, 1) := by decide +kernel
theorem dX0_change_5 : decode cX0_change 5 = .ok (.bipush 11, 2) := by decide +kernel
theorem dX0_change_7 : decode cX0_change 7 = .ok (.if_icmp .lt 5, 3) := by decide +kernel
theorem dX0_change_10 : decode cX0_change 10 = .ok (.iconst 0, 1) := by decide +kernel
theorem dX0_change_11 : decode cX0_change 11 = .ok (.ireturn, 1) := by decide +kernel
theorem dX0_change_12 : decode cX0_change 12 = .ok (.iload_n 2, 1) := by decide +kernel
theorem dX0_change_13 : decode cX0_change 13 = .ok (.getstatic 32, 3) := by decide +kernel
theorem dX0_change_16 : decode cX0_change 16 = .ok (.iload_n 1, 1) := by decide +kernel
theorem dX0_change_17 : decode cX0_change 17 = .ok (.iaload, 1) := by decide +kernel
theorem dX0_change_18 : decode cX0_change 18 = .ok (.getstatic 35, 3) := by decide +kernel
theorem dX0_change_21 : decode cX0_change 21 = .ok (.iload_n 1, 1) := by decide +kernel
theorem dX0_change_22 : decode cX0_change 22 = .ok (.iaload, 1) := by decide +kernel
theorem dX0_change_23 : decode cX0_change 23 = .ok (.invokestatic 38, 3) := by decide +kernel
theorem dX0_change_26 : decode cX0_change 26 = .ok (.ifCond .ne 5, 3) := by decide +kernel
theorem dX0_change_29 : decode cX0_change 29 = .ok (.iconst 0, 1) := by decide +kernel
theorem dX0_change_30 : decode cX0_change 30 = .ok (.ireturn, 1) := by decide +kernel
theorem dX0_change_31 : decode cX0_change 31 = .ok (.iload_n 1, 1) := by decide +kernel
theorem dX0_change_32 : decode cX0_change 32 = .ok (.ifCond .ne 11, 3) := by decide +kernel
theorem dX0_change_35 : decode cX0_change 35 = .ok (.iload_n 2, 1) := by decide +kernel
theorem dX0_change_36 : decode cX0_change 36 = .ok (.iconst 2, 1) := by decide +kernel
theorem dX0_change_37 : decode cX0_change 37 = .ok (.irem, 1) := by decide +kernel
theorem dX0_change_38 : decode cX0_change 38 = .ok (.ifCond .eq 5, 3) := by decide +kernel
theorem dX0_change_41 : decode cX0_change 41 = .ok (.iconst 0, 1) := by decide +kernel
theorem dX0_change_42 : decode cX0_change 42 = .ok (.ireturn, 1) := by decide +kernel
theorem dX0_change_43 : decode cX0_change 43 = .ok (.iload_n 1, 1) := by decide +kernel
theorem dX0_change_44 : decode cX0_change 44 = .ok (.bipush 8, 2) := by decide +kernel
theorem dX0_change_46 : decode cX0_change 46 = .ok (.if_icmp .ne 19, 3) := by decide +kernel
theorem dX0_change_49 : decode cX0_change 49 = .ok (.iload_n 2, 1) := by decide +kernel
theorem dX0_change_50 : decode cX0_change 50 = .ok (.aload_n 0, 1) := by decide +kernel
theorem dX0_change_51 : decode cX0_change 51 = .ok (.getfield 27, 3) := by decide +kernel
theorem dX0_change_54 : decode cX0_change 54 = .ok (.bipush 9, 2) := by decide +kernel
theorem dX0_change_56 : decode cX0_change 56 = .ok (.iaload, 1) := by decide +kernel
theorem dX0_change_57 : decode cX0_change 57 = .ok (.iadd, 1) := by decide +kernel
theorem dX0_change_58 : decode cX0_change 58 = .ok (.bipush 90, 2) := by decide +kernel
theorem dX0_change_60 : decode cX0_change 60 = .ok (.if_icmp .le 5, 3) := by decide +kernel
theorem dX0_change_63 : decode cX0_change 63 = .ok (.iconst 0, 1) := by decide +kernel
theorem dX0_change_64 : decode cX0_change 64 = .ok (.ireturn, 1) := by decide +kernel
theorem dX0_change_65 : decode cX0_change 65 = .ok (.iload_n 1, 1) := by decide +kernel
theorem dX0_change_66 : decode cX0_change 66 = .ok (.bipush 9, 2) := by decide +kernel
theorem dX0_change_68 : decode cX0_change 68 = .ok (.if_icmp .ne 19, 3) := by decide +kernel
theorem dX0_change_71 : decode cX0_change 71 = .ok (.iload_n 2, 1) := by decide +kernel
theorem dX0_change_72 : decode cX0_change 72 = .ok (.aload_n 0, 1) := by decide +kernel
theorem dX0_change_73 : decode cX0_change 73 = .ok (.getfield 27, 3) := by decide +kernel
theorem dX0_change_76 : decode cX0_change 76 = .ok (.bipush 8, 2) := by decide +kernel
theorem dX0_change_78 : decode cX0_change 78 = .ok (.iaload, 1) := by decide +kernel
theorem dX0_change_79 : decode cX0_change 79 = .ok (.iadd, 1) := by decide +kernel
theorem dX0_change_80 : decode cX0_change 80 = .ok (.bipush 90, 2) := by decide +kernel
theorem dX0_change_82 : decode cX0_change 82 = .ok (.if_icmp .le 5, 3) := by decide +kernel
theorem dX0_change_85 : decode cX0_change 85 = .ok (.iconst 0, 1) := by decide +kernel
theorem dX0_change_86 : decode cX0_change 86 = .ok (.ireturn, 1) := by decide +kernel
theorem dX0_change_87 : decode cX0_change 87 = .ok (.aload_n 0, 1) := by decide +kernel
theorem dX0_change_88 : decode cX0_change 88 = .ok (.getfield 27, 3) := by decide +kernel
theorem dX0_change_91 : decode cX0_change 91 = .ok (.iload_n 1, 1) := by decide +kernel
theorem dX0_change_92 : decode cX0_change 92 = .ok (.iload_n 2, 1) := by decide +kernel
theorem dX0_change_93 : decode cX0_change 93 = .ok (.iastore, 1) := by decide +kernel
theorem dX0_change_94 : decode cX0_change 94 = .ok (.iconst 1, 1) := by decide +kernel
theorem dX0_change_95 : decode cX0_change 95 = .ok (.ireturn, 1) := by decide +kernel
theorem dX0_freeOfHurt_0 : decode cX0_freeOfHurt 0 = .ok (.aload_n 0, 1) := by decide +kernel
theorem dX0_freeOfHurt_1 : decode cX0_freeOfHurt 1 = .ok (.getfield 27, 3) := by decide +kernel
theorem dX0_freeOfHurt_4 : decode cX0_freeOfHurt 4 = .ok (.bipush 8, 2) := by decide +kernel
theorem dX0_freeOfHurt_6 : decode cX0_freeOfHurt 6 = .ok (.iconst 0, 1) := by decide +kernel
theorem dX0_freeOfHurt_7 : decode cX0_freeOfHurt 7 = .ok (.iastore, 1) := by decide +kernel
theorem dX0_freeOfHurt_8 : decode cX0_freeOfHurt 8 = .ok (.aload_n 0, 1) := by decide +kernel
theorem dX0_freeOfHurt_9 : decode cX0_freeOfHurt 9 = .ok (.getfield 27, 3) := by decide +kernel
theorem dX0_freeOfHurt_12 : decode cX0_freeOfHurt 12 = .ok (.bipush 9, 2) := by decide +kernel
theorem dX0_freeOfHurt_14 : decode cX0_freeOfHurt 14 = .ok (.iconst 0, 1) := by decide +kernel
theorem dX0_freeOfHurt_15 : decode cX0_freeOfHurt 15 = .ok (.iastore, 1) := by decide +kernel
theorem dX0_freeOfHurt_16 : decode cX0_freeOfHurt 16 = .ok (.return_, 1) := by decide +kernel
theorem dX0_isReportTime_0 : decode cX0_isReportTime 0 = .ok (.aload_n 0, 1) := by decide +kernel
theorem dX0_isReportTime_1 : decode cX0_isReportTime 1 = .ok (.getfield 27, 3) := by decide +kernel
theorem dX0_isReportTime_4 : decode cX0_isReportTime 4 = .ok (.bipush 10, 2) := by decide +kernel
theorem dX0_isReportTime_6 : decode cX0_isReportTime 6 = .ok (.iaload, 1) := by decide +kernel
theorem dX0_isReportTime_7 : decode cX0_isReportTime 7 = .ok (.istore_n 1, 1) := by decide +kernel
theorem dX0_isReportTime_8 : decode cX0_isReportTime 8 = .ok (.iload_n 1, 1) := by decide +kernel
theorem dX0_isReportTime_9 : decode cX0_isReportTime 9 = .ok (.ifCond .le 16, 3) := by decide +kernel
theorem dX0_isReportTime_12 : decode cX0_isReportTime 12 = .ok (.aload_n 0, 1) := by decide +kernel
theorem dX0_isReportTime_13 : decode cX0_isReportTime 13 = .ok (.getfield 9, 3) := by decide +kernel
theorem dX0_isReportTime_16 : decode cX0_isReportTime 16 = .ok (.iload_n 1, 1) := by decide +kernel
theorem dX0_isReportTime_17 : decode cX0_isReportTime 17 = .ok (.irem, 1) := by decide +kernel
theorem dX0_isReportTime_18 : decode cX0_isReportTime 18 = .ok (.ifCond .ne 7, 3) := by decide +kernel
theorem dX0_isReportTime_21 : decode cX0_isReportTime 21 = .ok (.iconst 1, 1) := by decide +kernel
theorem dX0_isReportTime_22 : decode cX0_isReportTime 22 = .ok (.goto 4, 3) := by decide +kernel
theorem dX0_isReportTime_25 : decode cX0_isReportTime 25 = .ok (.iconst 0, 1) := by decide +kernel
theorem dX0_isReportTime_26 : decode cX0_isReportTime 26 = .ok (.ireturn, 1) := by decide +kernel
theorem dX0_copyFrom_0 : decode cX0_copyFrom 0 = .ok (.aload_n 0, 1) := by decide +kernel
theorem dX0_copyFrom_1 : decode cX0_copyFrom 1 = .ok (.aload_n 1, 1) := by decide +kernel
theorem dX0_copyFrom_2 : decode cX0_copyFrom 2 = .ok (.getfield 9, 3) := by decide +kernel
theorem dX0_copyFrom_5 : decode cX0_copyFrom 5 = .ok (.putfield 9, 3) := by decide +kernel
theorem dX0_copyFrom_8 : decode cX0_copyFrom 8 = .ok (.aload_n 0, 1) := by decide +kernel
theorem dX0_copyFrom_9 : decode cX0_copyFrom 9 = .ok (.aload_n 1, 1) := by decide +kernel
theorem dX0_copyFrom_10 : decode cX0_copyFrom 10 = .ok (.getfield 15, 3) := by decide +kernel
theorem dX0_copyFrom_13 : decode cX0_copyFrom 13 = .ok (.putfield 15, 3) := by decide +kernel
theorem dX0_copyFrom_16 : decode cX0_copyFrom 16 = .ok (.aload_n 1, 1) := by decide +kernel
theorem dX0_copyFrom_17 : decode cX0_copyFrom 17 = .ok (.getfield 27, 3) := by decide +kernel
theorem dX0_copyFrom_20 : decode cX0_copyFrom 20 = .ok (.iconst 0, 1) := by decide +kernel
theorem dX0_copyFrom_21 : decode cX0_copyFrom 21 = .ok (.aload_n 0, 1) := by decide +kernel
theorem dX0_copyFrom_22 : decode cX0_copyFrom 22 = .ok (.getfield 27, 3) := by decide +kernel
theorem dX0_copyFrom_25 : decode cX0_copyFrom 25 = .ok (.iconst 0, 1) := by decide +kernel
theorem dX0_copyFrom_26 : decode cX0_copyFrom 26 = .ok (.bipush 11, 2) := by decide +kernel
theorem dX0_copyFrom_28 : decode cX0_copyFrom 28 = .ok (.invokestatic 42, 3) := by decide +kernel
theorem dX0_copyFrom_31 : decode cX0_copyFrom 31 = .ok (.return_, 1) := by decide +kernel
theorem dX1_change_0 : decode cX1_change 0 = .ok (.iload_n 1, 1) := by decide +kernel
theorem dX1_change_1 : decode cX1_change 1 = .ok (.iload_n 2, 1) := by decide +kernel
theorem dX1_change_2 : decode cX1_change 2 = .ok (.if_icmp .eq 60, 3) := by decide +kernel
theorem dX1_change_5 : decode cX1_change 5 = .ok (.aload_n 0, 1) := by decide +kernel
theorem dX1_change_6 : decode cX1_change 6 = .ok (.getfield 15, 3) := by decide +kernel
theorem dX1_change_9 : decode cX1_change 9 = .ok (.bipush 80, 2) := by decide +kernel
theorem dX1_change_11 : decode cX1_change 11 = .ok (.if_icmp .ge 51, 3) := by decide +kernel
theorem dX1_change_14 : decode cX1_change 14 = .ok (.aload_n 0, 1) := by decide +kernel
theorem dX1_change_15 : decode cX1_change 15 = .ok (.getfield 15, 3) := by decide +kernel
theorem dX1_change_18 : decode cX1_change 18 = .ok (.iconst 3, 1) := by decide +kernel
theorem dX1_change_19 : decode cX1_change 19 = .ok (.imul, 1) := by decide +kernel
theorem dX1_change_20 : decode cX1_change 20 = .ok (.istore_n 3, 1) := by decide +kernel
theorem dX1_change_21 : decode cX1_change 21 = .ok (.aload_n 0, 1) := by decide +kernel
theorem dX1_change_22 : decode cX1_change 22 = .ok (.getfield 11, 3) := by decide +kernel
theorem dX1_change_25 : decode cX1_change 25 = .ok (.iload_n 3, 1) := by decide +kernel
theorem dX1_change_26 : decode cX1_change 26 = .ok (.aload_n 0, 1) := by decide +kernel
theorem dX1_change_27 : decode cX1_change 27 = .ok (.getfield 31, 3) := by decide +kernel
theorem dX1_change_30 : decode cX1_change 30 = .ok (.getfield 35, 3) := by decide +kernel
theorem dX1_change_33 : decode cX1_change 33 = .ok (.iastore, 1) := by decide +kernel
theorem dX1_change_34 : decode cX1_change 34 = .ok (.aload_n 0, 1) := by decide +kernel
theorem dX1_change_35 : decode cX1_change 35 = .ok (.getfield 11, 3) := by decide +kernel
theorem dX1_change_38 : decode cX1_change 38 = .ok (.iload_n 3, 1) := by decide +kernel
theorem dX1_change_39 : decode cX1_change 39 = .ok (.iconst 1, 1) := by decide +kernel
theorem dX1_change_40 : decode cX1_change 40 = .ok (.iadd, 1) := by decide +kernel
theorem dX1_change_41 : decode cX1_change 41 = .ok (.iload_n 1, 1) := by decide +kernel
theorem dX1_change_42 : decode cX1_change 42 = .ok (.iastore, 1) := by decide +kernel
theorem dX1_change_43 : decode cX1_change 43 = .ok (.aload_n 0, 1) := by decide +kernel
theorem dX1_change_44 : decode cX1_change 44 = .ok (.getfield 11, 3) := by decide +kernel
theorem dX1_change_47 : decode cX1_change 47 = .ok (.iload_n 3, 1) := by decide +kernel
theorem dX1_change_48 : decode cX1_change 48 = .ok (.iconst 2, 1) := by decide +kernel
theorem dX1_change_49 : decode cX1_change 49 = .ok (.iadd, 1) := by decide +kernel
theorem dX1_change_50 : decode cX1_change 50 = .ok (.iload_n 2, 1) := by decide +kernel
theorem dX1_change_51 : decode cX1_change 51 = .ok (.iastore, 1) := by decide +kernel
theorem dX1_change_52 : decode cX1_change 52 = .ok (.aload_n 0, 1) := by decide +kernel
theorem dX1_change_53 : decode cX1_change 53 = .ok (.dup, 1) := by decide +kernel
theorem dX1_change_54 : decode cX1_change 54 = .ok (.getfield 15, 3) := by decide +kernel
theorem dX1_change_57 : decode cX1_change 57 = .ok (.iconst 1, 1) := by decide +kernel
theorem dX1_change_58 : decode cX1_change 58 = .ok (.iadd, 1) := by decide +kernel
theorem dX1_change_59 : decode cX1_change 59 = .ok (.putfield 15, 3) := by decide +kernel
theorem dX1_change_62 : decode cX1_change 62 = .ok (.iload_n 2, 1) := by decide +kernel
theorem dX1_change_63 : decode cX1_change 63 = .ok (.ireturn, 1) := by decide +kernel
theorem dX1_cell_0 : decode cX1_cell 0 = .ok (.iload_n 1, 1) := by decide +kernel
theorem dX1_cell_1 : decode cX1_cell 1 = .ok (.ifCond .lt 26, 3) := by decide +kernel
theorem dX1_cell_4 : decode cX1_cell 4 = .ok (.iload_n 1, 1) := by decide +kernel
theorem dX1_cell_5 : decode cX1_cell 5 = .ok (.aload_n 0, 1) := by decide +kernel
theorem dX1_cell_6 : decode cX1_cell 6 = .ok (.getfield 15, 3) := by decide +kernel
theorem dX1_cell_9 : decode cX1_cell 9 = .ok (.if_icmp .ge 18, 3) := by decide +kernel
theorem dX1_cell_12 : decode cX1_cell 12 = .ok (.iload_n 1, 1) := by decide +kernel
theorem dX1_cell_13 : decode cX1_cell 13 = .ok (.bipush 80, 2) := by decide +kernel
theorem dX1_cell_15 : decode cX1_cell 15 = .ok (.if_icmp .ge 12, 3) := by decide +kernel
theorem dX1_cell_18 : decode cX1_cell 18 = .ok (.iload_n 2, 1) := by decide +kernel
theorem dX1_cell_19 : decode cX1_cell 19 = .ok (.ifCond .lt 8, 3) := by decide +kernel
theorem dX1_cell_22 : decode cX1_cell 22 = .ok (.iload_n 2, 1) := by decide +kernel
theorem dX1_cell_23 : decode cX1_cell 23 = .ok (.iconst 3, 1) := by decide +kernel
theorem dX1_cell_24 : decode cX1_cell 24 = .ok (.if_icmp .lt 5, 3) := by decide +kernel
theorem dX1_cell_27 : decode cX1_cell 27 = .ok (.iconst (-1), 1) := by decide +kernel
theorem dX1_cell_28 : decode cX1_cell 28 = .ok (.ireturn, 1) := by decide +kernel
theorem dX1_cell_29 : decode cX1_cell 29 = .ok (.aload_n 0, 1) := by decide +kernel
theorem dX1_cell_30 : decode cX1_cell 30 = .ok (.getfield 11, 3) := by decide +kernel
theorem dX1_cell_33 : decode cX1_cell 33 = .ok (.iload_n 1, 1) := by decide +kernel
theorem dX1_cell_34 : decode cX1_cell 34 = .ok (.iconst 3, 1) := by decide +kernel
theorem dX1_cell_35 : decode cX1_cell 35 = .ok (.imul, 1) := by decide +kernel
theorem dX1_cell_36 : decode cX1_cell 36 = .ok (.iload_n 2, 1) := by decide +kernel
theorem dX1_cell_37 : decode cX1_cell 37 = .ok (.iadd, 1) := by decide +kernel
theorem dX1_cell_38 : decode cX1_cell 38 = .ok (.iaload, 1) := by decide +kernel
theorem dX1_cell_39 : decode cX1_cell 39 = .ok (.ireturn, 1) := by decide +kernel
theorem dX1_noteAlarm_0 : decode cX1_noteAlarm 0 = .ok (.aload_n 0, 1) := by decide +kernel
theorem dX1_noteAlarm_1 : decode cX1_noteAlarm 1 = .ok (.getfield 22, 3) := by decide +kernel
theorem dX1_noteAlarm_4 : decode cX1_noteAlarm 4 = .ok (.bipush 60, 2) := by decide +kernel
theorem dX1_noteAlarm_6 : decode cX1_noteAlarm 6 = .ok (.if_icmp .ge 13, 3) := by decide +kernel
theorem dX1_noteAlarm_9 : decode cX1_noteAlarm 9 = .ok (.aload_n 0, 1) := by decide +kernel
theorem dX1_noteAlarm_10 : decode cX1_noteAlarm 10 = .ok (.getfield 19, 3) := by decide +kernel
theorem dX1_noteAlarm_13 : decode cX1_noteAlarm 13 = .ok (.aload_n 0, 1) := by decide +kernel
theorem dX1_noteAlarm_14 : decode cX1_noteAlarm 14 = .ok (.getfield 22, 3) := by decide +kernel
theorem dX1_noteAlarm_17 : decode cX1_noteAlarm 17 = .ok (.iload_n 1, 1) := by decide +kernel
theorem dX1_noteAlarm_18 : decode cX1_noteAlarm 18 = .ok (.iastore, 1) := by decide +kernel
theorem dX1_noteAlarm_19 : decode cX1_noteAlarm 19 = .ok (.aload_n 0, 1) := by decide +kernel
theorem dX1_noteAlarm_20 : decode cX1_noteAlarm 20 = .ok (.dup, 1) := by decide +kernel
theorem dX1_noteAlarm_21 : decode cX1_noteAlarm 21 = .ok (.getfield 22, 3) := by decide +kernel
theorem dX1_noteAlarm_24 : decode cX1_noteAlarm 24 = .ok (.iconst 1, 1) := by decide +kernel
theorem dX1_noteAlarm_25 : decode cX1_noteAlarm 25 = .ok (.iadd, 1) := by decide +kernel
theorem dX1_noteAlarm_26 : decode cX1_noteAlarm 26 = .ok (.putfield 22, 3) := by decide +kernel
theorem dX1_noteAlarm_29 : decode cX1_noteAlarm 29 = .ok (.aload_n 0, 1) := by decide +kernel
theorem dX1_noteAlarm_30 : decode cX1_noteAlarm 30 = .ok (.iload_n 1, 1) := by decide +kernel
theorem dX1_noteAlarm_31 : decode cX1_noteAlarm 31 = .ok (.putfield 25, 3) := by decide +kernel
theorem dX1_noteAlarm_34 : decode cX1_noteAlarm 34 = .ok (.return_, 1) := by decide +kernel
theorem dX1_alarmAt_0 : decode cX1_alarmAt 0 = .ok (.iload_n 1, 1) := by decide +kernel
theorem dX1_alarmAt_1 : decode cX1_alarmAt 1 = .ok (.ifCond .lt 26, 3) := by decide +kernel
theorem dX1_alarmAt_4 : decode cX1_alarmAt 4 = .ok (.iload_n 1, 1) := by decide +kernel
theorem dX1_alarmAt_5 : decode cX1_alarmAt 5 = .ok (.aload_n 0, 1) := by decide +kernel
theorem dX1_alarmAt_6 : decode cX1_alarmAt 6 = .ok (.getfield 22, 3) := by decide +kernel
theorem dX1_alarmAt_9 : decode cX1_alarmAt 9 = .ok (.if_icmp .ge 18, 3) := by decide +kernel
theorem dX1_alarmAt_12 : decode cX1_alarmAt 12 = .ok (.iload_n 1, 1) := by decide +kernel
theorem dX1_alarmAt_13 : decode cX1_alarmAt 13 = .ok (.bipush 60, 2) := by decide +kernel
theorem dX1_alarmAt_15 : decode cX1_alarmAt 15 = .ok (.if_icmp .ge 12, 3) := by decide +kernel
theorem dX1_alarmAt_18 : decode cX1_alarmAt 18 = .ok (.aload_n 0, 1) := by decide +kernel
theorem dX1_alarmAt_19 : decode cX1_alarmAt 19 = .ok (.getfield 19, 3) := by decide +kernel
theorem dX1_alarmAt_22 : decode cX1_alarmAt 22 = .ok (.iload_n 1, 1) := by decide +kernel
theorem dX1_alarmAt_23 : decode cX1_alarmAt 23 = .ok (.iaload, 1) := by decide +kernel
theorem dX1_alarmAt_24 : decode cX1_alarmAt 24 = .ok (.goto 4, 3) := by decide +kernel
theorem dX1_alarmAt_27 : decode cX1_alarmAt 27 = .ok (.iconst (-1), 1) := by decide +kernel
theorem dX1_alarmAt_28 : decode cX1_alarmAt 28 = .ok (.ireturn, 1) := by decide +kernel
theorem dX1_noteVerdict_0 : decode cX1_noteVerdict 0 = .ok (.iload_n 1, 1) := by decide +kernel
theorem dX1_noteVerdict_1 : decode cX1_noteVerdict 1 = .ok (.ifCond .lt 19, 3) := by decide +kernel
theorem dX1_noteVerdict_4 : decode cX1_noteVerdict 4 = .ok (.iload_n 1, 1) := by decide +kernel
theorem dX1_noteVerdict_5 : decode cX1_noteVerdict 5 = .ok (.bipush 9, 2) := by decide +kernel
theorem dX1_noteVerdict_7 : decode cX1_noteVerdict 7 = .ok (.if_icmp .ge 13, 3) := by decide +kernel
theorem dX1_noteVerdict_10 : decode cX1_noteVerdict 10 = .ok (.aload_n 0, 1) := by decide +kernel
theorem dX1_noteVerdict_11 : decode cX1_noteVerdict 11 = .ok (.getfield 28, 3) := by decide +kernel
theorem dX1_noteVerdict_14 : decode cX1_noteVerdict 14 = .ok (.iload_n 1, 1) := by decide +kernel
theorem dX1_noteVerdict_15 : decode cX1_noteVerdict 15 = .ok (.dup2, 1) := by decide +kernel
theorem dX1_noteVerdict_16 : decode cX1_noteVerdict 16 = .ok (.iaload, 1) := by decide +kernel
theorem dX1_noteVerdict_17 : decode cX1_noteVerdict 17 = .ok (.iconst 1, 1) := by decide +kernel
theorem dX1_noteVerdict_18 : decode cX1_noteVerdict 18 = .ok (.iadd, 1) := by decide +kernel
theorem dX1_noteVerdict_19 : decode cX1_noteVerdict 19 = .ok (.iastore, 1) := by decide +kernel
theorem dX1_noteVerdict_20 : decode cX1_noteVerdict 20 = .ok (.return_, 1) := by decide +kernel
theorem dX1_copyFrom_0 : decode cX1_copyFrom 0 = .ok (.aload_n 0, 1) := by decide +kernel
theorem dX1_copyFrom_1 : decode cX1_copyFrom 1 = .ok (.aload_n 1, 1) := by decide +kernel
theorem dX1_copyFrom_2 : decode cX1_copyFrom 2 = .ok (.getfield 15, 3) := by decide +kernel
theorem dX1_copyFrom_5 : decode cX1_copyFrom 5 = .ok (.putfield 15, 3) := by decide +kernel
theorem dX1_copyFrom_8 : decode cX1_copyFrom 8 = .ok (.aload_n 1, 1) := by decide +kernel
theorem dX1_copyFrom_9 : decode cX1_copyFrom 9 = .ok (.getfield 11, 3) := by decide +kernel
theorem dX1_copyFrom_12 : decode cX1_copyFrom 12 = .ok (.iconst 0, 1) := by decide +kernel
theorem dX1_copyFrom_13 : decode cX1_copyFrom 13 = .ok (.aload_n 0, 1) := by decide +kernel
theorem dX1_copyFrom_14 : decode cX1_copyFrom 14 = .ok (.getfield 11, 3) := by decide +kernel
theorem dX1_copyFrom_17 : decode cX1_copyFrom 17 = .ok (.iconst 0, 1) := by decide +kernel
theorem dX1_copyFrom_18 : decode cX1_copyFrom 18 = .ok (.sipush 240, 3) := by decide +kernel
theorem dX1_copyFrom_21 : decode cX1_copyFrom 21 = .ok (.invokestatic 40, 3) := by decide +kernel
theorem dX1_copyFrom_24 : decode cX1_copyFrom 24 = .ok (.aload_n 1, 1) := by decide +kernel
theorem dX1_copyFrom_25 : decode cX1_copyFrom 25 = .ok (.getfield 19, 3) := by decide +kernel
theorem dX1_copyFrom_28 : decode cX1_copyFrom 28 = .ok (.iconst 0, 1) := by decide +kernel
theorem dX1_copyFrom_29 : decode cX1_copyFrom 29 = .ok (.aload_n 0, 1) := by decide +kernel
theorem dX1_copyFrom_30 : decode cX1_copyFrom 30 = .ok (.getfield 19, 3) := by decide +kernel
theorem dX1_copyFrom_33 : decode cX1_copyFrom 33 = .ok (.iconst 0, 1) := by decide +kernel
theorem dX1_copyFrom_34 : decode cX1_copyFrom 34 = .ok (.bipush 60, 2) := by decide +kernel
theorem dX1_copyFrom_36 : decode cX1_copyFrom 36 = .ok (.invokestatic 40, 3) := by decide +kernel
theorem dX1_copyFrom_39 : decode cX1_copyFrom 39 = .ok (.aload_n 0, 1) := by decide +kernel
theorem dX1_copyFrom_40 : decode cX1_copyFrom 40 = .ok (.aload_n 1, 1) := by decide +kernel
theorem dX1_copyFrom_41 : decode cX1_copyFrom 41 = .ok (.getfield 22, 3) := by decide +kernel
theorem dX1_copyFrom_44 : decode cX1_copyFrom 44 = .ok (.putfield 22, 3) := by decide +kernel
theorem dX1_copyFrom_47 : decode cX1_copyFrom 47 = .ok (.aload_n 0, 1) := by decide +kernel
theorem dX1_copyFrom_48 : decode cX1_copyFrom 48 = .ok (.aload_n 1, 1) := by decide +kernel
theorem dX1_copyFrom_49 : decode cX1_copyFrom 49 = .ok (.getfield 25, 3) := by decide +kernel
theorem dX1_copyFrom_52 : decode cX1_copyFrom 52 = .ok (.putfield 25, 3) := by decide +kernel
theorem dX1_copyFrom_55 : decode cX1_copyFrom 55 = .ok (.aload_n 1, 1) := by decide +kernel
theorem dX1_copyFrom_56 : decode cX1_copyFrom 56 = .ok (.getfield 28, 3) := by decide +kernel
theorem dX1_copyFrom_59 : decode cX1_copyFrom 59 = .ok (.iconst 0, 1) := by decide +kernel
theorem dX1_copyFrom_60 : decode cX1_copyFrom 60 = .ok (.aload_n 0, 1) := by decide +kernel
theorem dX1_copyFrom_61 : decode cX1_copyFrom 61 = .ok (.getfield 28, 3) := by decide +kernel
theorem dX1_copyFrom_64 : decode cX1_copyFrom 64 = .ok (.iconst 0, 1) := by decide +kernel
theorem dX1_copyFrom_65 : decode cX1_copyFrom 65 = .ok (.bipush 9, 2) := by decide +kernel
theorem dX1_copyFrom_67 : decode cX1_copyFrom 67 = .ok (.invokestatic 40, 3) := by decide +kernel
theorem dX1_copyFrom_70 : decode cX1_copyFrom 70 = .ok (.return_, 1) := by decide +kernel
theorem dX2_has_0 : decode cX2_has 0 = .ok (.iload_n 1, 1) := by decide +kernel
theorem dX2_has_1 : decode cX2_has 1 = .ok (.ifCond .lt 21, 3) := by decide +kernel
theorem dX2_has_4 : decode cX2_has 4 = .ok (.iload_n 1, 1) := by decide +kernel
theorem dX2_has_5 : decode cX2_has 5 = .ok (.aload_n 0, 1) := by decide +kernel
theorem dX2_has_6 : decode cX2_has 6 = .ok (.getfield 15, 3) := by decide +kernel
theorem dX2_has_9 : decode cX2_has 9 = .ok (.if_icmp .ge 13, 3) := by decide +kernel
theorem dX2_has_12 : decode cX2_has 12 = .ok (.iload_n 1, 1) := by decide +kernel
theorem dX2_has_13 : decode cX2_has 13 = .ok (.bipush 100, 2) := by decide +kernel
theorem dX2_has_15 : decode cX2_has 15 = .ok (.if_icmp .ge 7, 3) := by decide +kernel
theorem dX2_has_18 : decode cX2_has 18 = .ok (.iconst 1, 1) := by decide +kernel
theorem dX2_has_19 : decode cX2_has 19 = .ok (.goto 4, 3) := by decide +kernel
theorem dX2_has_22 : decode cX2_has 22 = .ok (.iconst 0, 1) := by decide +kernel
theorem dX2_has_23 : decode cX2_has 23 = .ok (.ireturn, 1) := by decide +kernel
theorem dX2_cell_0 : decode cX2_cell 0 = .ok (.aload_n 0, 1) := by decide +kernel
theorem dX2_cell_1 : decode cX2_cell 1 = .ok (.iload_n 1, 1) := by decide +kernel
theorem dX2_cell_2 : decode cX2_cell 2 = .ok (.invokevirtual 32, 3) := by decide +kernel
theorem dX2_cell_5 : decode cX2_cell 5 = .ok (.ifCond .eq 13, 3) := by decide +kernel
theorem dX2_cell_8 : decode cX2_cell 8 = .ok (.iload_n 2, 1) := by decide +kernel
theorem dX2_cell_9 : decode cX2_cell 9 = .ok (.ifCond .lt 9, 3) := by decide +kernel
theorem dX2_cell_12 : decode cX2_cell 12 = .ok (.iload_n 2, 1) := by decide +kernel
theorem dX2_cell_13 : decode cX2_cell 13 = .ok (.bipush 7, 2) := by decide +kernel
theorem dX2_cell_15 : decode cX2_cell 15 = .ok (.if_icmp .lt 5, 3) := by decide +kernel
theorem dX2_cell_18 : decode cX2_cell 18 = .ok (.iconst (-1), 1) := by decide +kernel
theorem dX2_cell_19 : decode cX2_cell 19 = .ok (.ireturn, 1) := by decide +kernel
theorem dX2_cell_20 : decode cX2_cell 20 = .ok (.aload_n 0, 1) := by decide +kernel
theorem dX2_cell_21 : decode cX2_cell 21 = .ok (.getfield 11, 3) := by decide +kernel
theorem dX2_cell_24 : decode cX2_cell 24 = .ok (.iload_n 1, 1) := by decide +kernel
theorem dX2_cell_25 : decode cX2_cell 25 = .ok (.bipush 7, 2) := by decide +kernel
theorem dX2_cell_27 : decode cX2_cell 27 = .ok (.imul, 1) := by decide +kernel
theorem dX2_cell_28 : decode cX2_cell 28 = .ok (.iload_n 2, 1) := by decide +kernel
theorem dX2_cell_29 : decode cX2_cell 29 = .ok (.iadd, 1) := by decide +kernel
theorem dX2_cell_30 : decode cX2_cell 30 = .ok (.iaload, 1) := by decide +kernel
theorem dX2_cell_31 : decode cX2_cell 31 = .ok (.ireturn, 1) := by decide +kernel
theorem dX2_open_0 : decode cX2_open 0 = .ok (.aload_n 0, 1) := by decide +kernel
theorem dX2_open_1 : decode cX2_open 1 = .ok (.dup, 1) := by decide +kernel
theorem dX2_open_2 : decode cX2_open 2 = .ok (.getfield 25, 3) := by decide +kernel
theorem dX2_open_5 : decode cX2_open 5 = .ok (.iconst 1, 1) := by decide +kernel
theorem dX2_open_6 : decode cX2_open 6 = .ok (.iadd, 1) := by decide +kernel
theorem dX2_open_7 : decode cX2_open 7 = .ok (.putfield 25, 3) := by decide +kernel
theorem dX2_open_10 : decode cX2_open 10 = .ok (.aload_n 0, 1) := by decide +kernel
theorem dX2_open_11 : decode cX2_open 11 = .ok (.getfield 15, 3) := by decide +kernel
theorem dX2_open_14 : decode cX2_open 14 = .ok (.bipush 100, 2) := by decide +kernel
theorem dX2_open_16 : decode cX2_open 16 = .ok (.if_icmp .lt 5, 3) := by decide +kernel
theorem dX2_open_19 : decode cX2_open 19 = .ok (.iconst (-1), 1) := by decide +kernel
theorem dX2_open_20 : decode cX2_open 20 = .ok (.ireturn, 1) := by decide +kernel
theorem dX2_open_21 : decode cX2_open 21 = .ok (.aload_n 0, 1) := by decide +kernel
theorem dX2_open_22 : decode cX2_open 22 = .ok (.getfield 15, 3) := by decide +kernel
theorem dX2_open_25 : decode cX2_open 25 = .ok (.bipush 7, 2) := by decide +kernel
theorem dX2_open_27 : decode cX2_open 27 = .ok (.imul, 1) := by decide +kernel
theorem dX2_open_28 : decode cX2_open 28 = .ok (.istore_n 2, 1) := by decide +kernel
theorem dX2_open_29 : decode cX2_open 29 = .ok (.aload_n 0, 1) := by decide +kernel
theorem dX2_open_30 : decode cX2_open 30 = .ok (.getfield 11, 3) := by decide +kernel
theorem dX2_open_33 : decode cX2_open 33 = .ok (.iload_n 2, 1) := by decide +kernel
theorem dX2_open_34 : decode cX2_open 34 = .ok (.iconst 0, 1) := by decide +kernel
theorem dX2_open_35 : decode cX2_open 35 = .ok (.iadd, 1) := by decide +kernel
theorem dX2_open_36 : decode cX2_open 36 = .ok (.iload_n 1, 1) := by decide +kernel
theorem dX2_open_37 : decode cX2_open 37 = .ok (.iastore, 1) := by decide +kernel
theorem dX2_open_38 : decode cX2_open 38 = .ok (.aload_n 0, 1) := by decide +kernel
theorem dX2_open_39 : decode cX2_open 39 = .ok (.getfield 11, 3) := by decide +kernel
theorem dX2_open_42 : decode cX2_open 42 = .ok (.iload_n 2, 1) := by decide +kernel
theorem dX2_open_43 : decode cX2_open 43 = .ok (.iconst 1, 1) := by decide +kernel
theorem dX2_open_44 : decode cX2_open 44 = .ok (.iadd, 1) := by decide +kernel
theorem dX2_open_45 : decode cX2_open 45 = .ok (.aload_n 0, 1) := by decide +kernel
theorem dX2_open_46 : decode cX2_open 46 = .ok (.getfield 28, 3) := by decide +kernel
theorem dX2_open_49 : decode cX2_open 49 = .ok (.getfield 36, 3) := by decide +kernel
theorem dX2_open_52 : decode cX2_open 52 = .ok (.iastore, 1) := by decide +kernel
theorem dX2_open_53 : decode cX2_open 53 = .ok (.aload_n 0, 1) := by decide +kernel
theorem dX2_open_54 : decode cX2_open 54 = .ok (.getfield 11, 3) := by decide +kernel
theorem dX2_open_57 : decode cX2_open 57 = .ok (.iload_n 2, 1) := by decide +kernel
theorem dX2_open_58 : decode cX2_open 58 = .ok (.iconst 2, 1) := by decide +kernel
theorem dX2_open_59 : decode cX2_open 59 = .ok (.iadd, 1) := by decide +kernel
theorem dX2_open_60 : decode cX2_open 60 = .ok (.iconst 0, 1) := by decide +kernel
theorem dX2_open_61 : decode cX2_open 61 = .ok (.iastore, 1) := by decide +kernel
theorem dX2_open_62 : decode cX2_open 62 = .ok (.aload_n 0, 1) := by decide +kernel
theorem dX2_open_63 : decode cX2_open 63 = .ok (.getfield 11, 3) := by decide +kernel
theorem dX2_open_66 : decode cX2_open 66 = .ok (.iload_n 2, 1) := by decide +kernel
theorem dX2_open_67 : decode cX2_open 67 = .ok (.iconst 3, 1) := by decide +kernel
theorem dX2_open_68 : decode cX2_open 68 = .ok (.iadd, 1) := by decide +kernel
theorem dX2_open_69 : decode cX2_open 69 = .ok (.iconst (-1), 1) := by decide +kernel
theorem dX2_open_70 : decode cX2_open 70 = .ok (.iastore, 1) := by decide +kernel
theorem dX2_open_71 : decode cX2_open 71 = .ok (.aload_n 0, 1) := by decide +kernel
theorem dX2_open_72 : decode cX2_open 72 = .ok (.getfield 11, 3) := by decide +kernel
theorem dX2_open_75 : decode cX2_open 75 = .ok (.iload_n 2, 1) := by decide +kernel
theorem dX2_open_76 : decode cX2_open 76 = .ok (.iconst 4, 1) := by decide +kernel
theorem dX2_open_77 : decode cX2_open 77 = .ok (.iadd, 1) := by decide +kernel
theorem dX2_open_78 : decode cX2_open 78 = .ok (.iconst 0, 1) := by decide +kernel
theorem dX2_open_79 : decode cX2_open 79 = .ok (.iastore, 1) := by decide +kernel
theorem dX2_open_80 : decode cX2_open 80 = .ok (.aload_n 0, 1) := by decide +kernel
theorem dX2_open_81 : decode cX2_open 81 = .ok (.getfield 11, 3) := by decide +kernel
theorem dX2_open_84 : decode cX2_open 84 = .ok (.iload_n 2, 1) := by decide +kernel
theorem dX2_open_85 : decode cX2_open 85 = .ok (.iconst 5, 1) := by decide +kernel
theorem dX2_open_86 : decode cX2_open 86 = .ok (.iadd, 1) := by decide +kernel
theorem dX2_open_87 : decode cX2_open 87 = .ok (.iconst (-1), 1) := by decide +kernel
theorem dX2_open_88 : decode cX2_open 88 = .ok (.iastore, 1) := by decide +kernel
theorem dX2_open_89 : decode cX2_open 89 = .ok (.aload_n 0, 1) := by decide +kernel
theorem dX2_open_90 : decode cX2_open 90 = .ok (.getfield 11, 3) := by decide +kernel
theorem dX2_open_93 : decode cX2_open 93 = .ok (.iload_n 2, 1) := by decide +kernel
theorem dX2_open_94 : decode cX2_open 94 = .ok (.bipush 6, 2) := by decide +kernel
theorem dX2_open_96 : decode cX2_open 96 = .ok (.iadd, 1) := by decide +kernel
theorem dX2_open_97 : decode cX2_open 97 = .ok (.iconst 0, 1) := by decide +kernel
theorem dX2_open_98 : decode cX2_open 98 = .ok (.iastore, 1) := by decide +kernel
theorem dX2_open_99 : decode cX2_open 99 = .ok (.aload_n 0, 1) := by decide +kernel
theorem dX2_open_100 : decode cX2_open 100 = .ok (.dup, 1) := by decide +kernel
theorem dX2_open_101 : decode cX2_open 101 = .ok (.getfield 15, 3) := by decide +kernel
theorem dX2_open_104 : decode cX2_open 104 = .ok (.iconst 1, 1) := by decide +kernel
theorem dX2_open_105 : decode cX2_open 105 = .ok (.iadd, 1) := by decide +kernel
theorem dX2_open_106 : decode cX2_open 106 = .ok (.putfield 15, 3) := by decide +kernel
theorem dX2_open_109 : decode cX2_open 109 = .ok (.aload_n 0, 1) := by decide +kernel
theorem dX2_open_110 : decode cX2_open 110 = .ok (.getfield 15, 3) := by decide +kernel
theorem dX2_open_113 : decode cX2_open 113 = .ok (.iconst 1, 1) := by decide +kernel
theorem dX2_open_114 : decode cX2_open 114 = .ok (.isub, 1) := by decide +kernel
theorem dX2_open_115 : decode cX2_open 115 = .ok (.ireturn, 1) := by decide +kernel
theorem dX2_noteWent_0 : decode cX2_noteWent 0 = .ok (.aload_n 0, 1) := by decide +kernel
theorem dX2_noteWent_1 : decode cX2_noteWent 1 = .ok (.iload_n 1, 1) := by decide +kernel
theorem dX2_noteWent_2 : decode cX2_noteWent 2 = .ok (.invokevirtual 32, 3) := by decide +kernel
theorem dX2_noteWent_5 : decode cX2_noteWent 5 = .ok (.ifCond .ne 4, 3) := by decide +kernel
theorem dX2_noteWent_8 : decode cX2_noteWent 8 = .ok (.return_, 1) := by decide +kernel
theorem dX2_noteWent_9 : decode cX2_noteWent 9 = .ok (.iload_n 1, 1) := by decide +kernel
theorem dX2_noteWent_10 : decode cX2_noteWent 10 = .ok (.bipush 7, 2) := by decide +kernel
theorem dX2_noteWent_12 : decode cX2_noteWent 12 = .ok (.imul, 1) := by decide +kernel
theorem dX2_noteWent_13 : decode cX2_noteWent 13 = .ok (.istore_n 2, 1) := by decide +kernel
theorem dX2_noteWent_14 : decode cX2_noteWent 14 = .ok (.aload_n 0, 1) := by decide +kernel
theorem dX2_noteWent_15 : decode cX2_noteWent 15 = .ok (.getfield 11, 3) := by decide +kernel
theorem dX2_noteWent_18 : decode cX2_noteWent 18 = .ok (.iload_n 2, 1) := by decide +kernel
theorem dX2_noteWent_19 : decode cX2_noteWent 19 = .ok (.iconst 2, 1) := by decide +kernel
theorem dX2_noteWent_20 : decode cX2_noteWent 20 = .ok (.iadd, 1) := by decide +kernel
theorem dX2_noteWent_21 : decode cX2_noteWent 21 = .ok (.iaload, 1) := by decide +kernel
theorem dX2_noteWent_22 : decode cX2_noteWent 22 = .ok (.ifCond .ne 18, 3) := by decide +kernel
theorem dX2_noteWent_25 : decode cX2_noteWent 25 = .ok (.aload_n 0, 1) := by decide +kernel
theorem dX2_noteWent_26 : decode cX2_noteWent 26 = .ok (.getfield 11, 3) := by decide +kernel
theorem dX2_noteWent_29 : decode cX2_noteWent 29 = .ok (.iload_n 2, 1) := by decide +kernel
theorem dX2_noteWent_30 : decode cX2_noteWent 30 = .ok (.iconst 3, 1) := by decide +kernel
theorem dX2_noteWent_31 : decode cX2_noteWent 31 = .ok (.iadd, 1) := by decide +kernel
theorem dX2_noteWent_32 : decode cX2_noteWent 32 = .ok (.aload_n 0, 1) := by decide +kernel
theorem dX2_noteWent_33 : decode cX2_noteWent 33 = .ok (.getfield 28, 3) := by decide +kernel
theorem dX2_noteWent_36 : decode cX2_noteWent 36 = .ok (.getfield 36, 3) := by decide +kernel
theorem dX2_noteWent_39 : decode cX2_noteWent 39 = .ok (.iastore, 1) := by decide +kernel
theorem dX2_noteWent_40 : decode cX2_noteWent 40 = .ok (.aload_n 0, 1) := by decide +kernel
theorem dX2_noteWent_41 : decode cX2_noteWent 41 = .ok (.getfield 11, 3) := by decide +kernel
theorem dX2_noteWent_44 : decode cX2_noteWent 44 = .ok (.iload_n 2, 1) := by decide +kernel
theorem dX2_noteWent_45 : decode cX2_noteWent 45 = .ok (.iconst 2, 1) := by decide +kernel
theorem dX2_noteWent_46 : decode cX2_noteWent 46 = .ok (.iadd, 1) := by decide +kernel
theorem dX2_noteWent_47 : decode cX2_noteWent 47 = .ok (.dup2, 1) := by decide +kernel
theorem dX2_noteWent_48 : decode cX2_noteWent 48 = .ok (.iaload, 1) := by decide +kernel
theorem dX2_noteWent_49 : decode cX2_noteWent 49 = .ok (.iconst 1, 1) := by decide +kernel
theorem dX2_noteWent_50 : decode cX2_noteWent 50 = .ok (.iadd, 1) := by decide +kernel
theorem dX2_noteWent_51 : decode cX2_noteWent 51 = .ok (.iastore, 1) := by decide +kernel
theorem dX2_noteWent_52 : decode cX2_noteWent 52 = .ok (.aload_n 0, 1) := by decide +kernel
theorem dX2_noteWent_53 : decode cX2_noteWent 53 = .ok (.getfield 11, 3) := by decide +kernel
theorem dX2_noteWent_56 : decode cX2_noteWent 56 = .ok (.iload_n 2, 1) := by decide +kernel
theorem dX2_noteWent_57 : decode cX2_noteWent 57 = .ok (.bipush 6, 2) := by decide +kernel
theorem dX2_noteWent_59 : decode cX2_noteWent 59 = .ok (.iadd, 1) := by decide +kernel
theorem dX2_noteWent_60 : decode cX2_noteWent 60 = .ok (.iconst 1, 1) := by decide +kernel
theorem dX2_noteWent_61 : decode cX2_noteWent 61 = .ok (.iastore, 1) := by decide +kernel
theorem dX2_noteWent_62 : decode cX2_noteWent 62 = .ok (.return_, 1) := by decide +kernel
theorem dX2_noteTakenIn_0 : decode cX2_noteTakenIn 0 = .ok (.aload_n 0, 1) := by decide +kernel
theorem dX2_noteTakenIn_1 : decode cX2_noteTakenIn 1 = .ok (.iload_n 1, 1) := by decide +kernel
theorem dX2_noteTakenIn_2 : decode cX2_noteTakenIn 2 = .ok (.invokevirtual 32, 3) := by decide +kernel
theorem dX2_noteTakenIn_5 : decode cX2_noteTakenIn 5 = .ok (.ifCond .ne 4, 3) := by decide +kernel
theorem dX2_noteTakenIn_8 : decode cX2_noteTakenIn 8 = .ok (.return_, 1) := by decide +kernel
theorem dX2_noteTakenIn_9 : decode cX2_noteTakenIn 9 = .ok (.iload_n 1, 1) := by decide +kernel
theorem dX2_noteTakenIn_10 : decode cX2_noteTakenIn 10 = .ok (.bipush 7, 2) := by decide +kernel
theorem dX2_noteTakenIn_12 : decode cX2_noteTakenIn 12 = .ok (.imul, 1) := by decide +kernel
theorem dX2_noteTakenIn_13 : decode cX2_noteTakenIn 13 = .ok (.istore_n 2, 1) := by decide +kernel
theorem dX2_noteTakenIn_14 : decode cX2_noteTakenIn 14 = .ok (.aload_n 0, 1) := by decide +kernel
theorem dX2_noteTakenIn_15 : decode cX2_noteTakenIn 15 = .ok (.getfield 11, 3) := by decide +kernel
theorem dX2_noteTakenIn_18 : decode cX2_noteTakenIn 18 = .ok (.iload_n 2, 1) := by decide +kernel
theorem dX2_noteTakenIn_19 : decode cX2_noteTakenIn 19 = .ok (.iconst 4, 1) := by decide +kernel
theorem dX2_noteTakenIn_20 : decode cX2_noteTakenIn 20 = .ok (.iadd, 1) := by decide +kernel
theorem dX2_noteTakenIn_21 : decode cX2_noteTakenIn 21 = .ok (.iaload, 1) := by decide +kernel
theorem dX2_noteTakenIn_22 : decode cX2_noteTakenIn 22 = .ok (.ifCond .ne 38, 3) := by decide +kernel
theorem dX2_noteTakenIn_25 : decode cX2_noteTakenIn 25 = .ok (.aload_n 0, 1) := by decide +kernel
theorem dX2_noteTakenIn_26 : decode cX2_noteTakenIn 26 = .ok (.getfield 11, 3) := by decide +kernel
theorem dX2_noteTakenIn_29 : decode cX2_noteTakenIn 29 = .ok (.iload_n 2, 1) := by decide +kernel
theorem dX2_noteTakenIn_30 : decode cX2_noteTakenIn 30 = .ok (.iconst 5, 1) := by decide +kernel
theorem dX2_noteTakenIn_31 : decode cX2_noteTakenIn 31 = .ok (.iadd, 1) := by decide +kernel
theorem dX2_noteTakenIn_32 : decode cX2_noteTakenIn 32 = .ok (.aload_n 0, 1) := by decide +kernel
theorem dX2_noteTakenIn_33 : decode cX2_noteTakenIn 33 = .ok (.getfield 28, 3) := by decide +kernel
theorem dX2_noteTakenIn_36 : decode cX2_noteTakenIn 36 = .ok (.getfield 36, 3) := by decide +kernel
theorem dX2_noteTakenIn_39 : decode cX2_noteTakenIn 39 = .ok (.iastore, 1) := by decide +kernel
theorem dX2_noteTakenIn_40 : decode cX2_noteTakenIn 40 = .ok (.aload_n 0, 1) := by decide +kernel
theorem dX2_noteTakenIn_41 : decode cX2_noteTakenIn 41 = .ok (.getfield 19, 3) := by decide +kernel
theorem dX2_noteTakenIn_44 : decode cX2_noteTakenIn 44 = .ok (.iload_n 1, 1) := by decide +kernel
theorem dX2_noteTakenIn_45 : decode cX2_noteTakenIn 45 = .ok (.aload_n 0, 1) := by decide +kernel
theorem dX2_noteTakenIn_46 : decode cX2_noteTakenIn 46 = .ok (.getfield 22, 3) := by decide +kernel
theorem dX2_noteTakenIn_49 : decode cX2_noteTakenIn 49 = .ok (.iastore, 1) := by decide +kernel
theorem dX2_noteTakenIn_50 : decode cX2_noteTakenIn 50 = .ok (.aload_n 0, 1) := by decide +kernel
theorem dX2_noteTakenIn_51 : decode cX2_noteTakenIn 51 = .ok (.dup, 1) := by decide +kernel
theorem dX2_noteTakenIn_52 : decode cX2_noteTakenIn 52 = .ok (.getfield 22, 3) := by decide +kernel
theorem dX2_noteTakenIn_55 : decode cX2_noteTakenIn 55 = .ok (.iconst 1, 1) := by decide +kernel
theorem dX2_noteTakenIn_56 : decode cX2_noteTakenIn 56 = .ok (.iadd, 1) := by decide +kernel
theorem dX2_noteTakenIn_57 : decode cX2_noteTakenIn 57 = .ok (.putfield 22, 3) := by decide +kernel
theorem dX2_noteTakenIn_60 : decode cX2_noteTakenIn 60 = .ok (.aload_n 0, 1) := by decide +kernel
theorem dX2_noteTakenIn_61 : decode cX2_noteTakenIn 61 = .ok (.getfield 11, 3) := by decide +kernel
theorem dX2_noteTakenIn_64 : decode cX2_noteTakenIn 64 = .ok (.iload_n 2, 1) := by decide +kernel
theorem dX2_noteTakenIn_65 : decode cX2_noteTakenIn 65 = .ok (.iconst 4, 1) := by decide +kernel
theorem dX2_noteTakenIn_66 : decode cX2_noteTakenIn 66 = .ok (.iadd, 1) := by decide +kernel
theorem dX2_noteTakenIn_67 : decode cX2_noteTakenIn 67 = .ok (.dup2, 1) := by decide +kernel
theorem dX2_noteTakenIn_68 : decode cX2_noteTakenIn 68 = .ok (.iaload, 1) := by decide +kernel
theorem dX2_noteTakenIn_69 : decode cX2_noteTakenIn 69 = .ok (.iconst 1, 1) := by decide +kernel
theorem dX2_noteTakenIn_70 : decode cX2_noteTakenIn 70 = .ok (.iadd, 1) := by decide +kernel
theorem dX2_noteTakenIn_71 : decode cX2_noteTakenIn 71 = .ok (.iastore, 1) := by decide +kernel
theorem dX2_noteTakenIn_72 : decode cX2_noteTakenIn 72 = .ok (.return_, 1) := by decide +kernel
theorem dX2_lose_0 : decode cX2_lose 0 = .ok (.iconst 0, 1) := by decide +kernel
theorem dX2_lose_1 : decode cX2_lose 1 = .ok (.istore_n 2, 1) := by decide +kernel
theorem dX2_lose_2 : decode cX2_lose 2 = .ok (.iload_n 2, 1) := by decide +kernel
theorem dX2_lose_3 : decode cX2_lose 3 = .ok (.aload_n 1, 1) := by decide +kernel
theorem dX2_lose_4 : decode cX2_lose 4 = .ok (.getfield 41, 3) := by decide +kernel
theorem dX2_lose_7 : decode cX2_lose 7 = .ok (.if_icmp .ge 39, 3) := by decide +kernel
theorem dX2_lose_10 : decode cX2_lose 10 = .ok (.aload_n 1, 1) := by decide +kernel
theorem dX2_lose_11 : decode cX2_lose 11 = .ok (.getfield 44, 3) := by decide +kernel
theorem dX2_lose_14 : decode cX2_lose 14 = .ok (.iload_n 2, 1) := by decide +kernel
theorem dX2_lose_15 : decode cX2_lose 15 = .ok (.iaload, 1) := by decide +kernel
theorem dX2_lose_16 : decode cX2_lose 16 = .ok (.istore_n 3, 1) := by decide +kernel
theorem dX2_lose_17 : decode cX2_lose 17 = .ok (.iload_n 3, 1) := by decide +kernel
theorem dX2_lose_18 : decode cX2_lose 18 = .ok (.ifCond .lt 22, 3) := by decide +kernel
theorem dX2_lose_21 : decode cX2_lose 21 = .ok (.iload_n 3, 1) := by decide +kernel
theorem dX2_lose_22 : decode cX2_lose 22 = .ok (.bipush 100, 2) := by decide +kernel
theorem dX2_lose_24 : decode cX2_lose 24 = .ok (.if_icmp .ge 16, 3) := by decide +kernel
theorem dX2_lose_27 : decode cX2_lose 27 = .ok (.aload_n 0, 1) := by decide +kernel
theorem dX2_lose_28 : decode cX2_lose 28 = .ok (.getfield 11, 3) := by decide +kernel
theorem dX2_lose_31 : decode cX2_lose 31 = .ok (.iload_n 3, 1) := by decide +kernel
theorem dX2_lose_32 : decode cX2_lose 32 = .ok (.bipush 7, 2) := by decide +kernel
theorem dX2_lose_34 : decode cX2_lose 34 = .ok (.imul, 1) := by decide +kernel
theorem dX2_lose_35 : decode cX2_lose 35 = .ok (.bipush 6, 2) := by decide +kernel
theorem dX2_lose_37 : decode cX2_lose 37 = .ok (.iadd, 1) := by decide +kernel
theorem dX2_lose_38 : decode cX2_lose 38 = .ok (.iconst 3, 1) := by decide +kernel
theorem dX2_lose_39 : decode cX2_lose 39 = .ok (.iastore, 1) := by decide +kernel
theorem dX2_lose_40 : decode cX2_lose 40 = .ok (.iinc 2 1, 3) := by decide +kernel
theorem dX2_lose_43 : decode cX2_lose 43 = .ok (.goto (-41), 3) := by decide +kernel
theorem dX2_lose_46 : decode cX2_lose 46 = .ok (.aload_n 1, 1) := by decide +kernel
theorem dX2_lose_47 : decode cX2_lose 47 = .ok (.iconst 0, 1) := by decide +kernel
theorem dX2_lose_48 : decode cX2_lose 48 = .ok (.putfield 41, 3) := by decide +kernel
theorem dX2_lose_51 : decode cX2_lose 51 = .ok (.return_, 1) := by decide +kernel
theorem dX2_letGo_0 : decode cX2_letGo 0 = .ok (.iconst 0, 1) := by decide +kernel
theorem dX2_letGo_1 : decode cX2_letGo 1 = .ok (.istore_n 3, 1) := by decide +kernel
theorem dX2_letGo_2 : decode cX2_letGo 2 = .ok (.iload_n 3, 1) := by decide +kernel
theorem dX2_letGo_3 : decode cX2_letGo 3 = .ok (.iload_n 2, 1) := by decide +kernel
theorem dX2_letGo_4 : decode cX2_letGo 4 = .ok (.if_icmp .ge 51, 3) := by decide +kernel
theorem dX2_letGo_7 : decode cX2_letGo 7 = .ok (.iload_n 3, 1) := by decide +kernel
theorem dX2_letGo_8 : decode cX2_letGo 8 = .ok (.aload_n 1, 1) := by decide +kernel
theorem dX2_letGo_9 : decode cX2_letGo 9 = .ok (.getfield 41, 3) := by decide +kernel
theorem dX2_letGo_12 : decode cX2_letGo 12 = .ok (.if_icmp .ge 43, 3) := by decide +kernel
theorem dX2_letGo_15 : decode cX2_letGo 15 = .ok (.aload_n 1, 1) := by decide +kernel
theorem dX2_letGo_16 : decode cX2_letGo 16 = .ok (.getfield 44, 3) := by decide +kernel
theorem dX2_letGo_19 : decode cX2_letGo 19 = .ok (.iload_n 3, 1) := by decide +kernel
theorem dX2_letGo_20 : decode cX2_letGo 20 = .ok (.iaload, 1) := by decide +kernel
theorem dX2_letGo_21 : decode cX2_letGo 21 = .ok (.istore 4, 2) := by decide +kernel
theorem dX2_letGo_23 : decode cX2_letGo 23 = .ok (.iload 4, 2) := by decide +kernel
theorem dX2_letGo_25 : decode cX2_letGo 25 = .ok (.ifCond .lt 24, 3) := by decide +kernel
theorem dX2_letGo_28 : decode cX2_letGo 28 = .ok (.iload 4, 2) := by decide +kernel
theorem dX2_letGo_30 : decode cX2_letGo 30 = .ok (.bipush 100, 2) := by decide +kernel
theorem dX2_letGo_32 : decode cX2_letGo 32 = .ok (.if_icmp .ge 17, 3) := by decide +kernel
theorem dX2_letGo_35 : decode cX2_letGo 35 = .ok (.aload_n 0, 1) := by decide +kernel
theorem dX2_letGo_36 : decode cX2_letGo 36 = .ok (.getfield 11, 3) := by decide +kernel
theorem dX2_letGo_39 : decode cX2_letGo 39 = .ok (.iload 4, 2) := by decide +kernel
theorem dX2_letGo_41 : decode cX2_letGo 41 = .ok (.bipush 7, 2) := by decide +kernel
theorem dX2_letGo_43 : decode cX2_letGo 43 = .ok (.imul, 1) := by decide +kernel
theorem dX2_letGo_44 : decode cX2_letGo 44 = .ok (.bipush 6, 2) := by decide +kernel
theorem dX2_letGo_46 : decode cX2_letGo 46 = .ok (.iadd, 1) := by decide +kernel
theorem dX2_letGo_47 : decode cX2_letGo 47 = .ok (.iconst 2, 1) := by decide +kernel
theorem dX2_letGo_48 : decode cX2_letGo 48 = .ok (.iastore, 1) := by decide +kernel
theorem dX2_letGo_49 : decode cX2_letGo 49 = .ok (.iinc 3 1, 3) := by decide +kernel
theorem dX2_letGo_52 : decode cX2_letGo 52 = .ok (.goto (-50), 3) := by decide +kernel
theorem dX2_letGo_55 : decode cX2_letGo 55 = .ok (.aload_n 1, 1) := by decide +kernel
theorem dX2_letGo_56 : decode cX2_letGo 56 = .ok (.iload_n 2, 1) := by decide +kernel
theorem dX2_letGo_57 : decode cX2_letGo 57 = .ok (.aload_n 1, 1) := by decide +kernel
theorem dX2_letGo_58 : decode cX2_letGo 58 = .ok (.getfield 41, 3) := by decide +kernel
theorem dX2_letGo_61 : decode cX2_letGo 61 = .ok (.invokestatic 47, 3) := by decide +kernel
theorem dX2_letGo_64 : decode cX2_letGo 64 = .ok (.invokevirtual 53, 3) := by decide +kernel
theorem dX2_letGo_67 : decode cX2_letGo 67 = .ok (.return_, 1) := by decide +kernel
theorem dX2_howManyReach_0 : decode cX2_howManyReach 0 = .ok (.iconst 0, 1) := by decide +kernel
theorem dX2_howManyReach_1 : decode cX2_howManyReach 1 = .ok (.istore_n 3, 1) := by decide +kernel
theorem dX2_howManyReach_2 : decode cX2_howManyReach 2 = .ok (.iconst 0, 1) := by decide +kernel
theorem dX2_howManyReach_3 : decode cX2_howManyReach 3 = .ok (.istore 4, 2) := by decide +kernel
theorem dX2_howManyReach_5 : decode cX2_howManyReach 5 = .ok (.iload 4, 2) := by decide +kernel
theorem dX2_howManyReach_7 : decode cX2_howManyReach 7 = .ok (.aload_n 0, 1) := by decide +kernel
theorem dX2_howManyReach_8 : decode cX2_howManyReach 8 = .ok (.getfield 15, 3) := by decide +kernel
theorem dX2_howManyReach_11 : decode cX2_howManyReach 11 = .ok (.if_icmp .ge 23, 3) := by decide +kernel
theorem dX2_howManyReach_14 : decode cX2_howManyReach 14 = .ok (.aload_n 0, 1) := by decide +kernel
theorem dX2_howManyReach_15 : decode cX2_howManyReach 15 = .ok (.iload 4, 2) := by decide +kernel
theorem dX2_howManyReach_17 : decode cX2_howManyReach 17 = .ok (.iload_n 1, 1) := by decide +kernel
theorem dX2_howManyReach_18 : decode cX2_howManyReach 18 = .ok (.invokevirtual 57, 3) := by decide +kernel
theorem dX2_howManyReach_21 : decode cX2_howManyReach 21 = .ok (.iload_n 2, 1) := by decide +kernel
theorem dX2_howManyReach_22 : decode cX2_howManyReach 22 = .ok (.if_icmp .lt 6, 3) := by decide +kernel
theorem dX2_howManyReach_25 : decode cX2_howManyReach 25 = .ok (.iinc 3 1, 3) := by decide +kernel
theorem dX2_howManyReach_28 : decode cX2_howManyReach 28 = .ok (.iinc 4 1, 3) := by decide +kernel
theorem dX2_howManyReach_31 : decode cX2_howManyReach 31 = .ok (.goto (-26), 3) := by decide +kernel
theorem dX2_howManyReach_34 : decode cX2_howManyReach 34 = .ok (.iload_n 3, 1) := by decide +kernel
theorem dX2_howManyReach_35 : decode cX2_howManyReach 35 = .ok (.ireturn, 1) := by decide +kernel
theorem dX2_waitOf_0 : decode cX2_waitOf 0 = .ok (.aload_n 0, 1) := by decide +kernel
theorem dX2_waitOf_1 : decode cX2_waitOf 1 = .ok (.iload_n 1, 1) := by decide +kernel
theorem dX2_waitOf_2 : decode cX2_waitOf 2 = .ok (.iconst 5, 1) := by decide +kernel
theorem dX2_waitOf_3 : decode cX2_waitOf 3 = .ok (.invokevirtual 57, 3) := by decide +kernel
theorem dX2_waitOf_6 : decode cX2_waitOf 6 = .ok (.istore_n 2, 1) := by decide +kernel
theorem dX2_waitOf_7 : decode cX2_waitOf 7 = .ok (.iload_n 2, 1) := by decide +kernel
theorem dX2_waitOf_8 : decode cX2_waitOf 8 = .ok (.iconst (-1), 1) := by decide +kernel
theorem dX2_waitOf_9 : decode cX2_waitOf 9 = .ok (.if_icmp .ne 7, 3) := by decide +kernel
theorem dX2_waitOf_12 : decode cX2_waitOf 12 = .ok (.iconst (-1), 1) := by decide +kernel
theorem dX2_waitOf_13 : decode cX2_waitOf 13 = .ok (.goto 11, 3) := by decide +kernel
theorem dX2_waitOf_16 : decode cX2_waitOf 16 = .ok (.iload_n 2, 1) := by decide +kernel
theorem dX2_waitOf_17 : decode cX2_waitOf 17 = .ok (.aload_n 0, 1) := by decide +kernel
theorem dX2_waitOf_18 : decode cX2_waitOf 18 = .ok (.iload_n 1, 1) := by decide +kernel
theorem dX2_waitOf_19 : decode cX2_waitOf 19 = .ok (.iconst 1, 1) := by decide +kernel
theorem dX2_waitOf_20 : decode cX2_waitOf 20 = .ok (.invokevirtual 57, 3) := by decide +kernel
theorem dX2_waitOf_23 : decode cX2_waitOf 23 = .ok (.isub, 1) := by decide +kernel
theorem dX2_waitOf_24 : decode cX2_waitOf 24 = .ok (.ireturn, 1) := by decide +kernel
theorem dX2_longestWait_0 : decode cX2_longestWait 0 = .ok (.iconst (-1), 1) := by decide +kernel
theorem dX2_longestWait_1 : decode cX2_longestWait 1 = .ok (.istore_n 1, 1) := by decide +kernel
theorem dX2_longestWait_2 : decode cX2_longestWait 2 = .ok (.iconst 0, 1) := by decide +kernel
theorem dX2_longestWait_3 : decode cX2_longestWait 3 = .ok (.istore_n 2, 1) := by decide +kernel
theorem dX2_longestWait_4 : decode cX2_longestWait 4 = .ok (.iload_n 2, 1) := by decide +kernel
theorem dX2_longestWait_5 : decode cX2_longestWait 5 = .ok (.aload_n 0, 1) := by decide +kernel
theorem dX2_longestWait_6 : decode cX2_longestWait 6 = .ok (.getfield 15, 3) := by decide +kernel
theorem dX2_longestWait_9 : decode cX2_longestWait 9 = .ok (.if_icmp .ge 19, 3) := by decide +kernel
theorem dX2_longestWait_12 : decode cX2_longestWait 12 = .ok (.iload_n 1, 1) := by decide +kernel
theorem dX2_longestWait_13 : decode cX2_longestWait 13 = .ok (.aload_n 0, 1) := by decide +kernel
theorem dX2_longestWait_14 : decode cX2_longestWait 14 = .ok (.iload_n 2, 1) := by decide +kernel
theorem dX2_longestWait_15 : decode cX2_longestWait 15 = .ok (.invokevirtual 60, 3) := by decide +kernel
theorem dX2_longestWait_18 : decode cX2_longestWait 18 = .ok (.invokestatic 64, 3) := by decide +kernel
theorem dX2_longestWait_21 : decode cX2_longestWait 21 = .ok (.istore_n 1, 1) := by decide +kernel
theorem dX2_longestWait_22 : decode cX2_longestWait 22 = .ok (.iinc 2 1, 3) := by decide +kernel
theorem dX2_longestWait_25 : decode cX2_longestWait 25 = .ok (.goto (-21), 3) := by decide +kernel
theorem dX2_longestWait_28 : decode cX2_longestWait 28 = .ok (.iload_n 1, 1) := by decide +kernel
theorem dX2_longestWait_29 : decode cX2_longestWait 29 = .ok (.ireturn, 1) := by decide +kernel
theorem dX2_allWaits_0 : decode cX2_allWaits 0 = .ok (.iconst 0, 1) := by decide +kernel
theorem dX2_allWaits_1 : decode cX2_allWaits 1 = .ok (.istore_n 1, 1) := by decide +kernel
theorem dX2_allWaits_2 : decode cX2_allWaits 2 = .ok (.iconst 0, 1) := by decide +kernel
theorem dX2_allWaits_3 : decode cX2_allWaits 3 = .ok (.istore_n 2, 1) := by decide +kernel
theorem dX2_allWaits_4 : decode cX2_allWaits 4 = .ok (.iload_n 2, 1) := by decide +kernel
theorem dX2_allWaits_5 : decode cX2_allWaits 5 = .ok (.aload_n 0, 1) := by decide +kernel
theorem dX2_allWaits_6 : decode cX2_allWaits 6 = .ok (.getfield 15, 3) := by decide +kernel
theorem dX2_allWaits_9 : decode cX2_allWaits 9 = .ok (.if_icmp .ge 21, 3) := by decide +kernel
theorem dX2_allWaits_12 : decode cX2_allWaits 12 = .ok (.iload_n 1, 1) := by decide +kernel
theorem dX2_allWaits_13 : decode cX2_allWaits 13 = .ok (.iconst 0, 1) := by decide +kernel
theorem dX2_allWaits_14 : decode cX2_allWaits 14 = .ok (.aload_n 0, 1) := by decide +kernel
theorem dX2_allWaits_15 : decode cX2_allWaits 15 = .ok (.iload_n 2, 1) := by decide +kernel
theorem dX2_allWaits_16 : decode cX2_allWaits 16 = .ok (.invokevirtual 60, 3) := by decide +kernel
theorem dX2_allWaits_19 : decode cX2_allWaits 19 = .ok (.invokestatic 64, 3) := by decide +kernel
theorem dX2_allWaits_22 : decode cX2_allWaits 22 = .ok (.iadd, 1) := by decide +kernel
theorem dX2_allWaits_23 : decode cX2_allWaits 23 = .ok (.istore_n 1, 1) := by decide +kernel
theorem dX2_allWaits_24 : decode cX2_allWaits 24 = .ok (.iinc 2 1, 3) := by decide +kernel
theorem dX2_allWaits_27 : decode cX2_allWaits 27 = .ok (.goto (-23), 3) := by decide +kernel
theorem dX2_allWaits_30 : decode cX2_allWaits 30 = .ok (.iload_n 1, 1) := by decide +kernel
theorem dX2_allWaits_31 : decode cX2_allWaits 31 = .ok (.ireturn, 1) := by decide +kernel
theorem dX2_howManyVanished_0 : decode cX2_howManyVanished 0 = .ok (.iconst 0, 1) := by decide +kernel
theorem dX2_howManyVanished_1 : decode cX2_howManyVanished 1 = .ok (.istore_n 1, 1) := by decide +kernel
theorem dX2_howManyVanished_2 : decode cX2_howManyVanished 2 = .ok (.iconst 0, 1) := by decide +kernel
theorem dX2_howManyVanished_3 : decode cX2_howManyVanished 3 = .ok (.istore_n 2, 1) := by decide +kernel
theorem dX2_howManyVanished_4 : decode cX2_howManyVanished 4 = .ok (.iload_n 2, 1) := by decide +kernel
theorem dX2_howManyVanished_5 : decode cX2_howManyVanished 5 = .ok (.aload_n 0, 1) := by decide +kernel
theorem dX2_howManyVanished_6 : decode cX2_howManyVanished 6 = .ok (.getfield 15, 3) := by decide +kernel
theorem dX2_howManyVanished_9 : decode cX2_howManyVanished 9 = .ok (.if_icmp .ge 32, 3) := by decide +kernel
theorem dX2_howManyVanished_12 : decode cX2_howManyVanished 12 = .ok (.aload_n 0, 1) := by decide +kernel
theorem dX2_howManyVanished_13 : decode cX2_howManyVanished 13 = .ok (.iload_n 2, 1) := by decide +kernel
theorem dX2_howManyVanished_14 : decode cX2_howManyVanished 14 = .ok (.bipush 6, 2) := by decide +kernel
theorem dX2_howManyVanished_16 : decode cX2_howManyVanished 16 = .ok (.invokevirtual 57, 3) := by decide +kernel
theorem dX2_howManyVanished_19 : decode cX2_howManyVanished 19 = .ok (.iconst 2, 1) := by decide +kernel
theorem dX2_howManyVanished_20 : decode cX2_howManyVanished 20 = .ok (.if_icmp .ne 15, 3) := by decide +kernel
theorem dX2_howManyVanished_23 : decode cX2_howManyVanished 23 = .ok (.aload_n 0, 1) := by decide +kernel
theorem dX2_howManyVanished_24 : decode cX2_howManyVanished 24 = .ok (.iload_n 2, 1) := by decide +kernel
theorem dX2_howManyVanished_25 : decode cX2_howManyVanished 25 = .ok (.iconst 4, 1) := by decide +kernel
theorem dX2_howManyVanished_26 : decode cX2_howManyVanished 26 = .ok (.invokevirtual 57, 3) := by decide +kernel
theorem dX2_howManyVanished_29 : decode cX2_howManyVanished 29 = .ok (.ifCond .ne 6, 3) := by decide +kernel
theorem dX2_howManyVanished_32 : decode cX2_howManyVanished 32 = .ok (.iinc 1 1, 3) := by decide +kernel
theorem dX2_howManyVanished_35 : decode cX2_howManyVanished 35 = .ok (.iinc 2 1, 3) := by decide +kernel
theorem dX2_howManyVanished_38 : decode cX2_howManyVanished 38 = .ok (.goto (-34), 3) := by decide +kernel
theorem dX2_howManyVanished_41 : decode cX2_howManyVanished 41 = .ok (.iload_n 1, 1) := by decide +kernel
theorem dX2_howManyVanished_42 : decode cX2_howManyVanished 42 = .ok (.ireturn, 1) := by decide +kernel
theorem dX2_howManyOvertaken_0 : decode cX2_howManyOvertaken 0 = .ok (.iconst 0, 1) := by decide +kernel
theorem dX2_howManyOvertaken_1 : decode cX2_howManyOvertaken 1 = .ok (.istore_n 1, 1) := by decide +kernel
theorem dX2_howManyOvertaken_2 : decode cX2_howManyOvertaken 2 = .ok (.aload_n 0, 1) := by decide +kernel
theorem dX2_howManyOvertaken_3 : decode cX2_howManyOvertaken 3 = .ok (.getfield 22, 3) := by decide +kernel
theorem dX2_howManyOvertaken_6 : decode cX2_howManyOvertaken 6 = .ok (.istore_n 2, 1) := by decide +kernel
theorem dX2_howManyOvertaken_7 : decode cX2_howManyOvertaken 7 = .ok (.aload_n 0, 1) := by decide +kernel
theorem dX2_howManyOvertaken_8 : decode cX2_howManyOvertaken 8 = .ok (.getfield 15, 3) := by decide +kernel
theorem dX2_howManyOvertaken_11 : decode cX2_howManyOvertaken 11 = .ok (.bipush 100, 2) := by decide +kernel
theorem dX2_howManyOvertaken_13 : decode cX2_howManyOvertaken 13 = .ok (.invokestatic 47, 3) := by decide +kernel
theorem dX2_howManyOvertaken_16 : decode cX2_howManyOvertaken 16 = .ok (.iconst 1, 1) := by decide +kernel
theorem dX2_howManyOvertaken_17 : decode cX2_howManyOvertaken 17 = .ok (.isub, 1) := by decide +kernel
theorem dX2_howManyOvertaken_18 : decode cX2_howManyOvertaken 18 = .ok (.istore_n 3, 1) := by decide +kernel
theorem dX2_howManyOvertaken_19 : decode cX2_howManyOvertaken 19 = .ok (.iload_n 3, 1) := by decide +kernel
theorem dX2_howManyOvertaken_20 : decode cX2_howManyOvertaken 20 = .ok (.ifCond .lt 45, 3) := by decide +kernel
theorem dX2_howManyOvertaken_23 : decode cX2_howManyOvertaken 23 = .ok (.aload_n 0, 1) := by decide +kernel
theorem dX2_howManyOvertaken_24 : decode cX2_howManyOvertaken 24 = .ok (.iload_n 3, 1) := by decide +kernel
theorem dX2_howManyOvertaken_25 : decode cX2_howManyOvertaken 25 = .ok (.iconst 4, 1) := by decide +kernel
theorem dX2_howManyOvertaken_26 : decode cX2_howManyOvertaken 26 = .ok (.invokevirtual 57, 3) := by decide +kernel
theorem dX2_howManyOvertaken_29 : decode cX2_howManyOvertaken 29 = .ok (.ifCond .ne 6, 3) := by decide +kernel
theorem dX2_howManyOvertaken_32 : decode cX2_howManyOvertaken 32 = .ok (.goto 27, 3) := by decide +kernel
theorem dX2_howManyOvertaken_35 : decode cX2_howManyOvertaken 35 = .ok (.aload_n 0, 1) := by decide +kernel
theorem dX2_howManyOvertaken_36 : decode cX2_howManyOvertaken 36 = .ok (.getfield 19, 3) := by decide +kernel
theorem dX2_howManyOvertaken_39 : decode cX2_howManyOvertaken 39 = .ok (.iload_n 3, 1) := by decide +kernel
theorem dX2_howManyOvertaken_40 : decode cX2_howManyOvertaken 40 = .ok (.iaload, 1) := by decide +kernel
theorem dX2_howManyOvertaken_41 : decode cX2_howManyOvertaken 41 = .ok (.iload_n 2, 1) := by decide +kernel
theorem dX2_howManyOvertaken_42 : decode cX2_howManyOvertaken 42 = .ok (.if_icmp .le 6, 3) := by decide +kernel
theorem dX2_howManyOvertaken_45 : decode cX2_howManyOvertaken 45 = .ok (.iinc 1 1, 3) := by decide +kernel
theorem dX2_howManyOvertaken_48 : decode cX2_howManyOvertaken 48 = .ok (.iload_n 2, 1) := by decide +kernel
theorem dX2_howManyOvertaken_49 : decode cX2_howManyOvertaken 49 = .ok (.aload_n 0, 1) := by decide +kernel
theorem dX2_howManyOvertaken_50 : decode cX2_howManyOvertaken 50 = .ok (.getfield 19, 3) := by decide +kernel
theorem dX2_howManyOvertaken_53 : decode cX2_howManyOvertaken 53 = .ok (.iload_n 3, 1) := by decide +kernel
theorem dX2_howManyOvertaken_54 : decode cX2_howManyOvertaken 54 = .ok (.iaload, 1) := by decide +kernel
theorem dX2_howManyOvertaken_55 : decode cX2_howManyOvertaken 55 = .ok (.invokestatic 47, 3) := by decide +kernel
theorem dX2_howManyOvertaken_58 : decode cX2_howManyOvertaken 58 = .ok (.istore_n 2, 1) := by decide +kernel
theorem dX2_howManyOvertaken_59 : decode cX2_howManyOvertaken 59 = .ok (.iinc 3 (-1), 3) := by decide +kernel
theorem dX2_howManyOvertaken_62 : decode cX2_howManyOvertaken 62 = .ok (.goto (-43), 3) := by decide +kernel
theorem dX2_howManyOvertaken_65 : decode cX2_howManyOvertaken 65 = .ok (.iload_n 1, 1) := by decide +kernel
theorem dX2_howManyOvertaken_66 : decode cX2_howManyOvertaken 66 = .ok (.ireturn, 1) := by decide +kernel
theorem dX2_copyFrom_0 : decode cX2_copyFrom 0 = .ok (.aload_n 0, 1) := by decide +kernel
theorem dX2_copyFrom_1 : decode cX2_copyFrom 1 = .ok (.aload_n 1, 1) := by decide +kernel
theorem dX2_copyFrom_2 : decode cX2_copyFrom 2 = .ok (.getfield 15, 3) := by decide +kernel
theorem dX2_copyFrom_5 : decode cX2_copyFrom 5 = .ok (.putfield 15, 3) := by decide +kernel
theorem dX2_copyFrom_8 : decode cX2_copyFrom 8 = .ok (.aload_n 0, 1) := by decide +kernel
theorem dX2_copyFrom_9 : decode cX2_copyFrom 9 = .ok (.aload_n 1, 1) := by decide +kernel
theorem dX2_copyFrom_10 : decode cX2_copyFrom 10 = .ok (.getfield 25, 3) := by decide +kernel
theorem dX2_copyFrom_13 : decode cX2_copyFrom 13 = .ok (.putfield 25, 3) := by decide +kernel
theorem dX2_copyFrom_16 : decode cX2_copyFrom 16 = .ok (.aload_n 0, 1) := by decide +kernel
theorem dX2_copyFrom_17 : decode cX2_copyFrom 17 = .ok (.aload_n 1, 1) := by decide +kernel
theorem dX2_copyFrom_18 : decode cX2_copyFrom 18 = .ok (.getfield 22, 3) := by decide +kernel
theorem dX2_copyFrom_21 : decode cX2_copyFrom 21 = .ok (.putfield 22, 3) := by decide +kernel
theorem dX2_copyFrom_24 : decode cX2_copyFrom 24 = .ok (.aload_n 1, 1) := by decide +kernel
theorem dX2_copyFrom_25 : decode cX2_copyFrom 25 = .ok (.getfield 19, 3) := by decide +kernel
theorem dX2_copyFrom_28 : decode cX2_copyFrom 28 = .ok (.iconst 0, 1) := by decide +kernel
theorem dX2_copyFrom_29 : decode cX2_copyFrom 29 = .ok (.aload_n 0, 1) := by decide +kernel
theorem dX2_copyFrom_30 : decode cX2_copyFrom 30 = .ok (.getfield 19, 3) := by decide +kernel
theorem dX2_copyFrom_33 : decode cX2_copyFrom 33 = .ok (.iconst 0, 1) := by decide +kernel
theorem dX2_copyFrom_34 : decode cX2_copyFrom 34 = .ok (.bipush 100, 2) := by decide +kernel
theorem dX2_copyFrom_36 : decode cX2_copyFrom 36 = .ok (.invokestatic 67, 3) := by decide +kernel
theorem dX2_copyFrom_39 : decode cX2_copyFrom 39 = .ok (.aload_n 1, 1) := by decide +kernel
theorem dX2_copyFrom_40 : decode cX2_copyFrom 40 = .ok (.getfield 11, 3) := by decide +kernel
theorem dX2_copyFrom_43 : decode cX2_copyFrom 43 = .ok (.iconst 0, 1) := by decide +kernel
theorem dX2_copyFrom_44 : decode cX2_copyFrom 44 = .ok (.aload_n 0, 1) := by decide +kernel
theorem dX2_copyFrom_45 : decode cX2_copyFrom 45 = .ok (.getfield 11, 3) := by decide +kernel
theorem dX2_copyFrom_48 : decode cX2_copyFrom 48 = .ok (.iconst 0, 1) := by decide +kernel
theorem dX2_copyFrom_49 : decode cX2_copyFrom 49 = .ok (.sipush 700, 3) := by decide +kernel
theorem dX2_copyFrom_52 : decode cX2_copyFrom 52 = .ok (.invokestatic 67, 3) := by decide +kernel
theorem dX2_copyFrom_55 : decode cX2_copyFrom 55 = .ok (.return_, 1) := by decide +kernel
theorem dX4_clear_0 : decode cX4_clear 0 = .ok (.aload_n 0, 1) := by decide +kernel
theorem dX4_clear_1 : decode cX4_clear 1 = .ok (.iconst 0, 1) := by decide +kernel
theorem dX4_clear_2 : decode cX4_clear 2 = .ok (.putfield 18, 3) := by decide +kernel
theorem dX4_clear_5 : decode cX4_clear 5 = .ok (.aload_n 0, 1) := by decide +kernel
theorem dX4_clear_6 : decode cX4_clear 6 = .ok (.iconst 0, 1) := by decide +kernel
theorem dX4_clear_7 : decode cX4_clear 7 = .ok (.putfield 22, 3) := by decide +kernel
theorem dX4_clear_10 : decode cX4_clear 10 = .ok (.return_, 1) := by decide +kernel
theorem dX4_add_0 : decode cX4_add 0 = .ok (.aload_n 0, 1) := by decide +kernel
theorem dX4_add_1 : decode cX4_add 1 = .ok (.getfield 18, 3) := by decide +kernel
theorem dX4_add_4 : decode cX4_add 4 = .ok (.bipush 24, 2) := by decide +kernel
theorem dX4_add_6 : decode cX4_add 6 = .ok (.if_icmp .ge 33, 3) := by decide +kernel
theorem dX4_add_9 : decode cX4_add 9 = .ok (.aload_n 0, 1) := by decide +kernel
theorem dX4_add_10 : decode cX4_add 10 = .ok (.getfield 9, 3) := by decide +kernel
theorem dX4_add_13 : decode cX4_add 13 = .ok (.aload_n 0, 1) := by decide +kernel
theorem dX4_add_14 : decode cX4_add 14 = .ok (.getfield 18, 3) := by decide +kernel
theorem dX4_add_17 : decode cX4_add 17 = .ok (.iload_n 1, 1) := by decide +kernel
theorem dX4_add_18 : decode cX4_add 18 = .ok (.iastore, 1) := by decide +kernel
theorem dX4_add_19 : decode cX4_add 19 = .ok (.aload_n 0, 1) := by decide +kernel
theorem dX4_add_20 : decode cX4_add 20 = .ok (.getfield 15, 3) := by decide +kernel
theorem dX4_add_23 : decode cX4_add 23 = .ok (.aload_n 0, 1) := by decide +kernel
theorem dX4_add_24 : decode cX4_add 24 = .ok (.getfield 18, 3) := by decide +kernel
theorem dX4_add_27 : decode cX4_add 27 = .ok (.iload_n 2, 1) := by decide +kernel
theorem dX4_add_28 : decode cX4_add 28 = .ok (.iastore, 1) := by decide +kernel
theorem dX4_add_29 : decode cX4_add 29 = .ok (.aload_n 0, 1) := by decide +kernel
theorem dX4_add_30 : decode cX4_add 30 = .ok (.dup, 1) := by decide +kernel
theorem dX4_add_31 : decode cX4_add 31 = .ok (.getfield 18, 3) := by decide +kernel
theorem dX4_add_34 : decode cX4_add 34 = .ok (.iconst 1, 1) := by decide +kernel
theorem dX4_add_35 : decode cX4_add 35 = .ok (.iadd, 1) := by decide +kernel
theorem dX4_add_36 : decode cX4_add 36 = .ok (.putfield 18, 3) := by decide +kernel
theorem dX4_add_39 : decode cX4_add 39 = .ok (.return_, 1) := by decide +kernel
theorem dX4_copyFrom_0 : decode cX4_copyFrom 0 = .ok (.aload_n 1, 1) := by decide +kernel
theorem dX4_copyFrom_1 : decode cX4_copyFrom 1 = .ok (.getfield 9, 3) := by decide +kernel
theorem dX4_copyFrom_4 : decode cX4_copyFrom 4 = .ok (.iconst 0, 1) := by decide +kernel
theorem dX4_copyFrom_5 : decode cX4_copyFrom 5 = .ok (.aload_n 0, 1) := by decide +kernel
theorem dX4_copyFrom_6 : decode cX4_copyFrom 6 = .ok (.getfield 9, 3) := by decide +kernel
theorem dX4_copyFrom_9 : decode cX4_copyFrom 9 = .ok (.iconst 0, 1) := by decide +kernel
theorem dX4_copyFrom_10 : decode cX4_copyFrom 10 = .ok (.bipush 24, 2) := by decide +kernel
theorem dX4_copyFrom_12 : decode cX4_copyFrom 12 = .ok (.invokestatic 25, 3) := by decide +kernel
theorem dX4_copyFrom_15 : decode cX4_copyFrom 15 = .ok (.aload_n 1, 1) := by decide +kernel
theorem dX4_copyFrom_16 : decode cX4_copyFrom 16 = .ok (.getfield 15, 3) := by decide +kernel
theorem dX4_copyFrom_19 : decode cX4_copyFrom 19 = .ok (.iconst 0, 1) := by decide +kernel
theorem dX4_copyFrom_20 : decode cX4_copyFrom 20 = .ok (.aload_n 0, 1) := by decide +kernel
theorem dX4_copyFrom_21 : decode cX4_copyFrom 21 = .ok (.getfield 15, 3) := by decide +kernel
theorem dX4_copyFrom_24 : decode cX4_copyFrom 24 = .ok (.iconst 0, 1) := by decide +kernel
theorem dX4_copyFrom_25 : decode cX4_copyFrom 25 = .ok (.bipush 24, 2) := by decide +kernel
theorem dX4_copyFrom_27 : decode cX4_copyFrom 27 = .ok (.invokestatic 25, 3) := by decide +kernel
theorem dX4_copyFrom_30 : decode cX4_copyFrom 30 = .ok (.aload_n 0, 1) := by decide +kernel
theorem dX4_copyFrom_31 : decode cX4_copyFrom 31 = .ok (.aload_n 1, 1) := by decide +kernel
theorem dX4_copyFrom_32 : decode cX4_copyFrom 32 = .ok (.getfield 18, 3) := by decide +kernel
theorem dX4_copyFrom_35 : decode cX4_copyFrom 35 = .ok (.putfield 18, 3) := by decide +kernel
theorem dX4_copyFrom_38 : decode cX4_copyFrom 38 = .ok (.aload_n 0, 1) := by decide +kernel
theorem dX4_copyFrom_39 : decode cX4_copyFrom 39 = .ok (.aload_n 1, 1) := by decide +kernel
theorem dX4_copyFrom_40 : decode cX4_copyFrom 40 = .ok (.getfield 22, 3) := by decide +kernel
theorem dX4_copyFrom_43 : decode cX4_copyFrom 43 = .ok (.putfield 22, 3) := by decide +kernel
theorem dX4_copyFrom_46 : decode cX4_copyFrom 46 = .ok (.return_, 1) := by decide +kernel
theorem dX9_has_0 : decode cX9_has 0 = .ok (.iload_n 1, 1) := by decide +kernel
theorem dX9_has_1 : decode cX9_has 1 = .ok (.ifCond .lt 21, 3) := by decide +kernel
theorem dX9_has_4 : decode cX9_has 4 = .ok (.iload_n 1, 1) := by decide +kernel
theorem dX9_has_5 : decode cX9_has 5 = .ok (.aload_n 0, 1) := by decide +kernel
theorem dX9_has_6 : decode cX9_has 6 = .ok (.getfield 24, 3) := by decide +kernel
theorem dX9_has_9 : decode cX9_has 9 = .ok (.if_icmp .ge 13, 3) := by decide +kernel
theorem dX9_has_12 : decode cX9_has 12 = .ok (.iload_n 1, 1) := by decide +kernel
theorem dX9_has_13 : decode cX9_has 13 = .ok (.bipush 48, 2) := by decide +kernel
theorem dX9_has_15 : decode cX9_has 15 = .ok (.if_icmp .ge 7, 3) := by decide +kernel
theorem dX9_has_18 : decode cX9_has 18 = .ok (.iconst 1, 1) := by decide +kernel
theorem dX9_has_19 : decode cX9_has 19 = .ok (.goto 4, 3) := by decide +kernel
theorem dX9_has_22 : decode cX9_has 22 = .ok (.iconst 0, 1) := by decide +kernel
theorem dX9_has_23 : decode cX9_has 23 = .ok (.ireturn, 1) := by decide +kernel
theorem dX9_hasByte_0 : decode cX9_hasByte 0 = .ok (.iload_n 1, 1) := by decide +kernel
theorem dX9_hasByte_1 : decode cX9_hasByte 1 = .ok (.ifCond .lt 33, 3) := by decide +kernel
theorem dX9_hasByte_4 : decode cX9_hasByte 4 = .ok (.iload_n 1, 1) := by decide +kernel
theorem dX9_hasByte_5 : decode cX9_hasByte 5 = .ok (.aload_n 0, 1) := by decide +kernel
theorem dX9_hasByte_6 : decode cX9_hasByte 6 = .ok (.getfield 24, 3) := by decide +kernel
theorem dX9_hasByte_9 : decode cX9_hasByte 9 = .ok (.if_icmp .ge 25, 3) := by decide +kernel
theorem dX9_hasByte_12 : decode cX9_hasByte 12 = .ok (.iload_n 1, 1) := by decide +kernel
theorem dX9_hasByte_13 : decode cX9_hasByte 13 = .ok (.bipush 48, 2) := by decide +kernel
theorem dX9_hasByte_15 : decode cX9_hasByte 15 = .ok (.if_icmp .ge 19, 3) := by decide +kernel
theorem dX9_hasByte_18 : decode cX9_hasByte 18 = .ok (.iload_n 2, 1) := by decide +kernel
theorem dX9_hasByte_19 : decode cX9_hasByte 19 = .ok (.ifCond .lt 15, 3) := by decide +kernel
theorem dX9_hasByte_22 : decode cX9_hasByte 22 = .ok (.iload_n 2, 1) := by decide +kernel
theorem dX9_hasByte_23 : decode cX9_hasByte 23 = .ok (.aload_n 0, 1) := by decide +kernel
theorem dX9_hasByte_24 : decode cX9_hasByte 24 = .ok (.getfield 41, 3) := by decide +kernel
theorem dX9_hasByte_27 : decode cX9_hasByte 27 = .ok (.if_icmp .ge 7, 3) := by decide +kernel
theorem dX9_hasByte_30 : decode cX9_hasByte 30 = .ok (.iconst 1, 1) := by decide +kernel
theorem dX9_hasByte_31 : decode cX9_hasByte 31 = .ok (.goto 4, 3) := by decide +kernel
theorem dX9_hasByte_34 : decode cX9_hasByte 34 = .ok (.iconst 0, 1) := by decide +kernel
theorem dX9_hasByte_35 : decode cX9_hasByte 35 = .ok (.ireturn, 1) := by decide +kernel
theorem dX9_isDue_0 : decode cX9_isDue 0 = .ok (.aload_n 0, 1) := by decide +kernel
theorem dX9_isDue_1 : decode cX9_isDue 1 = .ok (.getfield 24, 3) := by decide +kernel
theorem dX9_isDue_4 : decode cX9_isDue 4 = .ok (.ifCond .le 23, 3) := by decide +kernel
theorem dX9_isDue_7 : decode cX9_isDue 7 = .ok (.aload_n 0, 1) := by decide +kernel
theorem dX9_isDue_8 : decode cX9_isDue 8 = .ok (.getfield 15, 3) := by decide +kernel
theorem dX9_isDue_11 : decode cX9_isDue 11 = .ok (.iconst 0, 1) := by decide +kernel
theorem dX9_isDue_12 : decode cX9_isDue 12 = .ok (.iaload, 1) := by decide +kernel
theorem dX9_isDue_13 : decode cX9_isDue 13 = .ok (.aload_n 0, 1) := by decide +kernel
theorem dX9_isDue_14 : decode cX9_isDue 14 = .ok (.getfield 37, 3) := by decide +kernel
theorem dX9_isDue_17 : decode cX9_isDue 17 = .ok (.getfield 47, 3) := by decide +kernel
theorem dX9_isDue_20 : decode cX9_isDue 20 = .ok (.if_icmp .gt 7, 3) := by decide +kernel
theorem dX9_isDue_23 : decode cX9_isDue 23 = .ok (.iconst 1, 1) := by decide +kernel
theorem dX9_isDue_24 : decode cX9_isDue 24 = .ok (.goto 4, 3) := by decide +kernel
theorem dX9_isDue_27 : decode cX9_isDue 27 = .ok (.iconst 0, 1) := by decide +kernel
theorem dX9_isDue_28 : decode cX9_isDue 28 = .ok (.ireturn, 1) := by decide +kernel
theorem dX9_tickOf_0 : decode cX9_tickOf 0 = .ok (.aload_n 0, 1) := by decide +kernel
theorem dX9_tickOf_1 : decode cX9_tickOf 1 = .ok (.iload_n 1, 1) := by decide +kernel
theorem dX9_tickOf_2 : decode cX9_tickOf 2 = .ok (.invokevirtual 52, 3) := by decide +kernel
theorem dX9_tickOf_5 : decode cX9_tickOf 5 = .ok (.ifCond .eq 12, 3) := by decide +kernel
theorem dX9_tickOf_8 : decode cX9_tickOf 8 = .ok (.aload_n 0, 1) := by decide +kernel
theorem dX9_tickOf_9 : decode cX9_tickOf 9 = .ok (.getfield 15, 3) := by decide +kernel
theorem dX9_tickOf_12 : decode cX9_tickOf 12 = .ok (.iload_n 1, 1) := by decide +kernel
theorem dX9_tickOf_13 : decode cX9_tickOf 13 = .ok (.iaload, 1) := by decide +kernel
theorem dX9_tickOf_14 : decode cX9_tickOf 14 = .ok (.goto 4, 3) := by decide +kernel
theorem dX9_tickOf_17 : decode cX9_tickOf 17 = .ok (.iconst (-1), 1) := by decide +kernel
theorem dX9_tickOf_18 : decode cX9_tickOf 18 = .ok (.ireturn, 1) := by decide +kernel
theorem dX9_byteOf_0 : decode cX9_byteOf 0 = .ok (.aload_n 0, 1) := by decide +kernel
theorem dX9_byteOf_1 : decode cX9_byteOf 1 = .ok (.iload_n 1, 1) := by decide +kernel
theorem dX9_byteOf_2 : decode cX9_byteOf 2 = .ok (.iload_n 2, 1) := by decide +kernel
theorem dX9_byteOf_3 : decode cX9_byteOf 3 = .ok (.invokevirtual 56, 3) := by decide +kernel
theorem dX9_byteOf_6 : decode cX9_byteOf 6 = .ok (.ifCond .eq 16, 3) := by decide +kernel
theorem dX9_byteOf_9 : decode cX9_byteOf 9 = .ok (.aload_n 0, 1) := by decide +kernel
theorem dX9_byteOf_10 : decode cX9_byteOf 10 = .ok (.getfield 11, 3) := by decide +kernel
theorem dX9_byteOf_13 : decode cX9_byteOf 13 = .ok (.iload_n 1, 1) := by decide +kernel
theorem dX9_byteOf_14 : decode cX9_byteOf 14 = .ok (.iconst 5, 1) := by decide +kernel
theorem dX9_byteOf_15 : decode cX9_byteOf 15 = .ok (.imul, 1) := by decide +kernel
theorem dX9_byteOf_16 : decode cX9_byteOf 16 = .ok (.iload_n 2, 1) := by decide +kernel
theorem dX9_byteOf_17 : decode cX9_byteOf 17 = .ok (.iadd, 1) := by decide +kernel
theorem dX9_byteOf_18 : decode cX9_byteOf 18 = .ok (.iaload, 1) := by decide +kernel
theorem dX9_byteOf_19 : decode cX9_byteOf 19 = .ok (.goto 4, 3) := by decide +kernel
theorem dX9_byteOf_22 : decode cX9_byteOf 22 = .ok (.iconst (-1), 1) := by decide +kernel
theorem dX9_byteOf_23 : decode cX9_byteOf 23 = .ok (.ireturn, 1) := by decide +kernel
theorem dX9_lineOf_0 : decode cX9_lineOf 0 = .ok (.aload_n 0, 1) := by decide +kernel
theorem dX9_lineOf_1 : decode cX9_lineOf 1 = .ok (.iload_n 1, 1) := by decide +kernel
theorem dX9_lineOf_2 : decode cX9_lineOf 2 = .ok (.invokevirtual 52, 3) := by decide +kernel
theorem dX9_lineOf_5 : decode cX9_lineOf 5 = .ok (.ifCond .eq 12, 3) := by decide +kernel
theorem dX9_lineOf_8 : decode cX9_lineOf 8 = .ok (.aload_n 0, 1) := by decide +kernel
theorem dX9_lineOf_9 : decode cX9_lineOf 9 = .ok (.getfield 18, 3) := by decide +kernel
theorem dX9_lineOf_12 : decode cX9_lineOf 12 = .ok (.iload_n 1, 1) := by decide +kernel
theorem dX9_lineOf_13 : decode cX9_lineOf 13 = .ok (.iaload, 1) := by decide +kernel
theorem dX9_lineOf_14 : decode cX9_lineOf 14 = .ok (.goto 4, 3) := by decide +kernel
theorem dX9_lineOf_17 : decode cX9_lineOf 17 = .ok (.iconst (-1), 1) := by decide +kernel
theorem dX9_lineOf_18 : decode cX9_lineOf 18 = .ok (.ireturn, 1) := by decide +kernel
theorem dX9_putByte_0 : decode cX9_putByte 0 = .ok (.aload_n 0, 1) := by decide +kernel
theorem dX9_putByte_1 : decode cX9_putByte 1 = .ok (.iload_n 1, 1) := by decide +kernel
theorem dX9_putByte_2 : decode cX9_putByte 2 = .ok (.iload_n 2, 1) := by decide +kernel
theorem dX9_putByte_3 : decode cX9_putByte 3 = .ok (.invokevirtual 56, 3) := by decide +kernel
theorem dX9_putByte_6 : decode cX9_putByte 6 = .ok (.ifCond .eq 14, 3) := by decide +kernel
theorem dX9_putByte_9 : decode cX9_putByte 9 = .ok (.iload_n 3, 1) := by decide +kernel
theorem dX9_putByte_10 : decode cX9_putByte 10 = .ok (.iconst 0, 1) := by decide +kernel
theorem dX9_putByte_11 : decode cX9_putByte 11 = .ok (.sipush 255, 3) := by decide +kernel
theorem dX9_putByte_14 : decode cX9_putByte 14 = .ok (.invokestatic 60, 3) := by decide +kernel
theorem dX9_putByte_17 : decode cX9_putByte 17 = .ok (.ifCond .ne 5, 3) := by decide +kernel
theorem dX9_putByte_20 : decode cX9_putByte 20 = .ok (.iconst 0, 1) := by decide +kernel
theorem dX9_putByte_21 : decode cX9_putByte 21 = .ok (.ireturn, 1) := by decide +kernel
theorem dX9_putByte_22 : decode cX9_putByte 22 = .ok (.aload_n 0, 1) := by decide +kernel
theorem dX9_putByte_23 : decode cX9_putByte 23 = .ok (.getfield 11, 3) := by decide +kernel
theorem dX9_putByte_26 : decode cX9_putByte 26 = .ok (.iload_n 1, 1) := by decide +kernel
theorem dX9_putByte_27 : decode cX9_putByte 27 = .ok (.iconst 5, 1) := by decide +kernel
theorem dX9_putByte_28 : decode cX9_putByte 28 = .ok (.imul, 1) := by decide +kernel
theorem dX9_putByte_29 : decode cX9_putByte 29 = .ok (.iload_n 2, 1) := by decide +kernel
theorem dX9_putByte_30 : decode cX9_putByte 30 = .ok (.iadd, 1) := by decide +kernel
theorem dX9_putByte_31 : decode cX9_putByte 31 = .ok (.iload_n 3, 1) := by decide +kernel
theorem dX9_putByte_32 : decode cX9_putByte 32 = .ok (.iastore, 1) := by decide +kernel
theorem dX9_putByte_33 : decode cX9_putByte 33 = .ok (.iconst 1, 1) := by decide +kernel
theorem dX9_putByte_34 : decode cX9_putByte 34 = .ok (.ireturn, 1) := by decide +kernel
theorem dX9_takeOff_0 : decode cX9_takeOff 0 = .ok (.aload_n 0, 1) := by decide +kernel
theorem dX9_takeOff_1 : decode cX9_takeOff 1 = .ok (.iload_n 1, 1) := by decide +kernel
theorem dX9_takeOff_2 : decode cX9_takeOff 2 = .ok (.invokevirtual 52, 3) := by decide +kernel
theorem dX9_takeOff_5 : decode cX9_takeOff 5 = .ok (.ifCond .ne 5, 3) := by decide +kernel
theorem dX9_takeOff_8 : decode cX9_takeOff 8 = .ok (.iconst 0, 1) := by decide +kernel
theorem dX9_takeOff_9 : decode cX9_takeOff 9 = .ok (.ireturn, 1) := by decide +kernel
theorem dX9_takeOff_10 : decode cX9_takeOff 10 = .ok (.aload_n 0, 1) := by decide +kernel
theorem dX9_takeOff_11 : decode cX9_takeOff 11 = .ok (.dup, 1) := by decide +kernel
theorem dX9_takeOff_12 : decode cX9_takeOff 12 = .ok (.getfield 24, 3) := by decide +kernel
theorem dX9_takeOff_15 : decode cX9_takeOff 15 = .ok (.iconst 1, 1) := by decide +kernel
theorem dX9_takeOff_16 : decode cX9_takeOff 16 = .ok (.isub, 1) := by decide +kernel
theorem dX9_takeOff_17 : decode cX9_takeOff 17 = .ok (.putfield 24, 3) := by decide +kernel
theorem dX9_takeOff_20 : decode cX9_takeOff 20 = .ok (.aload_n 0, 1) := by decide +kernel
theorem dX9_takeOff_21 : decode cX9_takeOff 21 = .ok (.getfield 24, 3) := by decide +kernel
theorem dX9_takeOff_24 : decode cX9_takeOff 24 = .ok (.iload_n 1, 1) := by decide +kernel
theorem dX9_takeOff_25 : decode cX9_takeOff 25 = .ok (.isub, 1) := by decide +kernel
theorem dX9_takeOff_26 : decode cX9_takeOff 26 = .ok (.istore_n 2, 1) := by decide +kernel
theorem dX9_takeOff_27 : decode cX9_takeOff 27 = .ok (.aload_n 0, 1) := by decide +kernel
theorem dX9_takeOff_28 : decode cX9_takeOff 28 = .ok (.getfield 15, 3) := by decide +kernel
theorem dX9_takeOff_31 : decode cX9_takeOff 31 = .ok (.iload_n 1, 1) := by decide +kernel
theorem dX9_takeOff_32 : decode cX9_takeOff 32 = .ok (.iconst 1, 1) := by decide +kernel
theorem dX9_takeOff_33 : decode cX9_takeOff 33 = .ok (.iadd, 1) := by decide +kernel
theorem dX9_takeOff_34 : decode cX9_takeOff 34 = .ok (.aload_n 0, 1) := by decide +kernel
theorem dX9_takeOff_35 : decode cX9_takeOff 35 = .ok (.getfield 15, 3) := by decide +kernel
theorem dX9_takeOff_38 : decode cX9_takeOff 38 = .ok (.iload_n 1, 1) := by decide +kernel
theorem dX9_takeOff_39 : decode cX9_takeOff 39 = .ok (.iload_n 2, 1) := by decide +kernel
theorem dX9_takeOff_40 : decode cX9_takeOff 40 = .ok (.invokestatic 64, 3) := by decide +kernel
theorem dX9_takeOff_43 : decode cX9_takeOff 43 = .ok (.aload_n 0, 1) := by decide +kernel
theorem dX9_takeOff_44 : decode cX9_takeOff 44 = .ok (.getfield 18, 3) := by decide +kernel
theorem dX9_takeOff_47 : decode cX9_takeOff 47 = .ok (.iload_n 1, 1) := by decide +kernel
theorem dX9_takeOff_48 : decode cX9_takeOff 48 = .ok (.iconst 1, 1) := by decide +kernel
theorem dX9_takeOff_49 : decode cX9_takeOff 49 = .ok (.iadd, 1) := by decide +kernel
theorem dX9_takeOff_50 : decode cX9_takeOff 50 = .ok (.aload_n 0, 1) := by decide +kernel
theorem dX9_takeOff_51 : decode cX9_takeOff 51 = .ok (.getfield 18, 3) := by decide +kernel
theorem dX9_takeOff_54 : decode cX9_takeOff 54 = .ok (.iload_n 1, 1) := by decide +kernel
theorem dX9_takeOff_55 : decode cX9_takeOff 55 = .ok (.iload_n 2, 1) := by decide +kernel
theorem dX9_takeOff_56 : decode cX9_takeOff 56 = .ok (.invokestatic 64, 3) := by decide +kernel
theorem dX9_takeOff_59 : decode cX9_takeOff 59 = .ok (.aload_n 0, 1) := by decide +kernel
theorem dX9_takeOff_60 : decode cX9_takeOff 60 = .ok (.getfield 11, 3) := by decide +kernel
theorem dX9_takeOff_63 : decode cX9_takeOff 63 = .ok (.iload_n 1, 1) := by decide +kernel
theorem dX9_takeOff_64 : decode cX9_takeOff 64 = .ok (.iconst 1, 1) := by decide +kernel
theorem dX9_takeOff_65 : decode cX9_takeOff 65 = .ok (.iadd, 1) := by decide +kernel
theorem dX9_takeOff_66 : decode cX9_takeOff 66 = .ok (.iconst 5, 1) := by decide +kernel
theorem dX9_takeOff_67 : decode cX9_takeOff 67 = .ok (.imul, 1) := by decide +kernel
theorem dX9_takeOff_68 : decode cX9_takeOff 68 = .ok (.aload_n 0, 1) := by decide +kernel
theorem dX9_takeOff_69 : decode cX9_takeOff 69 = .ok (.getfield 11, 3) := by decide +kernel
theorem dX9_takeOff_72 : decode cX9_takeOff 72 = .ok (.iload_n 1, 1) := by decide +kernel
theorem dX9_takeOff_73 : decode cX9_takeOff 73 = .ok (.iconst 5, 1) := by decide +kernel
theorem dX9_takeOff_74 : decode cX9_takeOff 74 = .ok (.imul, 1) := by decide +kernel
theorem dX9_takeOff_75 : decode cX9_takeOff 75 = .ok (.iload_n 2, 1) := by decide +kernel
theorem dX9_takeOff_76 : decode cX9_takeOff 76 = .ok (.iconst 5, 1) := by decide +kernel
theorem dX9_takeOff_77 : decode cX9_takeOff 77 = .ok (.imul, 1) := by decide +kernel
theorem dX9_takeOff_78 : decode cX9_takeOff 78 = .ok (.invokestatic 64, 3) := by decide +kernel
theorem dX9_takeOff_81 : decode cX9_takeOff 81 = .ok (.iconst 1, 1) := by decide +kernel
theorem dX9_takeOff_82 : decode cX9_takeOff 82 = .ok (.ireturn, 1) := by decide +kernel
theorem dX9_doom_0 : decode cX9_doom 0 = .ok (.iload_n 1, 1) := by decide +kernel
theorem dX9_doom_1 : decode cX9_doom 1 = .ok (.iconst 1, 1) := by decide +kernel
theorem dX9_doom_2 : decode cX9_doom 2 = .ok (.bipush 99, 2) := by decide +kernel
theorem dX9_doom_4 : decode cX9_doom 4 = .ok (.invokestatic 60, 3) := by decide +kernel
theorem dX9_doom_7 : decode cX9_doom 7 = .ok (.ifCond .eq 12, 3) := by decide +kernel
theorem dX9_doom_10 : decode cX9_doom 10 = .ok (.aload_n 0, 1) := by decide +kernel
theorem dX9_doom_11 : decode cX9_doom 11 = .ok (.getfield 28, 3) := by decide +kernel
theorem dX9_doom_14 : decode cX9_doom 14 = .ok (.bipush 8, 2) := by decide +kernel
theorem dX9_doom_16 : decode cX9_doom 16 = .ok (.if_icmp .lt 5, 3) := by decide +kernel
theorem dX9_doom_19 : decode cX9_doom 19 = .ok (.iconst (-1), 1) := by decide +kernel
theorem dX9_doom_20 : decode cX9_doom 20 = .ok (.ireturn, 1) := by decide +kernel
theorem dX9_doom_21 : decode cX9_doom 21 = .ok (.iconst 0, 1) := by decide +kernel
theorem dX9_doom_22 : decode cX9_doom 22 = .ok (.istore_n 2, 1) := by decide +kernel
theorem dX9_doom_23 : decode cX9_doom 23 = .ok (.iload_n 2, 1) := by decide +kernel
theorem dX9_doom_24 : decode cX9_doom 24 = .ok (.aload_n 0, 1) := by decide +kernel
theorem dX9_doom_25 : decode cX9_doom 25 = .ok (.getfield 28, 3) := by decide +kernel
theorem dX9_doom_28 : decode cX9_doom 28 = .ok (.if_icmp .ge 26, 3) := by decide +kernel
theorem dX9_doom_31 : decode cX9_doom 31 = .ok (.aload_n 0, 1) := by decide +kernel
theorem dX9_doom_32 : decode cX9_doom 32 = .ok (.getfield 21, 3) := by decide +kernel
theorem dX9_doom_35 : decode cX9_doom 35 = .ok (.iload_n 2, 1) := by decide +kernel
theorem dX9_doom_36 : decode cX9_doom 36 = .ok (.iaload, 1) := by decide +kernel
theorem dX9_doom_37 : decode cX9_doom 37 = .ok (.aload_n 0, 1) := by decide +kernel
theorem dX9_doom_38 : decode cX9_doom 38 = .ok (.getfield 31, 3) := by decide +kernel
theorem dX9_doom_41 : decode cX9_doom 41 = .ok (.iload_n 1, 1) := by decide +kernel
theorem dX9_doom_42 : decode cX9_doom 42 = .ok (.iadd, 1) := by decide +kernel
theorem dX9_doom_43 : decode cX9_doom 43 = .ok (.if_icmp .ne 5, 3) := by decide +kernel
theorem dX9_doom_46 : decode cX9_doom 46 = .ok (.iconst (-1), 1) := by decide +kernel
theorem dX9_doom_47 : decode cX9_doom 47 = .ok (.ireturn, 1) := by decide +kernel
theorem dX9_doom_48 : decode cX9_doom 48 = .ok (.iinc 2 1, 3) := by decide +kernel
theorem dX9_doom_51 : decode cX9_doom 51 = .ok (.goto (-28), 3) := by decide +kernel
theorem dX9_doom_54 : decode cX9_doom 54 = .ok (.aload_n 0, 1) := by decide +kernel
theorem dX9_doom_55 : decode cX9_doom 55 = .ok (.getfield 21, 3) := by decide +kernel
theorem dX9_doom_58 : decode cX9_doom 58 = .ok (.aload_n 0, 1) := by decide +kernel
theorem dX9_doom_59 : decode cX9_doom 59 = .ok (.getfield 28, 3) := by decide +kernel
theorem dX9_doom_62 : decode cX9_doom 62 = .ok (.aload_n 0, 1) := by decide +kernel
theorem dX9_doom_63 : decode cX9_doom 63 = .ok (.getfield 31, 3) := by decide +kernel
theorem dX9_doom_66 : decode cX9_doom 66 = .ok (.iload_n 1, 1) := by decide +kernel
theorem dX9_doom_67 : decode cX9_doom 67 = .ok (.iadd, 1) := by decide +kernel
theorem dX9_doom_68 : decode cX9_doom 68 = .ok (.iastore, 1) := by decide +kernel
theorem dX9_doom_69 : decode cX9_doom 69 = .ok (.aload_n 0, 1) := by decide +kernel
theorem dX9_doom_70 : decode cX9_doom 70 = .ok (.dup, 1) := by decide +kernel
theorem dX9_doom_71 : decode cX9_doom 71 = .ok (.getfield 28, 3) := by decide +kernel
theorem dX9_doom_74 : decode cX9_doom 74 = .ok (.iconst 1, 1) := by decide +kernel
theorem dX9_doom_75 : decode cX9_doom 75 = .ok (.iadd, 1) := by decide +kernel
theorem dX9_doom_76 : decode cX9_doom 76 = .ok (.putfield 28, 3) := by decide +kernel
theorem dX9_doom_79 : decode cX9_doom 79 = .ok (.aload_n 0, 1) := by decide +kernel
theorem dX9_doom_80 : decode cX9_doom 80 = .ok (.getfield 28, 3) := by decide +kernel
theorem dX9_doom_83 : decode cX9_doom 83 = .ok (.ireturn, 1) := by decide +kernel
theorem dX9_meetsFate_0 : decode cX9_meetsFate 0 = .ok (.iconst 0, 1) := by decide +kernel
theorem dX9_meetsFate_1 : decode cX9_meetsFate 1 = .ok (.istore_n 1, 1) := by decide +kernel
theorem dX9_meetsFate_2 : decode cX9_meetsFate 2 = .ok (.iload_n 1, 1) := by decide +kernel
theorem dX9_meetsFate_3 : decode cX9_meetsFate 3 = .ok (.aload_n 0, 1) := by decide +kernel
theorem dX9_meetsFate_4 : decode cX9_meetsFate 4 = .ok (.getfield 28, 3) := by decide +kernel
theorem dX9_meetsFate_7 : decode cX9_meetsFate 7 = .ok (.if_icmp .ge 49, 3) := by decide +kernel
theorem dX9_meetsFate_10 : decode cX9_meetsFate 10 = .ok (.aload_n 0, 1) := by decide +kernel
theorem dX9_meetsFate_11 : decode cX9_meetsFate 11 = .ok (.getfield 21, 3) := by decide +kernel
theorem dX9_meetsFate_14 : decode cX9_meetsFate 14 = .ok (.iload_n 1, 1) := by decide +kernel
theorem dX9_meetsFate_15 : decode cX9_meetsFate 15 = .ok (.iaload, 1) := by decide +kernel
theorem dX9_meetsFate_16 : decode cX9_meetsFate 16 = .ok (.aload_n 0, 1) := by decide +kernel
theorem dX9_meetsFate_17 : decode cX9_meetsFate 17 = .ok (.getfield 31, 3) := by decide +kernel
theorem dX9_meetsFate_20 : decode cX9_meetsFate 20 = .ok (.if_icmp .ne 30, 3) := by decide +kernel
theorem dX9_meetsFate_23 : decode cX9_meetsFate 23 = .ok (.aload_n 0, 1) := by decide +kernel
theorem dX9_meetsFate_24 : decode cX9_meetsFate 24 = .ok (.dup, 1) := by decide +kernel
theorem dX9_meetsFate_25 : decode cX9_meetsFate 25 = .ok (.getfield 28, 3) := by decide +kernel
theorem dX9_meetsFate_28 : decode cX9_meetsFate 28 = .ok (.iconst 1, 1) := by decide +kernel
theorem dX9_meetsFate_29 : decode cX9_meetsFate 29 = .ok (.isub, 1) := by decide +kernel
theorem dX9_meetsFate_30 : decode cX9_meetsFate 30 = .ok (.putfield 28, 3) := by decide +kernel
theorem dX9_meetsFate_33 : decode cX9_meetsFate 33 = .ok (.aload_n 0, 1) := by decide +kernel
theorem dX9_meetsFate_34 : decode cX9_meetsFate 34 = .ok (.getfield 21, 3) := by decide +kernel
theorem dX9_meetsFate_37 : decode cX9_meetsFate 37 = .ok (.iload_n 1, 1) := by decide +kernel
theorem dX9_meetsFate_38 : decode cX9_meetsFate 38 = .ok (.aload_n 0, 1) := by decide +kernel
theorem dX9_meetsFate_39 : decode cX9_meetsFate 39 = .ok (.getfield 21, 3) := by decide +kernel
theorem dX9_meetsFate_42 : decode cX9_meetsFate 42 = .ok (.aload_n 0, 1) := by decide +kernel
theorem dX9_meetsFate_43 : decode cX9_meetsFate 43 = .ok (.getfield 28, 3) := by decide +kernel
theorem dX9_meetsFate_46 : decode cX9_meetsFate 46 = .ok (.iaload, 1) := by decide +kernel
theorem dX9_meetsFate_47 : decode cX9_meetsFate 47 = .ok (.iastore, 1) := by decide +kernel
theorem dX9_meetsFate_48 : decode cX9_meetsFate 48 = .ok (.iconst 1, 1) := by decide +kernel
theorem dX9_meetsFate_49 : decode cX9_meetsFate 49 = .ok (.ireturn, 1) := by decide +kernel
theorem dX9_meetsFate_50 : decode cX9_meetsFate 50 = .ok (.iinc 1 1, 3) := by decide +kernel
theorem dX9_meetsFate_53 : decode cX9_meetsFate 53 = .ok (.goto (-51), 3) := by decide +kernel
theorem dX9_meetsFate_56 : decode cX9_meetsFate 56 = .ok (.iconst 0, 1) := by decide +kernel
theorem dX9_meetsFate_57 : decode cX9_meetsFate 57 = .ok (.ireturn, 1) := by decide +kernel
theorem dX9_goes_0 : decode cX9_goes 0 = .ok (.aload_n 0, 1) := by decide +kernel
theorem dX9_goes_1 : decode cX9_goes 1 = .ok (.dup, 1) := by decide +kernel
theorem dX9_goes_2 : decode cX9_goes 2 = .ok (.getfield 31, 3) := by decide +kernel
theorem dX9_goes_5 : decode cX9_goes 5 = .ok (.iconst 1, 1) := by decide +kernel
theorem dX9_goes_6 : decode cX9_goes 6 = .ok (.iadd, 1) := by decide +kernel
theorem dX9_goes_7 : decode cX9_goes 7 = .ok (.putfield 31, 3) := by decide +kernel
theorem dX9_goes_10 : decode cX9_goes 10 = .ok (.aload_n 0, 1) := by decide +kernel
theorem dX9_goes_11 : decode cX9_goes 11 = .ok (.invokevirtual 70, 3) := by decide +kernel
theorem dX9_goes_14 : decode cX9_goes 14 = .ok (.ifCond .eq 14, 3) := by decide +kernel
theorem dX9_goes_17 : decode cX9_goes 17 = .ok (.aload_n 0, 1) := by decide +kernel
theorem dX9_goes_18 : decode cX9_goes 18 = .ok (.dup, 1) := by decide +kernel
theorem dX9_goes_19 : decode cX9_goes 19 = .ok (.getfield 34, 3) := by decide +kernel
theorem dX9_goes_22 : decode cX9_goes 22 = .ok (.iconst 1, 1) := by decide +kernel
theorem dX9_goes_23 : decode cX9_goes 23 = .ok (.iadd, 1) := by decide +kernel
theorem dX9_goes_24 : decode cX9_goes 24 = .ok (.putfield 34, 3) := by decide +kernel
theorem dX9_goes_27 : decode cX9_goes 27 = .ok (.return_, 1) := by decide +kernel
theorem dX9_goes_28 : decode cX9_goes 28 = .ok (.aload_n 0, 1) := by decide +kernel
theorem dX9_goes_29 : decode cX9_goes 29 = .ok (.getfield 37, 3) := by decide +kernel
theorem dX9_goes_32 : decode cX9_goes 32 = .ok (.bipush 100, 2) := by decide +kernel
theorem dX9_goes_34 : decode cX9_goes 34 = .ok (.invokevirtual 74, 3) := by decide +kernel
theorem dX9_goes_37 : decode cX9_goes 37 = .ok (.istore_n 3, 1) := by decide +kernel
theorem dX9_goes_38 : decode cX9_goes 38 = .ok (.aload_n 0, 1) := by decide +kernel
theorem dX9_goes_39 : decode cX9_goes 39 = .ok (.getfield 37, 3) := by decide +kernel
theorem dX9_goes_42 : decode cX9_goes 42 = .ok (.getfield 78, 3) := by decide +kernel
theorem dX9_goes_45 : decode cX9_goes 45 = .ok (.bipush 8, 2) := by decide +kernel
theorem dX9_goes_47 : decode cX9_goes 47 = .ok (.iaload, 1) := by decide +kernel
theorem dX9_goes_48 : decode cX9_goes 48 = .ok (.istore 4, 2) := by decide +kernel
theorem dX9_goes_50 : decode cX9_goes 50 = .ok (.iload_n 3, 1) := by decide +kernel
theorem dX9_goes_51 : decode cX9_goes 51 = .ok (.iload 4, 2) := by decide +kernel
theorem dX9_goes_53 : decode cX9_goes 53 = .ok (.if_icmp .ge 14, 3) := by decide +kernel
theorem dX9_goes_56 : decode cX9_goes 56 = .ok (.aload_n 0, 1) := by decide +kernel
theorem dX9_goes_57 : decode cX9_goes 57 = .ok (.dup, 1) := by decide +kernel
theorem dX9_goes_58 : decode cX9_goes 58 = .ok (.getfield 34, 3) := by decide +kernel
theorem dX9_goes_61 : decode cX9_goes 61 = .ok (.iconst 1, 1) := by decide +kernel
theorem dX9_goes_62 : decode cX9_goes 62 = .ok (.iadd, 1) := by decide +kernel
theorem dX9_goes_63 : decode cX9_goes 63 = .ok (.putfield 34, 3) := by decide +kernel
theorem dX9_goes_66 : decode cX9_goes 66 = .ok (.return_, 1) := by decide +kernel
theorem dX9_goes_67 : decode cX9_goes 67 = .ok (.aload_n 0, 1) := by decide +kernel
theorem dX9_goes_68 : decode cX9_goes 68 = .ok (.getfield 24, 3) := by decide +kernel
theorem dX9_goes_71 : decode cX9_goes 71 = .ok (.bipush 48, 2) := by decide +kernel
theorem dX9_goes_73 : decode cX9_goes 73 = .ok (.if_icmp .lt 4, 3) := by decide +kernel
theorem dX9_goes_76 : decode cX9_goes 76 = .ok (.return_, 1) := by decide +kernel
theorem dX9_goes_77 : decode cX9_goes 77 = .ok (.aload_n 0, 1) := by decide +kernel
theorem dX9_goes_78 : decode cX9_goes 78 = .ok (.iload_n 1, 1) := by decide +kernel
theorem dX9_goes_79 : decode cX9_goes 79 = .ok (.iload_n 2, 1) := by decide +kernel
theorem dX9_goes_80 : decode cX9_goes 80 = .ok (.invokevirtual 81, 3) := by decide +kernel
theorem dX9_goes_83 : decode cX9_goes 83 = .ok (.iload_n 3, 1) := by decide +kernel
theorem dX9_goes_84 : decode cX9_goes 84 = .ok (.iload 4, 2) := by decide +kernel
theorem dX9_goes_86 : decode cX9_goes 86 = .ok (.aload_n 0, 1) := by decide +kernel
theorem dX9_goes_87 : decode cX9_goes 87 = .ok (.getfield 37, 3) := by decide +kernel
theorem dX9_goes_90 : decode cX9_goes 90 = .ok (.getfield 78, 3) := by decide +kernel
theorem dX9_goes_93 : decode cX9_goes 93 = .ok (.bipush 9, 2) := by decide +kernel
theorem dX9_goes_95 : decode cX9_goes 95 = .ok (.iaload, 1) := by decide +kernel
theorem dX9_goes_96 : decode cX9_goes 96 = .ok (.iadd, 1) := by decide +kernel
theorem dX9_goes_97 : decode cX9_goes 97 = .ok (.if_icmp .ge 55, 3) := by decide +kernel
theorem dX9_goes_100 : decode cX9_goes 100 = .ok (.aload_n 0, 1) := by decide +kernel
theorem dX9_goes_101 : decode cX9_goes 101 = .ok (.dup, 1) := by decide +kernel
theorem dX9_goes_102 : decode cX9_goes 102 = .ok (.getfield 34, 3) := by decide +kernel
theorem dX9_goes_105 : decode cX9_goes 105 = .ok (.iconst 1, 1) := by decide +kernel
theorem dX9_goes_106 : decode cX9_goes 106 = .ok (.iadd, 1) := by decide +kernel
theorem dX9_goes_107 : decode cX9_goes 107 = .ok (.putfield 34, 3) := by decide +kernel
theorem dX9_goes_110 : decode cX9_goes 110 = .ok (.aload_n 0, 1) := by decide +kernel
theorem dX9_goes_111 : decode cX9_goes 111 = .ok (.getfield 24, 3) := by decide +kernel
theorem dX9_goes_114 : decode cX9_goes 114 = .ok (.iconst 1, 1) := by decide +kernel
theorem dX9_goes_115 : decode cX9_goes 115 = .ok (.isub, 1) := by decide +kernel
theorem dX9_goes_116 : decode cX9_goes 116 = .ok (.iconst 5, 1) := by decide +kernel
theorem dX9_goes_117 : decode cX9_goes 117 = .ok (.imul, 1) := by decide +kernel
theorem dX9_goes_118 : decode cX9_goes 118 = .ok (.aload_n 0, 1) := by decide +kernel
theorem dX9_goes_119 : decode cX9_goes 119 = .ok (.getfield 37, 3) := by decide +kernel
theorem dX9_goes_122 : decode cX9_goes 122 = .ok (.aload_n 0, 1) := by decide +kernel
theorem dX9_goes_123 : decode cX9_goes 123 = .ok (.getfield 41, 3) := by decide +kernel
theorem dX9_goes_126 : decode cX9_goes 126 = .ok (.invokevirtual 74, 3) := by decide +kernel
theorem dX9_goes_129 : decode cX9_goes 129 = .ok (.iadd, 1) := by decide +kernel
theorem dX9_goes_130 : decode cX9_goes 130 = .ok (.istore 5, 2) := by decide +kernel
theorem dX9_goes_132 : decode cX9_goes 132 = .ok (.aload_n 0, 1) := by decide +kernel
theorem dX9_goes_133 : decode cX9_goes 133 = .ok (.getfield 11, 3) := by decide +kernel
theorem dX9_goes_136 : decode cX9_goes 136 = .ok (.iload 5, 2) := by decide +kernel
theorem dX9_goes_138 : decode cX9_goes 138 = .ok (.aload_n 0, 1) := by decide +kernel
theorem dX9_goes_139 : decode cX9_goes 139 = .ok (.getfield 11, 3) := by decide +kernel
theorem dX9_goes_142 : decode cX9_goes 142 = .ok (.iload 5, 2) := by decide +kernel
theorem dX9_goes_144 : decode cX9_goes 144 = .ok (.iaload, 1) := by decide +kernel
theorem dX9_goes_145 : decode cX9_goes 145 = .ok (.iconst 1, 1) := by decide +kernel
theorem dX9_goes_146 : decode cX9_goes 146 = .ok (.iadd, 1) := by decide +kernel
theorem dX9_goes_147 : decode cX9_goes 147 = .ok (.sipush 255, 3) := by decide +kernel
theorem dX9_goes_150 : decode cX9_goes 150 = .ok (.iand, 1) := by decide +kernel
theorem dX9_goes_151 : decode cX9_goes 151 = .ok (.iastore, 1) := by decide +kernel
theorem dX9_goes_152 : decode cX9_goes 152 = .ok (.return_, 1) := by decide +kernel
theorem dX9_put_0 : decode cX9_put 0 = .ok (.aload_n 0, 1) := by decide +kernel
theorem dX9_put_1 : decode cX9_put 1 = .ok (.getfield 24, 3) := by decide +kernel
theorem dX9_put_4 : decode cX9_put 4 = .ok (.iconst 5, 1) := by decide +kernel
theorem dX9_put_5 : decode cX9_put 5 = .ok (.imul, 1) := by decide +kernel
theorem dX9_put_6 : decode cX9_put 6 = .ok (.istore_n 3, 1) := by decide +kernel
theorem dX9_put_7 : decode cX9_put 7 = .ok (.bipush 85, 2) := by decide +kernel
theorem dX9_put_9 : decode cX9_put 9 = .ok (.istore 4, 2) := by decide +kernel
theorem dX9_put_11 : decode cX9_put 11 = .ok (.iconst 0, 1) := by decide +kernel
theorem dX9_put_12 : decode cX9_put 12 = .ok (.istore 5, 2) := by decide +kernel
theorem dX9_put_14 : decode cX9_put 14 = .ok (.iload 5, 2) := by decide +kernel
theorem dX9_put_16 : decode cX9_put 16 = .ok (.aload_n 0, 1) := by decide +kernel
theorem dX9_put_17 : decode cX9_put 17 = .ok (.getfield 41, 3) := by decide +kernel
theorem dX9_put_20 : decode cX9_put 20 = .ok (.iconst 1, 1) := by decide +kernel
theorem dX9_put_21 : decode cX9_put 21 = .ok (.isub, 1) := by decide +kernel
theorem dX9_put_22 : decode cX9_put 22 = .ok (.if_icmp .ge 47, 3) := by decide +kernel
theorem dX9_put_25 : decode cX9_put 25 = .ok (.iload_n 1, 1) := by decide +kernel
theorem dX9_put_26 : decode cX9_put 26 = .ok (.bipush 8, 2) := by decide +kernel
theorem dX9_put_28 : decode cX9_put 28 = .ok (.aload_n 0, 1) := by decide +kernel
theorem dX9_put_29 : decode cX9_put 29 = .ok (.getfield 41, 3) := by decide +kernel
theorem dX9_put_32 : decode cX9_put 32 = .ok (.iconst 2, 1) := by decide +kernel
theorem dX9_put_33 : decode cX9_put 33 = .ok (.isub, 1) := by decide +kernel
theorem dX9_put_34 : decode cX9_put 34 = .ok (.iload 5, 2) := by decide +kernel
theorem dX9_put_36 : decode cX9_put 36 = .ok (.isub, 1) := by decide +kernel
theorem dX9_put_37 : decode cX9_put 37 = .ok (.imul, 1) := by decide +kernel
theorem dX9_put_38 : decode cX9_put 38 = .ok (.iushr, 1) := by decide +kernel
theorem dX9_put_39 : decode cX9_put 39 = .ok (.sipush 255, 3) := by decide +kernel
theorem dX9_put_42 : decode cX9_put 42 = .ok (.iand, 1) := by decide +kernel
theorem dX9_put_43 : decode cX9_put 43 = .ok (.istore 6, 2) := by decide +kernel
theorem dX9_put_45 : decode cX9_put 45 = .ok (.aload_n 0, 1) := by decide +kernel
theorem dX9_put_46 : decode cX9_put 46 = .ok (.getfield 11, 3) := by decide +kernel
theorem dX9_put_49 : decode cX9_put 49 = .ok (.iload_n 3, 1) := by decide +kernel
theorem dX9_put_50 : decode cX9_put 50 = .ok (.iload 5, 2) := by decide +kernel
theorem dX9_put_52 : decode cX9_put 52 = .ok (.iadd, 1) := by decide +kernel
theorem dX9_put_53 : decode cX9_put 53 = .ok (.iload 6, 2) := by decide +kernel
theorem dX9_put_55 : decode cX9_put 55 = .ok (.iastore, 1) := by decide +kernel
theorem dX9_put_56 : decode cX9_put 56 = .ok (.iload 4, 2) := by decide +kernel
theorem dX9_put_58 : decode cX9_put 58 = .ok (.iload 6, 2) := by decide +kernel
theorem dX9_put_60 : decode cX9_put 60 = .ok (.iadd, 1) := by decide +kernel
theorem dX9_put_61 : decode cX9_put 61 = .ok (.istore 4, 2) := by decide +kernel
theorem dX9_put_63 : decode cX9_put 63 = .ok (.iinc 5 1, 3) := by decide +kernel
theorem dX9_put_66 : decode cX9_put 66 = .ok (.goto (-52), 3) := by decide +kernel
theorem dX9_put_69 : decode cX9_put 69 = .ok (.aload_n 0, 1) := by decide +kernel
theorem dX9_put_70 : decode cX9_put 70 = .ok (.getfield 11, 3) := by decide +kernel
theorem dX9_put_73 : decode cX9_put 73 = .ok (.iload_n 3, 1) := by decide +kernel
theorem dX9_put_74 : decode cX9_put 74 = .ok (.aload_n 0, 1) := by decide +kernel
theorem dX9_put_75 : decode cX9_put 75 = .ok (.getfield 41, 3) := by decide +kernel
theorem dX9_put_78 : decode cX9_put 78 = .ok (.iadd, 1) := by decide +kernel
theorem dX9_put_79 : decode cX9_put 79 = .ok (.iconst 1, 1) := by decide +kernel
theorem dX9_put_80 : decode cX9_put 80 = .ok (.isub, 1) := by decide +kernel
theorem dX9_put_81 : decode cX9_put 81 = .ok (.iload 4, 2) := by decide +kernel
theorem dX9_put_83 : decode cX9_put 83 = .ok (.sipush 255, 3) := by decide +kernel
theorem dX9_put_86 : decode cX9_put 86 = .ok (.iand, 1) := by decide +kernel
theorem dX9_put_87 : decode cX9_put 87 = .ok (.iastore, 1) := by decide +kernel
theorem dX9_put_88 : decode cX9_put 88 = .ok (.aload_n 0, 1) := by decide +kernel
theorem dX9_put_89 : decode cX9_put 89 = .ok (.getfield 15, 3) := by decide +kernel
theorem dX9_put_92 : decode cX9_put 92 = .ok (.aload_n 0, 1) := by decide +kernel
theorem dX9_put_93 : decode cX9_put 93 = .ok (.getfield 24, 3) := by decide +kernel
theorem dX9_put_96 : decode cX9_put 96 = .ok (.aload_n 0, 1) := by decide +kernel
theorem dX9_put_97 : decode cX9_put 97 = .ok (.getfield 37, 3) := by decide +kernel
theorem dX9_put_100 : decode cX9_put 100 = .ok (.getfield 47, 3) := by decide +kernel
theorem dX9_put_103 : decode cX9_put 103 = .ok (.aload_n 0, 1) := by decide +kernel
theorem dX9_put_104 : decode cX9_put 104 = .ok (.getfield 37, 3) := by decide +kernel
theorem dX9_put_107 : decode cX9_put 107 = .ok (.getfield 78, 3) := by decide +kernel
theorem dX9_put_110 : decode cX9_put 110 = .ok (.aload_n 0, 1) := by decide +kernel
theorem dX9_put_111 : decode cX9_put 111 = .ok (.getfield 44, 3) := by decide +kernel
theorem dX9_put_114 : decode cX9_put 114 = .ok (.iaload, 1) := by decide +kernel
theorem dX9_put_115 : decode cX9_put 115 = .ok (.iadd, 1) := by decide +kernel
theorem dX9_put_116 : decode cX9_put 116 = .ok (.iastore, 1) := by decide +kernel
theorem dX9_put_117 : decode cX9_put 117 = .ok (.aload_n 0, 1) := by decide +kernel
theorem dX9_put_118 : decode cX9_put 118 = .ok (.getfield 18, 3) := by decide +kernel
theorem dX9_put_121 : decode cX9_put 121 = .ok (.aload_n 0, 1) := by decide +kernel
theorem dX9_put_122 : decode cX9_put 122 = .ok (.getfield 24, 3) := by decide +kernel
theorem dX9_put_125 : decode cX9_put 125 = .ok (.iload_n 2, 1) := by decide +kernel
theorem dX9_put_126 : decode cX9_put 126 = .ok (.iastore, 1) := by decide +kernel
theorem dX9_put_127 : decode cX9_put 127 = .ok (.aload_n 0, 1) := by decide +kernel
theorem dX9_put_128 : decode cX9_put 128 = .ok (.dup, 1) := by decide +kernel
theorem dX9_put_129 : decode cX9_put 129 = .ok (.getfield 24, 3) := by decide +kernel
theorem dX9_put_132 : decode cX9_put 132 = .ok (.iconst 1, 1) := by decide +kernel
theorem dX9_put_133 : decode cX9_put 133 = .ok (.iadd, 1) := by decide +kernel
theorem dX9_put_134 : decode cX9_put 134 = .ok (.putfield 24, 3) := by decide +kernel
theorem dX9_put_137 : decode cX9_put 137 = .ok (.return_, 1) := by decide +kernel
theorem dX9_copyFrom_0 : decode cX9_copyFrom 0 = .ok (.aload_n 0, 1) := by decide +kernel
theorem dX9_copyFrom_1 : decode cX9_copyFrom 1 = .ok (.aload_n 1, 1) := by decide +kernel
theorem dX9_copyFrom_2 : decode cX9_copyFrom 2 = .ok (.getfield 24, 3) := by decide +kernel
theorem dX9_copyFrom_5 : decode cX9_copyFrom 5 = .ok (.putfield 24, 3) := by decide +kernel
theorem dX9_copyFrom_8 : decode cX9_copyFrom 8 = .ok (.aload_n 0, 1) := by decide +kernel
theorem dX9_copyFrom_9 : decode cX9_copyFrom 9 = .ok (.aload_n 1, 1) := by decide +kernel
theorem dX9_copyFrom_10 : decode cX9_copyFrom 10 = .ok (.getfield 28, 3) := by decide +kernel
theorem dX9_copyFrom_13 : decode cX9_copyFrom 13 = .ok (.putfield 28, 3) := by decide +kernel
theorem dX9_copyFrom_16 : decode cX9_copyFrom 16 = .ok (.aload_n 0, 1) := by decide +kernel
theorem dX9_copyFrom_17 : decode cX9_copyFrom 17 = .ok (.aload_n 1, 1) := by decide +kernel
theorem dX9_copyFrom_18 : decode cX9_copyFrom 18 = .ok (.getfield 31, 3) := by decide +kernel
theorem dX9_copyFrom_21 : decode cX9_copyFrom 21 = .ok (.putfield 31, 3) := by decide +kernel
theorem dX9_copyFrom_24 : decode cX9_copyFrom 24 = .ok (.aload_n 0, 1) := by decide +kernel
theorem dX9_copyFrom_25 : decode cX9_copyFrom 25 = .ok (.aload_n 1, 1) := by decide +kernel
theorem dX9_copyFrom_26 : decode cX9_copyFrom 26 = .ok (.getfield 34, 3) := by decide +kernel
theorem dX9_copyFrom_29 : decode cX9_copyFrom 29 = .ok (.putfield 34, 3) := by decide +kernel
theorem dX9_copyFrom_32 : decode cX9_copyFrom 32 = .ok (.aload_n 1, 1) := by decide +kernel
theorem dX9_copyFrom_33 : decode cX9_copyFrom 33 = .ok (.getfield 11, 3) := by decide +kernel
theorem dX9_copyFrom_36 : decode cX9_copyFrom 36 = .ok (.iconst 0, 1) := by decide +kernel
theorem dX9_copyFrom_37 : decode cX9_copyFrom 37 = .ok (.aload_n 0, 1) := by decide +kernel
theorem dX9_copyFrom_38 : decode cX9_copyFrom 38 = .ok (.getfield 11, 3) := by decide +kernel
theorem dX9_copyFrom_41 : decode cX9_copyFrom 41 = .ok (.iconst 0, 1) := by decide +kernel
theorem dX9_copyFrom_42 : decode cX9_copyFrom 42 = .ok (.sipush 240, 3) := by decide +kernel
theorem dX9_copyFrom_45 : decode cX9_copyFrom 45 = .ok (.invokestatic 64, 3) := by decide +kernel
theorem dX9_copyFrom_48 : decode cX9_copyFrom 48 = .ok (.aload_n 1, 1) := by decide +kernel
theorem dX9_copyFrom_49 : decode cX9_copyFrom 49 = .ok (.getfield 15, 3) := by decide +kernel
theorem dX9_copyFrom_52 : decode cX9_copyFrom 52 = .ok (.iconst 0, 1) := by decide +kernel
theorem dX9_copyFrom_53 : decode cX9_copyFrom 53 = .ok (.aload_n 0, 1) := by decide +kernel
theorem dX9_copyFrom_54 : decode cX9_copyFrom 54 = .ok (.getfield 15, 3) := by decide +kernel
theorem dX9_copyFrom_57 : decode cX9_copyFrom 57 = .ok (.iconst 0, 1) := by decide +kernel
theorem dX9_copyFrom_58 : decode cX9_copyFrom 58 = .ok (.bipush 48, 2) := by decide +kernel
theorem dX9_copyFrom_60 : decode cX9_copyFrom 60 = .ok (.invokestatic 64, 3) := by decide +kernel
theorem dX9_copyFrom_63 : decode cX9_copyFrom 63 = .ok (.aload_n 1, 1) := by decide +kernel
theorem dX9_copyFrom_64 : decode cX9_copyFrom 64 = .ok (.getfield 18, 3) := by decide +kernel
theorem dX9_copyFrom_67 : decode cX9_copyFrom 67 = .ok (.iconst 0, 1) := by decide +kernel
theorem dX9_copyFrom_68 : decode cX9_copyFrom 68 = .ok (.aload_n 0, 1) := by decide +kernel
theorem dX9_copyFrom_69 : decode cX9_copyFrom 69 = .ok (.getfield 18, 3) := by decide +kernel
theorem dX9_copyFrom_72 : decode cX9_copyFrom 72 = .ok (.iconst 0, 1) := by decide +kernel
theorem dX9_copyFrom_73 : decode cX9_copyFrom 73 = .ok (.bipush 48, 2) := by decide +kernel
theorem dX9_copyFrom_75 : decode cX9_copyFrom 75 = .ok (.invokestatic 64, 3) := by decide +kernel
theorem dX9_copyFrom_78 : decode cX9_copyFrom 78 = .ok (.aload_n 1, 1) := by decide +kernel
theorem dX9_copyFrom_79 : decode cX9_copyFrom 79 = .ok (.getfield 21, 3) := by decide +kernel
theorem dX9_copyFrom_82 : decode cX9_copyFrom 82 = .ok (.iconst 0, 1) := by decide +kernel
theorem dX9_copyFrom_83 : decode cX9_copyFrom 83 = .ok (.aload_n 0, 1) := by decide +kernel
theorem dX9_copyFrom_84 : decode cX9_copyFrom 84 = .ok (.getfield 21, 3) := by decide +kernel
theorem dX9_copyFrom_87 : decode cX9_copyFrom 87 = .ok (.iconst 0, 1) := by decide +kernel
theorem dX9_copyFrom_88 : decode cX9_copyFrom 88 = .ok (.bipush 8, 2) := by decide +kernel
theorem dX9_copyFrom_90 : decode cX9_copyFrom 90 = .ok (.invokestatic 64, 3) := by decide +kernel
theorem dX9_copyFrom_93 : decode cX9_copyFrom 93 = .ok (.return_, 1) := by decide +kernel
theorem dX6_meet_0 : decode cX6_meet 0 = .ok (.aload_n 1, 1) := by decide +kernel
theorem dX6_meet_1 : decode cX6_meet 1 = .ok (.iconst 0, 1) := by decide +kernel
theorem dX6_meet_2 : decode cX6_meet 2 = .ok (.iconst 0, 1) := by decide +kernel
theorem dX6_meet_3 : decode cX6_meet 3 = .ok (.invokevirtual 59, 3) := by decide +kernel
theorem dX6_meet_6 : decode cX6_meet 6 = .ok (.istore_n 2, 1) := by decide +kernel
theorem dX6_meet_7 : decode cX6_meet 7 = .ok (.aload_n 1, 1) := by decide +kernel
theorem dX6_meet_8 : decode cX6_meet 8 = .ok (.iconst 0, 1) := by decide +kernel
theorem dX6_meet_9 : decode cX6_meet 9 = .ok (.iconst 1, 1) := by decide +kernel
theorem dX6_meet_10 : decode cX6_meet 10 = .ok (.invokevirtual 59, 3) := by decide +kernel
theorem dX6_meet_13 : decode cX6_meet 13 = .ok (.istore_n 3, 1) := by decide +kernel
theorem dX6_meet_14 : decode cX6_meet 14 = .ok (.aload_n 1, 1) := by decide +kernel
theorem dX6_meet_15 : decode cX6_meet 15 = .ok (.iconst 0, 1) := by decide +kernel
theorem dX6_meet_16 : decode cX6_meet 16 = .ok (.iconst 2, 1) := by decide +kernel
theorem dX6_meet_17 : decode cX6_meet 17 = .ok (.invokevirtual 59, 3) := by decide +kernel
theorem dX6_meet_20 : decode cX6_meet 20 = .ok (.istore 4, 2) := by decide +kernel
theorem dX6_meet_22 : decode cX6_meet 22 = .ok (.aload_n 1, 1) := by decide +kernel
theorem dX6_meet_23 : decode cX6_meet 23 = .ok (.iconst 0, 1) := by decide +kernel
theorem dX6_meet_24 : decode cX6_meet 24 = .ok (.iconst 3, 1) := by decide +kernel
theorem dX6_meet_25 : decode cX6_meet 25 = .ok (.invokevirtual 59, 3) := by decide +kernel
theorem dX6_meet_28 : decode cX6_meet 28 = .ok (.istore 5, 2) := by decide +kernel
theorem dX6_meet_30 : decode cX6_meet 30 = .ok (.iload_n 2, 1) := by decide +kernel
theorem dX6_meet_31 : decode cX6_meet 31 = .ok (.iload_n 3, 1) := by decide +kernel
theorem dX6_meet_32 : decode cX6_meet 32 = .ok (.iadd, 1) := by decide +kernel
theorem dX6_meet_33 : decode cX6_meet 33 = .ok (.iload 4, 2) := by decide +kernel
theorem dX6_meet_35 : decode cX6_meet 35 = .ok (.iadd, 1) := by decide +kernel
theorem dX6_meet_36 : decode cX6_meet 36 = .ok (.iload 5, 2) := by decide +kernel
theorem dX6_meet_38 : decode cX6_meet 38 = .ok (.iadd, 1) := by decide +kernel
theorem dX6_meet_39 : decode cX6_meet 39 = .ok (.bipush 85, 2) := by decide +kernel
theorem dX6_meet_41 : decode cX6_meet 41 = .ok (.iadd, 1) := by decide +kernel
theorem dX6_meet_42 : decode cX6_meet 42 = .ok (.istore 6, 2) := by decide +kernel
theorem dX6_meet_44 : decode cX6_meet 44 = .ok (.iload 6, 2) := by decide +kernel
theorem dX6_meet_46 : decode cX6_meet 46 = .ok (.sipush 255, 3) := by decide +kernel
theorem dX6_meet_49 : decode cX6_meet 49 = .ok (.iand, 1) := by decide +kernel
theorem dX6_meet_50 : decode cX6_meet 50 = .ok (.aload_n 1, 1) := by decide +kernel
theorem dX6_meet_51 : decode cX6_meet 51 = .ok (.iconst 0, 1) := by decide +kernel
theorem dX6_meet_52 : decode cX6_meet 52 = .ok (.iconst 4, 1) := by decide +kernel
theorem dX6_meet_53 : decode cX6_meet 53 = .ok (.invokevirtual 59, 3) := by decide +kernel
theorem dX6_meet_56 : decode cX6_meet 56 = .ok (.if_icmp .ne 14, 3) := by decide +kernel
theorem dX6_meet_59 : decode cX6_meet 59 = .ok (.iload_n 2, 1) := by decide +kernel
theorem dX6_meet_60 : decode cX6_meet 60 = .ok (.iload 4, 2) := by decide +kernel
theorem dX6_meet_62 : decode cX6_meet 62 = .ok (.iload 5, 2) := by decide +kernel
theorem dX6_meet_64 : decode cX6_meet 64 = .ok (.invokestatic 65, 3) := by decide +kernel
theorem dX6_meet_67 : decode cX6_meet 67 = .ok (.ifCond .ne 14, 3) := by decide +kernel
theorem dX6_meet_70 : decode cX6_meet 70 = .ok (.aload_n 0, 1) := by decide +kernel
theorem dX6_meet_71 : decode cX6_meet 71 = .ok (.dup, 1) := by decide +kernel
theorem dX6_meet_72 : decode cX6_meet 72 = .ok (.getfield 48, 3) := by decide +kernel
theorem dX6_meet_75 : decode cX6_meet 75 = .ok (.iconst 1, 1) := by decide +kernel
theorem dX6_meet_76 : decode cX6_meet 76 = .ok (.iadd, 1) := by decide +kernel
theorem dX6_meet_77 : decode cX6_meet 77 = .ok (.putfield 48, 3) := by decide +kernel
theorem dX6_meet_80 : decode cX6_meet 80 = .ok (.return_, 1) := by decide +kernel
theorem dX6_meet_81 : decode cX6_meet 81 = .ok (.iload_n 2, 1) := by decide +kernel
theorem dX6_meet_82 : decode cX6_meet 82 = .ok (.ifCond .ne 23, 3) := by decide +kernel
theorem dX6_meet_85 : decode cX6_meet 85 = .ok (.aload_n 0, 1) := by decide +kernel
theorem dX6_meet_86 : decode cX6_meet 86 = .ok (.iload_n 3, 1) := by decide +kernel
theorem dX6_meet_87 : decode cX6_meet 87 = .ok (.sipush 256, 3) := by decide +kernel
theorem dX6_meet_90 : decode cX6_meet 90 = .ok (.iload 4, 2) := by decide +kernel
theorem dX6_meet_92 : decode cX6_meet 92 = .ok (.imul, 1) := by decide +kernel
theorem dX6_meet_93 : decode cX6_meet 93 = .ok (.iload 5, 2) := by decide +kernel
theorem dX6_meet_95 : decode cX6_meet 95 = .ok (.iadd, 1) := by decide +kernel
theorem dX6_meet_96 : decode cX6_meet 96 = .ok (.aload_n 1, 1) := by decide +kernel
theorem dX6_meet_97 : decode cX6_meet 97 = .ok (.iconst 0, 1) := by decide +kernel
theorem dX6_meet_98 : decode cX6_meet 98 = .ok (.invokevirtual 69, 3) := by decide +kernel
theorem dX6_meet_101 : decode cX6_meet 101 = .ok (.invokevirtual 73, 3) := by decide +kernel
theorem dX6_meet_104 : decode cX6_meet 104 = .ok (.return_, 1) := by decide +kernel
theorem dX6_meet_105 : decode cX6_meet 105 = .ok (.aload_n 0, 1) := by decide +kernel
theorem dX6_meet_106 : decode cX6_meet 106 = .ok (.aload_n 0, 1) := by decide +kernel
theorem dX6_meet_107 : decode cX6_meet 107 = .ok (.getfield 25, 3) := by decide +kernel
theorem dX6_meet_110 : decode cX6_meet 110 = .ok (.iconst 1, 1) := by decide +kernel
theorem dX6_meet_111 : decode cX6_meet 111 = .ok (.iadd, 1) := by decide +kernel
theorem dX6_meet_112 : decode cX6_meet 112 = .ok (.iconst 3, 1) := by decide +kernel
theorem dX6_meet_113 : decode cX6_meet 113 = .ok (.iand, 1) := by decide +kernel
theorem dX6_meet_114 : decode cX6_meet 114 = .ok (.putfield 25, 3) := by decide +kernel
theorem dX6_meet_117 : decode cX6_meet 117 = .ok (.iload_n 2, 1) := by decide +kernel
theorem dX6_meet_118 : decode cX6_meet 118 = .ok (.iconst 1, 1) := by decide +kernel
theorem dX6_meet_119 : decode cX6_meet 119 = .ok (.if_icmp .ne 19, 3) := by decide +kernel
theorem dX6_meet_122 : decode cX6_meet 122 = .ok (.aload_n 0, 1) := by decide +kernel
theorem dX6_meet_123 : decode cX6_meet 123 = .ok (.sipush 256, 3) := by decide +kernel
theorem dX6_meet_126 : decode cX6_meet 126 = .ok (.iload 4, 2) := by decide +kernel
theorem dX6_meet_128 : decode cX6_meet 128 = .ok (.imul, 1) := by decide +kernel
theorem dX6_meet_129 : decode cX6_meet 129 = .ok (.iload 5, 2) := by decide +kernel
theorem dX6_meet_131 : decode cX6_meet 131 = .ok (.iadd, 1) := by decide +kernel
theorem dX6_meet_132 : decode cX6_meet 132 = .ok (.invokevirtual 77, 3) := by decide +kernel
theorem dX6_meet_135 : decode cX6_meet 135 = .ok (.goto 11, 3) := by decide +kernel
theorem dX6_meet_138 : decode cX6_meet 138 = .ok (.aload_n 0, 1) := by decide +kernel
theorem dX6_meet_139 : decode cX6_meet 139 = .ok (.iload 4, 2) := by decide +kernel
theorem dX6_meet_141 : decode cX6_meet 141 = .ok (.iload 5, 2) := by decide +kernel
theorem dX6_meet_143 : decode cX6_meet 143 = .ok (.invokevirtual 81, 3) := by decide +kernel
theorem dX6_meet_146 : decode cX6_meet 146 = .ok (.return_, 1) := by decide +kernel
theorem dX6_isGood_0 : decode cX6_isGood 0 = .ok (.iload_n 0, 1) := by decide +kernel
theorem dX6_isGood_1 : decode cX6_isGood 1 = .ok (.iconst 2, 1) := by decide +kernel
theorem dX6_isGood_2 : decode cX6_isGood 2 = .ok (.if_icmp .ne 14, 3) := by decide +kernel
theorem dX6_isGood_5 : decode cX6_isGood 5 = .ok (.iload_n 1, 1) := by decide +kernel
theorem dX6_isGood_6 : decode cX6_isGood 6 = .ok (.iconst 1, 1) := by decide +kernel
theorem dX6_isGood_7 : decode cX6_isGood 7 = .ok (.if_icmp .gt 7, 3) := by decide +kernel
theorem dX6_isGood_10 : decode cX6_isGood 10 = .ok (.iconst 1, 1) := by decide +kernel
theorem dX6_isGood_11 : decode cX6_isGood 11 = .ok (.goto 4, 3) := by decide +kernel
theorem dX6_isGood_14 : decode cX6_isGood 14 = .ok (.iconst 0, 1) := by decide +kernel
theorem dX6_isGood_15 : decode cX6_isGood 15 = .ok (.ireturn, 1) := by decide +kernel
theorem dX6_isGood_16 : decode cX6_isGood 16 = .ok (.iload_n 0, 1) := by decide +kernel
theorem dX6_isGood_17 : decode cX6_isGood 17 = .ok (.iconst 2, 1) := by decide +kernel
theorem dX6_isGood_18 : decode cX6_isGood 18 = .ok (.if_icmp .ge 20, 3) := by decide +kernel
theorem dX6_isGood_21 : decode cX6_isGood 21 = .ok (.sipush 256, 3) := by decide +kernel
theorem dX6_isGood_24 : decode cX6_isGood 24 = .ok (.iload_n 1, 1) := by decide +kernel
theorem dX6_isGood_25 : decode cX6_isGood 25 = .ok (.imul, 1) := by decide +kernel
theorem dX6_isGood_26 : decode cX6_isGood 26 = .ok (.iload_n 2, 1) := by decide +kernel
theorem dX6_isGood_27 : decode cX6_isGood 27 = .ok (.iadd, 1) := by decide +kernel
theorem dX6_isGood_28 : decode cX6_isGood 28 = .ok (.invokestatic 85, 3) := by decide +kernel
theorem dX6_isGood_31 : decode cX6_isGood 31 = .ok (.ifCond .eq 7, 3) := by decide +kernel
theorem dX6_isGood_34 : decode cX6_isGood 34 = .ok (.iconst 1, 1) := by decide +kernel
theorem dX6_isGood_35 : decode cX6_isGood 35 = .ok (.goto 4, 3) := by decide +kernel
theorem dX6_isGood_38 : decode cX6_isGood 38 = .ok (.iconst 0, 1) := by decide +kernel
theorem dX6_isGood_39 : decode cX6_isGood 39 = .ok (.ireturn, 1) := by decide +kernel
theorem dX6_keepPast_0 : decode cX6_keepPast 0 = .ok (.aload_n 0, 1) := by decide +kernel
theorem dX6_keepPast_1 : decode cX6_keepPast 1 = .ok (.getfield 45, 3) := by decide +kernel
theorem dX6_keepPast_4 : decode cX6_keepPast 4 = .ok (.bipush 100, 2) := by decide +kernel
theorem dX6_keepPast_6 : decode cX6_keepPast 6 = .ok (.if_icmp .ge 13, 3) := by decide +kernel
theorem dX6_keepPast_9 : decode cX6_keepPast 9 = .ok (.aload_n 0, 1) := by decide +kernel
theorem dX6_keepPast_10 : decode cX6_keepPast 10 = .ok (.getfield 42, 3) := by decide +kernel
theorem dX6_keepPast_13 : decode cX6_keepPast 13 = .ok (.aload_n 0, 1) := by decide +kernel
theorem dX6_keepPast_14 : decode cX6_keepPast 14 = .ok (.getfield 45, 3) := by decide +kernel
theorem dX6_keepPast_17 : decode cX6_keepPast 17 = .ok (.iload_n 1, 1) := by decide +kernel
theorem dX6_keepPast_18 : decode cX6_keepPast 18 = .ok (.iastore, 1) := by decide +kernel
theorem dX6_keepPast_19 : decode cX6_keepPast 19 = .ok (.aload_n 0, 1) := by decide +kernel
theorem dX6_keepPast_20 : decode cX6_keepPast 20 = .ok (.dup, 1) := by decide +kernel
theorem dX6_keepPast_21 : decode cX6_keepPast 21 = .ok (.getfield 45, 3) := by decide +kernel
theorem dX6_keepPast_24 : decode cX6_keepPast 24 = .ok (.iconst 1, 1) := by decide +kernel
theorem dX6_keepPast_25 : decode cX6_keepPast 25 = .ok (.iadd, 1) := by decide +kernel
theorem dX6_keepPast_26 : decode cX6_keepPast 26 = .ok (.putfield 45, 3) := by decide +kernel
theorem dX6_keepPast_29 : decode cX6_keepPast 29 = .ok (.return_, 1) := by decide +kernel
theorem dX6_obey_0 : decode cX6_obey 0 = .ok (.iload_n 1, 1) := by decide +kernel
theorem dX6_obey_1 : decode cX6_obey 1 = .ok (.ifCond .ne 7, 3) := by decide +kernel
theorem dX6_obey_4 : decode cX6_obey 4 = .ok (.iconst 1, 1) := by decide +kernel
theorem dX6_obey_5 : decode cX6_obey 5 = .ok (.goto 4, 3) := by decide +kernel
theorem dX6_obey_8 : decode cX6_obey 8 = .ok (.iconst 0, 1) := by decide +kernel
theorem dX6_obey_9 : decode cX6_obey 9 = .ok (.istore_n 3, 1) := by decide +kernel
theorem dX6_obey_10 : decode cX6_obey 10 = .ok (.iload_n 3, 1) := by decide +kernel
theorem dX6_obey_11 : decode cX6_obey 11 = .ok (.ifCond .ne 11, 3) := by decide +kernel
theorem dX6_obey_14 : decode cX6_obey 14 = .ok (.aload_n 0, 1) := by decide +kernel
theorem dX6_obey_15 : decode cX6_obey 15 = .ok (.getfield 15, 3) := by decide +kernel
theorem dX6_obey_18 : decode cX6_obey 18 = .ok (.ifCond .eq 4, 3) := by decide +kernel
theorem dX6_obey_21 : decode cX6_obey 21 = .ok (.return_, 1) := by decide +kernel
theorem dX6_obey_22 : decode cX6_obey 22 = .ok (.aload_n 0, 1) := by decide +kernel
theorem dX6_obey_23 : decode cX6_obey 23 = .ok (.iconst 0, 1) := by decide +kernel
theorem dX6_obey_24 : decode cX6_obey 24 = .ok (.putfield 19, 3) := by decide +kernel
theorem dX6_obey_27 : decode cX6_obey 27 = .ok (.aload_n 0, 1) := by decide +kernel
theorem dX6_obey_28 : decode cX6_obey 28 = .ok (.iconst 0, 1) := by decide +kernel
theorem dX6_obey_29 : decode cX6_obey 29 = .ok (.putfield 22, 3) := by decide +kernel
theorem dX6_obey_32 : decode cX6_obey 32 = .ok (.iload_n 3, 1) := by decide +kernel
theorem dX6_obey_33 : decode cX6_obey 33 = .ok (.ifCond .eq 11, 3) := by decide +kernel
theorem dX6_obey_36 : decode cX6_obey 36 = .ok (.aload_n 0, 1) := by decide +kernel
theorem dX6_obey_37 : decode cX6_obey 37 = .ok (.iconst 0, 1) := by decide +kernel
theorem dX6_obey_38 : decode cX6_obey 38 = .ok (.putfield 15, 3) := by decide +kernel
theorem dX6_obey_41 : decode cX6_obey 41 = .ok (.goto 8, 3) := by decide +kernel
theorem dX6_obey_44 : decode cX6_obey 44 = .ok (.aload_n 0, 1) := by decide +kernel
theorem dX6_obey_45 : decode cX6_obey 45 = .ok (.iload_n 2, 1) := by decide +kernel
theorem dX6_obey_46 : decode cX6_obey 46 = .ok (.putfield 9, 3) := by decide +kernel
theorem dX6_obey_49 : decode cX6_obey 49 = .ok (.return_, 1) := by decide +kernel
theorem dX6_meetInOrder_0 : decode cX6_meetInOrder 0 = .ok (.aload_n 0, 1) := by decide +kernel
theorem dX6_meetInOrder_1 : decode cX6_meetInOrder 1 = .ok (.getfield 15, 3) := by decide +kernel
theorem dX6_meetInOrder_4 : decode cX6_meetInOrder 4 = .ok (.ifCond .eq 7, 3) := by decide +kernel
theorem dX6_meetInOrder_7 : decode cX6_meetInOrder 7 = .ok (.iconst (-1), 1) := by decide +kernel
theorem dX6_meetInOrder_8 : decode cX6_meetInOrder 8 = .ok (.goto 8, 3) := by decide +kernel
theorem dX6_meetInOrder_11 : decode cX6_meetInOrder 11 = .ok (.aload_n 0, 1) := by decide +kernel
theorem dX6_meetInOrder_12 : decode cX6_meetInOrder 12 = .ok (.iload_n 1, 1) := by decide +kernel
theorem dX6_meetInOrder_13 : decode cX6_meetInOrder 13 = .ok (.invokevirtual 89, 3) := by decide +kernel
theorem dX6_meetInOrder_16 : decode cX6_meetInOrder 16 = .ok (.istore 4, 2) := by decide +kernel
theorem dX6_meetInOrder_18 : decode cX6_meetInOrder 18 = .ok (.iload 4, 2) := by decide +kernel
theorem dX6_meetInOrder_20 : decode cX6_meetInOrder 20 = .ok (.ifCond .ne 36, 3) := by decide +kernel
theorem dX6_meetInOrder_23 : decode cX6_meetInOrder 23 = .ok (.aload_n 0, 1) := by decide +kernel
theorem dX6_meetInOrder_24 : decode cX6_meetInOrder 24 = .ok (.getfield 19, 3) := by decide +kernel
theorem dX6_meetInOrder_27 : decode cX6_meetInOrder 27 = .ok (.ifCond .ne 29, 3) := by decide +kernel
theorem dX6_meetInOrder_30 : decode cX6_meetInOrder 30 = .ok (.aload_n 0, 1) := by decide +kernel
theorem dX6_meetInOrder_31 : decode cX6_meetInOrder 31 = .ok (.getfield 31, 3) := by decide +kernel
theorem dX6_meetInOrder_34 : decode cX6_meetInOrder 34 = .ok (.getfield 92, 3) := by decide +kernel
theorem dX6_meetInOrder_37 : decode cX6_meetInOrder 37 = .ok (.aload_n 0, 1) := by decide +kernel
theorem dX6_meetInOrder_38 : decode cX6_meetInOrder 38 = .ok (.getfield 51, 3) := by decide +kernel
theorem dX6_meetInOrder_41 : decode cX6_meetInOrder 41 = .ok (.getfield 93, 3) := by decide +kernel
theorem dX6_meetInOrder_44 : decode cX6_meetInOrder 44 = .ok (.iconst 1, 1) := by decide +kernel
theorem dX6_meetInOrder_45 : decode cX6_meetInOrder 45 = .ok (.iaload, 1) := by decide +kernel
theorem dX6_meetInOrder_46 : decode cX6_meetInOrder 46 = .ok (.if_icmp .ge 10, 3) := by decide +kernel
theorem dX6_meetInOrder_49 : decode cX6_meetInOrder 49 = .ok (.aload_n 0, 1) := by decide +kernel
theorem dX6_meetInOrder_50 : decode cX6_meetInOrder 50 = .ok (.iload_n 2, 1) := by decide +kernel
theorem dX6_meetInOrder_51 : decode cX6_meetInOrder 51 = .ok (.iload_n 3, 1) := by decide +kernel
theorem dX6_meetInOrder_52 : decode cX6_meetInOrder 52 = .ok (.invokevirtual 98, 3) := by decide +kernel
theorem dX6_meetInOrder_55 : decode cX6_meetInOrder 55 = .ok (.return_, 1) := by decide +kernel
theorem dX6_meetInOrder_56 : decode cX6_meetInOrder 56 = .ok (.aload_n 0, 1) := by decide +kernel
theorem dX6_meetInOrder_57 : decode cX6_meetInOrder 57 = .ok (.dup, 1) := by decide +kernel
theorem dX6_meetInOrder_58 : decode cX6_meetInOrder 58 = .ok (.getfield 48, 3) := by decide +kernel
theorem dX6_meetInOrder_61 : decode cX6_meetInOrder 61 = .ok (.iconst 1, 1) := by decide +kernel
theorem dX6_meetInOrder_62 : decode cX6_meetInOrder 62 = .ok (.iadd, 1) := by decide +kernel
theorem dX6_meetInOrder_63 : decode cX6_meetInOrder 63 = .ok (.putfield 48, 3) := by decide +kernel
theorem dX6_meetInOrder_66 : decode cX6_meetInOrder 66 = .ok (.iload 4, 2) := by decide +kernel
theorem dX6_meetInOrder_68 : decode cX6_meetInOrder 68 = .ok (.iconst 3, 1) := by decide +kernel
theorem dX6_meetInOrder_69 : decode cX6_meetInOrder 69 = .ok (.if_icmp .ne 8, 3) := by decide +kernel
theorem dX6_meetInOrder_72 : decode cX6_meetInOrder 72 = .ok (.aload_n 0, 1) := by decide +kernel
theorem dX6_meetInOrder_73 : decode cX6_meetInOrder 73 = .ok (.iconst 1, 1) := by decide +kernel
theorem dX6_meetInOrder_74 : decode cX6_meetInOrder 74 = .ok (.putfield 15, 3) := by decide +kernel
theorem dX6_meetInOrder_77 : decode cX6_meetInOrder 77 = .ok (.aload_n 0, 1) := by decide +kernel
theorem dX6_meetInOrder_78 : decode cX6_meetInOrder 78 = .ok (.getfield 19, 3) := by decide +kernel
theorem dX6_meetInOrder_81 : decode cX6_meetInOrder 81 = .ok (.ifCond .eq 4, 3) := by decide +kernel
theorem dX6_meetInOrder_84 : decode cX6_meetInOrder 84 = .ok (.return_, 1) := by decide +kernel
theorem dX6_meetInOrder_85 : decode cX6_meetInOrder 85 = .ok (.iload 4, 2) := by decide +kernel
theorem dX6_meetInOrder_87 : decode cX6_meetInOrder 87 = .ok (.ifCond .ne 13, 3) := by decide +kernel
theorem dX6_meetInOrder_90 : decode cX6_meetInOrder 90 = .ok (.aload_n 0, 1) := by decide +kernel
theorem dX6_meetInOrder_91 : decode cX6_meetInOrder 91 = .ok (.iconst 1, 1) := by decide +kernel
theorem dX6_meetInOrder_92 : decode cX6_meetInOrder 92 = .ok (.putfield 19, 3) := by decide +kernel
theorem dX6_meetInOrder_95 : decode cX6_meetInOrder 95 = .ok (.aload_n 0, 1) := by decide +kernel
theorem dX6_meetInOrder_96 : decode cX6_meetInOrder 96 = .ok (.iconst 1, 1) := by decide +kernel
theorem dX6_meetInOrder_97 : decode cX6_meetInOrder 97 = .ok (.putfield 22, 3) := by decide +kernel
theorem dX6_meetInOrder_100 : decode cX6_meetInOrder 100 = .ok (.iload 4, 2) := by decide +kernel
theorem dX6_meetInOrder_102 : decode cX6_meetInOrder 102 = .ok (.iconst 1, 1) := by decide +kernel
theorem dX6_meetInOrder_103 : decode cX6_meetInOrder 103 = .ok (.if_icmp .ne 8, 3) := by decide +kernel
theorem dX6_meetInOrder_106 : decode cX6_meetInOrder 106 = .ok (.aload_n 0, 1) := by decide +kernel
theorem dX6_meetInOrder_107 : decode cX6_meetInOrder 107 = .ok (.iconst 1, 1) := by decide +kernel
theorem dX6_meetInOrder_108 : decode cX6_meetInOrder 108 = .ok (.putfield 22, 3) := by decide +kernel
theorem dX6_meetInOrder_111 : decode cX6_meetInOrder 111 = .ok (.return_, 1) := by decide +kernel
theorem dX6_takeIn_0 : decode cX6_takeIn 0 = .ok (.aload_n 0, 1) := by decide +kernel
theorem dX6_takeIn_1 : decode cX6_takeIn 1 = .ok (.getfield 31, 3) := by decide +kernel
theorem dX6_takeIn_4 : decode cX6_takeIn 4 = .ok (.iload_n 1, 1) := by decide +kernel
theorem dX6_takeIn_5 : decode cX6_takeIn 5 = .ok (.aload_n 0, 1) := by decide +kernel
theorem dX6_takeIn_6 : decode cX6_takeIn 6 = .ok (.getfield 9, 3) := by decide +kernel
theorem dX6_takeIn_9 : decode cX6_takeIn 9 = .ok (.iload_n 2, 1) := by decide +kernel
theorem dX6_takeIn_10 : decode cX6_takeIn 10 = .ok (.invokevirtual 101, 3) := by decide +kernel
theorem dX6_takeIn_13 : decode cX6_takeIn 13 = .ok (.aload_n 0, 1) := by decide +kernel
theorem dX6_takeIn_14 : decode cX6_takeIn 14 = .ok (.getfield 39, 3) := by decide +kernel
theorem dX6_takeIn_17 : decode cX6_takeIn 17 = .ok (.bipush 100, 2) := by decide +kernel
theorem dX6_takeIn_19 : decode cX6_takeIn 19 = .ok (.if_icmp .ge 13, 3) := by decide +kernel
theorem dX6_takeIn_22 : decode cX6_takeIn 22 = .ok (.aload_n 0, 1) := by decide +kernel
theorem dX6_takeIn_23 : decode cX6_takeIn 23 = .ok (.getfield 35, 3) := by decide +kernel
theorem dX6_takeIn_26 : decode cX6_takeIn 26 = .ok (.aload_n 0, 1) := by decide +kernel
theorem dX6_takeIn_27 : decode cX6_takeIn 27 = .ok (.getfield 39, 3) := by decide +kernel
theorem dX6_takeIn_30 : decode cX6_takeIn 30 = .ok (.iload_n 1, 1) := by decide +kernel
theorem dX6_takeIn_31 : decode cX6_takeIn 31 = .ok (.iastore, 1) := by decide +kernel
theorem dX6_takeIn_32 : decode cX6_takeIn 32 = .ok (.aload_n 0, 1) := by decide +kernel
theorem dX6_takeIn_33 : decode cX6_takeIn 33 = .ok (.dup, 1) := by decide +kernel
theorem dX6_takeIn_34 : decode cX6_takeIn 34 = .ok (.getfield 39, 3) := by decide +kernel
theorem dX6_takeIn_37 : decode cX6_takeIn 37 = .ok (.iconst 1, 1) := by decide +kernel
theorem dX6_takeIn_38 : decode cX6_takeIn 38 = .ok (.iadd, 1) := by decide +kernel
theorem dX6_takeIn_39 : decode cX6_takeIn 39 = .ok (.putfield 39, 3) := by decide +kernel
theorem dX6_takeIn_42 : decode cX6_takeIn 42 = .ok (.aload_n 0, 1) := by decide +kernel
theorem dX6_takeIn_43 : decode cX6_takeIn 43 = .ok (.aload_n 0, 1) := by decide +kernel
theorem dX6_takeIn_44 : decode cX6_takeIn 44 = .ok (.getfield 9, 3) := by decide +kernel
theorem dX6_takeIn_47 : decode cX6_takeIn 47 = .ok (.iconst 1, 1) := by decide +kernel
theorem dX6_takeIn_48 : decode cX6_takeIn 48 = .ok (.iadd, 1) := by decide +kernel
theorem dX6_takeIn_49 : decode cX6_takeIn 49 = .ok (.sipush 255, 3) := by decide +kernel
theorem dX6_takeIn_52 : decode cX6_takeIn 52 = .ok (.iand, 1) := by decide +kernel
theorem dX6_takeIn_53 : decode cX6_takeIn 53 = .ok (.putfield 9, 3) := by decide +kernel
theorem dX6_takeIn_56 : decode cX6_takeIn 56 = .ok (.aload_n 0, 1) := by decide +kernel
theorem dX6_takeIn_57 : decode cX6_takeIn 57 = .ok (.iconst 0, 1) := by decide +kernel
theorem dX6_takeIn_58 : decode cX6_takeIn 58 = .ok (.putfield 22, 3) := by decide +kernel
theorem dX6_takeIn_61 : decode cX6_takeIn 61 = .ok (.aload_n 0, 1) := by decide +kernel
theorem dX6_takeIn_62 : decode cX6_takeIn 62 = .ok (.getfield 55, 3) := by decide +kernel
theorem dX6_takeIn_65 : decode cX6_takeIn 65 = .ok (.iload_n 2, 1) := by decide +kernel
theorem dX6_takeIn_66 : decode cX6_takeIn 66 = .ok (.invokevirtual 104, 3) := by decide +kernel
theorem dX6_takeIn_69 : decode cX6_takeIn 69 = .ok (.return_, 1) := by decide +kernel
theorem dX6_zoneOf_0 : decode cX6_zoneOf 0 = .ok (.aload_n 0, 1) := by decide +kernel
theorem dX6_zoneOf_1 : decode cX6_zoneOf 1 = .ok (.getfield 51, 3) := by decide +kernel
theorem dX6_zoneOf_4 : decode cX6_zoneOf 4 = .ok (.getfield 93, 3) := by decide +kernel
theorem dX6_zoneOf_7 : decode cX6_zoneOf 7 = .ok (.iconst 0, 1) := by decide +kernel
theorem dX6_zoneOf_8 : decode cX6_zoneOf 8 = .ok (.iaload, 1) := by decide +kernel
theorem dX6_zoneOf_9 : decode cX6_zoneOf 9 = .ok (.iconst 2, 1) := by decide +kernel
theorem dX6_zoneOf_10 : decode cX6_zoneOf 10 = .ok (.idiv, 1) := by decide +kernel
theorem dX6_zoneOf_11 : decode cX6_zoneOf 11 = .ok (.istore_n 2, 1) := by decide +kernel
theorem dX6_zoneOf_12 : decode cX6_zoneOf 12 = .ok (.iload_n 1, 1) := by decide +kernel
theorem dX6_zoneOf_13 : decode cX6_zoneOf 13 = .ok (.aload_n 0, 1) := by decide +kernel
theorem dX6_zoneOf_14 : decode cX6_zoneOf 14 = .ok (.getfield 9, 3) := by decide +kernel
theorem dX6_zoneOf_17 : decode cX6_zoneOf 17 = .ok (.invokestatic 109, 3) := by decide +kernel
theorem dX6_zoneOf_20 : decode cX6_zoneOf 20 = .ok (.istore_n 3, 1) := by decide +kernel
theorem dX6_zoneOf_21 : decode cX6_zoneOf 21 = .ok (.iload_n 3, 1) := by decide +kernel
theorem dX6_zoneOf_22 : decode cX6_zoneOf 22 = .ok (.ifCond .ne 5, 3) := by decide +kernel
theorem dX6_zoneOf_25 : decode cX6_zoneOf 25 = .ok (.iconst 0, 1) := by decide +kernel
theorem dX6_zoneOf_26 : decode cX6_zoneOf 26 = .ok (.ireturn, 1) := by decide +kernel
theorem dX6_zoneOf_27 : decode cX6_zoneOf 27 = .ok (.iload_n 3, 1) := by decide +kernel
theorem dX6_zoneOf_28 : decode cX6_zoneOf 28 = .ok (.iload_n 2, 1) := by decide +kernel
theorem dX6_zoneOf_29 : decode cX6_zoneOf 29 = .ok (.if_icmp .ge 5, 3) := by decide +kernel
theorem dX6_zoneOf_32 : decode cX6_zoneOf 32 = .ok (.iconst 1, 1) := by decide +kernel
theorem dX6_zoneOf_33 : decode cX6_zoneOf 33 = .ok (.ireturn, 1) := by decide +kernel
theorem dX6_zoneOf_34 : decode cX6_zoneOf 34 = .ok (.iload_n 3, 1) := by decide +kernel
theorem dX6_zoneOf_35 : decode cX6_zoneOf 35 = .ok (.sipush 256, 3) := by decide +kernel
theorem dX6_zoneOf_38 : decode cX6_zoneOf 38 = .ok (.iload_n 2, 1) := by decide +kernel
theorem dX6_zoneOf_39 : decode cX6_zoneOf 39 = .ok (.isub, 1) := by decide +kernel
theorem dX6_zoneOf_40 : decode cX6_zoneOf 40 = .ok (.if_icmp .lt 7, 3) := by decide +kernel
theorem dX6_zoneOf_43 : decode cX6_zoneOf 43 = .ok (.iconst 2, 1) := by decide +kernel
theorem dX6_zoneOf_44 : decode cX6_zoneOf 44 = .ok (.goto 4, 3) := by decide +kernel
theorem dX6_zoneOf_47 : decode cX6_zoneOf 47 = .ok (.iconst 3, 1) := by decide +kernel
theorem dX6_zoneOf_48 : decode cX6_zoneOf 48 = .ok (.ireturn, 1) := by decide +kernel
theorem dX6_handOver_0 : decode cX6_handOver 0 = .ok (.aload_n 0, 1) := by decide +kernel
theorem dX6_handOver_1 : decode cX6_handOver 1 = .ok (.getfield 31, 3) := by decide +kernel
theorem dX6_handOver_4 : decode cX6_handOver 4 = .ok (.getfield 92, 3) := by decide +kernel
theorem dX6_handOver_7 : decode cX6_handOver 7 = .ok (.ifCond .ne 5, 3) := by decide +kernel
theorem dX6_handOver_10 : decode cX6_handOver 10 = .ok (.iconst (-1), 1) := by decide +kernel
theorem dX6_handOver_11 : decode cX6_handOver 11 = .ok (.ireturn, 1) := by decide +kernel
theorem dX6_handOver_12 : decode cX6_handOver 12 = .ok (.aload_n 0, 1) := by decide +kernel
theorem dX6_handOver_13 : decode cX6_handOver 13 = .ok (.getfield 31, 3) := by decide +kernel
theorem dX6_handOver_16 : decode cX6_handOver 16 = .ok (.getfield 112, 3) := by decide +kernel
theorem dX6_handOver_19 : decode cX6_handOver 19 = .ok (.iconst 0, 1) := by decide +kernel
theorem dX6_handOver_20 : decode cX6_handOver 20 = .ok (.iaload, 1) := by decide +kernel
theorem dX6_handOver_21 : decode cX6_handOver 21 = .ok (.istore_n 1, 1) := by decide +kernel
theorem dX6_handOver_22 : decode cX6_handOver 22 = .ok (.aload_n 0, 1) := by decide +kernel
theorem dX6_handOver_23 : decode cX6_handOver 23 = .ok (.getfield 31, 3) := by decide +kernel
theorem dX6_handOver_26 : decode cX6_handOver 26 = .ok (.iconst 1, 1) := by decide +kernel
theorem dX6_handOver_27 : decode cX6_handOver 27 = .ok (.invokevirtual 115, 3) := by decide +kernel
theorem dX6_handOver_30 : decode cX6_handOver 30 = .ok (.aload_n 0, 1) := by decide +kernel
theorem dX6_handOver_31 : decode cX6_handOver 31 = .ok (.iconst 0, 1) := by decide +kernel
theorem dX6_handOver_32 : decode cX6_handOver 32 = .ok (.putfield 19, 3) := by decide +kernel
theorem dX6_handOver_35 : decode cX6_handOver 35 = .ok (.iload_n 1, 1) := by decide +kernel
theorem dX6_handOver_36 : decode cX6_handOver 36 = .ok (.ireturn, 1) := by decide +kernel
theorem dX6_reportWord_0 : decode cX6_reportWord 0 = .ok (.bipush 8, 2) := by decide +kernel
theorem dX6_reportWord_2 : decode cX6_reportWord 2 = .ok (.aload_n 0, 1) := by decide +kernel
theorem dX6_reportWord_3 : decode cX6_reportWord 3 = .ok (.getfield 25, 3) := by decide +kernel
theorem dX6_reportWord_6 : decode cX6_reportWord 6 = .ok (.imul, 1) := by decide +kernel
theorem dX6_reportWord_7 : decode cX6_reportWord 7 = .ok (.istore_n 1, 1) := by decide +kernel
theorem dX6_reportWord_8 : decode cX6_reportWord 8 = .ok (.aload_n 0, 1) := by decide +kernel
theorem dX6_reportWord_9 : decode cX6_reportWord 9 = .ok (.getfield 15, 3) := by decide +kernel
theorem dX6_reportWord_12 : decode cX6_reportWord 12 = .ok (.ifCond .eq 6, 3) := by decide +kernel
theorem dX6_reportWord_15 : decode cX6_reportWord 15 = .ok (.iinc 1 1, 3) := by decide +kernel
theorem dX6_reportWord_18 : decode cX6_reportWord 18 = .ok (.aload_n 0, 1) := by decide +kernel
theorem dX6_reportWord_19 : decode cX6_reportWord 19 = .ok (.getfield 19, 3) := by decide +kernel
theorem dX6_reportWord_22 : decode cX6_reportWord 22 = .ok (.ifCond .eq 6, 3) := by decide +kernel
theorem dX6_reportWord_25 : decode cX6_reportWord 25 = .ok (.iinc 1 2, 3) := by decide +kernel
theorem dX6_reportWord_28 : decode cX6_reportWord 28 = .ok (.aload_n 0, 1) := by decide +kernel
theorem dX6_reportWord_29 : decode cX6_reportWord 29 = .ok (.getfield 22, 3) := by decide +kernel
theorem dX6_reportWord_32 : decode cX6_reportWord 32 = .ok (.ifCond .eq 6, 3) := by decide +kernel
theorem dX6_reportWord_35 : decode cX6_reportWord 35 = .ok (.iinc 1 4, 3) := by decide +kernel
theorem dX6_reportWord_38 : decode cX6_reportWord 38 = .ok (.iload_n 1, 1) := by decide +kernel
theorem dX6_reportWord_39 : decode cX6_reportWord 39 = .ok (.bipush 8, 2) := by decide +kernel
theorem dX6_reportWord_41 : decode cX6_reportWord 41 = .ok (.ishl, 1) := by decide +kernel
theorem dX6_reportWord_42 : decode cX6_reportWord 42 = .ok (.aload_n 0, 1) := by decide +kernel
theorem dX6_reportWord_43 : decode cX6_reportWord 43 = .ok (.getfield 9, 3) := by decide +kernel
theorem dX6_reportWord_46 : decode cX6_reportWord 46 = .ok (.ior, 1) := by decide +kernel
theorem dX6_reportWord_47 : decode cX6_reportWord 47 = .ok (.ireturn, 1) := by decide +kernel
theorem dX6_copyFrom_0 : decode cX6_copyFrom 0 = .ok (.aload_n 0, 1) := by decide +kernel
theorem dX6_copyFrom_1 : decode cX6_copyFrom 1 = .ok (.aload_n 1, 1) := by decide +kernel
theorem dX6_copyFrom_2 : decode cX6_copyFrom 2 = .ok (.getfield 9, 3) := by decide +kernel
theorem dX6_copyFrom_5 : decode cX6_copyFrom 5 = .ok (.putfield 9, 3) := by decide +kernel
theorem dX6_copyFrom_8 : decode cX6_copyFrom 8 = .ok (.aload_n 0, 1) := by decide +kernel
theorem dX6_copyFrom_9 : decode cX6_copyFrom 9 = .ok (.aload_n 1, 1) := by decide +kernel
theorem dX6_copyFrom_10 : decode cX6_copyFrom 10 = .ok (.getfield 15, 3) := by decide +kernel
theorem dX6_copyFrom_13 : decode cX6_copyFrom 13 = .ok (.putfield 15, 3) := by decide +kernel
theorem dX6_copyFrom_16 : decode cX6_copyFrom 16 = .ok (.aload_n 0, 1) := by decide +kernel
theorem dX6_copyFrom_17 : decode cX6_copyFrom 17 = .ok (.aload_n 1, 1) := by decide +kernel
theorem dX6_copyFrom_18 : decode cX6_copyFrom 18 = .ok (.getfield 19, 3) := by decide +kernel
theorem dX6_copyFrom_21 : decode cX6_copyFrom 21 = .ok (.putfield 19, 3) := by decide +kernel
theorem dX6_copyFrom_24 : decode cX6_copyFrom 24 = .ok (.aload_n 0, 1) := by decide +kernel
theorem dX6_copyFrom_25 : decode cX6_copyFrom 25 = .ok (.aload_n 1, 1) := by decide +kernel
theorem dX6_copyFrom_26 : decode cX6_copyFrom 26 = .ok (.getfield 22, 3) := by decide +kernel
theorem dX6_copyFrom_29 : decode cX6_copyFrom 29 = .ok (.putfield 22, 3) := by decide +kernel
theorem dX6_copyFrom_32 : decode cX6_copyFrom 32 = .ok (.aload_n 0, 1) := by decide +kernel
theorem dX6_copyFrom_33 : decode cX6_copyFrom 33 = .ok (.aload_n 1, 1) := by decide +kernel
theorem dX6_copyFrom_34 : decode cX6_copyFrom 34 = .ok (.getfield 25, 3) := by decide +kernel
theorem dX6_copyFrom_37 : decode cX6_copyFrom 37 = .ok (.putfield 25, 3) := by decide +kernel
theorem dX6_copyFrom_40 : decode cX6_copyFrom 40 = .ok (.aload_n 0, 1) := by decide +kernel
theorem dX6_copyFrom_41 : decode cX6_copyFrom 41 = .ok (.getfield 31, 3) := by decide +kernel
theorem dX6_copyFrom_44 : decode cX6_copyFrom 44 = .ok (.aload_n 1, 1) := by decide +kernel
theorem dX6_copyFrom_45 : decode cX6_copyFrom 45 = .ok (.getfield 31, 3) := by decide +kernel
theorem dX6_copyFrom_48 : decode cX6_copyFrom 48 = .ok (.invokevirtual 136, 3) := by decide +kernel
theorem dX6_copyFrom_51 : decode cX6_copyFrom 51 = .ok (.aload_n 1, 1) := by decide +kernel
theorem dX6_copyFrom_52 : decode cX6_copyFrom 52 = .ok (.getfield 35, 3) := by decide +kernel
theorem dX6_copyFrom_55 : decode cX6_copyFrom 55 = .ok (.iconst 0, 1) := by decide +kernel
theorem dX6_copyFrom_56 : decode cX6_copyFrom 56 = .ok (.aload_n 0, 1) := by decide +kernel
theorem dX6_copyFrom_57 : decode cX6_copyFrom 57 = .ok (.getfield 35, 3) := by decide +kernel
theorem dX6_copyFrom_60 : decode cX6_copyFrom 60 = .ok (.iconst 0, 1) := by decide +kernel
theorem dX6_copyFrom_61 : decode cX6_copyFrom 61 = .ok (.bipush 100, 2) := by decide +kernel
theorem dX6_copyFrom_63 : decode cX6_copyFrom 63 = .ok (.invokestatic 140, 3) := by decide +kernel
theorem dX6_copyFrom_66 : decode cX6_copyFrom 66 = .ok (.aload_n 0, 1) := by decide +kernel
theorem dX6_copyFrom_67 : decode cX6_copyFrom 67 = .ok (.aload_n 1, 1) := by decide +kernel
theorem dX6_copyFrom_68 : decode cX6_copyFrom 68 = .ok (.getfield 39, 3) := by decide +kernel
theorem dX6_copyFrom_71 : decode cX6_copyFrom 71 = .ok (.putfield 39, 3) := by decide +kernel
theorem dX6_copyFrom_74 : decode cX6_copyFrom 74 = .ok (.aload_n 1, 1) := by decide +kernel
theorem dX6_copyFrom_75 : decode cX6_copyFrom 75 = .ok (.getfield 42, 3) := by decide +kernel
theorem dX6_copyFrom_78 : decode cX6_copyFrom 78 = .ok (.iconst 0, 1) := by decide +kernel
theorem dX6_copyFrom_79 : decode cX6_copyFrom 79 = .ok (.aload_n 0, 1) := by decide +kernel
theorem dX6_copyFrom_80 : decode cX6_copyFrom 80 = .ok (.getfield 42, 3) := by decide +kernel
theorem dX6_copyFrom_83 : decode cX6_copyFrom 83 = .ok (.iconst 0, 1) := by decide +kernel
theorem dX6_copyFrom_84 : decode cX6_copyFrom 84 = .ok (.bipush 100, 2) := by decide +kernel
theorem dX6_copyFrom_86 : decode cX6_copyFrom 86 = .ok (.invokestatic 140, 3) := by decide +kernel
theorem dX6_copyFrom_89 : decode cX6_copyFrom 89 = .ok (.aload_n 0, 1) := by decide +kernel
theorem dX6_copyFrom_90 : decode cX6_copyFrom 90 = .ok (.aload_n 1, 1) := by decide +kernel
theorem dX6_copyFrom_91 : decode cX6_copyFrom 91 = .ok (.getfield 45, 3) := by decide +kernel
theorem dX6_copyFrom_94 : decode cX6_copyFrom 94 = .ok (.putfield 45, 3) := by decide +kernel
theorem dX6_copyFrom_97 : decode cX6_copyFrom 97 = .ok (.aload_n 0, 1) := by decide +kernel
theorem dX6_copyFrom_98 : decode cX6_copyFrom 98 = .ok (.aload_n 1, 1) := by decide +kernel
theorem dX6_copyFrom_99 : decode cX6_copyFrom 99 = .ok (.getfield 48, 3) := by decide +kernel
theorem dX6_copyFrom_102 : decode cX6_copyFrom 102 = .ok (.putfield 48, 3) := by decide +kernel
theorem dX6_copyFrom_105 : decode cX6_copyFrom 105 = .ok (.return_, 1) := by decide +kernel
theorem dX8_queue_0 : decode cX8_queue 0 = .ok (.iload_n 1, 1) := by decide +kernel
theorem dX8_queue_1 : decode cX8_queue 1 = .ok (.invokestatic 68, 3) := by decide +kernel
theorem dX8_queue_4 : decode cX8_queue 4 = .ok (.ifCond .eq 23, 3) := by decide +kernel
theorem dX8_queue_7 : decode cX8_queue 7 = .ok (.aload_n 0, 1) := by decide +kernel
theorem dX8_queue_8 : decode cX8_queue 8 = .ok (.getfield 24, 3) := by decide +kernel
theorem dX8_queue_11 : decode cX8_queue 11 = .ok (.iconst 3, 1) := by decide +kernel
theorem dX8_queue_12 : decode cX8_queue 12 = .ok (.if_icmp .gt 15, 3) := by decide +kernel
theorem dX8_queue_15 : decode cX8_queue 15 = .ok (.aload_n 0, 1) := by decide +kernel
theorem dX8_queue_16 : decode cX8_queue 16 = .ok (.getfield 12, 3) := by decide +kernel
theorem dX8_queue_19 : decode cX8_queue 19 = .ok (.getfield 72, 3) := by decide +kernel
theorem dX8_queue_22 : decode cX8_queue 22 = .ok (.bipush 8, 2) := by decide +kernel
theorem dX8_queue_24 : decode cX8_queue 24 = .ok (.if_icmp .lt 5, 3) := by decide +kernel
theorem dX8_queue_27 : decode cX8_queue 27 = .ok (.iconst (-1), 1) := by decide +kernel
theorem dX8_queue_28 : decode cX8_queue 28 = .ok (.ireturn, 1) := by decide +kernel
theorem dX8_queue_29 : decode cX8_queue 29 = .ok (.aload_n 0, 1) := by decide +kernel
theorem dX8_queue_30 : decode cX8_queue 30 = .ok (.getfield 12, 3) := by decide +kernel
theorem dX8_queue_33 : decode cX8_queue 33 = .ok (.iload_n 1, 1) := by decide +kernel
theorem dX8_queue_34 : decode cX8_queue 34 = .ok (.iconst 0, 1) := by decide +kernel
theorem dX8_queue_35 : decode cX8_queue 35 = .ok (.aload_n 0, 1) := by decide +kernel
theorem dX8_queue_36 : decode cX8_queue 36 = .ok (.getfield 60, 3) := by decide +kernel
theorem dX8_queue_39 : decode cX8_queue 39 = .ok (.iload_n 1, 1) := by decide +kernel
theorem dX8_queue_40 : decode cX8_queue 40 = .ok (.invokevirtual 75, 3) := by decide +kernel
theorem dX8_queue_43 : decode cX8_queue 43 = .ok (.invokevirtual 81, 3) := by decide +kernel
theorem dX8_queue_46 : decode cX8_queue 46 = .ok (.aload_n 0, 1) := by decide +kernel
theorem dX8_queue_47 : decode cX8_queue 47 = .ok (.getfield 12, 3) := by decide +kernel
theorem dX8_queue_50 : decode cX8_queue 50 = .ok (.getfield 72, 3) := by decide +kernel
theorem dX8_queue_53 : decode cX8_queue 53 = .ok (.ireturn, 1) := by decide +kernel
theorem dX8_queuePast_0 : decode cX8_queuePast 0 = .ok (.iload_n 1, 1) := by decide +kernel
theorem dX8_queuePast_1 : decode cX8_queuePast 1 = .ok (.invokestatic 68, 3) := by decide +kernel
theorem dX8_queuePast_4 : decode cX8_queuePast 4 = .ok (.ifCond .eq 14, 3) := by decide +kernel
theorem dX8_queuePast_7 : decode cX8_queuePast 7 = .ok (.aload_n 0, 1) := by decide +kernel
theorem dX8_queuePast_8 : decode cX8_queuePast 8 = .ok (.getfield 21, 3) := by decide +kernel
theorem dX8_queuePast_11 : decode cX8_queuePast 11 = .ok (.getfield 72, 3) := by decide +kernel
theorem dX8_queuePast_14 : decode cX8_queuePast 14 = .ok (.iconst 4, 1) := by decide +kernel
theorem dX8_queuePast_15 : decode cX8_queuePast 15 = .ok (.if_icmp .lt 5, 3) := by decide +kernel
theorem dX8_queuePast_18 : decode cX8_queuePast 18 = .ok (.iconst (-1), 1) := by decide +kernel
theorem dX8_queuePast_19 : decode cX8_queuePast 19 = .ok (.ireturn, 1) := by decide +kernel
theorem dX8_queuePast_20 : decode cX8_queuePast 20 = .ok (.aload_n 0, 1) := by decide +kernel
theorem dX8_queuePast_21 : decode cX8_queuePast 21 = .ok (.getfield 21, 3) := by decide +kernel
theorem dX8_queuePast_24 : decode cX8_queuePast 24 = .ok (.iload_n 1, 1) := by decide +kernel
theorem dX8_queuePast_25 : decode cX8_queuePast 25 = .ok (.iconst 0, 1) := by decide +kernel
theorem dX8_queuePast_26 : decode cX8_queuePast 26 = .ok (.iconst (-1), 1) := by decide +kernel
theorem dX8_queuePast_27 : decode cX8_queuePast 27 = .ok (.invokevirtual 81, 3) := by decide +kernel
theorem dX8_queuePast_30 : decode cX8_queuePast 30 = .ok (.aload_n 0, 1) := by decide +kernel
theorem dX8_queuePast_31 : decode cX8_queuePast 31 = .ok (.getfield 21, 3) := by decide +kernel
theorem dX8_queuePast_34 : decode cX8_queuePast 34 = .ok (.getfield 72, 3) := by decide +kernel
theorem dX8_queuePast_37 : decode cX8_queuePast 37 = .ok (.ireturn, 1) := by decide +kernel
theorem dX8_begin_0 : decode cX8_begin 0 = .ok (.aload_n 0, 1) := by decide +kernel
theorem dX8_begin_1 : decode cX8_begin 1 = .ok (.getfield 24, 3) := by decide +kernel
theorem dX8_begin_4 : decode cX8_begin 4 = .ok (.bipush 6, 2) := by decide +kernel
theorem dX8_begin_6 : decode cX8_begin 6 = .ok (.if_icmp .ne 24, 3) := by decide +kernel
theorem dX8_begin_9 : decode cX8_begin 9 = .ok (.iload_n 1, 1) := by decide +kernel
theorem dX8_begin_10 : decode cX8_begin 10 = .ok (.iconst 0, 1) := by decide +kernel
theorem dX8_begin_11 : decode cX8_begin 11 = .ok (.iconst 3, 1) := by decide +kernel
theorem dX8_begin_12 : decode cX8_begin 12 = .ok (.invokestatic 85, 3) := by decide +kernel
theorem dX8_begin_15 : decode cX8_begin 15 = .ok (.ifCond .eq 15, 3) := by decide +kernel
theorem dX8_begin_18 : decode cX8_begin 18 = .ok (.iload_n 1, 1) := by decide +kernel
theorem dX8_begin_19 : decode cX8_begin 19 = .ok (.iconst 3, 1) := by decide +kernel
theorem dX8_begin_20 : decode cX8_begin 20 = .ok (.if_icmp .ne 12, 3) := by decide +kernel
theorem dX8_begin_23 : decode cX8_begin 23 = .ok (.iload_n 2, 1) := by decide +kernel
theorem dX8_begin_24 : decode cX8_begin 24 = .ok (.invokestatic 89, 3) := by decide +kernel
theorem dX8_begin_27 : decode cX8_begin 27 = .ok (.ifCond .ne 5, 3) := by decide +kernel
theorem dX8_begin_30 : decode cX8_begin 30 = .ok (.iconst 0, 1) := by decide +kernel
theorem dX8_begin_31 : decode cX8_begin 31 = .ok (.ireturn, 1) := by decide +kernel
theorem dX8_begin_32 : decode cX8_begin 32 = .ok (.aload_n 0, 1) := by decide +kernel
theorem dX8_begin_33 : decode cX8_begin 33 = .ok (.getfield 60, 3) := by decide +kernel
theorem dX8_begin_36 : decode cX8_begin 36 = .ok (.aload_n 0, 1) := by decide +kernel
theorem dX8_begin_37 : decode cX8_begin 37 = .ok (.getfield 12, 3) := by decide +kernel
theorem dX8_begin_40 : decode cX8_begin 40 = .ok (.invokevirtual 92, 3) := by decide +kernel
theorem dX8_begin_43 : decode cX8_begin 43 = .ok (.aload_n 0, 1) := by decide +kernel
theorem dX8_begin_44 : decode cX8_begin 44 = .ok (.getfield 60, 3) := by decide +kernel
theorem dX8_begin_47 : decode cX8_begin 47 = .ok (.aload_n 0, 1) := by decide +kernel
theorem dX8_begin_48 : decode cX8_begin 48 = .ok (.getfield 18, 3) := by decide +kernel
theorem dX8_begin_51 : decode cX8_begin 51 = .ok (.invokevirtual 92, 3) := by decide +kernel
theorem dX8_begin_54 : decode cX8_begin 54 = .ok (.aload_n 0, 1) := by decide +kernel
theorem dX8_begin_55 : decode cX8_begin 55 = .ok (.iconst 0, 1) := by decide +kernel
theorem dX8_begin_56 : decode cX8_begin 56 = .ok (.putfield 40, 3) := by decide +kernel
theorem dX8_begin_59 : decode cX8_begin 59 = .ok (.iload_n 1, 1) := by decide +kernel
theorem dX8_begin_60 : decode cX8_begin 60 = .ok (.iconst 3, 1) := by decide +kernel
theorem dX8_begin_61 : decode cX8_begin 61 = .ok (.if_icmp .ne 8, 3) := by decide +kernel
theorem dX8_begin_64 : decode cX8_begin 64 = .ok (.aload_n 0, 1) := by decide +kernel
theorem dX8_begin_65 : decode cX8_begin 65 = .ok (.iload_n 2, 1) := by decide +kernel
theorem dX8_begin_66 : decode cX8_begin 66 = .ok (.putfield 28, 3) := by decide +kernel
theorem dX8_begin_69 : decode cX8_begin 69 = .ok (.aload_n 0, 1) := by decide +kernel
theorem dX8_begin_70 : decode cX8_begin 70 = .ok (.aload_n 0, 1) := by decide +kernel
theorem dX8_begin_71 : decode cX8_begin 71 = .ok (.getfield 28, 3) := by decide +kernel
theorem dX8_begin_74 : decode cX8_begin 74 = .ok (.putfield 31, 3) := by decide +kernel
theorem dX8_begin_77 : decode cX8_begin 77 = .ok (.aload_n 0, 1) := by decide +kernel
theorem dX8_begin_78 : decode cX8_begin 78 = .ok (.iconst 1, 1) := by decide +kernel
theorem dX8_begin_79 : decode cX8_begin 79 = .ok (.putfield 34, 3) := by decide +kernel
theorem dX8_begin_82 : decode cX8_begin 82 = .ok (.aload_n 0, 1) := by decide +kernel
theorem dX8_begin_83 : decode cX8_begin 83 = .ok (.iload_n 1, 1) := by decide +kernel
theorem dX8_begin_84 : decode cX8_begin 84 = .ok (.ifCond .ne 7, 3) := by decide +kernel
theorem dX8_begin_87 : decode cX8_begin 87 = .ok (.iconst 0, 1) := by decide +kernel
theorem dX8_begin_88 : decode cX8_begin 88 = .ok (.goto 12, 3) := by decide +kernel
theorem dX8_begin_91 : decode cX8_begin 91 = .ok (.aload_n 0, 1) := by decide +kernel
theorem dX8_begin_92 : decode cX8_begin 92 = .ok (.getfield 56, 3) := by decide +kernel
theorem dX8_begin_95 : decode cX8_begin 95 = .ok (.getfield 96, 3) := by decide +kernel
theorem dX8_begin_98 : decode cX8_begin 98 = .ok (.iconst 4, 1) := by decide +kernel
theorem dX8_begin_99 : decode cX8_begin 99 = .ok (.iaload, 1) := by decide +kernel
theorem dX8_begin_100 : decode cX8_begin 100 = .ok (.putfield 37, 3) := by decide +kernel
theorem dX8_begin_103 : decode cX8_begin 103 = .ok (.aload_n 0, 1) := by decide +kernel
theorem dX8_begin_104 : decode cX8_begin 104 = .ok (.iload_n 1, 1) := by decide +kernel
theorem dX8_begin_105 : decode cX8_begin 105 = .ok (.iconst 2, 1) := by decide +kernel
theorem dX8_begin_106 : decode cX8_begin 106 = .ok (.if_icmp .ne 7, 3) := by decide +kernel
theorem dX8_begin_109 : decode cX8_begin 109 = .ok (.iconst 0, 1) := by decide +kernel
theorem dX8_begin_110 : decode cX8_begin 110 = .ok (.goto 17, 3) := by decide +kernel
theorem dX8_begin_113 : decode cX8_begin 113 = .ok (.iload_n 1, 1) := by decide +kernel
theorem dX8_begin_114 : decode cX8_begin 114 = .ok (.iconst 3, 1) := by decide +kernel
theorem dX8_begin_115 : decode cX8_begin 115 = .ok (.if_icmp .ne 11, 3) := by decide +kernel
theorem dX8_begin_118 : decode cX8_begin 118 = .ok (.sipush 256, 3) := by decide +kernel
theorem dX8_begin_121 : decode cX8_begin 121 = .ok (.iload_n 2, 1) := by decide +kernel
theorem dX8_begin_122 : decode cX8_begin 122 = .ok (.iadd, 1) := by decide +kernel
theorem dX8_begin_123 : decode cX8_begin 123 = .ok (.goto 4, 3) := by decide +kernel
theorem dX8_begin_126 : decode cX8_begin 126 = .ok (.iconst (-1), 1) := by decide +kernel
theorem dX8_begin_127 : decode cX8_begin 127 = .ok (.putfield 43, 3) := by decide +kernel
theorem dX8_begin_130 : decode cX8_begin 130 = .ok (.aload_n 0, 1) := by decide +kernel
theorem dX8_begin_131 : decode cX8_begin 131 = .ok (.aload_n 0, 1) := by decide +kernel
theorem dX8_begin_132 : decode cX8_begin 132 = .ok (.getfield 43, 3) := by decide +kernel
theorem dX8_begin_135 : decode cX8_begin 135 = .ok (.iconst (-1), 1) := by decide +kernel
theorem dX8_begin_136 : decode cX8_begin 136 = .ok (.if_icmp .eq 7, 3) := by decide +kernel
theorem dX8_begin_139 : decode cX8_begin 139 = .ok (.iconst 1, 1) := by decide +kernel
theorem dX8_begin_140 : decode cX8_begin 140 = .ok (.goto 4, 3) := by decide +kernel
theorem dX8_begin_143 : decode cX8_begin 143 = .ok (.iconst 0, 1) := by decide +kernel
theorem dX8_begin_144 : decode cX8_begin 144 = .ok (.putfield 46, 3) := by decide +kernel
theorem dX8_begin_147 : decode cX8_begin 147 = .ok (.aload_n 0, 1) := by decide +kernel
theorem dX8_begin_148 : decode cX8_begin 148 = .ok (.aload_n 0, 1) := by decide +kernel
theorem dX8_begin_149 : decode cX8_begin 149 = .ok (.getfield 64, 3) := by decide +kernel
theorem dX8_begin_152 : decode cX8_begin 152 = .ok (.aload_n 0, 1) := by decide +kernel
theorem dX8_begin_153 : decode cX8_begin 153 = .ok (.getfield 24, 3) := by decide +kernel
theorem dX8_begin_156 : decode cX8_begin 156 = .ok (.iload_n 1, 1) := by decide +kernel
theorem dX8_begin_157 : decode cX8_begin 157 = .ok (.ifCond .ne 7, 3) := by decide +kernel
theorem dX8_begin_160 : decode cX8_begin 160 = .ok (.iconst 1, 1) := by decide +kernel
theorem dX8_begin_161 : decode cX8_begin 161 = .ok (.goto 13, 3) := by decide +kernel
theorem dX8_begin_164 : decode cX8_begin 164 = .ok (.iload_n 1, 1) := by decide +kernel
theorem dX8_begin_165 : decode cX8_begin 165 = .ok (.iconst 1, 1) := by decide +kernel
theorem dX8_begin_166 : decode cX8_begin 166 = .ok (.if_icmp .ne 7, 3) := by decide +kernel
theorem dX8_begin_169 : decode cX8_begin 169 = .ok (.iconst 4, 1) := by decide +kernel
theorem dX8_begin_170 : decode cX8_begin 170 = .ok (.goto 4, 3) := by decide +kernel
theorem dX8_begin_173 : decode cX8_begin 173 = .ok (.iconst 5, 1) := by decide +kernel
theorem dX8_begin_174 : decode cX8_begin 174 = .ok (.invokevirtual 102, 3) := by decide +kernel
theorem dX8_begin_177 : decode cX8_begin 177 = .ok (.putfield 24, 3) := by decide +kernel
theorem dX8_begin_180 : decode cX8_begin 180 = .ok (.iconst 1, 1) := by decide +kernel
theorem dX8_begin_181 : decode cX8_begin 181 = .ok (.ireturn, 1) := by decide +kernel
theorem dX8_halt_0 : decode cX8_halt 0 = .ok (.aload_n 0, 1) := by decide +kernel
theorem dX8_halt_1 : decode cX8_halt 1 = .ok (.getfield 24, 3) := by decide +kernel
theorem dX8_halt_4 : decode cX8_halt 4 = .ok (.bipush 6, 2) := by decide +kernel
theorem dX8_halt_6 : decode cX8_halt 6 = .ok (.if_icmp .ne 12, 3) := by decide +kernel
theorem dX8_halt_9 : decode cX8_halt 9 = .ok (.aload_n 0, 1) := by decide +kernel
theorem dX8_halt_10 : decode cX8_halt 10 = .ok (.getfield 40, 3) := by decide +kernel
theorem dX8_halt_13 : decode cX8_halt 13 = .ok (.ifCond .ne 5, 3) := by decide +kernel
theorem dX8_halt_16 : decode cX8_halt 16 = .ok (.iconst 0, 1) := by decide +kernel
theorem dX8_halt_17 : decode cX8_halt 17 = .ok (.ireturn, 1) := by decide +kernel
theorem dX8_halt_18 : decode cX8_halt 18 = .ok (.aload_n 0, 1) := by decide +kernel
theorem dX8_halt_19 : decode cX8_halt 19 = .ok (.bipush 6, 2) := by decide +kernel
theorem dX8_halt_21 : decode cX8_halt 21 = .ok (.invokevirtual 108, 3) := by decide +kernel
theorem dX8_halt_24 : decode cX8_halt 24 = .ok (.iconst 1, 1) := by decide +kernel
theorem dX8_halt_25 : decode cX8_halt 25 = .ok (.ireturn, 1) := by decide +kernel
theorem dX8_goOn_0 : decode cX8_goOn 0 = .ok (.aload_n 0, 1) := by decide +kernel
theorem dX8_goOn_1 : decode cX8_goOn 1 = .ok (.getfield 40, 3) := by decide +kernel
theorem dX8_goOn_4 : decode cX8_goOn 4 = .ok (.ifCond .ne 5, 3) := by decide +kernel
theorem dX8_goOn_7 : decode cX8_goOn 7 = .ok (.iconst 0, 1) := by decide +kernel
theorem dX8_goOn_8 : decode cX8_goOn 8 = .ok (.ireturn, 1) := by decide +kernel
theorem dX8_goOn_9 : decode cX8_goOn 9 = .ok (.aload_n 0, 1) := by decide +kernel
theorem dX8_goOn_10 : decode cX8_goOn 10 = .ok (.aload_n 0, 1) := by decide +kernel
theorem dX8_goOn_11 : decode cX8_goOn 11 = .ok (.getfield 64, 3) := by decide +kernel
theorem dX8_goOn_14 : decode cX8_goOn 14 = .ok (.aload_n 0, 1) := by decide +kernel
theorem dX8_goOn_15 : decode cX8_goOn 15 = .ok (.getfield 24, 3) := by decide +kernel
theorem dX8_goOn_18 : decode cX8_goOn 18 = .ok (.aload_n 0, 1) := by decide +kernel
theorem dX8_goOn_19 : decode cX8_goOn 19 = .ok (.getfield 40, 3) := by decide +kernel
theorem dX8_goOn_22 : decode cX8_goOn 22 = .ok (.invokevirtual 102, 3) := by decide +kernel
theorem dX8_goOn_25 : decode cX8_goOn 25 = .ok (.putfield 24, 3) := by decide +kernel
theorem dX8_goOn_28 : decode cX8_goOn 28 = .ok (.aload_n 0, 1) := by decide +kernel
theorem dX8_goOn_29 : decode cX8_goOn 29 = .ok (.iconst 0, 1) := by decide +kernel
theorem dX8_goOn_30 : decode cX8_goOn 30 = .ok (.putfield 40, 3) := by decide +kernel
theorem dX8_goOn_33 : decode cX8_goOn 33 = .ok (.aload_n 0, 1) := by decide +kernel
theorem dX8_goOn_34 : decode cX8_goOn 34 = .ok (.getfield 24, 3) := by decide +kernel
theorem dX8_goOn_37 : decode cX8_goOn 37 = .ok (.iconst 4, 1) := by decide +kernel
theorem dX8_goOn_38 : decode cX8_goOn 38 = .ok (.if_icmp .ne 18, 3) := by decide +kernel
theorem dX8_goOn_41 : decode cX8_goOn 41 = .ok (.aload_n 0, 1) := by decide +kernel
theorem dX8_goOn_42 : decode cX8_goOn 42 = .ok (.aload_n 0, 1) := by decide +kernel
theorem dX8_goOn_43 : decode cX8_goOn 43 = .ok (.getfield 56, 3) := by decide +kernel
theorem dX8_goOn_46 : decode cX8_goOn 46 = .ok (.getfield 96, 3) := by decide +kernel
theorem dX8_goOn_49 : decode cX8_goOn 49 = .ok (.iconst 4, 1) := by decide +kernel
theorem dX8_goOn_50 : decode cX8_goOn 50 = .ok (.iaload, 1) := by decide +kernel
theorem dX8_goOn_51 : decode cX8_goOn 51 = .ok (.putfield 37, 3) := by decide +kernel
theorem dX8_goOn_54 : decode cX8_goOn 54 = .ok (.iconst 1, 1) := by decide +kernel
theorem dX8_goOn_55 : decode cX8_goOn 55 = .ok (.ireturn, 1) := by decide +kernel
theorem dX8_goOn_56 : decode cX8_goOn 56 = .ok (.aload_n 0, 1) := by decide +kernel
theorem dX8_goOn_57 : decode cX8_goOn 57 = .ok (.getfield 24, 3) := by decide +kernel
theorem dX8_goOn_60 : decode cX8_goOn 60 = .ok (.iconst 5, 1) := by decide +kernel
theorem dX8_goOn_61 : decode cX8_goOn 61 = .ok (.if_icmp .eq 33, 3) := by decide +kernel
theorem dX8_goOn_64 : decode cX8_goOn 64 = .ok (.aload_n 0, 1) := by decide +kernel
theorem dX8_goOn_65 : decode cX8_goOn 65 = .ok (.aload_n 0, 1) := by decide +kernel
theorem dX8_goOn_66 : decode cX8_goOn 66 = .ok (.getfield 64, 3) := by decide +kernel
theorem dX8_goOn_69 : decode cX8_goOn 69 = .ok (.aload_n 0, 1) := by decide +kernel
theorem dX8_goOn_70 : decode cX8_goOn 70 = .ok (.getfield 24, 3) := by decide +kernel
theorem dX8_goOn_73 : decode cX8_goOn 73 = .ok (.aload_n 0, 1) := by decide +kernel
theorem dX8_goOn_74 : decode cX8_goOn 74 = .ok (.getfield 18, 3) := by decide +kernel
theorem dX8_goOn_77 : decode cX8_goOn 77 = .ok (.getfield 72, 3) := by decide +kernel
theorem dX8_goOn_80 : decode cX8_goOn 80 = .ok (.ifCond .le 7, 3) := by decide +kernel
theorem dX8_goOn_83 : decode cX8_goOn 83 = .ok (.iconst 2, 1) := by decide +kernel
theorem dX8_goOn_84 : decode cX8_goOn 84 = .ok (.goto 4, 3) := by decide +kernel
theorem dX8_goOn_87 : decode cX8_goOn 87 = .ok (.iconst 1, 1) := by decide +kernel
theorem dX8_goOn_88 : decode cX8_goOn 88 = .ok (.invokevirtual 102, 3) := by decide +kernel
theorem dX8_goOn_91 : decode cX8_goOn 91 = .ok (.putfield 24, 3) := by decide +kernel
theorem dX8_goOn_94 : decode cX8_goOn 94 = .ok (.aload_n 0, 1) := by decide +kernel
theorem dX8_goOn_95 : decode cX8_goOn 95 = .ok (.iconst 0, 1) := by decide +kernel
theorem dX8_goOn_96 : decode cX8_goOn 96 = .ok (.putfield 34, 3) := by decide +kernel
theorem dX8_goOn_99 : decode cX8_goOn 99 = .ok (.aload_n 0, 1) := by decide +kernel
theorem dX8_goOn_100 : decode cX8_goOn 100 = .ok (.invokevirtual 112, 3) := by decide +kernel
theorem dX8_goOn_103 : decode cX8_goOn 103 = .ok (.aload_n 0, 1) := by decide +kernel
theorem dX8_goOn_104 : decode cX8_goOn 104 = .ok (.getfield 24, 3) := by decide +kernel
theorem dX8_goOn_107 : decode cX8_goOn 107 = .ok (.iconst 1, 1) := by decide +kernel
theorem dX8_goOn_108 : decode cX8_goOn 108 = .ok (.if_icmp .ne 8, 3) := by decide +kernel
theorem dX8_goOn_111 : decode cX8_goOn 111 = .ok (.aload_n 0, 1) := by decide +kernel
theorem dX8_goOn_112 : decode cX8_goOn 112 = .ok (.iconst 0, 1) := by decide +kernel
theorem dX8_goOn_113 : decode cX8_goOn 113 = .ok (.putfield 37, 3) := by decide +kernel
theorem dX8_goOn_116 : decode cX8_goOn 116 = .ok (.iconst 1, 1) := by decide +kernel
theorem dX8_goOn_117 : decode cX8_goOn 117 = .ok (.ireturn, 1) := by decide +kernel
theorem dX8_countFrom_0 : decode cX8_countFrom 0 = .ok (.aload_n 0, 1) := by decide +kernel
theorem dX8_countFrom_1 : decode cX8_countFrom 1 = .ok (.getfield 24, 3) := by decide +kernel
theorem dX8_countFrom_4 : decode cX8_countFrom 4 = .ok (.bipush 6, 2) := by decide +kernel
theorem dX8_countFrom_6 : decode cX8_countFrom 6 = .ok (.if_icmp .ne 17, 3) := by decide +kernel
theorem dX8_countFrom_9 : decode cX8_countFrom 9 = .ok (.aload_n 0, 1) := by decide +kernel
theorem dX8_countFrom_10 : decode cX8_countFrom 10 = .ok (.getfield 40, 3) := by decide +kernel
theorem dX8_countFrom_13 : decode cX8_countFrom 13 = .ok (.ifCond .ne 10, 3) := by decide +kernel
theorem dX8_countFrom_16 : decode cX8_countFrom 16 = .ok (.iload_n 1, 1) := by decide +kernel
theorem dX8_countFrom_17 : decode cX8_countFrom 17 = .ok (.invokestatic 89, 3) := by decide +kernel
theorem dX8_countFrom_20 : decode cX8_countFrom 20 = .ok (.ifCond .ne 5, 3) := by decide +kernel
theorem dX8_countFrom_23 : decode cX8_countFrom 23 = .ok (.iconst 0, 1) := by decide +kernel
theorem dX8_countFrom_24 : decode cX8_countFrom 24 = .ok (.ireturn, 1) := by decide +kernel
theorem dX8_countFrom_25 : decode cX8_countFrom 25 = .ok (.aload_n 0, 1) := by decide +kernel
theorem dX8_countFrom_26 : decode cX8_countFrom 26 = .ok (.iload_n 1, 1) := by decide +kernel
theorem dX8_countFrom_27 : decode cX8_countFrom 27 = .ok (.putfield 28, 3) := by decide +kernel
theorem dX8_countFrom_30 : decode cX8_countFrom 30 = .ok (.aload_n 0, 1) := by decide +kernel
theorem dX8_countFrom_31 : decode cX8_countFrom 31 = .ok (.iload_n 1, 1) := by decide +kernel
theorem dX8_countFrom_32 : decode cX8_countFrom 32 = .ok (.putfield 31, 3) := by decide +kernel
theorem dX8_countFrom_35 : decode cX8_countFrom 35 = .ok (.iconst 1, 1) := by decide +kernel
theorem dX8_countFrom_36 : decode cX8_countFrom 36 = .ok (.ireturn, 1) := by decide +kernel
theorem dX8_giveAlarm_0 : decode cX8_giveAlarm 0 = .ok (.aload_n 0, 1) := by decide +kernel
theorem dX8_giveAlarm_1 : decode cX8_giveAlarm 1 = .ok (.aload_n 0, 1) := by decide +kernel
theorem dX8_giveAlarm_2 : decode cX8_giveAlarm 2 = .ok (.getfield 64, 3) := by decide +kernel
theorem dX8_giveAlarm_5 : decode cX8_giveAlarm 5 = .ok (.aload_n 0, 1) := by decide +kernel
theorem dX8_giveAlarm_6 : decode cX8_giveAlarm 6 = .ok (.getfield 24, 3) := by decide +kernel
theorem dX8_giveAlarm_9 : decode cX8_giveAlarm 9 = .ok (.bipush 6, 2) := by decide +kernel
theorem dX8_giveAlarm_11 : decode cX8_giveAlarm 11 = .ok (.invokevirtual 102, 3) := by decide +kernel
theorem dX8_giveAlarm_14 : decode cX8_giveAlarm 14 = .ok (.putfield 24, 3) := by decide +kernel
theorem dX8_giveAlarm_17 : decode cX8_giveAlarm 17 = .ok (.aload_n 0, 1) := by decide +kernel
theorem dX8_giveAlarm_18 : decode cX8_giveAlarm 18 = .ok (.getfield 60, 3) := by decide +kernel
theorem dX8_giveAlarm_21 : decode cX8_giveAlarm 21 = .ok (.aload_n 0, 1) := by decide +kernel
theorem dX8_giveAlarm_22 : decode cX8_giveAlarm 22 = .ok (.getfield 12, 3) := by decide +kernel
theorem dX8_giveAlarm_25 : decode cX8_giveAlarm 25 = .ok (.invokevirtual 92, 3) := by decide +kernel
theorem dX8_giveAlarm_28 : decode cX8_giveAlarm 28 = .ok (.aload_n 0, 1) := by decide +kernel
theorem dX8_giveAlarm_29 : decode cX8_giveAlarm 29 = .ok (.getfield 60, 3) := by decide +kernel
theorem dX8_giveAlarm_32 : decode cX8_giveAlarm 32 = .ok (.aload_n 0, 1) := by decide +kernel
theorem dX8_giveAlarm_33 : decode cX8_giveAlarm 33 = .ok (.getfield 18, 3) := by decide +kernel
theorem dX8_giveAlarm_36 : decode cX8_giveAlarm 36 = .ok (.invokevirtual 92, 3) := by decide +kernel
theorem dX8_giveAlarm_39 : decode cX8_giveAlarm 39 = .ok (.aload_n 0, 1) := by decide +kernel
theorem dX8_giveAlarm_40 : decode cX8_giveAlarm 40 = .ok (.iconst (-1), 1) := by decide +kernel
theorem dX8_giveAlarm_41 : decode cX8_giveAlarm 41 = .ok (.putfield 43, 3) := by decide +kernel
theorem dX8_giveAlarm_44 : decode cX8_giveAlarm 44 = .ok (.aload_n 0, 1) := by decide +kernel
theorem dX8_giveAlarm_45 : decode cX8_giveAlarm 45 = .ok (.iconst 0, 1) := by decide +kernel
theorem dX8_giveAlarm_46 : decode cX8_giveAlarm 46 = .ok (.putfield 46, 3) := by decide +kernel
theorem dX8_giveAlarm_49 : decode cX8_giveAlarm 49 = .ok (.aload_n 0, 1) := by decide +kernel
theorem dX8_giveAlarm_50 : decode cX8_giveAlarm 50 = .ok (.iconst 0, 1) := by decide +kernel
theorem dX8_giveAlarm_51 : decode cX8_giveAlarm 51 = .ok (.putfield 37, 3) := by decide +kernel
theorem dX8_giveAlarm_54 : decode cX8_giveAlarm 54 = .ok (.aload_n 0, 1) := by decide +kernel
theorem dX8_giveAlarm_55 : decode cX8_giveAlarm 55 = .ok (.iconst 0, 1) := by decide +kernel
theorem dX8_giveAlarm_56 : decode cX8_giveAlarm 56 = .ok (.putfield 40, 3) := by decide +kernel
theorem dX8_giveAlarm_59 : decode cX8_giveAlarm 59 = .ok (.aload_n 0, 1) := by decide +kernel
theorem dX8_giveAlarm_60 : decode cX8_giveAlarm 60 = .ok (.getfield 64, 3) := by decide +kernel
theorem dX8_giveAlarm_63 : decode cX8_giveAlarm 63 = .ok (.iload_n 1, 1) := by decide +kernel
theorem dX8_giveAlarm_64 : decode cX8_giveAlarm 64 = .ok (.invokevirtual 115, 3) := by decide +kernel
theorem dX8_giveAlarm_67 : decode cX8_giveAlarm 67 = .ok (.return_, 1) := by decide +kernel
theorem dX8_markAll_0 : decode cX8_markAll 0 = .ok (.aload_n 0, 1) := by decide +kernel
theorem dX8_markAll_1 : decode cX8_markAll 1 = .ok (.getfield 24, 3) := by decide +kernel
theorem dX8_markAll_4 : decode cX8_markAll 4 = .ok (.iconst 5, 1) := by decide +kernel
theorem dX8_markAll_5 : decode cX8_markAll 5 = .ok (.if_icmp .ne 11, 3) := by decide +kernel
theorem dX8_markAll_8 : decode cX8_markAll 8 = .ok (.aload_n 0, 1) := by decide +kernel
theorem dX8_markAll_9 : decode cX8_markAll 9 = .ok (.iconst 1, 1) := by decide +kernel
theorem dX8_markAll_10 : decode cX8_markAll 10 = .ok (.putfield 46, 3) := by decide +kernel
theorem dX8_markAll_13 : decode cX8_markAll 13 = .ok (.goto 10, 3) := by decide +kernel
theorem dX8_markAll_16 : decode cX8_markAll 16 = .ok (.aload_n 0, 1) := by decide +kernel
theorem dX8_markAll_17 : decode cX8_markAll 17 = .ok (.getfield 18, 3) := by decide +kernel
theorem dX8_markAll_20 : decode cX8_markAll 20 = .ok (.invokevirtual 118, 3) := by decide +kernel
theorem dX8_markAll_23 : decode cX8_markAll 23 = .ok (.aload_n 0, 1) := by decide +kernel
theorem dX8_markAll_24 : decode cX8_markAll 24 = .ok (.dup, 1) := by decide +kernel
theorem dX8_markAll_25 : decode cX8_markAll 25 = .ok (.getfield 34, 3) := by decide +kernel
theorem dX8_markAll_28 : decode cX8_markAll 28 = .ok (.iconst 1, 1) := by decide +kernel
theorem dX8_markAll_29 : decode cX8_markAll 29 = .ok (.iadd, 1) := by decide +kernel
theorem dX8_markAll_30 : decode cX8_markAll 30 = .ok (.putfield 34, 3) := by decide +kernel
theorem dX8_markAll_33 : decode cX8_markAll 33 = .ok (.aload_n 0, 1) := by decide +kernel
theorem dX8_markAll_34 : decode cX8_markAll 34 = .ok (.aload_n 0, 1) := by decide +kernel
theorem dX8_markAll_35 : decode cX8_markAll 35 = .ok (.getfield 56, 3) := by decide +kernel
theorem dX8_markAll_38 : decode cX8_markAll 38 = .ok (.getfield 96, 3) := by decide +kernel
theorem dX8_markAll_41 : decode cX8_markAll 41 = .ok (.iconst 4, 1) := by decide +kernel
theorem dX8_markAll_42 : decode cX8_markAll 42 = .ok (.iaload, 1) := by decide +kernel
theorem dX8_markAll_43 : decode cX8_markAll 43 = .ok (.putfield 37, 3) := by decide +kernel
theorem dX8_markAll_46 : decode cX8_markAll 46 = .ok (.return_, 1) := by decide +kernel
theorem dX8_giveUp_0 : decode cX8_giveUp 0 = .ok (.aload_n 0, 1) := by decide +kernel
theorem dX8_giveUp_1 : decode cX8_giveUp 1 = .ok (.getfield 56, 3) := by decide +kernel
theorem dX8_giveUp_4 : decode cX8_giveUp 4 = .ok (.getfield 96, 3) := by decide +kernel
theorem dX8_giveUp_7 : decode cX8_giveUp 7 = .ok (.iconst 5, 1) := by decide +kernel
theorem dX8_giveUp_8 : decode cX8_giveUp 8 = .ok (.iaload, 1) := by decide +kernel
theorem dX8_giveUp_9 : decode cX8_giveUp 9 = .ok (.ifCond .ne 9, 3) := by decide +kernel
theorem dX8_giveUp_12 : decode cX8_giveUp 12 = .ok (.aload_n 0, 1) := by decide +kernel
theorem dX8_giveUp_13 : decode cX8_giveUp 13 = .ok (.iconst 5, 1) := by decide +kernel
theorem dX8_giveUp_14 : decode cX8_giveUp 14 = .ok (.invokevirtual 108, 3) := by decide +kernel
theorem dX8_giveUp_17 : decode cX8_giveUp 17 = .ok (.return_, 1) := by decide +kernel
theorem dX8_giveUp_18 : decode cX8_giveUp 18 = .ok (.aload_n 0, 1) := by decide +kernel
theorem dX8_giveUp_19 : decode cX8_giveUp 19 = .ok (.aload_n 0, 1) := by decide +kernel
theorem dX8_giveUp_20 : decode cX8_giveUp 20 = .ok (.getfield 24, 3) := by decide +kernel
theorem dX8_giveUp_23 : decode cX8_giveUp 23 = .ok (.putfield 40, 3) := by decide +kernel
theorem dX8_giveUp_26 : decode cX8_giveUp 26 = .ok (.aload_n 0, 1) := by decide +kernel
theorem dX8_giveUp_27 : decode cX8_giveUp 27 = .ok (.aload_n 0, 1) := by decide +kernel
theorem dX8_giveUp_28 : decode cX8_giveUp 28 = .ok (.getfield 64, 3) := by decide +kernel
theorem dX8_giveUp_31 : decode cX8_giveUp 31 = .ok (.aload_n 0, 1) := by decide +kernel
theorem dX8_giveUp_32 : decode cX8_giveUp 32 = .ok (.getfield 24, 3) := by decide +kernel
theorem dX8_giveUp_35 : decode cX8_giveUp 35 = .ok (.bipush 6, 2) := by decide +kernel
theorem dX8_giveUp_37 : decode cX8_giveUp 37 = .ok (.invokevirtual 102, 3) := by decide +kernel
theorem dX8_giveUp_40 : decode cX8_giveUp 40 = .ok (.putfield 24, 3) := by decide +kernel
theorem dX8_giveUp_43 : decode cX8_giveUp 43 = .ok (.aload_n 0, 1) := by decide +kernel
theorem dX8_giveUp_44 : decode cX8_giveUp 44 = .ok (.iconst 0, 1) := by decide +kernel
theorem dX8_giveUp_45 : decode cX8_giveUp 45 = .ok (.putfield 37, 3) := by decide +kernel
theorem dX8_giveUp_48 : decode cX8_giveUp 48 = .ok (.return_, 1) := by decide +kernel
theorem dX8_runTimer_0 : decode cX8_runTimer 0 = .ok (.aload_n 0, 1) := by decide +kernel
theorem dX8_runTimer_1 : decode cX8_runTimer 1 = .ok (.getfield 37, 3) := by decide +kernel
theorem dX8_runTimer_4 : decode cX8_runTimer 4 = .ok (.ifCond .ne 4, 3) := by decide +kernel
theorem dX8_runTimer_7 : decode cX8_runTimer 7 = .ok (.return_, 1) := by decide +kernel
theorem dX8_runTimer_8 : decode cX8_runTimer 8 = .ok (.aload_n 0, 1) := by decide +kernel
theorem dX8_runTimer_9 : decode cX8_runTimer 9 = .ok (.dup, 1) := by decide +kernel
theorem dX8_runTimer_10 : decode cX8_runTimer 10 = .ok (.getfield 37, 3) := by decide +kernel
theorem dX8_runTimer_13 : decode cX8_runTimer 13 = .ok (.iconst 1, 1) := by decide +kernel
theorem dX8_runTimer_14 : decode cX8_runTimer 14 = .ok (.isub, 1) := by decide +kernel
theorem dX8_runTimer_15 : decode cX8_runTimer 15 = .ok (.putfield 37, 3) := by decide +kernel
theorem dX8_runTimer_18 : decode cX8_runTimer 18 = .ok (.aload_n 0, 1) := by decide +kernel
theorem dX8_runTimer_19 : decode cX8_runTimer 19 = .ok (.getfield 37, 3) := by decide +kernel
theorem dX8_runTimer_22 : decode cX8_runTimer 22 = .ok (.ifCond .le 4, 3) := by decide +kernel
theorem dX8_runTimer_25 : decode cX8_runTimer 25 = .ok (.return_, 1) := by decide +kernel
theorem dX8_runTimer_26 : decode cX8_runTimer 26 = .ok (.aload_n 0, 1) := by decide +kernel
theorem dX8_runTimer_27 : decode cX8_runTimer 27 = .ok (.getfield 24, 3) := by decide +kernel
theorem dX8_runTimer_30 : decode cX8_runTimer 30 = .ok (.iconst 4, 1) := by decide +kernel
theorem dX8_runTimer_31 : decode cX8_runTimer 31 = .ok (.if_icmp .eq 19, 3) := by decide +kernel
theorem dX8_runTimer_34 : decode cX8_runTimer 34 = .ok (.aload_n 0, 1) := by decide +kernel
theorem dX8_runTimer_35 : decode cX8_runTimer 35 = .ok (.getfield 34, 3) := by decide +kernel
theorem dX8_runTimer_38 : decode cX8_runTimer 38 = .ok (.aload_n 0, 1) := by decide +kernel
theorem dX8_runTimer_39 : decode cX8_runTimer 39 = .ok (.getfield 56, 3) := by decide +kernel
theorem dX8_runTimer_42 : decode cX8_runTimer 42 = .ok (.getfield 96, 3) := by decide +kernel
theorem dX8_runTimer_45 : decode cX8_runTimer 45 = .ok (.iconst 3, 1) := by decide +kernel
theorem dX8_runTimer_46 : decode cX8_runTimer 46 = .ok (.iaload, 1) := by decide +kernel
theorem dX8_runTimer_47 : decode cX8_runTimer 47 = .ok (.if_icmp .lt 10, 3) := by decide +kernel
theorem dX8_runTimer_50 : decode cX8_runTimer 50 = .ok (.aload_n 0, 1) := by decide +kernel
theorem dX8_runTimer_51 : decode cX8_runTimer 51 = .ok (.invokevirtual 119, 3) := by decide +kernel
theorem dX8_runTimer_54 : decode cX8_runTimer 54 = .ok (.goto 31, 3) := by decide +kernel
theorem dX8_runTimer_57 : decode cX8_runTimer 57 = .ok (.aload_n 0, 1) := by decide +kernel
theorem dX8_runTimer_58 : decode cX8_runTimer 58 = .ok (.getfield 24, 3) := by decide +kernel
theorem dX8_runTimer_61 : decode cX8_runTimer 61 = .ok (.iconst 3, 1) := by decide +kernel
theorem dX8_runTimer_62 : decode cX8_runTimer 62 = .ok (.if_icmp .ne 19, 3) := by decide +kernel
theorem dX8_runTimer_65 : decode cX8_runTimer 65 = .ok (.aload_n 0, 1) := by decide +kernel
theorem dX8_runTimer_66 : decode cX8_runTimer 66 = .ok (.aload_n 0, 1) := by decide +kernel
theorem dX8_runTimer_67 : decode cX8_runTimer 67 = .ok (.getfield 56, 3) := by decide +kernel
theorem dX8_runTimer_70 : decode cX8_runTimer 70 = .ok (.getfield 96, 3) := by decide +kernel
theorem dX8_runTimer_73 : decode cX8_runTimer 73 = .ok (.iconst 4, 1) := by decide +kernel
theorem dX8_runTimer_74 : decode cX8_runTimer 74 = .ok (.iaload, 1) := by decide +kernel
theorem dX8_runTimer_75 : decode cX8_runTimer 75 = .ok (.putfield 37, 3) := by decide +kernel
theorem dX8_runTimer_78 : decode cX8_runTimer 78 = .ok (.goto 7, 3) := by decide +kernel
theorem dX8_runTimer_81 : decode cX8_runTimer 81 = .ok (.aload_n 0, 1) := by decide +kernel
theorem dX8_runTimer_82 : decode cX8_runTimer 82 = .ok (.invokevirtual 112, 3) := by decide +kernel
theorem dX8_runTimer_85 : decode cX8_runTimer 85 = .ok (.return_, 1) := by decide +kernel
theorem dX8_haveTurn_0 : decode cX8_haveTurn 0 = .ok (.aload_n 0, 1) := by decide +kernel
theorem dX8_haveTurn_1 : decode cX8_haveTurn 1 = .ok (.getfield 21, 3) := by decide +kernel
theorem dX8_haveTurn_4 : decode cX8_haveTurn 4 = .ok (.getfield 72, 3) := by decide +kernel
theorem dX8_haveTurn_7 : decode cX8_haveTurn 7 = .ok (.ifCond .le 29, 3) := by decide +kernel
theorem dX8_haveTurn_10 : decode cX8_haveTurn 10 = .ok (.aload_n 1, 1) := by decide +kernel
theorem dX8_haveTurn_11 : decode cX8_haveTurn 11 = .ok (.ldc 122, 2) := by decide +kernel
theorem dX8_haveTurn_13 : decode cX8_haveTurn 13 = .ok (.aload_n 0, 1) := by decide +kernel
theorem dX8_haveTurn_14 : decode cX8_haveTurn 14 = .ok (.getfield 21, 3) := by decide +kernel
theorem dX8_haveTurn_17 : decode cX8_haveTurn 17 = .ok (.getfield 123, 3) := by decide +kernel
theorem dX8_haveTurn_20 : decode cX8_haveTurn 20 = .ok (.iconst 0, 1) := by decide +kernel
theorem dX8_haveTurn_21 : decode cX8_haveTurn 21 = .ok (.iaload, 1) := by decide +kernel
theorem dX8_haveTurn_22 : decode cX8_haveTurn 22 = .ok (.ior, 1) := by decide +kernel
theorem dX8_haveTurn_23 : decode cX8_haveTurn 23 = .ok (.iconst (-1), 1) := by decide +kernel
theorem dX8_haveTurn_24 : decode cX8_haveTurn 24 = .ok (.invokevirtual 126, 3) := by decide +kernel
theorem dX8_haveTurn_27 : decode cX8_haveTurn 27 = .ok (.aload_n 0, 1) := by decide +kernel
theorem dX8_haveTurn_28 : decode cX8_haveTurn 28 = .ok (.getfield 21, 3) := by decide +kernel
theorem dX8_haveTurn_31 : decode cX8_haveTurn 31 = .ok (.iconst 1, 1) := by decide +kernel
theorem dX8_haveTurn_32 : decode cX8_haveTurn 32 = .ok (.invokevirtual 132, 3) := by decide +kernel
theorem dX8_haveTurn_35 : decode cX8_haveTurn 35 = .ok (.return_, 1) := by decide +kernel
theorem dX8_haveTurn_36 : decode cX8_haveTurn 36 = .ok (.aload_n 0, 1) := by decide +kernel
theorem dX8_haveTurn_37 : decode cX8_haveTurn 37 = .ok (.getfield 24, 3) := by decide +kernel
theorem dX8_haveTurn_40 : decode cX8_haveTurn 40 = .ok (.iconst 5, 1) := by decide +kernel
theorem dX8_haveTurn_41 : decode cX8_haveTurn 41 = .ok (.if_icmp .ne 28, 3) := by decide +kernel
theorem dX8_haveTurn_44 : decode cX8_haveTurn 44 = .ok (.aload_n 0, 1) := by decide +kernel
theorem dX8_haveTurn_45 : decode cX8_haveTurn 45 = .ok (.getfield 46, 3) := by decide +kernel
theorem dX8_haveTurn_48 : decode cX8_haveTurn 48 = .ok (.ifCond .eq 20, 3) := by decide +kernel
theorem dX8_haveTurn_51 : decode cX8_haveTurn 51 = .ok (.aload_n 0, 1) := by decide +kernel
theorem dX8_haveTurn_52 : decode cX8_haveTurn 52 = .ok (.iconst 0, 1) := by decide +kernel
theorem dX8_haveTurn_53 : decode cX8_haveTurn 53 = .ok (.putfield 46, 3) := by decide +kernel
theorem dX8_haveTurn_56 : decode cX8_haveTurn 56 = .ok (.aload_n 1, 1) := by decide +kernel
theorem dX8_haveTurn_57 : decode cX8_haveTurn 57 = .ok (.ldc 135, 2) := by decide +kernel
theorem dX8_haveTurn_59 : decode cX8_haveTurn 59 = .ok (.aload_n 0, 1) := by decide +kernel
theorem dX8_haveTurn_60 : decode cX8_haveTurn 60 = .ok (.getfield 43, 3) := by decide +kernel
theorem dX8_haveTurn_63 : decode cX8_haveTurn 63 = .ok (.ior, 1) := by decide +kernel
theorem dX8_haveTurn_64 : decode cX8_haveTurn 64 = .ok (.iconst (-1), 1) := by decide +kernel
theorem dX8_haveTurn_65 : decode cX8_haveTurn 65 = .ok (.invokevirtual 126, 3) := by decide +kernel
theorem dX8_haveTurn_68 : decode cX8_haveTurn 68 = .ok (.return_, 1) := by decide +kernel
theorem dX8_haveTurn_69 : decode cX8_haveTurn 69 = .ok (.aload_n 0, 1) := by decide +kernel
theorem dX8_haveTurn_70 : decode cX8_haveTurn 70 = .ok (.getfield 24, 3) := by decide +kernel
theorem dX8_haveTurn_73 : decode cX8_haveTurn 73 = .ok (.iconst 1, 1) := by decide +kernel
theorem dX8_haveTurn_74 : decode cX8_haveTurn 74 = .ok (.if_icmp .eq 12, 3) := by decide +kernel
theorem dX8_haveTurn_77 : decode cX8_haveTurn 77 = .ok (.aload_n 0, 1) := by decide +kernel
theorem dX8_haveTurn_78 : decode cX8_haveTurn 78 = .ok (.getfield 24, 3) := by decide +kernel
theorem dX8_haveTurn_81 : decode cX8_haveTurn 81 = .ok (.iconst 2, 1) := by decide +kernel
theorem dX8_haveTurn_82 : decode cX8_haveTurn 82 = .ok (.if_icmp .eq 4, 3) := by decide +kernel
theorem dX8_haveTurn_85 : decode cX8_haveTurn 85 = .ok (.return_, 1) := by decide +kernel
theorem dX8_haveTurn_86 : decode cX8_haveTurn 86 = .ok (.aload_n 0, 1) := by decide +kernel
theorem dX8_haveTurn_87 : decode cX8_haveTurn 87 = .ok (.getfield 18, 3) := by decide +kernel
theorem dX8_haveTurn_90 : decode cX8_haveTurn 90 = .ok (.invokevirtual 136, 3) := by decide +kernel
theorem dX8_haveTurn_93 : decode cX8_haveTurn 93 = .ok (.istore_n 2, 1) := by decide +kernel
theorem dX8_haveTurn_94 : decode cX8_haveTurn 94 = .ok (.iload_n 2, 1) := by decide +kernel
theorem dX8_haveTurn_95 : decode cX8_haveTurn 95 = .ok (.iconst (-1), 1) := by decide +kernel
theorem dX8_haveTurn_96 : decode cX8_haveTurn 96 = .ok (.if_icmp .ne 8, 3) := by decide +kernel
theorem dX8_haveTurn_99 : decode cX8_haveTurn 99 = .ok (.aload_n 0, 1) := by decide +kernel
theorem dX8_haveTurn_100 : decode cX8_haveTurn 100 = .ok (.invokevirtual 140, 3) := by decide +kernel
theorem dX8_haveTurn_103 : decode cX8_haveTurn 103 = .ok (.istore_n 2, 1) := by decide +kernel
theorem dX8_haveTurn_104 : decode cX8_haveTurn 104 = .ok (.iload_n 2, 1) := by decide +kernel
theorem dX8_haveTurn_105 : decode cX8_haveTurn 105 = .ok (.iconst (-1), 1) := by decide +kernel
theorem dX8_haveTurn_106 : decode cX8_haveTurn 106 = .ok (.if_icmp .eq 66, 3) := by decide +kernel
theorem dX8_haveTurn_109 : decode cX8_haveTurn 109 = .ok (.aload_n 0, 1) := by decide +kernel
theorem dX8_haveTurn_110 : decode cX8_haveTurn 110 = .ok (.getfield 18, 3) := by decide +kernel
theorem dX8_haveTurn_113 : decode cX8_haveTurn 113 = .ok (.getfield 143, 3) := by decide +kernel
theorem dX8_haveTurn_116 : decode cX8_haveTurn 116 = .ok (.iload_n 2, 1) := by decide +kernel
theorem dX8_haveTurn_117 : decode cX8_haveTurn 117 = .ok (.iconst 0, 1) := by decide +kernel
theorem dX8_haveTurn_118 : decode cX8_haveTurn 118 = .ok (.iastore, 1) := by decide +kernel
theorem dX8_haveTurn_119 : decode cX8_haveTurn 119 = .ok (.aload_n 0, 1) := by decide +kernel
theorem dX8_haveTurn_120 : decode cX8_haveTurn 120 = .ok (.getfield 60, 3) := by decide +kernel
theorem dX8_haveTurn_123 : decode cX8_haveTurn 123 = .ok (.aload_n 0, 1) := by decide +kernel
theorem dX8_haveTurn_124 : decode cX8_haveTurn 124 = .ok (.getfield 18, 3) := by decide +kernel
theorem dX8_haveTurn_127 : decode cX8_haveTurn 127 = .ok (.getfield 146, 3) := by decide +kernel
theorem dX8_haveTurn_130 : decode cX8_haveTurn 130 = .ok (.iload_n 2, 1) := by decide +kernel
theorem dX8_haveTurn_131 : decode cX8_haveTurn 131 = .ok (.iaload, 1) := by decide +kernel
theorem dX8_haveTurn_132 : decode cX8_haveTurn 132 = .ok (.invokevirtual 149, 3) := by decide +kernel
theorem dX8_haveTurn_135 : decode cX8_haveTurn 135 = .ok (.aload_n 1, 1) := by decide +kernel
theorem dX8_haveTurn_136 : decode cX8_haveTurn 136 = .ok (.iconst 0, 1) := by decide +kernel
theorem dX8_haveTurn_137 : decode cX8_haveTurn 137 = .ok (.aload_n 0, 1) := by decide +kernel
theorem dX8_haveTurn_138 : decode cX8_haveTurn 138 = .ok (.getfield 18, 3) := by decide +kernel
theorem dX8_haveTurn_141 : decode cX8_haveTurn 141 = .ok (.getfield 152, 3) := by decide +kernel
theorem dX8_haveTurn_144 : decode cX8_haveTurn 144 = .ok (.iload_n 2, 1) := by decide +kernel
theorem dX8_haveTurn_145 : decode cX8_haveTurn 145 = .ok (.iaload, 1) := by decide +kernel
theorem dX8_haveTurn_146 : decode cX8_haveTurn 146 = .ok (.bipush 16, 2) := by decide +kernel
theorem dX8_haveTurn_148 : decode cX8_haveTurn 148 = .ok (.ishl, 1) := by decide +kernel
theorem dX8_haveTurn_149 : decode cX8_haveTurn 149 = .ok (.ior, 1) := by decide +kernel
theorem dX8_haveTurn_150 : decode cX8_haveTurn 150 = .ok (.aload_n 0, 1) := by decide +kernel
theorem dX8_haveTurn_151 : decode cX8_haveTurn 151 = .ok (.getfield 18, 3) := by decide +kernel
theorem dX8_haveTurn_154 : decode cX8_haveTurn 154 = .ok (.getfield 123, 3) := by decide +kernel
theorem dX8_haveTurn_157 : decode cX8_haveTurn 157 = .ok (.iload_n 2, 1) := by decide +kernel
theorem dX8_haveTurn_158 : decode cX8_haveTurn 158 = .ok (.iaload, 1) := by decide +kernel
theorem dX8_haveTurn_159 : decode cX8_haveTurn 159 = .ok (.ior, 1) := by decide +kernel
theorem dX8_haveTurn_160 : decode cX8_haveTurn 160 = .ok (.aload_n 0, 1) := by decide +kernel
theorem dX8_haveTurn_161 : decode cX8_haveTurn 161 = .ok (.getfield 18, 3) := by decide +kernel
theorem dX8_haveTurn_164 : decode cX8_haveTurn 164 = .ok (.getfield 146, 3) := by decide +kernel
theorem dX8_haveTurn_167 : decode cX8_haveTurn 167 = .ok (.iload_n 2, 1) := by decide +kernel
theorem dX8_haveTurn_168 : decode cX8_haveTurn 168 = .ok (.iaload, 1) := by decide +kernel
theorem dX8_haveTurn_169 : decode cX8_haveTurn 169 = .ok (.invokevirtual 126, 3) := by decide +kernel
theorem dX8_haveTurn_172 : decode cX8_haveTurn 172 = .ok (.return_, 1) := by decide +kernel
theorem dX8_makeNewFrame_0 : decode cX8_makeNewFrame 0 = .ok (.aload_n 0, 1) := by decide +kernel
theorem dX8_makeNewFrame_1 : decode cX8_makeNewFrame 1 = .ok (.getfield 12, 3) := by decide +kernel
theorem dX8_makeNewFrame_4 : decode cX8_makeNewFrame 4 = .ok (.getfield 72, 3) := by decide +kernel
theorem dX8_makeNewFrame_7 : decode cX8_makeNewFrame 7 = .ok (.ifCond .eq 34, 3) := by decide +kernel
theorem dX8_makeNewFrame_10 : decode cX8_makeNewFrame 10 = .ok (.aload_n 0, 1) := by decide +kernel
theorem dX8_makeNewFrame_11 : decode cX8_makeNewFrame 11 = .ok (.getfield 18, 3) := by decide +kernel
theorem dX8_makeNewFrame_14 : decode cX8_makeNewFrame 14 = .ok (.getfield 72, 3) := by decide +kernel
theorem dX8_makeNewFrame_17 : decode cX8_makeNewFrame 17 = .ok (.aload_n 0, 1) := by decide +kernel
theorem dX8_makeNewFrame_18 : decode cX8_makeNewFrame 18 = .ok (.getfield 56, 3) := by decide +kernel
theorem dX8_makeNewFrame_21 : decode cX8_makeNewFrame 21 = .ok (.getfield 96, 3) := by decide +kernel
theorem dX8_makeNewFrame_24 : decode cX8_makeNewFrame 24 = .ok (.iconst 2, 1) := by decide +kernel
theorem dX8_makeNewFrame_25 : decode cX8_makeNewFrame 25 = .ok (.iaload, 1) := by decide +kernel
theorem dX8_makeNewFrame_26 : decode cX8_makeNewFrame 26 = .ok (.if_icmp .ge 15, 3) := by decide +kernel
theorem dX8_makeNewFrame_29 : decode cX8_makeNewFrame 29 = .ok (.aload_n 0, 1) := by decide +kernel
theorem dX8_makeNewFrame_30 : decode cX8_makeNewFrame 30 = .ok (.getfield 18, 3) := by decide +kernel
theorem dX8_makeNewFrame_33 : decode cX8_makeNewFrame 33 = .ok (.getfield 72, 3) := by decide +kernel
theorem dX8_makeNewFrame_36 : decode cX8_makeNewFrame 36 = .ok (.bipush 20, 2) := by decide +kernel
theorem dX8_makeNewFrame_38 : decode cX8_makeNewFrame 38 = .ok (.if_icmp .lt 5, 3) := by decide +kernel
theorem dX8_makeNewFrame_41 : decode cX8_makeNewFrame 41 = .ok (.iconst (-1), 1) := by decide +kernel
theorem dX8_makeNewFrame_42 : decode cX8_makeNewFrame 42 = .ok (.ireturn, 1) := by decide +kernel
theorem dX8_makeNewFrame_43 : decode cX8_makeNewFrame 43 = .ok (.aload_n 0, 1) := by decide +kernel
theorem dX8_makeNewFrame_44 : decode cX8_makeNewFrame 44 = .ok (.getfield 18, 3) := by decide +kernel
theorem dX8_makeNewFrame_47 : decode cX8_makeNewFrame 47 = .ok (.getfield 72, 3) := by decide +kernel
theorem dX8_makeNewFrame_50 : decode cX8_makeNewFrame 50 = .ok (.ifCond .ne 8, 3) := by decide +kernel
theorem dX8_makeNewFrame_53 : decode cX8_makeNewFrame 53 = .ok (.aload_n 0, 1) := by decide +kernel
theorem dX8_makeNewFrame_54 : decode cX8_makeNewFrame 54 = .ok (.iconst 1, 1) := by decide +kernel
theorem dX8_makeNewFrame_55 : decode cX8_makeNewFrame 55 = .ok (.putfield 34, 3) := by decide +kernel
theorem dX8_makeNewFrame_58 : decode cX8_makeNewFrame 58 = .ok (.aload_n 0, 1) := by decide +kernel
theorem dX8_makeNewFrame_59 : decode cX8_makeNewFrame 59 = .ok (.aload_n 0, 1) := by decide +kernel
theorem dX8_makeNewFrame_60 : decode cX8_makeNewFrame 60 = .ok (.getfield 56, 3) := by decide +kernel
theorem dX8_makeNewFrame_63 : decode cX8_makeNewFrame 63 = .ok (.getfield 96, 3) := by decide +kernel
theorem dX8_makeNewFrame_66 : decode cX8_makeNewFrame 66 = .ok (.iconst 4, 1) := by decide +kernel
theorem dX8_makeNewFrame_67 : decode cX8_makeNewFrame 67 = .ok (.iaload, 1) := by decide +kernel
theorem dX8_makeNewFrame_68 : decode cX8_makeNewFrame 68 = .ok (.putfield 37, 3) := by decide +kernel
theorem dX8_makeNewFrame_71 : decode cX8_makeNewFrame 71 = .ok (.aload_n 0, 1) := by decide +kernel
theorem dX8_makeNewFrame_72 : decode cX8_makeNewFrame 72 = .ok (.getfield 18, 3) := by decide +kernel
theorem dX8_makeNewFrame_75 : decode cX8_makeNewFrame 75 = .ok (.aload_n 0, 1) := by decide +kernel
theorem dX8_makeNewFrame_76 : decode cX8_makeNewFrame 76 = .ok (.getfield 12, 3) := by decide +kernel
theorem dX8_makeNewFrame_79 : decode cX8_makeNewFrame 79 = .ok (.getfield 123, 3) := by decide +kernel
theorem dX8_makeNewFrame_82 : decode cX8_makeNewFrame 82 = .ok (.iconst 0, 1) := by decide +kernel
theorem dX8_makeNewFrame_83 : decode cX8_makeNewFrame 83 = .ok (.iaload, 1) := by decide +kernel
theorem dX8_makeNewFrame_84 : decode cX8_makeNewFrame 84 = .ok (.aload_n 0, 1) := by decide +kernel
theorem dX8_makeNewFrame_85 : decode cX8_makeNewFrame 85 = .ok (.getfield 28, 3) := by decide +kernel
theorem dX8_makeNewFrame_88 : decode cX8_makeNewFrame 88 = .ok (.aload_n 0, 1) := by decide +kernel
theorem dX8_makeNewFrame_89 : decode cX8_makeNewFrame 89 = .ok (.getfield 12, 3) := by decide +kernel
theorem dX8_makeNewFrame_92 : decode cX8_makeNewFrame 92 = .ok (.getfield 146, 3) := by decide +kernel
theorem dX8_makeNewFrame_95 : decode cX8_makeNewFrame 95 = .ok (.iconst 0, 1) := by decide +kernel
theorem dX8_makeNewFrame_96 : decode cX8_makeNewFrame 96 = .ok (.iaload, 1) := by decide +kernel
theorem dX8_makeNewFrame_97 : decode cX8_makeNewFrame 97 = .ok (.invokevirtual 81, 3) := by decide +kernel
theorem dX8_makeNewFrame_100 : decode cX8_makeNewFrame 100 = .ok (.aload_n 0, 1) := by decide +kernel
theorem dX8_makeNewFrame_101 : decode cX8_makeNewFrame 101 = .ok (.getfield 12, 3) := by decide +kernel
theorem dX8_makeNewFrame_104 : decode cX8_makeNewFrame 104 = .ok (.iconst 1, 1) := by decide +kernel
theorem dX8_makeNewFrame_105 : decode cX8_makeNewFrame 105 = .ok (.invokevirtual 132, 3) := by decide +kernel
theorem dX8_makeNewFrame_108 : decode cX8_makeNewFrame 108 = .ok (.aload_n 0, 1) := by decide +kernel
theorem dX8_makeNewFrame_109 : decode cX8_makeNewFrame 109 = .ok (.aload_n 0, 1) := by decide +kernel
theorem dX8_makeNewFrame_110 : decode cX8_makeNewFrame 110 = .ok (.getfield 28, 3) := by decide +kernel
theorem dX8_makeNewFrame_113 : decode cX8_makeNewFrame 113 = .ok (.iconst 1, 1) := by decide +kernel
theorem dX8_makeNewFrame_114 : decode cX8_makeNewFrame 114 = .ok (.iadd, 1) := by decide +kernel
theorem dX8_makeNewFrame_115 : decode cX8_makeNewFrame 115 = .ok (.sipush 255, 3) := by decide +kernel
theorem dX8_makeNewFrame_118 : decode cX8_makeNewFrame 118 = .ok (.iand, 1) := by decide +kernel
theorem dX8_makeNewFrame_119 : decode cX8_makeNewFrame 119 = .ok (.putfield 28, 3) := by decide +kernel
theorem dX8_makeNewFrame_122 : decode cX8_makeNewFrame 122 = .ok (.aload_n 0, 1) := by decide +kernel
theorem dX8_makeNewFrame_123 : decode cX8_makeNewFrame 123 = .ok (.getfield 18, 3) := by decide +kernel
theorem dX8_makeNewFrame_126 : decode cX8_makeNewFrame 126 = .ok (.getfield 72, 3) := by decide +kernel
theorem dX8_makeNewFrame_129 : decode cX8_makeNewFrame 129 = .ok (.iconst 1, 1) := by decide +kernel
theorem dX8_makeNewFrame_130 : decode cX8_makeNewFrame 130 = .ok (.isub, 1) := by decide +kernel
theorem dX8_makeNewFrame_131 : decode cX8_makeNewFrame 131 = .ok (.ireturn, 1) := by decide +kernel
theorem dX8_hear_0 : decode cX8_hear 0 = .ok (.aload_n 1, 1) := by decide +kernel
theorem dX8_hear_1 : decode cX8_hear 1 = .ok (.iconst 0, 1) := by decide +kernel
theorem dX8_hear_2 : decode cX8_hear 2 = .ok (.iconst 0, 1) := by decide +kernel
theorem dX8_hear_3 : decode cX8_hear 3 = .ok (.invokevirtual 155, 3) := by decide +kernel
theorem dX8_hear_6 : decode cX8_hear 6 = .ok (.istore_n 2, 1) := by decide +kernel
theorem dX8_hear_7 : decode cX8_hear 7 = .ok (.aload_n 1, 1) := by decide +kernel
theorem dX8_hear_8 : decode cX8_hear 8 = .ok (.iconst 0, 1) := by decide +kernel
theorem dX8_hear_9 : decode cX8_hear 9 = .ok (.iconst 1, 1) := by decide +kernel
theorem dX8_hear_10 : decode cX8_hear 10 = .ok (.invokevirtual 155, 3) := by decide +kernel
theorem dX8_hear_13 : decode cX8_hear 13 = .ok (.istore_n 3, 1) := by decide +kernel
theorem dX8_hear_14 : decode cX8_hear 14 = .ok (.iload_n 2, 1) := by decide +kernel
theorem dX8_hear_15 : decode cX8_hear 15 = .ok (.iload_n 3, 1) := by decide +kernel
theorem dX8_hear_16 : decode cX8_hear 16 = .ok (.iadd, 1) := by decide +kernel
theorem dX8_hear_17 : decode cX8_hear 17 = .ok (.bipush 85, 2) := by decide +kernel
theorem dX8_hear_19 : decode cX8_hear 19 = .ok (.iadd, 1) := by decide +kernel
theorem dX8_hear_20 : decode cX8_hear 20 = .ok (.sipush 255, 3) := by decide +kernel
theorem dX8_hear_23 : decode cX8_hear 23 = .ok (.iand, 1) := by decide +kernel
theorem dX8_hear_24 : decode cX8_hear 24 = .ok (.aload_n 1, 1) := by decide +kernel
theorem dX8_hear_25 : decode cX8_hear 25 = .ok (.iconst 0, 1) := by decide +kernel
theorem dX8_hear_26 : decode cX8_hear 26 = .ok (.iconst 2, 1) := by decide +kernel
theorem dX8_hear_27 : decode cX8_hear 27 = .ok (.invokevirtual 155, 3) := by decide +kernel
theorem dX8_hear_30 : decode cX8_hear 30 = .ok (.if_icmp .ne 9, 3) := by decide +kernel
theorem dX8_hear_33 : decode cX8_hear 33 = .ok (.iload_n 2, 1) := by decide +kernel
theorem dX8_hear_34 : decode cX8_hear 34 = .ok (.bipush 31, 2) := by decide +kernel
theorem dX8_hear_36 : decode cX8_hear 36 = .ok (.if_icmp .le 10, 3) := by decide +kernel
theorem dX8_hear_39 : decode cX8_hear 39 = .ok (.aload_n 0, 1) := by decide +kernel
theorem dX8_hear_40 : decode cX8_hear 40 = .ok (.bipush (-2), 2) := by decide +kernel
theorem dX8_hear_42 : decode cX8_hear 42 = .ok (.putfield 50, 3) := by decide +kernel
theorem dX8_hear_45 : decode cX8_hear 45 = .ok (.return_, 1) := by decide +kernel
theorem dX8_hear_46 : decode cX8_hear 46 = .ok (.aload_n 0, 1) := by decide +kernel
theorem dX8_hear_47 : decode cX8_hear 47 = .ok (.iload_n 2, 1) := by decide +kernel
theorem dX8_hear_48 : decode cX8_hear 48 = .ok (.bipush 8, 2) := by decide +kernel
theorem dX8_hear_50 : decode cX8_hear 50 = .ok (.ishl, 1) := by decide +kernel
theorem dX8_hear_51 : decode cX8_hear 51 = .ok (.iload_n 3, 1) := by decide +kernel
theorem dX8_hear_52 : decode cX8_hear 52 = .ok (.ior, 1) := by decide +kernel
theorem dX8_hear_53 : decode cX8_hear 53 = .ok (.putfield 50, 3) := by decide +kernel
theorem dX8_hear_56 : decode cX8_hear 56 = .ok (.aload_n 0, 1) := by decide +kernel
theorem dX8_hear_57 : decode cX8_hear 57 = .ok (.dup, 1) := by decide +kernel
theorem dX8_hear_58 : decode cX8_hear 58 = .ok (.getfield 53, 3) := by decide +kernel
theorem dX8_hear_61 : decode cX8_hear 61 = .ok (.iconst 1, 1) := by decide +kernel
theorem dX8_hear_62 : decode cX8_hear 62 = .ok (.iadd, 1) := by decide +kernel
theorem dX8_hear_63 : decode cX8_hear 63 = .ok (.putfield 53, 3) := by decide +kernel
theorem dX8_hear_66 : decode cX8_hear 66 = .ok (.aload_n 0, 1) := by decide +kernel
theorem dX8_hear_67 : decode cX8_hear 67 = .ok (.getfield 24, 3) := by decide +kernel
theorem dX8_hear_70 : decode cX8_hear 70 = .ok (.bipush 6, 2) := by decide +kernel
theorem dX8_hear_72 : decode cX8_hear 72 = .ok (.if_icmp .ne 4, 3) := by decide +kernel
theorem dX8_hear_75 : decode cX8_hear 75 = .ok (.return_, 1) := by decide +kernel
theorem dX8_hear_76 : decode cX8_hear 76 = .ok (.iload_n 2, 1) := by decide +kernel
theorem dX8_hear_77 : decode cX8_hear 77 = .ok (.iconst 1, 1) := by decide +kernel
theorem dX8_hear_78 : decode cX8_hear 78 = .ok (.iand, 1) := by decide +kernel
theorem dX8_hear_79 : decode cX8_hear 79 = .ok (.ifCond .eq 8, 3) := by decide +kernel
theorem dX8_hear_82 : decode cX8_hear 82 = .ok (.aload_n 0, 1) := by decide +kernel
theorem dX8_hear_83 : decode cX8_hear 83 = .ok (.invokevirtual 158, 3) := by decide +kernel
theorem dX8_hear_86 : decode cX8_hear 86 = .ok (.return_, 1) := by decide +kernel
theorem dX8_hear_87 : decode cX8_hear 87 = .ok (.iload_n 2, 1) := by decide +kernel
theorem dX8_hear_88 : decode cX8_hear 88 = .ok (.iconst 4, 1) := by decide +kernel
theorem dX8_hear_89 : decode cX8_hear 89 = .ok (.iand, 1) := by decide +kernel
theorem dX8_hear_90 : decode cX8_hear 90 = .ok (.ifCond .eq 7, 3) := by decide +kernel
theorem dX8_hear_93 : decode cX8_hear 93 = .ok (.iconst 1, 1) := by decide +kernel
theorem dX8_hear_94 : decode cX8_hear 94 = .ok (.goto 4, 3) := by decide +kernel
theorem dX8_hear_97 : decode cX8_hear 97 = .ok (.iconst 0, 1) := by decide +kernel
theorem dX8_hear_98 : decode cX8_hear 98 = .ok (.iload_n 2, 1) := by decide +kernel
theorem dX8_hear_99 : decode cX8_hear 99 = .ok (.iconst 2, 1) := by decide +kernel
theorem dX8_hear_100 : decode cX8_hear 100 = .ok (.iand, 1) := by decide +kernel
theorem dX8_hear_101 : decode cX8_hear 101 = .ok (.ifCond .eq 7, 3) := by decide +kernel
theorem dX8_hear_104 : decode cX8_hear 104 = .ok (.iconst 2, 1) := by decide +kernel
theorem dX8_hear_105 : decode cX8_hear 105 = .ok (.goto 4, 3) := by decide +kernel
theorem dX8_hear_108 : decode cX8_hear 108 = .ok (.iconst 0, 1) := by decide +kernel
theorem dX8_hear_109 : decode cX8_hear 109 = .ok (.iadd, 1) := by decide +kernel
theorem dX8_hear_110 : decode cX8_hear 110 = .ok (.istore 4, 2) := by decide +kernel
theorem dX8_hear_112 : decode cX8_hear 112 = .ok (.aload_n 0, 1) := by decide +kernel
theorem dX8_hear_113 : decode cX8_hear 113 = .ok (.getfield 24, 3) := by decide +kernel
theorem dX8_hear_116 : decode cX8_hear 116 = .ok (.iconst 4, 1) := by decide +kernel
theorem dX8_hear_117 : decode cX8_hear 117 = .ok (.if_icmp .ne 13, 3) := by decide +kernel
theorem dX8_hear_120 : decode cX8_hear 120 = .ok (.aload_n 0, 1) := by decide +kernel
theorem dX8_hear_121 : decode cX8_hear 121 = .ok (.iload_n 3, 1) := by decide +kernel
theorem dX8_hear_122 : decode cX8_hear 122 = .ok (.iload 4, 2) := by decide +kernel
theorem dX8_hear_124 : decode cX8_hear 124 = .ok (.invokevirtual 161, 3) := by decide +kernel
theorem dX8_hear_127 : decode cX8_hear 127 = .ok (.goto 58, 3) := by decide +kernel
theorem dX8_hear_130 : decode cX8_hear 130 = .ok (.aload_n 0, 1) := by decide +kernel
theorem dX8_hear_131 : decode cX8_hear 131 = .ok (.getfield 24, 3) := by decide +kernel
theorem dX8_hear_134 : decode cX8_hear 134 = .ok (.iconst 5, 1) := by decide +kernel
theorem dX8_hear_135 : decode cX8_hear 135 = .ok (.if_icmp .ne 13, 3) := by decide +kernel
theorem dX8_hear_138 : decode cX8_hear 138 = .ok (.aload_n 0, 1) := by decide +kernel
theorem dX8_hear_139 : decode cX8_hear 139 = .ok (.iload_n 3, 1) := by decide +kernel
theorem dX8_hear_140 : decode cX8_hear 140 = .ok (.iload 4, 2) := by decide +kernel
theorem dX8_hear_142 : decode cX8_hear 142 = .ok (.invokevirtual 164, 3) := by decide +kernel
theorem dX8_hear_145 : decode cX8_hear 145 = .ok (.goto 40, 3) := by decide +kernel
theorem dX8_hear_148 : decode cX8_hear 148 = .ok (.iload_n 3, 1) := by decide +kernel
theorem dX8_hear_149 : decode cX8_hear 149 = .ok (.aload_n 0, 1) := by decide +kernel
theorem dX8_hear_150 : decode cX8_hear 150 = .ok (.getfield 31, 3) := by decide +kernel
theorem dX8_hear_153 : decode cX8_hear 153 = .ok (.invokestatic 167, 3) := by decide +kernel
theorem dX8_hear_156 : decode cX8_hear 156 = .ok (.aload_n 0, 1) := by decide +kernel
theorem dX8_hear_157 : decode cX8_hear 157 = .ok (.getfield 28, 3) := by decide +kernel
theorem dX8_hear_160 : decode cX8_hear 160 = .ok (.aload_n 0, 1) := by decide +kernel
theorem dX8_hear_161 : decode cX8_hear 161 = .ok (.getfield 31, 3) := by decide +kernel
theorem dX8_hear_164 : decode cX8_hear 164 = .ok (.invokestatic 167, 3) := by decide +kernel
theorem dX8_hear_167 : decode cX8_hear 167 = .ok (.if_icmp .le 11, 3) := by decide +kernel
theorem dX8_hear_170 : decode cX8_hear 170 = .ok (.aload_n 0, 1) := by decide +kernel
theorem dX8_hear_171 : decode cX8_hear 171 = .ok (.iconst 3, 1) := by decide +kernel
theorem dX8_hear_172 : decode cX8_hear 172 = .ok (.invokevirtual 108, 3) := by decide +kernel
theorem dX8_hear_175 : decode cX8_hear 175 = .ok (.goto 10, 3) := by decide +kernel
theorem dX8_hear_178 : decode cX8_hear 178 = .ok (.aload_n 0, 1) := by decide +kernel
theorem dX8_hear_179 : decode cX8_hear 179 = .ok (.iload_n 3, 1) := by decide +kernel
theorem dX8_hear_180 : decode cX8_hear 180 = .ok (.iload 4, 2) := by decide +kernel
theorem dX8_hear_182 : decode cX8_hear 182 = .ok (.invokevirtual 170, 3) := by decide +kernel
theorem dX8_hear_185 : decode cX8_hear 185 = .ok (.return_, 1) := by decide +kernel
theorem dX8_hearLocked_0 : decode cX8_hearLocked 0 = .ok (.aload_n 0, 1) := by decide +kernel
theorem dX8_hearLocked_1 : decode cX8_hearLocked 1 = .ok (.getfield 24, 3) := by decide +kernel
theorem dX8_hearLocked_4 : decode cX8_hearLocked 4 = .ok (.iconst 5, 1) := by decide +kernel
theorem dX8_hearLocked_5 : decode cX8_hearLocked 5 = .ok (.if_icmp .ne 10, 3) := by decide +kernel
theorem dX8_hearLocked_8 : decode cX8_hearLocked 8 = .ok (.aload_n 0, 1) := by decide +kernel
theorem dX8_hearLocked_9 : decode cX8_hearLocked 9 = .ok (.getfield 43, 3) := by decide +kernel
theorem dX8_hearLocked_12 : decode cX8_hearLocked 12 = .ok (.ifCond .eq 8, 3) := by decide +kernel
theorem dX8_hearLocked_15 : decode cX8_hearLocked 15 = .ok (.aload_n 0, 1) := by decide +kernel
theorem dX8_hearLocked_16 : decode cX8_hearLocked 16 = .ok (.iconst 1, 1) := by decide +kernel
theorem dX8_hearLocked_17 : decode cX8_hearLocked 17 = .ok (.invokevirtual 108, 3) := by decide +kernel
theorem dX8_hearLocked_20 : decode cX8_hearLocked 20 = .ok (.return_, 1) := by decide +kernel
theorem dX8_hearChecking_0 : decode cX8_hearChecking 0 = .ok (.iload_n 1, 1) := by decide +kernel
theorem dX8_hearChecking_1 : decode cX8_hearChecking 1 = .ok (.aload_n 0, 1) := by decide +kernel
theorem dX8_hearChecking_2 : decode cX8_hearChecking 2 = .ok (.getfield 28, 3) := by decide +kernel
theorem dX8_hearChecking_5 : decode cX8_hearChecking 5 = .ok (.if_icmp .ne 9, 3) := by decide +kernel
theorem dX8_hearChecking_8 : decode cX8_hearChecking 8 = .ok (.iload_n 2, 1) := by decide +kernel
theorem dX8_hearChecking_9 : decode cX8_hearChecking 9 = .ok (.iconst 1, 1) := by decide +kernel
theorem dX8_hearChecking_10 : decode cX8_hearChecking 10 = .ok (.iand, 1) := by decide +kernel
theorem dX8_hearChecking_11 : decode cX8_hearChecking 11 = .ok (.ifCond .eq 11, 3) := by decide +kernel
theorem dX8_hearChecking_14 : decode cX8_hearChecking 14 = .ok (.aload_n 0, 1) := by decide +kernel
theorem dX8_hearChecking_15 : decode cX8_hearChecking 15 = .ok (.iconst 2, 1) := by decide +kernel
theorem dX8_hearChecking_16 : decode cX8_hearChecking 16 = .ok (.invokevirtual 108, 3) := by decide +kernel
theorem dX8_hearChecking_19 : decode cX8_hearChecking 19 = .ok (.goto 28, 3) := by decide +kernel
theorem dX8_hearChecking_22 : decode cX8_hearChecking 22 = .ok (.iload_n 2, 1) := by decide +kernel
theorem dX8_hearChecking_23 : decode cX8_hearChecking 23 = .ok (.ifCond .ne 24, 3) := by decide +kernel
theorem dX8_hearChecking_26 : decode cX8_hearChecking 26 = .ok (.aload_n 0, 1) := by decide +kernel
theorem dX8_hearChecking_27 : decode cX8_hearChecking 27 = .ok (.aload_n 0, 1) := by decide +kernel
theorem dX8_hearChecking_28 : decode cX8_hearChecking 28 = .ok (.getfield 64, 3) := by decide +kernel
theorem dX8_hearChecking_31 : decode cX8_hearChecking 31 = .ok (.aload_n 0, 1) := by decide +kernel
theorem dX8_hearChecking_32 : decode cX8_hearChecking 32 = .ok (.getfield 24, 3) := by decide +kernel
theorem dX8_hearChecking_35 : decode cX8_hearChecking 35 = .ok (.iconst 1, 1) := by decide +kernel
theorem dX8_hearChecking_36 : decode cX8_hearChecking 36 = .ok (.invokevirtual 102, 3) := by decide +kernel
theorem dX8_hearChecking_39 : decode cX8_hearChecking 39 = .ok (.putfield 24, 3) := by decide +kernel
theorem dX8_hearChecking_42 : decode cX8_hearChecking 42 = .ok (.aload_n 0, 1) := by decide +kernel
theorem dX8_hearChecking_43 : decode cX8_hearChecking 43 = .ok (.iconst 0, 1) := by decide +kernel
theorem dX8_hearChecking_44 : decode cX8_hearChecking 44 = .ok (.putfield 37, 3) := by decide +kernel
theorem dX8_hearChecking_47 : decode cX8_hearChecking 47 = .ok (.return_, 1) := by decide +kernel
theorem dX8_hearDirecting_0 : decode cX8_hearDirecting 0 = .ok (.iload_n 1, 1) := by decide +kernel
theorem dX8_hearDirecting_1 : decode cX8_hearDirecting 1 = .ok (.aload_n 0, 1) := by decide +kernel
theorem dX8_hearDirecting_2 : decode cX8_hearDirecting 2 = .ok (.getfield 28, 3) := by decide +kernel
theorem dX8_hearDirecting_5 : decode cX8_hearDirecting 5 = .ok (.if_icmp .ne 38, 3) := by decide +kernel
theorem dX8_hearDirecting_8 : decode cX8_hearDirecting 8 = .ok (.iload_n 2, 1) := by decide +kernel
theorem dX8_hearDirecting_9 : decode cX8_hearDirecting 9 = .ok (.ifCond .ne 34, 3) := by decide +kernel
theorem dX8_hearDirecting_12 : decode cX8_hearDirecting 12 = .ok (.aload_n 0, 1) := by decide +kernel
theorem dX8_hearDirecting_13 : decode cX8_hearDirecting 13 = .ok (.aload_n 0, 1) := by decide +kernel
theorem dX8_hearDirecting_14 : decode cX8_hearDirecting 14 = .ok (.getfield 64, 3) := by decide +kernel
theorem dX8_hearDirecting_17 : decode cX8_hearDirecting 17 = .ok (.aload_n 0, 1) := by decide +kernel
theorem dX8_hearDirecting_18 : decode cX8_hearDirecting 18 = .ok (.getfield 24, 3) := by decide +kernel
theorem dX8_hearDirecting_21 : decode cX8_hearDirecting 21 = .ok (.iconst 1, 1) := by decide +kernel
theorem dX8_hearDirecting_22 : decode cX8_hearDirecting 22 = .ok (.invokevirtual 102, 3) := by decide +kernel
theorem dX8_hearDirecting_25 : decode cX8_hearDirecting 25 = .ok (.putfield 24, 3) := by decide +kernel
theorem dX8_hearDirecting_28 : decode cX8_hearDirecting 28 = .ok (.aload_n 0, 1) := by decide +kernel
theorem dX8_hearDirecting_29 : decode cX8_hearDirecting 29 = .ok (.iconst (-1), 1) := by decide +kernel
theorem dX8_hearDirecting_30 : decode cX8_hearDirecting 30 = .ok (.putfield 43, 3) := by decide +kernel
theorem dX8_hearDirecting_33 : decode cX8_hearDirecting 33 = .ok (.aload_n 0, 1) := by decide +kernel
theorem dX8_hearDirecting_34 : decode cX8_hearDirecting 34 = .ok (.iconst 0, 1) := by decide +kernel
theorem dX8_hearDirecting_35 : decode cX8_hearDirecting 35 = .ok (.putfield 46, 3) := by decide +kernel
theorem dX8_hearDirecting_38 : decode cX8_hearDirecting 38 = .ok (.aload_n 0, 1) := by decide +kernel
theorem dX8_hearDirecting_39 : decode cX8_hearDirecting 39 = .ok (.iconst 0, 1) := by decide +kernel
theorem dX8_hearDirecting_40 : decode cX8_hearDirecting 40 = .ok (.putfield 37, 3) := by decide +kernel
theorem dX8_hearDirecting_43 : decode cX8_hearDirecting 43 = .ok (.return_, 1) := by decide +kernel
theorem dX8_standingOf_0 : decode cX8_standingOf 0 = .ok (.iload_n 1, 1) := by decide +kernel
theorem dX8_standingOf_1 : decode cX8_standingOf 1 = .ok (.aload_n 0, 1) := by decide +kernel
theorem dX8_standingOf_2 : decode cX8_standingOf 2 = .ok (.getfield 28, 3) := by decide +kernel
theorem dX8_standingOf_5 : decode cX8_standingOf 5 = .ok (.if_icmp .ne 5, 3) := by decide +kernel
theorem dX8_standingOf_8 : decode cX8_standingOf 8 = .ok (.iconst 0, 1) := by decide +kernel
theorem dX8_standingOf_9 : decode cX8_standingOf 9 = .ok (.ireturn, 1) := by decide +kernel
theorem dX8_standingOf_10 : decode cX8_standingOf 10 = .ok (.iload_n 1, 1) := by decide +kernel
theorem dX8_standingOf_11 : decode cX8_standingOf 11 = .ok (.aload_n 0, 1) := by decide +kernel
theorem dX8_standingOf_12 : decode cX8_standingOf 12 = .ok (.getfield 31, 3) := by decide +kernel
theorem dX8_standingOf_15 : decode cX8_standingOf 15 = .ok (.if_icmp .ne 7, 3) := by decide +kernel
theorem dX8_standingOf_18 : decode cX8_standingOf 18 = .ok (.iconst 1, 1) := by decide +kernel
theorem dX8_standingOf_19 : decode cX8_standingOf 19 = .ok (.goto 4, 3) := by decide +kernel
theorem dX8_standingOf_22 : decode cX8_standingOf 22 = .ok (.iconst 2, 1) := by decide +kernel
theorem dX8_standingOf_23 : decode cX8_standingOf 23 = .ok (.ireturn, 1) := by decide +kernel
theorem dX8_verdictOf_0 : decode cX8_verdictOf 0 = .ok (.iload_n 2, 1) := by decide +kernel
theorem dX8_verdictOf_1 : decode cX8_verdictOf 1 = .ok (.iconst 1, 1) := by decide +kernel
theorem dX8_verdictOf_2 : decode cX8_verdictOf 2 = .ok (.iand, 1) := by decide +kernel
theorem dX8_verdictOf_3 : decode cX8_verdictOf 3 = .ok (.ifCond .eq 7, 3) := by decide +kernel
theorem dX8_verdictOf_6 : decode cX8_verdictOf 6 = .ok (.iconst 1, 1) := by decide +kernel
theorem dX8_verdictOf_7 : decode cX8_verdictOf 7 = .ok (.goto 4, 3) := by decide +kernel
theorem dX8_verdictOf_10 : decode cX8_verdictOf 10 = .ok (.iconst 0, 1) := by decide +kernel
theorem dX8_verdictOf_11 : decode cX8_verdictOf 11 = .ok (.istore 5, 2) := by decide +kernel
theorem dX8_verdictOf_13 : decode cX8_verdictOf 13 = .ok (.iload_n 2, 1) := by decide +kernel
theorem dX8_verdictOf_14 : decode cX8_verdictOf 14 = .ok (.iconst 2, 1) := by decide +kernel
theorem dX8_verdictOf_15 : decode cX8_verdictOf 15 = .ok (.iand, 1) := by decide +kernel
theorem dX8_verdictOf_16 : decode cX8_verdictOf 16 = .ok (.ifCond .eq 7, 3) := by decide +kernel
theorem dX8_verdictOf_19 : decode cX8_verdictOf 19 = .ok (.iconst 1, 1) := by decide +kernel
theorem dX8_verdictOf_20 : decode cX8_verdictOf 20 = .ok (.goto 4, 3) := by decide +kernel
theorem dX8_verdictOf_23 : decode cX8_verdictOf 23 = .ok (.iconst 0, 1) := by decide +kernel
theorem dX8_verdictOf_24 : decode cX8_verdictOf 24 = .ok (.istore 6, 2) := by decide +kernel
theorem dX8_verdictOf_26 : decode cX8_verdictOf 26 = .ok (.iload_n 1, 1) := by decide +kernel
theorem dX8_verdictOf_27 : decode cX8_verdictOf 27 = .ok (.ifCond .ne 14, 3) := by decide +kernel
theorem dX8_verdictOf_30 : decode cX8_verdictOf 30 = .ok (.iload_n 2, 1) := by decide +kernel
theorem dX8_verdictOf_31 : decode cX8_verdictOf 31 = .ok (.ifCond .ne 7, 3) := by decide +kernel
theorem dX8_verdictOf_34 : decode cX8_verdictOf 34 = .ok (.iconst 1, 1) := by decide +kernel
theorem dX8_verdictOf_35 : decode cX8_verdictOf 35 = .ok (.goto 5, 3) := by decide +kernel
theorem dX8_verdictOf_38 : decode cX8_verdictOf 38 = .ok (.bipush 7, 2) := by decide +kernel
theorem dX8_verdictOf_40 : decode cX8_verdictOf 40 = .ok (.ireturn, 1) := by decide +kernel
theorem dX8_verdictOf_41 : decode cX8_verdictOf 41 = .ok (.iload 6, 2) := by decide +kernel
theorem dX8_verdictOf_43 : decode cX8_verdictOf 43 = .ok (.ifCond .eq 11, 3) := by decide +kernel
theorem dX8_verdictOf_46 : decode cX8_verdictOf 46 = .ok (.iload 5, 2) := by decide +kernel
theorem dX8_verdictOf_48 : decode cX8_verdictOf 48 = .ok (.ifCond .ne 6, 3) := by decide +kernel
theorem dX8_verdictOf_51 : decode cX8_verdictOf 51 = .ok (.bipush 7, 2) := by decide +kernel
theorem dX8_verdictOf_53 : decode cX8_verdictOf 53 = .ok (.ireturn, 1) := by decide +kernel
theorem dX8_verdictOf_54 : decode cX8_verdictOf 54 = .ok (.iload 5, 2) := by decide +kernel
theorem dX8_verdictOf_56 : decode cX8_verdictOf 56 = .ok (.ifCond .ne 22, 3) := by decide +kernel
theorem dX8_verdictOf_59 : decode cX8_verdictOf 59 = .ok (.iload_n 1, 1) := by decide +kernel
theorem dX8_verdictOf_60 : decode cX8_verdictOf 60 = .ok (.iconst 2, 1) := by decide +kernel
theorem dX8_verdictOf_61 : decode cX8_verdictOf 61 = .ok (.if_icmp .ne 5, 3) := by decide +kernel
theorem dX8_verdictOf_64 : decode cX8_verdictOf 64 = .ok (.iconst 2, 1) := by decide +kernel
theorem dX8_verdictOf_65 : decode cX8_verdictOf 65 = .ok (.ireturn, 1) := by decide +kernel
theorem dX8_verdictOf_66 : decode cX8_verdictOf 66 = .ok (.iload_n 0, 1) := by decide +kernel
theorem dX8_verdictOf_67 : decode cX8_verdictOf 67 = .ok (.iconst 1, 1) := by decide +kernel
theorem dX8_verdictOf_68 : decode cX8_verdictOf 68 = .ok (.if_icmp .ne 7, 3) := by decide +kernel
theorem dX8_verdictOf_71 : decode cX8_verdictOf 71 = .ok (.iconst 0, 1) := by decide +kernel
theorem dX8_verdictOf_72 : decode cX8_verdictOf 72 = .ok (.goto 5, 3) := by decide +kernel
theorem dX8_verdictOf_75 : decode cX8_verdictOf 75 = .ok (.bipush 8, 2) := by decide +kernel
theorem dX8_verdictOf_77 : decode cX8_verdictOf 77 = .ok (.ireturn, 1) := by decide +kernel
theorem dX8_verdictOf_78 : decode cX8_verdictOf 78 = .ok (.iload 4, 2) := by decide +kernel
theorem dX8_verdictOf_80 : decode cX8_verdictOf 80 = .ok (.iconst 1, 1) := by decide +kernel
theorem dX8_verdictOf_81 : decode cX8_verdictOf 81 = .ok (.if_icmp .ne 6, 3) := by decide +kernel
theorem dX8_verdictOf_84 : decode cX8_verdictOf 84 = .ok (.bipush 6, 2) := by decide +kernel
theorem dX8_verdictOf_86 : decode cX8_verdictOf 86 = .ok (.ireturn, 1) := by decide +kernel
theorem dX8_verdictOf_87 : decode cX8_verdictOf 87 = .ok (.iload_n 1, 1) := by decide +kernel
theorem dX8_verdictOf_88 : decode cX8_verdictOf 88 = .ok (.iconst 2, 1) := by decide +kernel
theorem dX8_verdictOf_89 : decode cX8_verdictOf 89 = .ok (.if_icmp .ne 5, 3) := by decide +kernel
theorem dX8_verdictOf_92 : decode cX8_verdictOf 92 = .ok (.iconst 3, 1) := by decide +kernel
theorem dX8_verdictOf_93 : decode cX8_verdictOf 93 = .ok (.ireturn, 1) := by decide +kernel
theorem dX8_verdictOf_94 : decode cX8_verdictOf 94 = .ok (.iload_n 0, 1) := by decide +kernel
theorem dX8_verdictOf_95 : decode cX8_verdictOf 95 = .ok (.iconst 1, 1) := by decide +kernel
theorem dX8_verdictOf_96 : decode cX8_verdictOf 96 = .ok (.if_icmp .ne 16, 3) := by decide +kernel
theorem dX8_verdictOf_99 : decode cX8_verdictOf 99 = .ok (.iload_n 3, 1) := by decide +kernel
theorem dX8_verdictOf_100 : decode cX8_verdictOf 100 = .ok (.iload 4, 2) := by decide +kernel
theorem dX8_verdictOf_102 : decode cX8_verdictOf 102 = .ok (.if_icmp .lt 8, 3) := by decide +kernel
theorem dX8_verdictOf_105 : decode cX8_verdictOf 105 = .ok (.bipush 6, 2) := by decide +kernel
theorem dX8_verdictOf_107 : decode cX8_verdictOf 107 = .ok (.goto 4, 3) := by decide +kernel
theorem dX8_verdictOf_110 : decode cX8_verdictOf 110 = .ok (.iconst 3, 1) := by decide +kernel
theorem dX8_verdictOf_111 : decode cX8_verdictOf 111 = .ok (.ireturn, 1) := by decide +kernel
theorem dX8_verdictOf_112 : decode cX8_verdictOf 112 = .ok (.iload_n 0, 1) := by decide +kernel
theorem dX8_verdictOf_113 : decode cX8_verdictOf 113 = .ok (.iconst 2, 1) := by decide +kernel
theorem dX8_verdictOf_114 : decode cX8_verdictOf 114 = .ok (.if_icmp .ne 14, 3) := by decide +kernel
theorem dX8_verdictOf_117 : decode cX8_verdictOf 117 = .ok (.iload 6, 2) := by decide +kernel
theorem dX8_verdictOf_119 : decode cX8_verdictOf 119 = .ok (.ifCond .eq 7, 3) := by decide +kernel
theorem dX8_verdictOf_122 : decode cX8_verdictOf 122 = .ok (.iconst 4, 1) := by decide +kernel
theorem dX8_verdictOf_123 : decode cX8_verdictOf 123 = .ok (.goto 4, 3) := by decide +kernel
theorem dX8_verdictOf_126 : decode cX8_verdictOf 126 = .ok (.iconst 0, 1) := by decide +kernel
theorem dX8_verdictOf_127 : decode cX8_verdictOf 127 = .ok (.ireturn, 1) := by decide +kernel
theorem dX8_verdictOf_128 : decode cX8_verdictOf 128 = .ok (.iload 6, 2) := by decide +kernel
theorem dX8_verdictOf_130 : decode cX8_verdictOf 130 = .ok (.ifCond .eq 7, 3) := by decide +kernel
theorem dX8_verdictOf_133 : decode cX8_verdictOf 133 = .ok (.iconst 0, 1) := by decide +kernel
theorem dX8_verdictOf_134 : decode cX8_verdictOf 134 = .ok (.goto 4, 3) := by decide +kernel
theorem dX8_verdictOf_137 : decode cX8_verdictOf 137 = .ok (.iconst 5, 1) := by decide +kernel
theorem dX8_verdictOf_138 : decode cX8_verdictOf 138 = .ok (.ireturn, 1) := by decide +kernel
theorem dX8_followTable_0 : decode cX8_followTable 0 = .ok (.aload_n 0, 1) := by decide +kernel
theorem dX8_followTable_1 : decode cX8_followTable 1 = .ok (.iload_n 1, 1) := by decide +kernel
theorem dX8_followTable_2 : decode cX8_followTable 2 = .ok (.invokevirtual 173, 3) := by decide +kernel
theorem dX8_followTable_5 : decode cX8_followTable 5 = .ok (.istore_n 3, 1) := by decide +kernel
theorem dX8_followTable_6 : decode cX8_followTable 6 = .ok (.aload_n 0, 1) := by decide +kernel
theorem dX8_followTable_7 : decode cX8_followTable 7 = .ok (.getfield 24, 3) := by decide +kernel
theorem dX8_followTable_10 : decode cX8_followTable 10 = .ok (.iload_n 3, 1) := by decide +kernel
theorem dX8_followTable_11 : decode cX8_followTable 11 = .ok (.iload_n 2, 1) := by decide +kernel
theorem dX8_followTable_12 : decode cX8_followTable 12 = .ok (.aload_n 0, 1) := by decide +kernel
theorem dX8_followTable_13 : decode cX8_followTable 13 = .ok (.getfield 34, 3) := by decide +kernel
theorem dX8_followTable_16 : decode cX8_followTable 16 = .ok (.aload_n 0, 1) := by decide +kernel
theorem dX8_followTable_17 : decode cX8_followTable 17 = .ok (.getfield 56, 3) := by decide +kernel
theorem dX8_followTable_20 : decode cX8_followTable 20 = .ok (.getfield 96, 3) := by decide +kernel
theorem dX8_followTable_23 : decode cX8_followTable 23 = .ok (.iconst 3, 1) := by decide +kernel
theorem dX8_followTable_24 : decode cX8_followTable 24 = .ok (.iaload, 1) := by decide +kernel
theorem dX8_followTable_25 : decode cX8_followTable 25 = .ok (.invokestatic 176, 3) := by decide +kernel
theorem dX8_followTable_28 : decode cX8_followTable 28 = .ok (.istore 4, 2) := by decide +kernel
theorem dX8_followTable_30 : decode cX8_followTable 30 = .ok (.aload_n 0, 1) := by decide +kernel
theorem dX8_followTable_31 : decode cX8_followTable 31 = .ok (.getfield 64, 3) := by decide +kernel
theorem dX8_followTable_34 : decode cX8_followTable 34 = .ok (.iload 4, 2) := by decide +kernel
theorem dX8_followTable_36 : decode cX8_followTable 36 = .ok (.invokevirtual 180, 3) := by decide +kernel
theorem dX8_followTable_39 : decode cX8_followTable 39 = .ok (.iload 4, 2) := by decide +kernel
theorem dX8_followTable_41 : decode cX8_followTable 41 = .ok (.bipush 7, 2) := by decide +kernel
theorem dX8_followTable_43 : decode cX8_followTable 43 = .ok (.if_icmp .ne 9, 3) := by decide +kernel
theorem dX8_followTable_46 : decode cX8_followTable 46 = .ok (.aload_n 0, 1) := by decide +kernel
theorem dX8_followTable_47 : decode cX8_followTable 47 = .ok (.iconst 4, 1) := by decide +kernel
theorem dX8_followTable_48 : decode cX8_followTable 48 = .ok (.invokevirtual 108, 3) := by decide +kernel
theorem dX8_followTable_51 : decode cX8_followTable 51 = .ok (.return_, 1) := by decide +kernel
theorem dX8_followTable_52 : decode cX8_followTable 52 = .ok (.iload 4, 2) := by decide +kernel
theorem dX8_followTable_54 : decode cX8_followTable 54 = .ok (.bipush 8, 2) := by decide +kernel
theorem dX8_followTable_56 : decode cX8_followTable 56 = .ok (.if_icmp .ne 9, 3) := by decide +kernel
theorem dX8_followTable_59 : decode cX8_followTable 59 = .ok (.aload_n 0, 1) := by decide +kernel
theorem dX8_followTable_60 : decode cX8_followTable 60 = .ok (.iconst 2, 1) := by decide +kernel
theorem dX8_followTable_61 : decode cX8_followTable 61 = .ok (.invokevirtual 108, 3) := by decide +kernel
theorem dX8_followTable_64 : decode cX8_followTable 64 = .ok (.return_, 1) := by decide +kernel
theorem dX8_followTable_65 : decode cX8_followTable 65 = .ok (.aload_n 0, 1) := by decide +kernel
theorem dX8_followTable_66 : decode cX8_followTable 66 = .ok (.getfield 60, 3) := by decide +kernel
theorem dX8_followTable_69 : decode cX8_followTable 69 = .ok (.aload_n 0, 1) := by decide +kernel
theorem dX8_followTable_70 : decode cX8_followTable 70 = .ok (.getfield 18, 3) := by decide +kernel
theorem dX8_followTable_73 : decode cX8_followTable 73 = .ok (.iload_n 1, 1) := by decide +kernel
theorem dX8_followTable_74 : decode cX8_followTable 74 = .ok (.aload_n 0, 1) := by decide +kernel
theorem dX8_followTable_75 : decode cX8_followTable 75 = .ok (.getfield 31, 3) := by decide +kernel
theorem dX8_followTable_78 : decode cX8_followTable 78 = .ok (.invokestatic 167, 3) := by decide +kernel
theorem dX8_followTable_81 : decode cX8_followTable 81 = .ok (.invokevirtual 183, 3) := by decide +kernel
theorem dX8_followTable_84 : decode cX8_followTable 84 = .ok (.iload 4, 2) := by decide +kernel
theorem dX8_followTable_86 : decode cX8_followTable 86 = .ok (.bipush 6, 2) := by decide +kernel
theorem dX8_followTable_88 : decode cX8_followTable 88 = .ok (.if_icmp .ne 9, 3) := by decide +kernel
theorem dX8_followTable_91 : decode cX8_followTable 91 = .ok (.aload_n 0, 1) := by decide +kernel
theorem dX8_followTable_92 : decode cX8_followTable 92 = .ok (.iconst 5, 1) := by decide +kernel
theorem dX8_followTable_93 : decode cX8_followTable 93 = .ok (.invokevirtual 108, 3) := by decide +kernel
theorem dX8_followTable_96 : decode cX8_followTable 96 = .ok (.return_, 1) := by decide +kernel
theorem dX8_followTable_97 : decode cX8_followTable 97 = .ok (.aload_n 0, 1) := by decide +kernel
theorem dX8_followTable_98 : decode cX8_followTable 98 = .ok (.iload_n 1, 1) := by decide +kernel
theorem dX8_followTable_99 : decode cX8_followTable 99 = .ok (.putfield 31, 3) := by decide +kernel
theorem dX8_followTable_102 : decode cX8_followTable 102 = .ok (.iload 4, 2) := by decide +kernel
theorem dX8_followTable_104 : decode cX8_followTable 104 = .ok (.iconst 3, 1) := by decide +kernel
theorem dX8_followTable_105 : decode cX8_followTable 105 = .ok (.if_icmp .ne 20, 3) := by decide +kernel
theorem dX8_followTable_108 : decode cX8_followTable 108 = .ok (.iload_n 3, 1) := by decide +kernel
theorem dX8_followTable_109 : decode cX8_followTable 109 = .ok (.iconst 2, 1) := by decide +kernel
theorem dX8_followTable_110 : decode cX8_followTable 110 = .ok (.if_icmp .ne 8, 3) := by decide +kernel
theorem dX8_followTable_113 : decode cX8_followTable 113 = .ok (.aload_n 0, 1) := by decide +kernel
theorem dX8_followTable_114 : decode cX8_followTable 114 = .ok (.iconst 0, 1) := by decide +kernel
theorem dX8_followTable_115 : decode cX8_followTable 115 = .ok (.putfield 34, 3) := by decide +kernel
theorem dX8_followTable_118 : decode cX8_followTable 118 = .ok (.aload_n 0, 1) := by decide +kernel
theorem dX8_followTable_119 : decode cX8_followTable 119 = .ok (.invokevirtual 112, 3) := by decide +kernel
theorem dX8_followTable_122 : decode cX8_followTable 122 = .ok (.goto 41, 3) := by decide +kernel
theorem dX8_followTable_125 : decode cX8_followTable 125 = .ok (.iload 4, 2) := by decide +kernel
theorem dX8_followTable_127 : decode cX8_followTable 127 = .ok (.iconst 1, 1) := by decide +kernel
theorem dX8_followTable_128 : decode cX8_followTable 128 = .ok (.if_icmp .ne 11, 3) := by decide +kernel
theorem dX8_followTable_131 : decode cX8_followTable 131 = .ok (.aload_n 0, 1) := by decide +kernel
theorem dX8_followTable_132 : decode cX8_followTable 132 = .ok (.iconst 0, 1) := by decide +kernel
theorem dX8_followTable_133 : decode cX8_followTable 133 = .ok (.putfield 37, 3) := by decide +kernel
theorem dX8_followTable_136 : decode cX8_followTable 136 = .ok (.goto 27, 3) := by decide +kernel
theorem dX8_followTable_139 : decode cX8_followTable 139 = .ok (.iload 4, 2) := by decide +kernel
theorem dX8_followTable_141 : decode cX8_followTable 141 = .ok (.iconst 2, 1) := by decide +kernel
theorem dX8_followTable_142 : decode cX8_followTable 142 = .ok (.if_icmp .ne 21, 3) := by decide +kernel
theorem dX8_followTable_145 : decode cX8_followTable 145 = .ok (.aload_n 0, 1) := by decide +kernel
theorem dX8_followTable_146 : decode cX8_followTable 146 = .ok (.iconst 1, 1) := by decide +kernel
theorem dX8_followTable_147 : decode cX8_followTable 147 = .ok (.putfield 34, 3) := by decide +kernel
theorem dX8_followTable_150 : decode cX8_followTable 150 = .ok (.aload_n 0, 1) := by decide +kernel
theorem dX8_followTable_151 : decode cX8_followTable 151 = .ok (.aload_n 0, 1) := by decide +kernel
theorem dX8_followTable_152 : decode cX8_followTable 152 = .ok (.getfield 56, 3) := by decide +kernel
theorem dX8_followTable_155 : decode cX8_followTable 155 = .ok (.getfield 96, 3) := by decide +kernel
theorem dX8_followTable_158 : decode cX8_followTable 158 = .ok (.iconst 4, 1) := by decide +kernel
theorem dX8_followTable_159 : decode cX8_followTable 159 = .ok (.iaload, 1) := by decide +kernel
theorem dX8_followTable_160 : decode cX8_followTable 160 = .ok (.putfield 37, 3) := by decide +kernel
theorem dX8_followTable_163 : decode cX8_followTable 163 = .ok (.aload_n 0, 1) := by decide +kernel
theorem dX8_followTable_164 : decode cX8_followTable 164 = .ok (.aload_n 0, 1) := by decide +kernel
theorem dX8_followTable_165 : decode cX8_followTable 165 = .ok (.getfield 64, 3) := by decide +kernel
theorem dX8_followTable_168 : decode cX8_followTable 168 = .ok (.aload_n 0, 1) := by decide +kernel
theorem dX8_followTable_169 : decode cX8_followTable 169 = .ok (.getfield 24, 3) := by decide +kernel
theorem dX8_followTable_172 : decode cX8_followTable 172 = .ok (.aload_n 0, 1) := by decide +kernel
theorem dX8_followTable_173 : decode cX8_followTable 173 = .ok (.iload 4, 2) := by decide +kernel
theorem dX8_followTable_175 : decode cX8_followTable 175 = .ok (.iload_n 2, 1) := by decide +kernel
theorem dX8_followTable_176 : decode cX8_followTable 176 = .ok (.iconst 2, 1) := by decide +kernel
theorem dX8_followTable_177 : decode cX8_followTable 177 = .ok (.iand, 1) := by decide +kernel
theorem dX8_followTable_178 : decode cX8_followTable 178 = .ok (.ifCond .eq 7, 3) := by decide +kernel
theorem dX8_followTable_181 : decode cX8_followTable 181 = .ok (.iconst 1, 1) := by decide +kernel
theorem dX8_followTable_182 : decode cX8_followTable 182 = .ok (.goto 4, 3) := by decide +kernel
theorem dX8_followTable_185 : decode cX8_followTable 185 = .ok (.iconst 0, 1) := by decide +kernel
theorem dX8_followTable_186 : decode cX8_followTable 186 = .ok (.invokevirtual 187, 3) := by decide +kernel
theorem dX8_followTable_189 : decode cX8_followTable 189 = .ok (.invokevirtual 102, 3) := by decide +kernel
theorem dX8_followTable_192 : decode cX8_followTable 192 = .ok (.putfield 24, 3) := by decide +kernel
theorem dX8_followTable_195 : decode cX8_followTable 195 = .ok (.return_, 1) := by decide +kernel
theorem dX8_machineBehind_0 : decode cX8_machineBehind 0 = .ok (.iload_n 1, 1) := by decide +kernel
theorem dX8_machineBehind_1 : decode cX8_machineBehind 1 = .ok (.tableswitch 53 1 5 #[35, 37, 39, 49, 51], 35) := by decide +kernel
theorem dX8_machineBehind_36 : decode cX8_machineBehind 36 = .ok (.iconst 1, 1) := by decide +kernel
theorem dX8_machineBehind_37 : decode cX8_machineBehind 37 = .ok (.ireturn, 1) := by decide +kernel
theorem dX8_machineBehind_38 : decode cX8_machineBehind 38 = .ok (.iconst 1, 1) := by decide +kernel
theorem dX8_machineBehind_39 : decode cX8_machineBehind 39 = .ok (.ireturn, 1) := by decide +kernel
theorem dX8_machineBehind_40 : decode cX8_machineBehind 40 = .ok (.iload_n 2, 1) := by decide +kernel
theorem dX8_machineBehind_41 : decode cX8_machineBehind 41 = .ok (.ifCond .eq 7, 3) := by decide +kernel
theorem dX8_machineBehind_44 : decode cX8_machineBehind 44 = .ok (.iconst 3, 1) := by decide +kernel
theorem dX8_machineBehind_45 : decode cX8_machineBehind 45 = .ok (.goto 4, 3) := by decide +kernel
theorem dX8_machineBehind_48 : decode cX8_machineBehind 48 = .ok (.iconst 2, 1) := by decide +kernel
theorem dX8_machineBehind_49 : decode cX8_machineBehind 49 = .ok (.ireturn, 1) := by decide +kernel
theorem dX8_machineBehind_50 : decode cX8_machineBehind 50 = .ok (.iconst 3, 1) := by decide +kernel
theorem dX8_machineBehind_51 : decode cX8_machineBehind 51 = .ok (.ireturn, 1) := by decide +kernel
theorem dX8_machineBehind_52 : decode cX8_machineBehind 52 = .ok (.iconst 2, 1) := by decide +kernel
theorem dX8_machineBehind_53 : decode cX8_machineBehind 53 = .ok (.ireturn, 1) := by decide +kernel
theorem dX8_machineBehind_54 : decode cX8_machineBehind 54 = .ok (.aload_n 0, 1) := by decide +kernel
theorem dX8_machineBehind_55 : decode cX8_machineBehind 55 = .ok (.getfield 24, 3) := by decide +kernel
theorem dX8_machineBehind_58 : decode cX8_machineBehind 58 = .ok (.ireturn, 1) := by decide +kernel
theorem dX8_isIdle_0 : decode cX8_isIdle 0 = .ok (.aload_n 0, 1) := by decide +kernel
theorem dX8_isIdle_1 : decode cX8_isIdle 1 = .ok (.getfield 24, 3) := by decide +kernel
theorem dX8_isIdle_4 : decode cX8_isIdle 4 = .ok (.iconst 1, 1) := by decide +kernel
theorem dX8_isIdle_5 : decode cX8_isIdle 5 = .ok (.if_icmp .ne 27, 3) := by decide +kernel
theorem dX8_isIdle_8 : decode cX8_isIdle 8 = .ok (.aload_n 0, 1) := by decide +kernel
theorem dX8_isIdle_9 : decode cX8_isIdle 9 = .ok (.getfield 12, 3) := by decide +kernel
theorem dX8_isIdle_12 : decode cX8_isIdle 12 = .ok (.getfield 72, 3) := by decide +kernel
theorem dX8_isIdle_15 : decode cX8_isIdle 15 = .ok (.ifCond .ne 17, 3) := by decide +kernel
theorem dX8_isIdle_18 : decode cX8_isIdle 18 = .ok (.aload_n 0, 1) := by decide +kernel
theorem dX8_isIdle_19 : decode cX8_isIdle 19 = .ok (.getfield 18, 3) := by decide +kernel
theorem dX8_isIdle_22 : decode cX8_isIdle 22 = .ok (.getfield 72, 3) := by decide +kernel
theorem dX8_isIdle_25 : decode cX8_isIdle 25 = .ok (.ifCond .ne 7, 3) := by decide +kernel
theorem dX8_isIdle_28 : decode cX8_isIdle 28 = .ok (.iconst 1, 1) := by decide +kernel
theorem dX8_isIdle_29 : decode cX8_isIdle 29 = .ok (.goto 4, 3) := by decide +kernel
theorem dX8_isIdle_32 : decode cX8_isIdle 32 = .ok (.iconst 0, 1) := by decide +kernel
theorem dX8_isIdle_33 : decode cX8_isIdle 33 = .ok (.ireturn, 1) := by decide +kernel
theorem dX8_directiveKind_0 : decode cX8_directiveKind 0 = .ok (.aload_n 0, 1) := by decide +kernel
theorem dX8_directiveKind_1 : decode cX8_directiveKind 1 = .ok (.getfield 43, 3) := by decide +kernel
theorem dX8_directiveKind_4 : decode cX8_directiveKind 4 = .ok (.iconst (-1), 1) := by decide +kernel
theorem dX8_directiveKind_5 : decode cX8_directiveKind 5 = .ok (.if_icmp .ne 5, 3) := by decide +kernel
theorem dX8_directiveKind_8 : decode cX8_directiveKind 8 = .ok (.iconst (-1), 1) := by decide +kernel
theorem dX8_directiveKind_9 : decode cX8_directiveKind 9 = .ok (.ireturn, 1) := by decide +kernel
theorem dX8_directiveKind_10 : decode cX8_directiveKind 10 = .ok (.aload_n 0, 1) := by decide +kernel
theorem dX8_directiveKind_11 : decode cX8_directiveKind 11 = .ok (.getfield 43, 3) := by decide +kernel
theorem dX8_directiveKind_14 : decode cX8_directiveKind 14 = .ok (.ifCond .ne 7, 3) := by decide +kernel
theorem dX8_directiveKind_17 : decode cX8_directiveKind 17 = .ok (.iconst 0, 1) := by decide +kernel
theorem dX8_directiveKind_18 : decode cX8_directiveKind 18 = .ok (.goto 4, 3) := by decide +kernel
theorem dX8_directiveKind_21 : decode cX8_directiveKind 21 = .ok (.iconst 1, 1) := by decide +kernel
theorem dX8_directiveKind_22 : decode cX8_directiveKind 22 = .ok (.ireturn, 1) := by decide +kernel
theorem dX8_copyFrom_0 : decode cX8_copyFrom 0 = .ok (.aload_n 0, 1) := by decide +kernel
theorem dX8_copyFrom_1 : decode cX8_copyFrom 1 = .ok (.getfield 12, 3) := by decide +kernel
theorem dX8_copyFrom_4 : decode cX8_copyFrom 4 = .ok (.aload_n 1, 1) := by decide +kernel
theorem dX8_copyFrom_5 : decode cX8_copyFrom 5 = .ok (.getfield 12, 3) := by decide +kernel
theorem dX8_copyFrom_8 : decode cX8_copyFrom 8 = .ok (.invokevirtual 211, 3) := by decide +kernel
theorem dX8_copyFrom_11 : decode cX8_copyFrom 11 = .ok (.aload_n 0, 1) := by decide +kernel
theorem dX8_copyFrom_12 : decode cX8_copyFrom 12 = .ok (.getfield 18, 3) := by decide +kernel
theorem dX8_copyFrom_15 : decode cX8_copyFrom 15 = .ok (.aload_n 1, 1) := by decide +kernel
theorem dX8_copyFrom_16 : decode cX8_copyFrom 16 = .ok (.getfield 18, 3) := by decide +kernel
theorem dX8_copyFrom_19 : decode cX8_copyFrom 19 = .ok (.invokevirtual 211, 3) := by decide +kernel
theorem dX8_copyFrom_22 : decode cX8_copyFrom 22 = .ok (.aload_n 0, 1) := by decide +kernel
theorem dX8_copyFrom_23 : decode cX8_copyFrom 23 = .ok (.getfield 21, 3) := by decide +kernel
theorem dX8_copyFrom_26 : decode cX8_copyFrom 26 = .ok (.aload_n 1, 1) := by decide +kernel
theorem dX8_copyFrom_27 : decode cX8_copyFrom 27 = .ok (.getfield 21, 3) := by decide +kernel
theorem dX8_copyFrom_30 : decode cX8_copyFrom 30 = .ok (.invokevirtual 211, 3) := by decide +kernel
theorem dX8_copyFrom_33 : decode cX8_copyFrom 33 = .ok (.aload_n 0, 1) := by decide +kernel
theorem dX8_copyFrom_34 : decode cX8_copyFrom 34 = .ok (.aload_n 1, 1) := by decide +kernel
theorem dX8_copyFrom_35 : decode cX8_copyFrom 35 = .ok (.getfield 24, 3) := by decide +kernel
theorem dX8_copyFrom_38 : decode cX8_copyFrom 38 = .ok (.putfield 24, 3) := by decide +kernel
theorem dX8_copyFrom_41 : decode cX8_copyFrom 41 = .ok (.aload_n 0, 1) := by decide +kernel
theorem dX8_copyFrom_42 : decode cX8_copyFrom 42 = .ok (.aload_n 1, 1) := by decide +kernel
theorem dX8_copyFrom_43 : decode cX8_copyFrom 43 = .ok (.getfield 28, 3) := by decide +kernel
theorem dX8_copyFrom_46 : decode cX8_copyFrom 46 = .ok (.putfield 28, 3) := by decide +kernel
theorem dX8_copyFrom_49 : decode cX8_copyFrom 49 = .ok (.aload_n 0, 1) := by decide +kernel
theorem dX8_copyFrom_50 : decode cX8_copyFrom 50 = .ok (.aload_n 1, 1) := by decide +kernel
theorem dX8_copyFrom_51 : decode cX8_copyFrom 51 = .ok (.getfield 31, 3) := by decide +kernel
theorem dX8_copyFrom_54 : decode cX8_copyFrom 54 = .ok (.putfield 31, 3) := by decide +kernel
theorem dX8_copyFrom_57 : decode cX8_copyFrom 57 = .ok (.aload_n 0, 1) := by decide +kernel
theorem dX8_copyFrom_58 : decode cX8_copyFrom 58 = .ok (.aload_n 1, 1) := by decide +kernel
theorem dX8_copyFrom_59 : decode cX8_copyFrom 59 = .ok (.getfield 34, 3) := by decide +kernel
theorem dX8_copyFrom_62 : decode cX8_copyFrom 62 = .ok (.putfield 34, 3) := by decide +kernel
theorem dX8_copyFrom_65 : decode cX8_copyFrom 65 = .ok (.aload_n 0, 1) := by decide +kernel
theorem dX8_copyFrom_66 : decode cX8_copyFrom 66 = .ok (.aload_n 1, 1) := by decide +kernel
theorem dX8_copyFrom_67 : decode cX8_copyFrom 67 = .ok (.getfield 37, 3) := by decide +kernel
theorem dX8_copyFrom_70 : decode cX8_copyFrom 70 = .ok (.putfield 37, 3) := by decide +kernel
theorem dX8_copyFrom_73 : decode cX8_copyFrom 73 = .ok (.aload_n 0, 1) := by decide +kernel
theorem dX8_copyFrom_74 : decode cX8_copyFrom 74 = .ok (.aload_n 1, 1) := by decide +kernel
theorem dX8_copyFrom_75 : decode cX8_copyFrom 75 = .ok (.getfield 40, 3) := by decide +kernel
theorem dX8_copyFrom_78 : decode cX8_copyFrom 78 = .ok (.putfield 40, 3) := by decide +kernel
theorem dX8_copyFrom_81 : decode cX8_copyFrom 81 = .ok (.aload_n 0, 1) := by decide +kernel
theorem dX8_copyFrom_82 : decode cX8_copyFrom 82 = .ok (.aload_n 1, 1) := by decide +kernel
theorem dX8_copyFrom_83 : decode cX8_copyFrom 83 = .ok (.getfield 43, 3) := by decide +kernel
theorem dX8_copyFrom_86 : decode cX8_copyFrom 86 = .ok (.putfield 43, 3) := by decide +kernel
theorem dX8_copyFrom_89 : decode cX8_copyFrom 89 = .ok (.aload_n 0, 1) := by decide +kernel
theorem dX8_copyFrom_90 : decode cX8_copyFrom 90 = .ok (.aload_n 1, 1) := by decide +kernel
theorem dX8_copyFrom_91 : decode cX8_copyFrom 91 = .ok (.getfield 46, 3) := by decide +kernel
theorem dX8_copyFrom_94 : decode cX8_copyFrom 94 = .ok (.putfield 46, 3) := by decide +kernel
theorem dX8_copyFrom_97 : decode cX8_copyFrom 97 = .ok (.aload_n 0, 1) := by decide +kernel
theorem dX8_copyFrom_98 : decode cX8_copyFrom 98 = .ok (.aload_n 1, 1) := by decide +kernel
theorem dX8_copyFrom_99 : decode cX8_copyFrom 99 = .ok (.getfield 50, 3) := by decide +kernel
theorem dX8_copyFrom_102 : decode cX8_copyFrom 102 = .ok (.putfield 50, 3) := by decide +kernel
theorem dX8_copyFrom_105 : decode cX8_copyFrom 105 = .ok (.aload_n 0, 1) := by decide +kernel
theorem dX8_copyFrom_106 : decode cX8_copyFrom 106 = .ok (.aload_n 1, 1) := by decide +kernel
theorem dX8_copyFrom_107 : decode cX8_copyFrom 107 = .ok (.getfield 53, 3) := by decide +kernel
theorem dX8_copyFrom_110 : decode cX8_copyFrom 110 = .ok (.putfield 53, 3) := by decide +kernel
theorem dX8_copyFrom_113 : decode cX8_copyFrom 113 = .ok (.return_, 1) := by decide +kernel
theorem dX3_wayOf_0 : decode cX3_wayOf 0 = .ok (.iload_n 1, 1) := by decide +kernel
theorem dX3_wayOf_1 : decode cX3_wayOf 1 = .ok (.ifCond .eq 10, 3) := by decide +kernel
theorem dX3_wayOf_4 : decode cX3_wayOf 4 = .ok (.aload_n 0, 1) := by decide +kernel
theorem dX3_wayOf_5 : decode cX3_wayOf 5 = .ok (.getfield 57, 3) := by decide +kernel
theorem dX3_wayOf_8 : decode cX3_wayOf 8 = .ok (.goto 7, 3) := by decide +kernel
theorem dX3_wayOf_11 : decode cX3_wayOf 11 = .ok (.aload_n 0, 1) := by decide +kernel
theorem dX3_wayOf_12 : decode cX3_wayOf 12 = .ok (.getfield 61, 3) := by decide +kernel
theorem dX3_wayOf_15 : decode cX3_wayOf 15 = .ok (.areturn, 1) := by decide +kernel
theorem dX3_hasTimeFor_0 : decode cX3_hasTimeFor 0 = .ok (.iload_n 1, 1) := by decide +kernel
theorem dX3_hasTimeFor_1 : decode cX3_hasTimeFor 1 = .ok (.iconst 1, 1) := by decide +kernel
theorem dX3_hasTimeFor_2 : decode cX3_hasTimeFor 2 = .ok (.bipush 60, 2) := by decide +kernel
theorem dX3_hasTimeFor_4 : decode cX3_hasTimeFor 4 = .ok (.invokestatic 71, 3) := by decide +kernel
theorem dX3_hasTimeFor_7 : decode cX3_hasTimeFor 7 = .ok (.ifCond .eq 22, 3) := by decide +kernel
theorem dX3_hasTimeFor_10 : decode cX3_hasTimeFor 10 = .ok (.aload_n 0, 1) := by decide +kernel
theorem dX3_hasTimeFor_11 : decode cX3_hasTimeFor 11 = .ok (.getfield 12, 3) := by decide +kernel
theorem dX3_hasTimeFor_14 : decode cX3_hasTimeFor 14 = .ok (.getfield 75, 3) := by decide +kernel
theorem dX3_hasTimeFor_17 : decode cX3_hasTimeFor 17 = .ok (.iload_n 1, 1) := by decide +kernel
theorem dX3_hasTimeFor_18 : decode cX3_hasTimeFor 18 = .ok (.iadd, 1) := by decide +kernel
theorem dX3_hasTimeFor_19 : decode cX3_hasTimeFor 19 = .ok (.sipush 9999, 3) := by decide +kernel
theorem dX3_hasTimeFor_22 : decode cX3_hasTimeFor 22 = .ok (.if_icmp .gt 7, 3) := by decide +kernel
theorem dX3_hasTimeFor_25 : decode cX3_hasTimeFor 25 = .ok (.iconst 1, 1) := by decide +kernel
theorem dX3_hasTimeFor_26 : decode cX3_hasTimeFor 26 = .ok (.goto 4, 3) := by decide +kernel
theorem dX3_hasTimeFor_29 : decode cX3_hasTimeFor 29 = .ok (.iconst 0, 1) := by decide +kernel
theorem dX3_hasTimeFor_30 : decode cX3_hasTimeFor 30 = .ok (.ireturn, 1) := by decide +kernel
theorem dX3_passTicks_0 : decode cX3_passTicks 0 = .ok (.iconst 0, 1) := by decide +kernel
theorem dX3_passTicks_1 : decode cX3_passTicks 1 = .ok (.istore_n 3, 1) := by decide +kernel
theorem dX3_passTicks_2 : decode cX3_passTicks 2 = .ok (.iload_n 3, 1) := by decide +kernel
theorem dX3_passTicks_3 : decode cX3_passTicks 3 = .ok (.iload_n 1, 1) := by decide +kernel
theorem dX3_passTicks_4 : decode cX3_passTicks 4 = .ok (.if_icmp .ge 198, 3) := by decide +kernel
theorem dX3_passTicks_7 : decode cX3_passTicks 7 = .ok (.aload_n 0, 1) := by decide +kernel
theorem dX3_passTicks_8 : decode cX3_passTicks 8 = .ok (.getfield 12, 3) := by decide +kernel
theorem dX3_passTicks_11 : decode cX3_passTicks 11 = .ok (.dup, 1) := by decide +kernel
theorem dX3_passTicks_12 : decode cX3_passTicks 12 = .ok (.getfield 75, 3) := by decide +kernel
theorem dX3_passTicks_15 : decode cX3_passTicks 15 = .ok (.iconst 1, 1) := by decide +kernel
theorem dX3_passTicks_16 : decode cX3_passTicks 16 = .ok (.iadd, 1) := by decide +kernel
theorem dX3_passTicks_17 : decode cX3_passTicks 17 = .ok (.putfield 75, 3) := by decide +kernel
theorem dX3_passTicks_20 : decode cX3_passTicks 20 = .ok (.iconst 0, 1) := by decide +kernel
theorem dX3_passTicks_21 : decode cX3_passTicks 21 = .ok (.istore 4, 2) := by decide +kernel
theorem dX3_passTicks_23 : decode cX3_passTicks 23 = .ok (.iload 4, 2) := by decide +kernel
theorem dX3_passTicks_25 : decode cX3_passTicks 25 = .ok (.bipush 48, 2) := by decide +kernel
theorem dX3_passTicks_27 : decode cX3_passTicks 27 = .ok (.if_icmp .ge 39, 3) := by decide +kernel
theorem dX3_passTicks_30 : decode cX3_passTicks 30 = .ok (.aload_n 0, 1) := by decide +kernel
theorem dX3_passTicks_31 : decode cX3_passTicks 31 = .ok (.getfield 57, 3) := by decide +kernel
theorem dX3_passTicks_34 : decode cX3_passTicks 34 = .ok (.invokevirtual 79, 3) := by decide +kernel
theorem dX3_passTicks_37 : decode cX3_passTicks 37 = .ok (.ifCond .eq 29, 3) := by decide +kernel
theorem dX3_passTicks_40 : decode cX3_passTicks 40 = .ok (.aload_n 0, 1) := by decide +kernel
theorem dX3_passTicks_41 : decode cX3_passTicks 41 = .ok (.getfield 39, 3) := by decide +kernel
theorem dX3_passTicks_44 : decode cX3_passTicks 44 = .ok (.aload_n 0, 1) := by decide +kernel
theorem dX3_passTicks_45 : decode cX3_passTicks 45 = .ok (.getfield 57, 3) := by decide +kernel
theorem dX3_passTicks_48 : decode cX3_passTicks 48 = .ok (.invokevirtual 83, 3) := by decide +kernel
theorem dX3_passTicks_51 : decode cX3_passTicks 51 = .ok (.aload_n 0, 1) := by decide +kernel
theorem dX3_passTicks_52 : decode cX3_passTicks 52 = .ok (.getfield 57, 3) := by decide +kernel
theorem dX3_passTicks_55 : decode cX3_passTicks 55 = .ok (.iconst 0, 1) := by decide +kernel
theorem dX3_passTicks_56 : decode cX3_passTicks 56 = .ok (.invokevirtual 87, 3) := by decide +kernel
theorem dX3_passTicks_59 : decode cX3_passTicks 59 = .ok (.pop, 1) := by decide +kernel
theorem dX3_passTicks_60 : decode cX3_passTicks 60 = .ok (.iinc 4 1, 3) := by decide +kernel
theorem dX3_passTicks_63 : decode cX3_passTicks 63 = .ok (.goto (-40), 3) := by decide +kernel
theorem dX3_passTicks_66 : decode cX3_passTicks 66 = .ok (.aload_n 0, 1) := by decide +kernel
theorem dX3_passTicks_67 : decode cX3_passTicks 67 = .ok (.getfield 12, 3) := by decide +kernel
theorem dX3_passTicks_70 : decode cX3_passTicks 70 = .ok (.invokevirtual 91, 3) := by decide +kernel
theorem dX3_passTicks_73 : decode cX3_passTicks 73 = .ok (.ifCond .eq 18, 3) := by decide +kernel
theorem dX3_passTicks_76 : decode cX3_passTicks 76 = .ok (.aload_n 0, 1) := by decide +kernel
theorem dX3_passTicks_77 : decode cX3_passTicks 77 = .ok (.getfield 61, 3) := by decide +kernel
theorem dX3_passTicks_80 : decode cX3_passTicks 80 = .ok (.aload_n 0, 1) := by decide +kernel
theorem dX3_passTicks_81 : decode cX3_passTicks 81 = .ok (.getfield 39, 3) := by decide +kernel
theorem dX3_passTicks_84 : decode cX3_passTicks 84 = .ok (.invokevirtual 94, 3) := by decide +kernel
theorem dX3_passTicks_87 : decode cX3_passTicks 87 = .ok (.iconst (-1), 1) := by decide +kernel
theorem dX3_passTicks_88 : decode cX3_passTicks 88 = .ok (.invokevirtual 98, 3) := by decide +kernel
theorem dX3_passTicks_91 : decode cX3_passTicks 91 = .ok (.iconst 0, 1) := by decide +kernel
theorem dX3_passTicks_92 : decode cX3_passTicks 92 = .ok (.istore 4, 2) := by decide +kernel
theorem dX3_passTicks_94 : decode cX3_passTicks 94 = .ok (.iload 4, 2) := by decide +kernel
theorem dX3_passTicks_96 : decode cX3_passTicks 96 = .ok (.bipush 48, 2) := by decide +kernel
theorem dX3_passTicks_98 : decode cX3_passTicks 98 = .ok (.if_icmp .ge 39, 3) := by decide +kernel
theorem dX3_passTicks_101 : decode cX3_passTicks 101 = .ok (.aload_n 0, 1) := by decide +kernel
theorem dX3_passTicks_102 : decode cX3_passTicks 102 = .ok (.getfield 61, 3) := by decide +kernel
theorem dX3_passTicks_105 : decode cX3_passTicks 105 = .ok (.invokevirtual 79, 3) := by decide +kernel
theorem dX3_passTicks_108 : decode cX3_passTicks 108 = .ok (.ifCond .eq 29, 3) := by decide +kernel
theorem dX3_passTicks_111 : decode cX3_passTicks 111 = .ok (.aload_n 0, 1) := by decide +kernel
theorem dX3_passTicks_112 : decode cX3_passTicks 112 = .ok (.getfield 48, 3) := by decide +kernel
theorem dX3_passTicks_115 : decode cX3_passTicks 115 = .ok (.aload_n 0, 1) := by decide +kernel
theorem dX3_passTicks_116 : decode cX3_passTicks 116 = .ok (.getfield 61, 3) := by decide +kernel
theorem dX3_passTicks_119 : decode cX3_passTicks 119 = .ok (.invokevirtual 102, 3) := by decide +kernel
theorem dX3_passTicks_122 : decode cX3_passTicks 122 = .ok (.aload_n 0, 1) := by decide +kernel
theorem dX3_passTicks_123 : decode cX3_passTicks 123 = .ok (.getfield 61, 3) := by decide +kernel
theorem dX3_passTicks_126 : decode cX3_passTicks 126 = .ok (.iconst 0, 1) := by decide +kernel
theorem dX3_passTicks_127 : decode cX3_passTicks 127 = .ok (.invokevirtual 87, 3) := by decide +kernel
theorem dX3_passTicks_130 : decode cX3_passTicks 130 = .ok (.pop, 1) := by decide +kernel
theorem dX3_passTicks_131 : decode cX3_passTicks 131 = .ok (.iinc 4 1, 3) := by decide +kernel
theorem dX3_passTicks_134 : decode cX3_passTicks 134 = .ok (.goto (-40), 3) := by decide +kernel
theorem dX3_passTicks_137 : decode cX3_passTicks 137 = .ok (.aload_n 0, 1) := by decide +kernel
theorem dX3_passTicks_138 : decode cX3_passTicks 138 = .ok (.getfield 48, 3) := by decide +kernel
theorem dX3_passTicks_141 : decode cX3_passTicks 141 = .ok (.invokevirtual 105, 3) := by decide +kernel
theorem dX3_passTicks_144 : decode cX3_passTicks 144 = .ok (.aload_n 0, 1) := by decide +kernel
theorem dX3_passTicks_145 : decode cX3_passTicks 145 = .ok (.getfield 48, 3) := by decide +kernel
theorem dX3_passTicks_148 : decode cX3_passTicks 148 = .ok (.aload_n 0, 1) := by decide +kernel
theorem dX3_passTicks_149 : decode cX3_passTicks 149 = .ok (.getfield 57, 3) := by decide +kernel
theorem dX3_passTicks_152 : decode cX3_passTicks 152 = .ok (.invokevirtual 108, 3) := by decide +kernel
theorem dX3_passTicks_155 : decode cX3_passTicks 155 = .ok (.iconst 0, 1) := by decide +kernel
theorem dX3_passTicks_156 : decode cX3_passTicks 156 = .ok (.istore 4, 2) := by decide +kernel
theorem dX3_passTicks_158 : decode cX3_passTicks 158 = .ok (.iload_n 2, 1) := by decide +kernel
theorem dX3_passTicks_159 : decode cX3_passTicks 159 = .ok (.ifCond .eq 37, 3) := by decide +kernel
theorem dX3_passTicks_162 : decode cX3_passTicks 162 = .ok (.iload 4, 2) := by decide +kernel
theorem dX3_passTicks_164 : decode cX3_passTicks 164 = .ok (.bipush 20, 2) := by decide +kernel
theorem dX3_passTicks_166 : decode cX3_passTicks 166 = .ok (.if_icmp .ge 30, 3) := by decide +kernel
theorem dX3_passTicks_169 : decode cX3_passTicks 169 = .ok (.aload_n 0, 1) := by decide +kernel
theorem dX3_passTicks_170 : decode cX3_passTicks 170 = .ok (.getfield 39, 3) := by decide +kernel
theorem dX3_passTicks_173 : decode cX3_passTicks 173 = .ok (.getfield 113, 3) := by decide +kernel
theorem dX3_passTicks_176 : decode cX3_passTicks 176 = .ok (.getfield 117, 3) := by decide +kernel
theorem dX3_passTicks_179 : decode cX3_passTicks 179 = .ok (.ifCond .le 17, 3) := by decide +kernel
theorem dX3_passTicks_182 : decode cX3_passTicks 182 = .ok (.aload_n 0, 1) := by decide +kernel
theorem dX3_passTicks_183 : decode cX3_passTicks 183 = .ok (.getfield 39, 3) := by decide +kernel
theorem dX3_passTicks_186 : decode cX3_passTicks 186 = .ok (.invokevirtual 120, 3) := by decide +kernel
theorem dX3_passTicks_189 : decode cX3_passTicks 189 = .ok (.pop, 1) := by decide +kernel
theorem dX3_passTicks_190 : decode cX3_passTicks 190 = .ok (.iinc 4 1, 3) := by decide +kernel
theorem dX3_passTicks_193 : decode cX3_passTicks 193 = .ok (.goto (-35), 3) := by decide +kernel
theorem dX3_passTicks_196 : decode cX3_passTicks 196 = .ok (.iinc 3 1, 3) := by decide +kernel
theorem dX3_passTicks_199 : decode cX3_passTicks 199 = .ok (.goto (-197), 3) := by decide +kernel
theorem dX3_passTicks_202 : decode cX3_passTicks 202 = .ok (.return_, 1) := by decide +kernel
theorem dX3_directed_0 : decode cX3_directed 0 = .ok (.iload_n 1, 1) := by decide +kernel
theorem dX3_directed_1 : decode cX3_directed 1 = .ok (.iconst 4, 1) := by decide +kernel
theorem dX3_directed_2 : decode cX3_directed 2 = .ok (.if_icmp .ne 11, 3) := by decide +kernel
theorem dX3_directed_5 : decode cX3_directed 5 = .ok (.aload_n 0, 1) := by decide +kernel
theorem dX3_directed_6 : decode cX3_directed 6 = .ok (.getfield 48, 3) := by decide +kernel
theorem dX3_directed_9 : decode cX3_directed 9 = .ok (.invokevirtual 123, 3) := by decide +kernel
theorem dX3_directed_12 : decode cX3_directed 12 = .ok (.ireturn, 1) := by decide +kernel
theorem dX3_directed_13 : decode cX3_directed 13 = .ok (.aload_n 0, 1) := by decide +kernel
theorem dX3_directed_14 : decode cX3_directed 14 = .ok (.getfield 48, 3) := by decide +kernel
theorem dX3_directed_17 : decode cX3_directed 17 = .ok (.getfield 126, 3) := by decide +kernel
theorem dX3_directed_20 : decode cX3_directed 20 = .ok (.bipush 6, 2) := by decide +kernel
theorem dX3_directed_22 : decode cX3_directed 22 = .ok (.if_icmp .eq 11, 3) := by decide +kernel
theorem dX3_directed_25 : decode cX3_directed 25 = .ok (.aload_n 0, 1) := by decide +kernel
theorem dX3_directed_26 : decode cX3_directed 26 = .ok (.getfield 48, 3) := by decide +kernel
theorem dX3_directed_29 : decode cX3_directed 29 = .ok (.invokevirtual 129, 3) := by decide +kernel
theorem dX3_directed_32 : decode cX3_directed 32 = .ok (.pop, 1) := by decide +kernel
theorem dX3_directed_33 : decode cX3_directed 33 = .ok (.aload_n 0, 1) := by decide +kernel
theorem dX3_directed_34 : decode cX3_directed 34 = .ok (.getfield 48, 3) := by decide +kernel
theorem dX3_directed_37 : decode cX3_directed 37 = .ok (.iload_n 1, 1) := by decide +kernel
theorem dX3_directed_38 : decode cX3_directed 38 = .ok (.aload_n 0, 1) := by decide +kernel
theorem dX3_directed_39 : decode cX3_directed 39 = .ok (.getfield 39, 3) := by decide +kernel
theorem dX3_directed_42 : decode cX3_directed 42 = .ok (.getfield 132, 3) := by decide +kernel
theorem dX3_directed_45 : decode cX3_directed 45 = .ok (.invokevirtual 135, 3) := by decide +kernel
theorem dX3_directed_48 : decode cX3_directed 48 = .ok (.ireturn, 1) := by decide +kernel
theorem dX3_isInStep_0 : decode cX3_isInStep 0 = .ok (.aload_n 0, 1) := by decide +kernel
theorem dX3_isInStep_1 : decode cX3_isInStep 1 = .ok (.getfield 48, 3) := by decide +kernel
theorem dX3_isInStep_4 : decode cX3_isInStep 4 = .ok (.getfield 126, 3) := by decide +kernel
theorem dX3_isInStep_7 : decode cX3_isInStep 7 = .ok (.iconst 1, 1) := by decide +kernel
theorem dX3_isInStep_8 : decode cX3_isInStep 8 = .ok (.if_icmp .ne 47, 3) := by decide +kernel
theorem dX3_isInStep_11 : decode cX3_isInStep 11 = .ok (.aload_n 0, 1) := by decide +kernel
theorem dX3_isInStep_12 : decode cX3_isInStep 12 = .ok (.getfield 39, 3) := by decide +kernel
theorem dX3_isInStep_15 : decode cX3_isInStep 15 = .ok (.getfield 139, 3) := by decide +kernel
theorem dX3_isInStep_18 : decode cX3_isInStep 18 = .ok (.ifCond .ne 37, 3) := by decide +kernel
theorem dX3_isInStep_21 : decode cX3_isInStep 21 = .ok (.aload_n 0, 1) := by decide +kernel
theorem dX3_isInStep_22 : decode cX3_isInStep 22 = .ok (.getfield 48, 3) := by decide +kernel
theorem dX3_isInStep_25 : decode cX3_isInStep 25 = .ok (.getfield 143, 3) := by decide +kernel
theorem dX3_isInStep_28 : decode cX3_isInStep 28 = .ok (.getfield 117, 3) := by decide +kernel
theorem dX3_isInStep_31 : decode cX3_isInStep 31 = .ok (.ifCond .ne 24, 3) := by decide +kernel
theorem dX3_isInStep_34 : decode cX3_isInStep 34 = .ok (.aload_n 0, 1) := by decide +kernel
theorem dX3_isInStep_35 : decode cX3_isInStep 35 = .ok (.getfield 48, 3) := by decide +kernel
theorem dX3_isInStep_38 : decode cX3_isInStep 38 = .ok (.getfield 146, 3) := by decide +kernel
theorem dX3_isInStep_41 : decode cX3_isInStep 41 = .ok (.aload_n 0, 1) := by decide +kernel
theorem dX3_isInStep_42 : decode cX3_isInStep 42 = .ok (.getfield 39, 3) := by decide +kernel
theorem dX3_isInStep_45 : decode cX3_isInStep 45 = .ok (.getfield 132, 3) := by decide +kernel
theorem dX3_isInStep_48 : decode cX3_isInStep 48 = .ok (.if_icmp .ne 7, 3) := by decide +kernel
theorem dX3_isInStep_51 : decode cX3_isInStep 51 = .ok (.iconst 1, 1) := by decide +kernel
theorem dX3_isInStep_52 : decode cX3_isInStep 52 = .ok (.goto 4, 3) := by decide +kernel
theorem dX3_isInStep_55 : decode cX3_isInStep 55 = .ok (.iconst 0, 1) := by decide +kernel
theorem dX3_isInStep_56 : decode cX3_isInStep 56 = .ok (.ireturn, 1) := by decide +kernel
theorem dX3_runNextLine_0 : decode cX3_runNextLine 0 = .ok (.aload_n 0, 1) := by decide +kernel
theorem dX3_runNextLine_1 : decode cX3_runNextLine 1 = .ok (.getfield 67, 3) := by decide +kernel
theorem dX3_runNextLine_4 : decode cX3_runNextLine 4 = .ok (.getfield 149, 3) := by decide +kernel
theorem dX3_runNextLine_7 : decode cX3_runNextLine 7 = .ok (.istore_n 1, 1) := by decide +kernel
theorem dX3_runNextLine_8 : decode cX3_runNextLine 8 = .ok (.iload_n 1, 1) := by decide +kernel
theorem dX3_runNextLine_9 : decode cX3_runNextLine 9 = .ok (.ifCond .lt 14, 3) := by decide +kernel
theorem dX3_runNextLine_12 : decode cX3_runNextLine 12 = .ok (.iload_n 1, 1) := by decide +kernel
theorem dX3_runNextLine_13 : decode cX3_runNextLine 13 = .ok (.aload_n 0, 1) := by decide +kernel
theorem dX3_runNextLine_14 : decode cX3_runNextLine 14 = .ok (.getfield 67, 3) := by decide +kernel
theorem dX3_runNextLine_17 : decode cX3_runNextLine 17 = .ok (.getfield 152, 3) := by decide +kernel
theorem dX3_runNextLine_20 : decode cX3_runNextLine 20 = .ok (.if_icmp .lt 5, 3) := by decide +kernel
theorem dX3_runNextLine_23 : decode cX3_runNextLine 23 = .ok (.iconst 0, 1) := by decide +kernel
theorem dX3_runNextLine_24 : decode cX3_runNextLine 24 = .ok (.ireturn, 1) := by decide +kernel
theorem dX3_runNextLine_25 : decode cX3_runNextLine 25 = .ok (.aload_n 0, 1) := by decide +kernel
theorem dX3_runNextLine_26 : decode cX3_runNextLine 26 = .ok (.getfield 67, 3) := by decide +kernel
theorem dX3_runNextLine_29 : decode cX3_runNextLine 29 = .ok (.dup, 1) := by decide +kernel
theorem dX3_runNextLine_30 : decode cX3_runNextLine 30 = .ok (.getfield 149, 3) := by decide +kernel
theorem dX3_runNextLine_33 : decode cX3_runNextLine 33 = .ok (.iconst 1, 1) := by decide +kernel
theorem dX3_runNextLine_34 : decode cX3_runNextLine 34 = .ok (.iadd, 1) := by decide +kernel
theorem dX3_runNextLine_35 : decode cX3_runNextLine 35 = .ok (.putfield 149, 3) := by decide +kernel
theorem dX3_runNextLine_38 : decode cX3_runNextLine 38 = .ok (.aload_n 0, 1) := by decide +kernel
theorem dX3_runNextLine_39 : decode cX3_runNextLine 39 = .ok (.getfield 67, 3) := by decide +kernel
theorem dX3_runNextLine_42 : decode cX3_runNextLine 42 = .ok (.getfield 153, 3) := by decide +kernel
theorem dX3_runNextLine_45 : decode cX3_runNextLine 45 = .ok (.iload_n 1, 1) := by decide +kernel
theorem dX3_runNextLine_46 : decode cX3_runNextLine 46 = .ok (.iaload, 1) := by decide +kernel
theorem dX3_runNextLine_47 : decode cX3_runNextLine 47 = .ok (.istore_n 2, 1) := by decide +kernel
theorem dX3_runNextLine_48 : decode cX3_runNextLine 48 = .ok (.aload_n 0, 1) := by decide +kernel
theorem dX3_runNextLine_49 : decode cX3_runNextLine 49 = .ok (.getfield 67, 3) := by decide +kernel
theorem dX3_runNextLine_52 : decode cX3_runNextLine 52 = .ok (.getfield 157, 3) := by decide +kernel
theorem dX3_runNextLine_55 : decode cX3_runNextLine 55 = .ok (.iload_n 1, 1) := by decide +kernel
theorem dX3_runNextLine_56 : decode cX3_runNextLine 56 = .ok (.iaload, 1) := by decide +kernel
theorem dX3_runNextLine_57 : decode cX3_runNextLine 57 = .ok (.tableswitch 213 0 12 #[67, 85, 103, 113, 123, 133, 143, 151, 159, 168, 213, 185, 202], 67) := by decide +kernel
theorem dX3_runNextLine_124 : decode cX3_runNextLine 124 = .ok (.aload_n 0, 1) := by decide +kernel
theorem dX3_runNextLine_125 : decode cX3_runNextLine 125 = .ok (.getfield 48, 3) := by decide +kernel
theorem dX3_runNextLine_128 : decode cX3_runNextLine 128 = .ok (.iload_n 2, 1) := by decide +kernel
theorem dX3_runNextLine_129 : decode cX3_runNextLine 129 = .ok (.invokevirtual 160, 3) := by decide +kernel
theorem dX3_runNextLine_132 : decode cX3_runNextLine 132 = .ok (.iconst (-1), 1) := by decide +kernel
theorem dX3_runNextLine_133 : decode cX3_runNextLine 133 = .ok (.if_icmp .eq 7, 3) := by decide +kernel
theorem dX3_runNextLine_136 : decode cX3_runNextLine 136 = .ok (.iconst 1, 1) := by decide +kernel
theorem dX3_runNextLine_137 : decode cX3_runNextLine 137 = .ok (.goto 4, 3) := by decide +kernel
theorem dX3_runNextLine_140 : decode cX3_runNextLine 140 = .ok (.iconst 0, 1) := by decide +kernel
theorem dX3_runNextLine_141 : decode cX3_runNextLine 141 = .ok (.ireturn, 1) := by decide +kernel
theorem dX3_runNextLine_142 : decode cX3_runNextLine 142 = .ok (.aload_n 0, 1) := by decide +kernel
theorem dX3_runNextLine_143 : decode cX3_runNextLine 143 = .ok (.getfield 48, 3) := by decide +kernel
theorem dX3_runNextLine_146 : decode cX3_runNextLine 146 = .ok (.iload_n 2, 1) := by decide +kernel
theorem dX3_runNextLine_147 : decode cX3_runNextLine 147 = .ok (.invokevirtual 164, 3) := by decide +kernel
theorem dX3_runNextLine_150 : decode cX3_runNextLine 150 = .ok (.iconst (-1), 1) := by decide +kernel
theorem dX3_runNextLine_151 : decode cX3_runNextLine 151 = .ok (.if_icmp .eq 7, 3) := by decide +kernel
theorem dX3_runNextLine_154 : decode cX3_runNextLine 154 = .ok (.iconst 1, 1) := by decide +kernel
theorem dX3_runNextLine_155 : decode cX3_runNextLine 155 = .ok (.goto 4, 3) := by decide +kernel
theorem dX3_runNextLine_158 : decode cX3_runNextLine 158 = .ok (.iconst 0, 1) := by decide +kernel
theorem dX3_runNextLine_159 : decode cX3_runNextLine 159 = .ok (.ireturn, 1) := by decide +kernel
theorem dX3_runNextLine_160 : decode cX3_runNextLine 160 = .ok (.aload_n 0, 1) := by decide +kernel
theorem dX3_runNextLine_161 : decode cX3_runNextLine 161 = .ok (.getfield 48, 3) := by decide +kernel
theorem dX3_runNextLine_164 : decode cX3_runNextLine 164 = .ok (.iconst 0, 1) := by decide +kernel
theorem dX3_runNextLine_165 : decode cX3_runNextLine 165 = .ok (.iconst 0, 1) := by decide +kernel
theorem dX3_runNextLine_166 : decode cX3_runNextLine 166 = .ok (.invokevirtual 135, 3) := by decide +kernel
theorem dX3_runNextLine_169 : decode cX3_runNextLine 169 = .ok (.ireturn, 1) := by decide +kernel
theorem dX3_runNextLine_170 : decode cX3_runNextLine 170 = .ok (.aload_n 0, 1) := by decide +kernel
theorem dX3_runNextLine_171 : decode cX3_runNextLine 171 = .ok (.getfield 48, 3) := by decide +kernel
theorem dX3_runNextLine_174 : decode cX3_runNextLine 174 = .ok (.iconst 1, 1) := by decide +kernel
theorem dX3_runNextLine_175 : decode cX3_runNextLine 175 = .ok (.iconst 0, 1) := by decide +kernel
theorem dX3_runNextLine_176 : decode cX3_runNextLine 176 = .ok (.invokevirtual 135, 3) := by decide +kernel
theorem dX3_runNextLine_179 : decode cX3_runNextLine 179 = .ok (.ireturn, 1) := by decide +kernel
theorem dX3_runNextLine_180 : decode cX3_runNextLine 180 = .ok (.aload_n 0, 1) := by decide +kernel
theorem dX3_runNextLine_181 : decode cX3_runNextLine 181 = .ok (.getfield 48, 3) := by decide +kernel
theorem dX3_runNextLine_184 : decode cX3_runNextLine 184 = .ok (.iconst 2, 1) := by decide +kernel
theorem dX3_runNextLine_185 : decode cX3_runNextLine 185 = .ok (.iconst 0, 1) := by decide +kernel
theorem dX3_runNextLine_186 : decode cX3_runNextLine 186 = .ok (.invokevirtual 135, 3) := by decide +kernel
theorem dX3_runNextLine_189 : decode cX3_runNextLine 189 = .ok (.ireturn, 1) := by decide +kernel
theorem dX3_runNextLine_190 : decode cX3_runNextLine 190 = .ok (.aload_n 0, 1) := by decide +kernel
theorem dX3_runNextLine_191 : decode cX3_runNextLine 191 = .ok (.getfield 48, 3) := by decide +kernel
theorem dX3_runNextLine_194 : decode cX3_runNextLine 194 = .ok (.iconst 3, 1) := by decide +kernel
theorem dX3_runNextLine_195 : decode cX3_runNextLine 195 = .ok (.iload_n 2, 1) := by decide +kernel
theorem dX3_runNextLine_196 : decode cX3_runNextLine 196 = .ok (.invokevirtual 135, 3) := by decide +kernel
theorem dX3_runNextLine_199 : decode cX3_runNextLine 199 = .ok (.ireturn, 1) := by decide +kernel
theorem dX3_runNextLine_200 : decode cX3_runNextLine 200 = .ok (.aload_n 0, 1) := by decide +kernel
theorem dX3_runNextLine_201 : decode cX3_runNextLine 201 = .ok (.getfield 48, 3) := by decide +kernel
theorem dX3_runNextLine_204 : decode cX3_runNextLine 204 = .ok (.invokevirtual 129, 3) := by decide +kernel
theorem dX3_runNextLine_207 : decode cX3_runNextLine 207 = .ok (.ireturn, 1) := by decide +kernel
theorem dX3_runNextLine_208 : decode cX3_runNextLine 208 = .ok (.aload_n 0, 1) := by decide +kernel
theorem dX3_runNextLine_209 : decode cX3_runNextLine 209 = .ok (.getfield 48, 3) := by decide +kernel
theorem dX3_runNextLine_212 : decode cX3_runNextLine 212 = .ok (.invokevirtual 123, 3) := by decide +kernel
theorem dX3_runNextLine_215 : decode cX3_runNextLine 215 = .ok (.ireturn, 1) := by decide +kernel
theorem dX3_runNextLine_216 : decode cX3_runNextLine 216 = .ok (.aload_n 0, 1) := by decide +kernel
theorem dX3_runNextLine_217 : decode cX3_runNextLine 217 = .ok (.getfield 48, 3) := by decide +kernel
theorem dX3_runNextLine_220 : decode cX3_runNextLine 220 = .ok (.iload_n 2, 1) := by decide +kernel
theorem dX3_runNextLine_221 : decode cX3_runNextLine 221 = .ok (.invokevirtual 167, 3) := by decide +kernel
theorem dX3_runNextLine_224 : decode cX3_runNextLine 224 = .ok (.ireturn, 1) := by decide +kernel
theorem dX3_runNextLine_225 : decode cX3_runNextLine 225 = .ok (.aload_n 0, 1) := by decide +kernel
theorem dX3_runNextLine_226 : decode cX3_runNextLine 226 = .ok (.getfield 39, 3) := by decide +kernel
theorem dX3_runNextLine_229 : decode cX3_runNextLine 229 = .ok (.invokevirtual 120, 3) := by decide +kernel
theorem dX3_runNextLine_232 : decode cX3_runNextLine 232 = .ok (.iconst (-1), 1) := by decide +kernel
theorem dX3_runNextLine_233 : decode cX3_runNextLine 233 = .ok (.if_icmp .eq 7, 3) := by decide +kernel
theorem dX3_runNextLine_236 : decode cX3_runNextLine 236 = .ok (.iconst 1, 1) := by decide +kernel
theorem dX3_runNextLine_237 : decode cX3_runNextLine 237 = .ok (.goto 4, 3) := by decide +kernel
theorem dX3_runNextLine_240 : decode cX3_runNextLine 240 = .ok (.iconst 0, 1) := by decide +kernel
theorem dX3_runNextLine_241 : decode cX3_runNextLine 241 = .ok (.ireturn, 1) := by decide +kernel
theorem dX3_runNextLine_242 : decode cX3_runNextLine 242 = .ok (.aload_n 0, 1) := by decide +kernel
theorem dX3_runNextLine_243 : decode cX3_runNextLine 243 = .ok (.getfield 57, 3) := by decide +kernel
theorem dX3_runNextLine_246 : decode cX3_runNextLine 246 = .ok (.aload_n 0, 1) := by decide +kernel
theorem dX3_runNextLine_247 : decode cX3_runNextLine 247 = .ok (.getfield 57, 3) := by decide +kernel
theorem dX3_runNextLine_250 : decode cX3_runNextLine 250 = .ok (.getfield 170, 3) := by decide +kernel
theorem dX3_runNextLine_253 : decode cX3_runNextLine 253 = .ok (.iconst 1, 1) := by decide +kernel
theorem dX3_runNextLine_254 : decode cX3_runNextLine 254 = .ok (.isub, 1) := by decide +kernel
theorem dX3_runNextLine_255 : decode cX3_runNextLine 255 = .ok (.invokevirtual 87, 3) := by decide +kernel
theorem dX3_runNextLine_258 : decode cX3_runNextLine 258 = .ok (.ireturn, 1) := by decide +kernel
theorem dX3_runNextLine_259 : decode cX3_runNextLine 259 = .ok (.aload_n 0, 1) := by decide +kernel
theorem dX3_runNextLine_260 : decode cX3_runNextLine 260 = .ok (.getfield 61, 3) := by decide +kernel
theorem dX3_runNextLine_263 : decode cX3_runNextLine 263 = .ok (.iload_n 2, 1) := by decide +kernel
theorem dX3_runNextLine_264 : decode cX3_runNextLine 264 = .ok (.iconst 1, 1) := by decide +kernel
theorem dX3_runNextLine_265 : decode cX3_runNextLine 265 = .ok (.isub, 1) := by decide +kernel
theorem dX3_runNextLine_266 : decode cX3_runNextLine 266 = .ok (.invokevirtual 87, 3) := by decide +kernel
theorem dX3_runNextLine_269 : decode cX3_runNextLine 269 = .ok (.ireturn, 1) := by decide +kernel
theorem dX3_runNextLine_270 : decode cX3_runNextLine 270 = .ok (.aload_n 0, 1) := by decide +kernel
theorem dX3_runNextLine_271 : decode cX3_runNextLine 271 = .ok (.iload_n 2, 1) := by decide +kernel
theorem dX3_runNextLine_272 : decode cX3_runNextLine 272 = .ok (.invokevirtual 171, 3) := by decide +kernel
theorem dX3_runNextLine_275 : decode cX3_runNextLine 275 = .ok (.ifCond .ne 5, 3) := by decide +kernel
theorem dX3_runNextLine_278 : decode cX3_runNextLine 278 = .ok (.iconst 0, 1) := by decide +kernel
theorem dX3_runNextLine_279 : decode cX3_runNextLine 279 = .ok (.ireturn, 1) := by decide +kernel
theorem dX3_runNextLine_280 : decode cX3_runNextLine 280 = .ok (.aload_n 0, 1) := by decide +kernel
theorem dX3_runNextLine_281 : decode cX3_runNextLine 281 = .ok (.iload_n 2, 1) := by decide +kernel
theorem dX3_runNextLine_282 : decode cX3_runNextLine 282 = .ok (.iconst 0, 1) := by decide +kernel
theorem dX3_runNextLine_283 : decode cX3_runNextLine 283 = .ok (.invokevirtual 174, 3) := by decide +kernel
theorem dX3_runNextLine_286 : decode cX3_runNextLine 286 = .ok (.iconst 1, 1) := by decide +kernel
theorem dX3_runNextLine_287 : decode cX3_runNextLine 287 = .ok (.ireturn, 1) := by decide +kernel
theorem dX3_copyFrom_0 : decode cX3_copyFrom 0 = .ok (.aload_n 0, 1) := by decide +kernel
theorem dX3_copyFrom_1 : decode cX3_copyFrom 1 = .ok (.getfield 12, 3) := by decide +kernel
theorem dX3_copyFrom_4 : decode cX3_copyFrom 4 = .ok (.aload_n 1, 1) := by decide +kernel
theorem dX3_copyFrom_5 : decode cX3_copyFrom 5 = .ok (.getfield 12, 3) := by decide +kernel
theorem dX3_copyFrom_8 : decode cX3_copyFrom 8 = .ok (.invokevirtual 178, 3) := by decide +kernel
theorem dX3_copyFrom_11 : decode cX3_copyFrom 11 = .ok (.aload_n 0, 1) := by decide +kernel
theorem dX3_copyFrom_12 : decode cX3_copyFrom 12 = .ok (.getfield 23, 3) := by decide +kernel
theorem dX3_copyFrom_15 : decode cX3_copyFrom 15 = .ok (.aload_n 1, 1) := by decide +kernel
theorem dX3_copyFrom_16 : decode cX3_copyFrom 16 = .ok (.getfield 23, 3) := by decide +kernel
theorem dX3_copyFrom_19 : decode cX3_copyFrom 19 = .ok (.invokevirtual 181, 3) := by decide +kernel
theorem dX3_copyFrom_22 : decode cX3_copyFrom 22 = .ok (.aload_n 0, 1) := by decide +kernel
theorem dX3_copyFrom_23 : decode cX3_copyFrom 23 = .ok (.getfield 30, 3) := by decide +kernel
theorem dX3_copyFrom_26 : decode cX3_copyFrom 26 = .ok (.aload_n 1, 1) := by decide +kernel
theorem dX3_copyFrom_27 : decode cX3_copyFrom 27 = .ok (.getfield 30, 3) := by decide +kernel
theorem dX3_copyFrom_30 : decode cX3_copyFrom 30 = .ok (.invokevirtual 184, 3) := by decide +kernel
theorem dX3_copyFrom_33 : decode cX3_copyFrom 33 = .ok (.aload_n 0, 1) := by decide +kernel
theorem dX3_copyFrom_34 : decode cX3_copyFrom 34 = .ok (.getfield 39, 3) := by decide +kernel
theorem dX3_copyFrom_37 : decode cX3_copyFrom 37 = .ok (.aload_n 1, 1) := by decide +kernel
theorem dX3_copyFrom_38 : decode cX3_copyFrom 38 = .ok (.getfield 39, 3) := by decide +kernel
theorem dX3_copyFrom_41 : decode cX3_copyFrom 41 = .ok (.invokevirtual 187, 3) := by decide +kernel
theorem dX3_copyFrom_44 : decode cX3_copyFrom 44 = .ok (.aload_n 0, 1) := by decide +kernel
theorem dX3_copyFrom_45 : decode cX3_copyFrom 45 = .ok (.getfield 48, 3) := by decide +kernel
theorem dX3_copyFrom_48 : decode cX3_copyFrom 48 = .ok (.aload_n 1, 1) := by decide +kernel
theorem dX3_copyFrom_49 : decode cX3_copyFrom 49 = .ok (.getfield 48, 3) := by decide +kernel
theorem dX3_copyFrom_52 : decode cX3_copyFrom 52 = .ok (.invokevirtual 190, 3) := by decide +kernel
theorem dX3_copyFrom_55 : decode cX3_copyFrom 55 = .ok (.aload_n 0, 1) := by decide +kernel
theorem dX3_copyFrom_56 : decode cX3_copyFrom 56 = .ok (.getfield 57, 3) := by decide +kernel
theorem dX3_copyFrom_59 : decode cX3_copyFrom 59 = .ok (.aload_n 1, 1) := by decide +kernel
theorem dX3_copyFrom_60 : decode cX3_copyFrom 60 = .ok (.getfield 57, 3) := by decide +kernel
theorem dX3_copyFrom_63 : decode cX3_copyFrom 63 = .ok (.invokevirtual 193, 3) := by decide +kernel
theorem dX3_copyFrom_66 : decode cX3_copyFrom 66 = .ok (.aload_n 0, 1) := by decide +kernel
theorem dX3_copyFrom_67 : decode cX3_copyFrom 67 = .ok (.getfield 61, 3) := by decide +kernel
theorem dX3_copyFrom_70 : decode cX3_copyFrom 70 = .ok (.aload_n 1, 1) := by decide +kernel
theorem dX3_copyFrom_71 : decode cX3_copyFrom 71 = .ok (.getfield 61, 3) := by decide +kernel
theorem dX3_copyFrom_74 : decode cX3_copyFrom 74 = .ok (.invokevirtual 193, 3) := by decide +kernel
theorem dX3_copyFrom_77 : decode cX3_copyFrom 77 = .ok (.aload_n 0, 1) := by decide +kernel
theorem dX3_copyFrom_78 : decode cX3_copyFrom 78 = .ok (.getfield 67, 3) := by decide +kernel
theorem dX3_copyFrom_81 : decode cX3_copyFrom 81 = .ok (.aload_n 1, 1) := by decide +kernel
theorem dX3_copyFrom_82 : decode cX3_copyFrom 82 = .ok (.getfield 67, 3) := by decide +kernel
theorem dX3_copyFrom_85 : decode cX3_copyFrom 85 = .ok (.invokevirtual 195, 3) := by decide +kernel
theorem dX3_copyFrom_88 : decode cX3_copyFrom 88 = .ok (.return_, 1) := by decide +kernel
