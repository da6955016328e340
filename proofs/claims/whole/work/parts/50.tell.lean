theorem dX10_machineWord_0 : decode cX10_machineWord 0 = .ok (.iload_n 0, 1) := by decide +kernel
theorem dX10_machineWord_1 : decode cX10_machineWord 1 = .ok (.tableswitch 55 1 5 #[35, 39, 43, 47, 51], 35) := by decide +kernel
theorem dX10_machineWord_36 : decode cX10_machineWord 36 = .ok (.ldc_w 385, 3) := by decide +kernel
theorem dX10_machineWord_39 : decode cX10_machineWord 39 = .ok (.areturn, 1) := by decide +kernel
theorem dX10_machineWord_40 : decode cX10_machineWord 40 = .ok (.ldc_w 387, 3) := by decide +kernel
theorem dX10_machineWord_43 : decode cX10_machineWord 43 = .ok (.areturn, 1) := by decide +kernel
theorem dX10_machineWord_44 : decode cX10_machineWord 44 = .ok (.ldc_w 389, 3) := by decide +kernel
theorem dX10_machineWord_47 : decode cX10_machineWord 47 = .ok (.areturn, 1) := by decide +kernel
theorem dX10_machineWord_48 : decode cX10_machineWord 48 = .ok (.ldc_w 391, 3) := by decide +kernel
theorem dX10_machineWord_51 : decode cX10_machineWord 51 = .ok (.areturn, 1) := by decide +kernel
theorem dX10_machineWord_52 : decode cX10_machineWord 52 = .ok (.ldc_w 393, 3) := by decide +kernel
theorem dX10_machineWord_55 : decode cX10_machineWord 55 = .ok (.areturn, 1) := by decide +kernel
theorem dX10_machineWord_56 : decode cX10_machineWord 56 = .ok (.ldc_w 395, 3) := by decide +kernel
theorem dX10_machineWord_59 : decode cX10_machineWord 59 = .ok (.areturn, 1) := by decide +kernel
theorem dX10_alarmWord_0 : decode cX10_alarmWord 0 = .ok (.iload_n 0, 1) := by decide +kernel
theorem dX10_alarmWord_1 : decode cX10_alarmWord 1 = .ok (.tableswitch 63 1 6 #[39, 43, 47, 51, 55, 59], 39) := by decide +kernel
theorem dX10_alarmWord_40 : decode cX10_alarmWord 40 = .ok (.ldc_w 397, 3) := by decide +kernel
theorem dX10_alarmWord_43 : decode cX10_alarmWord 43 = .ok (.areturn, 1) := by decide +kernel
theorem dX10_alarmWord_44 : decode cX10_alarmWord 44 = .ok (.ldc_w 399, 3) := by decide +kernel
theorem dX10_alarmWord_47 : decode cX10_alarmWord 47 = .ok (.areturn, 1) := by decide +kernel
theorem dX10_alarmWord_48 : decode cX10_alarmWord 48 = .ok (.ldc_w 401, 3) := by decide +kernel
theorem dX10_alarmWord_51 : decode cX10_alarmWord 51 = .ok (.areturn, 1) := by decide +kernel
theorem dX10_alarmWord_52 : decode cX10_alarmWord 52 = .ok (.ldc_w 403, 3) := by decide +kernel
theorem dX10_alarmWord_55 : decode cX10_alarmWord 55 = .ok (.areturn, 1) := by decide +kernel
theorem dX10_alarmWord_56 : decode cX10_alarmWord 56 = .ok (.ldc_w 405, 3) := by decide +kernel
theorem dX10_alarmWord_59 : decode cX10_alarmWord 59 = .ok (.areturn, 1) := by decide +kernel
theorem dX10_alarmWord_60 : decode cX10_alarmWord 60 = .ok (.ldc_w 407, 3) := by decide +kernel
theorem dX10_alarmWord_63 : decode cX10_alarmWord 63 = .ok (.areturn, 1) := by decide +kernel
theorem dX10_alarmWord_64 : decode cX10_alarmWord 64 = .ok (.ldc_w 409, 3) := by decide +kernel
theorem dX10_alarmWord_67 : decode cX10_alarmWord 67 = .ok (.areturn, 1) := by decide +kernel
theorem dX8_tellReport_0 : decode cX8_tellReport 0 = .ok (.aload_n 0, 1) := by decide +kernel
theorem dX8_tellReport_1 : decode cX8_tellReport 1 = .ok (.getfield 50, 3) := by decide +kernel
theorem dX8_tellReport_4 : decode cX8_tellReport 4 = .ok (.iconst (-1), 1) := by decide +kernel
theorem dX8_tellReport_5 : decode cX8_tellReport 5 = .ok (.if_icmp .ne 4, 3) := by decide +kernel
theorem dX8_tellReport_8 : decode cX8_tellReport 8 = .ok (.return_, 1) := by decide +kernel
theorem dX8_tellReport_9 : decode cX8_tellReport 9 = .ok (.aload_n 0, 1) := by decide +kernel
theorem dX8_tellReport_10 : decode cX8_tellReport 10 = .ok (.getfield 50, 3) := by decide +kernel
theorem dX8_tellReport_13 : decode cX8_tellReport 13 = .ok (.bipush (-2), 2) := by decide +kernel
theorem dX8_tellReport_15 : decode cX8_tellReport 15 = .ok (.if_icmp .ne 11, 3) := by decide +kernel
theorem dX8_tellReport_18 : decode cX8_tellReport 18 = .ok (.aload_n 1, 1) := by decide +kernel
theorem dX8_tellReport_19 : decode cX8_tellReport 19 = .ok (.bipush 63, 2) := by decide +kernel
theorem dX8_tellReport_21 : decode cX8_tellReport 21 = .ok (.invokevirtual 191, 3) := by decide +kernel
theorem dX8_tellReport_24 : decode cX8_tellReport 24 = .ok (.pop, 1) := by decide +kernel
theorem dX8_tellReport_25 : decode cX8_tellReport 25 = .ok (.return_, 1) := by decide +kernel
theorem dX8_tellReport_26 : decode cX8_tellReport 26 = .ok (.aload_n 0, 1) := by decide +kernel
theorem dX8_tellReport_27 : decode cX8_tellReport 27 = .ok (.getfield 50, 3) := by decide +kernel
theorem dX8_tellReport_30 : decode cX8_tellReport 30 = .ok (.bipush 8, 2) := by decide +kernel
theorem dX8_tellReport_32 : decode cX8_tellReport 32 = .ok (.iushr, 1) := by decide +kernel
theorem dX8_tellReport_33 : decode cX8_tellReport 33 = .ok (.istore_n 2, 1) := by decide +kernel
theorem dX8_tellReport_34 : decode cX8_tellReport 34 = .ok (.aload_n 1, 1) := by decide +kernel
theorem dX8_tellReport_35 : decode cX8_tellReport 35 = .ok (.iload_n 2, 1) := by decide +kernel
theorem dX8_tellReport_36 : decode cX8_tellReport 36 = .ok (.iconst 1, 1) := by decide +kernel
theorem dX8_tellReport_37 : decode cX8_tellReport 37 = .ok (.iand, 1) := by decide +kernel
theorem dX8_tellReport_38 : decode cX8_tellReport 38 = .ok (.ifCond .eq 8, 3) := by decide +kernel
theorem dX8_tellReport_41 : decode cX8_tellReport 41 = .ok (.bipush 76, 2) := by decide +kernel
theorem dX8_tellReport_43 : decode cX8_tellReport 43 = .ok (.goto 5, 3) := by decide +kernel
theorem dX8_tellReport_46 : decode cX8_tellReport 46 = .ok (.bipush 45, 2) := by decide +kernel
theorem dX8_tellReport_48 : decode cX8_tellReport 48 = .ok (.invokevirtual 191, 3) := by decide +kernel
theorem dX8_tellReport_51 : decode cX8_tellReport 51 = .ok (.pop, 1) := by decide +kernel
theorem dX8_tellReport_52 : decode cX8_tellReport 52 = .ok (.aload_n 1, 1) := by decide +kernel
theorem dX8_tellReport_53 : decode cX8_tellReport 53 = .ok (.iload_n 2, 1) := by decide +kernel
theorem dX8_tellReport_54 : decode cX8_tellReport 54 = .ok (.iconst 2, 1) := by decide +kernel
theorem dX8_tellReport_55 : decode cX8_tellReport 55 = .ok (.iand, 1) := by decide +kernel
theorem dX8_tellReport_56 : decode cX8_tellReport 56 = .ok (.ifCond .eq 8, 3) := by decide +kernel
theorem dX8_tellReport_59 : decode cX8_tellReport 59 = .ok (.bipush 87, 2) := by decide +kernel
theorem dX8_tellReport_61 : decode cX8_tellReport 61 = .ok (.goto 5, 3) := by decide +kernel
theorem dX8_tellReport_64 : decode cX8_tellReport 64 = .ok (.bipush 45, 2) := by decide +kernel
theorem dX8_tellReport_66 : decode cX8_tellReport 66 = .ok (.invokevirtual 191, 3) := by decide +kernel
theorem dX8_tellReport_69 : decode cX8_tellReport 69 = .ok (.pop, 1) := by decide +kernel
theorem dX8_tellReport_70 : decode cX8_tellReport 70 = .ok (.aload_n 1, 1) := by decide +kernel
theorem dX8_tellReport_71 : decode cX8_tellReport 71 = .ok (.iload_n 2, 1) := by decide +kernel
theorem dX8_tellReport_72 : decode cX8_tellReport 72 = .ok (.iconst 4, 1) := by decide +kernel
theorem dX8_tellReport_73 : decode cX8_tellReport 73 = .ok (.iand, 1) := by decide +kernel
theorem dX8_tellReport_74 : decode cX8_tellReport 74 = .ok (.ifCond .eq 8, 3) := by decide +kernel
theorem dX8_tellReport_77 : decode cX8_tellReport 77 = .ok (.bipush 82, 2) := by decide +kernel
theorem dX8_tellReport_79 : decode cX8_tellReport 79 = .ok (.goto 5, 3) := by decide +kernel
theorem dX8_tellReport_82 : decode cX8_tellReport 82 = .ok (.bipush 45, 2) := by decide +kernel
theorem dX8_tellReport_84 : decode cX8_tellReport 84 = .ok (.invokevirtual 191, 3) := by decide +kernel
theorem dX8_tellReport_87 : decode cX8_tellReport 87 = .ok (.pop, 1) := by decide +kernel
theorem dX8_tellReport_88 : decode cX8_tellReport 88 = .ok (.aload_n 1, 1) := by decide +kernel
theorem dX8_tellReport_89 : decode cX8_tellReport 89 = .ok (.iload_n 2, 1) := by decide +kernel
theorem dX8_tellReport_90 : decode cX8_tellReport 90 = .ok (.iconst 3, 1) := by decide +kernel
theorem dX8_tellReport_91 : decode cX8_tellReport 91 = .ok (.iushr, 1) := by decide +kernel
theorem dX8_tellReport_92 : decode cX8_tellReport 92 = .ok (.invokevirtual 197, 3) := by decide +kernel
theorem dX8_tellReport_95 : decode cX8_tellReport 95 = .ok (.pop, 1) := by decide +kernel
theorem dX8_tellReport_96 : decode cX8_tellReport 96 = .ok (.aload_n 1, 1) := by decide +kernel
theorem dX8_tellReport_97 : decode cX8_tellReport 97 = .ok (.bipush 32, 2) := by decide +kernel
theorem dX8_tellReport_99 : decode cX8_tellReport 99 = .ok (.invokevirtual 191, 3) := by decide +kernel
theorem dX8_tellReport_102 : decode cX8_tellReport 102 = .ok (.pop, 1) := by decide +kernel
theorem dX8_tellReport_103 : decode cX8_tellReport 103 = .ok (.aload_n 1, 1) := by decide +kernel
theorem dX8_tellReport_104 : decode cX8_tellReport 104 = .ok (.aload_n 0, 1) := by decide +kernel
theorem dX8_tellReport_105 : decode cX8_tellReport 105 = .ok (.getfield 50, 3) := by decide +kernel
theorem dX8_tellReport_108 : decode cX8_tellReport 108 = .ok (.sipush 255, 3) := by decide +kernel
theorem dX8_tellReport_111 : decode cX8_tellReport 111 = .ok (.iand, 1) := by decide +kernel
theorem dX8_tellReport_112 : decode cX8_tellReport 112 = .ok (.invokevirtual 197, 3) := by decide +kernel
theorem dX8_tellReport_115 : decode cX8_tellReport 115 = .ok (.pop, 1) := by decide +kernel
theorem dX8_tellReport_116 : decode cX8_tellReport 116 = .ok (.return_, 1) := by decide +kernel
theorem dX8_tellSelf_0 : decode cX8_tellSelf 0 = .ok (.aload_n 1, 1) := by decide +kernel
theorem dX8_tellSelf_1 : decode cX8_tellSelf 1 = .ok (.aload_n 0, 1) := by decide +kernel
theorem dX8_tellSelf_2 : decode cX8_tellSelf 2 = .ok (.getfield 24, 3) := by decide +kernel
theorem dX8_tellSelf_5 : decode cX8_tellSelf 5 = .ok (.invokestatic 200, 3) := by decide +kernel
theorem dX8_tellSelf_8 : decode cX8_tellSelf 8 = .ok (.invokevirtual 204, 3) := by decide +kernel
theorem dX8_tellSelf_11 : decode cX8_tellSelf 11 = .ok (.pop, 1) := by decide +kernel
theorem dX8_tellSelf_12 : decode cX8_tellSelf 12 = .ok (.aload_n 1, 1) := by decide +kernel
theorem dX8_tellSelf_13 : decode cX8_tellSelf 13 = .ok (.bipush 32, 2) := by decide +kernel
theorem dX8_tellSelf_15 : decode cX8_tellSelf 15 = .ok (.invokevirtual 191, 3) := by decide +kernel
theorem dX8_tellSelf_18 : decode cX8_tellSelf 18 = .ok (.pop, 1) := by decide +kernel
theorem dX8_tellSelf_19 : decode cX8_tellSelf 19 = .ok (.aload_n 1, 1) := by decide +kernel
theorem dX8_tellSelf_20 : decode cX8_tellSelf 20 = .ok (.aload_n 0, 1) := by decide +kernel
theorem dX8_tellSelf_21 : decode cX8_tellSelf 21 = .ok (.getfield 18, 3) := by decide +kernel
theorem dX8_tellSelf_24 : decode cX8_tellSelf 24 = .ok (.getfield 72, 3) := by decide +kernel
theorem dX8_tellSelf_27 : decode cX8_tellSelf 27 = .ok (.invokevirtual 197, 3) := by decide +kernel
theorem dX8_tellSelf_30 : decode cX8_tellSelf 30 = .ok (.pop, 1) := by decide +kernel
theorem dX8_tellSelf_31 : decode cX8_tellSelf 31 = .ok (.aload_n 1, 1) := by decide +kernel
theorem dX8_tellSelf_32 : decode cX8_tellSelf 32 = .ok (.bipush 47, 2) := by decide +kernel
theorem dX8_tellSelf_34 : decode cX8_tellSelf 34 = .ok (.invokevirtual 191, 3) := by decide +kernel
theorem dX8_tellSelf_37 : decode cX8_tellSelf 37 = .ok (.pop, 1) := by decide +kernel
theorem dX8_tellSelf_38 : decode cX8_tellSelf 38 = .ok (.aload_n 1, 1) := by decide +kernel
theorem dX8_tellSelf_39 : decode cX8_tellSelf 39 = .ok (.aload_n 0, 1) := by decide +kernel
theorem dX8_tellSelf_40 : decode cX8_tellSelf 40 = .ok (.getfield 56, 3) := by decide +kernel
theorem dX8_tellSelf_43 : decode cX8_tellSelf 43 = .ok (.getfield 96, 3) := by decide +kernel
theorem dX8_tellSelf_46 : decode cX8_tellSelf 46 = .ok (.iconst 2, 1) := by decide +kernel
theorem dX8_tellSelf_47 : decode cX8_tellSelf 47 = .ok (.iaload, 1) := by decide +kernel
theorem dX8_tellSelf_48 : decode cX8_tellSelf 48 = .ok (.invokevirtual 197, 3) := by decide +kernel
theorem dX8_tellSelf_51 : decode cX8_tellSelf 51 = .ok (.pop, 1) := by decide +kernel
theorem dX8_tellSelf_52 : decode cX8_tellSelf 52 = .ok (.aload_n 1, 1) := by decide +kernel
theorem dX8_tellSelf_53 : decode cX8_tellSelf 53 = .ok (.ldc 207, 2) := by decide +kernel
theorem dX8_tellSelf_55 : decode cX8_tellSelf 55 = .ok (.invokevirtual 204, 3) := by decide +kernel
theorem dX8_tellSelf_58 : decode cX8_tellSelf 58 = .ok (.pop, 1) := by decide +kernel
theorem dX8_tellSelf_59 : decode cX8_tellSelf 59 = .ok (.aload_n 1, 1) := by decide +kernel
theorem dX8_tellSelf_60 : decode cX8_tellSelf 60 = .ok (.aload_n 0, 1) := by decide +kernel
theorem dX8_tellSelf_61 : decode cX8_tellSelf 61 = .ok (.getfield 28, 3) := by decide +kernel
theorem dX8_tellSelf_64 : decode cX8_tellSelf 64 = .ok (.invokevirtual 197, 3) := by decide +kernel
theorem dX8_tellSelf_67 : decode cX8_tellSelf 67 = .ok (.pop, 1) := by decide +kernel
theorem dX8_tellSelf_68 : decode cX8_tellSelf 68 = .ok (.aload_n 0, 1) := by decide +kernel
theorem dX8_tellSelf_69 : decode cX8_tellSelf 69 = .ok (.getfield 40, 3) := by decide +kernel
theorem dX8_tellSelf_72 : decode cX8_tellSelf 72 = .ok (.ifCond .eq 22, 3) := by decide +kernel
theorem dX8_tellSelf_75 : decode cX8_tellSelf 75 = .ok (.aload_n 1, 1) := by decide +kernel
theorem dX8_tellSelf_76 : decode cX8_tellSelf 76 = .ok (.ldc 209, 2) := by decide +kernel
theorem dX8_tellSelf_78 : decode cX8_tellSelf 78 = .ok (.invokevirtual 204, 3) := by decide +kernel
theorem dX8_tellSelf_81 : decode cX8_tellSelf 81 = .ok (.pop, 1) := by decide +kernel
theorem dX8_tellSelf_82 : decode cX8_tellSelf 82 = .ok (.aload_n 1, 1) := by decide +kernel
theorem dX8_tellSelf_83 : decode cX8_tellSelf 83 = .ok (.aload_n 0, 1) := by decide +kernel
theorem dX8_tellSelf_84 : decode cX8_tellSelf 84 = .ok (.getfield 40, 3) := by decide +kernel
theorem dX8_tellSelf_87 : decode cX8_tellSelf 87 = .ok (.invokestatic 200, 3) := by decide +kernel
theorem dX8_tellSelf_90 : decode cX8_tellSelf 90 = .ok (.invokevirtual 204, 3) := by decide +kernel
theorem dX8_tellSelf_93 : decode cX8_tellSelf 93 = .ok (.pop, 1) := by decide +kernel
theorem dX8_tellSelf_94 : decode cX8_tellSelf 94 = .ok (.return_, 1) := by decide +kernel
theorem dX6_tellSelf_0 : decode cX6_tellSelf 0 = .ok (.aload_n 1, 1) := by decide +kernel
theorem dX6_tellSelf_1 : decode cX6_tellSelf 1 = .ok (.aload_n 0, 1) := by decide +kernel
theorem dX6_tellSelf_2 : decode cX6_tellSelf 2 = .ok (.getfield 15, 3) := by decide +kernel
theorem dX6_tellSelf_5 : decode cX6_tellSelf 5 = .ok (.ifCond .eq 8, 3) := by decide +kernel
theorem dX6_tellSelf_8 : decode cX6_tellSelf 8 = .ok (.ldc 118, 2) := by decide +kernel
theorem dX6_tellSelf_10 : decode cX6_tellSelf 10 = .ok (.goto 17, 3) := by decide +kernel
theorem dX6_tellSelf_13 : decode cX6_tellSelf 13 = .ok (.aload_n 0, 1) := by decide +kernel
theorem dX6_tellSelf_14 : decode cX6_tellSelf 14 = .ok (.getfield 19, 3) := by decide +kernel
theorem dX6_tellSelf_17 : decode cX6_tellSelf 17 = .ok (.ifCond .eq 8, 3) := by decide +kernel
theorem dX6_tellSelf_20 : decode cX6_tellSelf 20 = .ok (.ldc 120, 2) := by decide +kernel
theorem dX6_tellSelf_22 : decode cX6_tellSelf 22 = .ok (.goto 5, 3) := by decide +kernel
theorem dX6_tellSelf_25 : decode cX6_tellSelf 25 = .ok (.ldc 122, 2) := by decide +kernel
theorem dX6_tellSelf_27 : decode cX6_tellSelf 27 = .ok (.invokevirtual 124, 3) := by decide +kernel
theorem dX6_tellSelf_30 : decode cX6_tellSelf 30 = .ok (.pop, 1) := by decide +kernel
theorem dX6_tellSelf_31 : decode cX6_tellSelf 31 = .ok (.aload_n 1, 1) := by decide +kernel
theorem dX6_tellSelf_32 : decode cX6_tellSelf 32 = .ok (.bipush 32, 2) := by decide +kernel
theorem dX6_tellSelf_34 : decode cX6_tellSelf 34 = .ok (.invokevirtual 130, 3) := by decide +kernel
theorem dX6_tellSelf_37 : decode cX6_tellSelf 37 = .ok (.pop, 1) := by decide +kernel
theorem dX6_tellSelf_38 : decode cX6_tellSelf 38 = .ok (.aload_n 1, 1) := by decide +kernel
theorem dX6_tellSelf_39 : decode cX6_tellSelf 39 = .ok (.aload_n 0, 1) := by decide +kernel
theorem dX6_tellSelf_40 : decode cX6_tellSelf 40 = .ok (.getfield 9, 3) := by decide +kernel
theorem dX6_tellSelf_43 : decode cX6_tellSelf 43 = .ok (.invokevirtual 133, 3) := by decide +kernel
theorem dX6_tellSelf_46 : decode cX6_tellSelf 46 = .ok (.pop, 1) := by decide +kernel
theorem dX6_tellSelf_47 : decode cX6_tellSelf 47 = .ok (.aload_n 0, 1) := by decide +kernel
theorem dX6_tellSelf_48 : decode cX6_tellSelf 48 = .ok (.getfield 22, 3) := by decide +kernel
theorem dX6_tellSelf_51 : decode cX6_tellSelf 51 = .ok (.ifCond .eq 10, 3) := by decide +kernel
theorem dX6_tellSelf_54 : decode cX6_tellSelf 54 = .ok (.aload_n 1, 1) := by decide +kernel
theorem dX6_tellSelf_55 : decode cX6_tellSelf 55 = .ok (.bipush 82, 2) := by decide +kernel
theorem dX6_tellSelf_57 : decode cX6_tellSelf 57 = .ok (.invokevirtual 130, 3) := by decide +kernel
theorem dX6_tellSelf_60 : decode cX6_tellSelf 60 = .ok (.pop, 1) := by decide +kernel
theorem dX6_tellSelf_61 : decode cX6_tellSelf 61 = .ok (.return_, 1) := by decide +kernel
theorem dX10_told_0 : decode cX10_told 0 = .ok (.aload_n 0, 1) := by decide +kernel
theorem dX10_told_1 : decode cX10_told 1 = .ok (.getfield 36, 3) := by decide +kernel
theorem dX10_told_4 : decode cX10_told 4 = .ok (.iconst 0, 1) := by decide +kernel
theorem dX10_told_5 : decode cX10_told 5 = .ok (.invokevirtual 260, 3) := by decide +kernel
theorem dX10_told_8 : decode cX10_told 8 = .ok (.iload_n 1, 1) := by decide +kernel
theorem dX10_told_9 : decode cX10_told 9 = .ok (.tableswitch 106 0 3 #[31, 48, 65, 82], 31) := by decide +kernel
theorem dX10_told_40 : decode cX10_told 40 = .ok (.aload_n 0, 1) := by decide +kernel
theorem dX10_told_41 : decode cX10_told 41 = .ok (.getfield 12, 3) := by decide +kernel
theorem dX10_told_44 : decode cX10_told 44 = .ok (.getfield 54, 3) := by decide +kernel
theorem dX10_told_47 : decode cX10_told 47 = .ok (.aload_n 0, 1) := by decide +kernel
theorem dX10_told_48 : decode cX10_told 48 = .ok (.getfield 36, 3) := by decide +kernel
theorem dX10_told_51 : decode cX10_told 51 = .ok (.invokevirtual 263, 3) := by decide +kernel
theorem dX10_told_54 : decode cX10_told 54 = .ok (.goto 63, 3) := by decide +kernel
theorem dX10_told_57 : decode cX10_told 57 = .ok (.aload_n 0, 1) := by decide +kernel
theorem dX10_told_58 : decode cX10_told 58 = .ok (.getfield 12, 3) := by decide +kernel
theorem dX10_told_61 : decode cX10_told 61 = .ok (.getfield 54, 3) := by decide +kernel
theorem dX10_told_64 : decode cX10_told 64 = .ok (.aload_n 0, 1) := by decide +kernel
theorem dX10_told_65 : decode cX10_told 65 = .ok (.getfield 36, 3) := by decide +kernel
theorem dX10_told_68 : decode cX10_told 68 = .ok (.invokevirtual 267, 3) := by decide +kernel
theorem dX10_told_71 : decode cX10_told 71 = .ok (.goto 46, 3) := by decide +kernel
theorem dX10_told_74 : decode cX10_told 74 = .ok (.aload_n 0, 1) := by decide +kernel
theorem dX10_told_75 : decode cX10_told 75 = .ok (.getfield 12, 3) := by decide +kernel
theorem dX10_told_78 : decode cX10_told 78 = .ok (.getfield 81, 3) := by decide +kernel
theorem dX10_told_81 : decode cX10_told 81 = .ok (.aload_n 0, 1) := by decide +kernel
theorem dX10_told_82 : decode cX10_told 82 = .ok (.getfield 36, 3) := by decide +kernel
theorem dX10_told_85 : decode cX10_told 85 = .ok (.invokevirtual 270, 3) := by decide +kernel
theorem dX10_told_88 : decode cX10_told 88 = .ok (.goto 29, 3) := by decide +kernel
theorem dX10_told_91 : decode cX10_told 91 = .ok (.aload_n 0, 1) := by decide +kernel
theorem dX10_told_92 : decode cX10_told 92 = .ok (.getfield 36, 3) := by decide +kernel
theorem dX10_told_95 : decode cX10_told 95 = .ok (.aload_n 0, 1) := by decide +kernel
theorem dX10_told_96 : decode cX10_told 96 = .ok (.getfield 12, 3) := by decide +kernel
theorem dX10_told_99 : decode cX10_told 99 = .ok (.getfield 248, 3) := by decide +kernel
theorem dX10_told_102 : decode cX10_told 102 = .ok (.getfield 271, 3) := by decide +kernel
theorem dX10_told_105 : decode cX10_told 105 = .ok (.invokestatic 274, 3) := by decide +kernel
theorem dX10_told_108 : decode cX10_told 108 = .ok (.invokevirtual 278, 3) := by decide +kernel
theorem dX10_told_111 : decode cX10_told 111 = .ok (.pop, 1) := by decide +kernel
theorem dX10_told_112 : decode cX10_told 112 = .ok (.goto 5, 3) := by decide +kernel
theorem dX10_told_115 : decode cX10_told 115 = .ok (.iconst (-1), 1) := by decide +kernel
theorem dX10_told_116 : decode cX10_told 116 = .ok (.ireturn, 1) := by decide +kernel
theorem dX10_told_117 : decode cX10_told 117 = .ok (.iload_n 2, 1) := by decide +kernel
theorem dX10_told_118 : decode cX10_told 118 = .ok (.iconst (-1), 1) := by decide +kernel
theorem dX10_told_119 : decode cX10_told 119 = .ok (.if_icmp .ne 11, 3) := by decide +kernel
theorem dX10_told_122 : decode cX10_told 122 = .ok (.aload_n 0, 1) := by decide +kernel
theorem dX10_told_123 : decode cX10_told 123 = .ok (.getfield 36, 3) := by decide +kernel
theorem dX10_told_126 : decode cX10_told 126 = .ok (.invokevirtual 282, 3) := by decide +kernel
theorem dX10_told_129 : decode cX10_told 129 = .ok (.ireturn, 1) := by decide +kernel
theorem dX10_told_130 : decode cX10_told 130 = .ok (.iload_n 2, 1) := by decide +kernel
theorem dX10_told_131 : decode cX10_told 131 = .ok (.ifCond .lt 25, 3) := by decide +kernel
theorem dX10_told_134 : decode cX10_told 134 = .ok (.iload_n 2, 1) := by decide +kernel
theorem dX10_told_135 : decode cX10_told 135 = .ok (.aload_n 0, 1) := by decide +kernel
theorem dX10_told_136 : decode cX10_told 136 = .ok (.getfield 36, 3) := by decide +kernel
theorem dX10_told_139 : decode cX10_told 139 = .ok (.invokevirtual 282, 3) := by decide +kernel
theorem dX10_told_142 : decode cX10_told 142 = .ok (.if_icmp .ge 14, 3) := by decide +kernel
theorem dX10_told_145 : decode cX10_told 145 = .ok (.aload_n 0, 1) := by decide +kernel
theorem dX10_told_146 : decode cX10_told 146 = .ok (.getfield 36, 3) := by decide +kernel
theorem dX10_told_149 : decode cX10_told 149 = .ok (.iload_n 2, 1) := by decide +kernel
theorem dX10_told_150 : decode cX10_told 150 = .ok (.invokevirtual 285, 3) := by decide +kernel
theorem dX10_told_153 : decode cX10_told 153 = .ok (.goto 4, 3) := by decide +kernel
theorem dX10_told_156 : decode cX10_told 156 = .ok (.iconst (-1), 1) := by decide +kernel
theorem dX10_told_157 : decode cX10_told 157 = .ok (.ireturn, 1) := by decide +kernel
theorem mx_ldcW {p : Program} {l : Launch} {e : Env} {R : Room} {s : State} {m : MethodId} {args : Array Value} {below : List Frame} {meth : Method} {c : Code} {T : State} {locs : List Loc} {cells slots : Nat} (X : Stand p l e R s m args below meth c T locs cells slots) (hx : p.tables.exec = Jvm.exec) {own text : String} {index : Nat} {a : Addr} (hown : s.vm.findClass own = some m.cls) (h1 : (Cond.stringRef own index text).before args s = true) (h2 : (Term.string own index).eval args s none [] s = some (.ref a)) {g : JFrame} (hg : g.method = m) (hd : decode c.code g.pc = .ok (.ldc_w index, 3)) : ∀ target, Steps p.tables e below (T.setTop { g with pc := g.pc + 3, stack := .ref a :: g.stack }) target → Steps p.tables e below (T.setTop g) target := by
  obtain ⟨k, cf, i, a', q1, q2, q3, -, q4, q5⟩ := Cond.stringRef_spec hown h1
  cases h2.symm.trans q5
  obtain ⟨k', r1, r2⟩ := X.warmed.alike.2.2 _ _ q1
  have r3 : k'.resolved[index]? = some (some (.string a)) := by
    rcases X.warmed.entry q1 r1 index with h | ⟨h, -⟩
    · rw [h]
      exact q4
    · rw [q4] at h
      cases h
  intro target hrest
  subst hg
  jvm_step X.here [hx, hd, ldc_w.wp_string (e := e) (s := T) (f := g) X.here.top r1 (by rw [r2]; exact q2) q3 r3]
  exact hrest
section MT6
variable {κ : mj_K} {cc : ByteArray} {nL : Nat} {own : String} {Q : State → Prop} {pc : Nat} {L : List (Option mj_V)} {st : List mj_V} {M : mj_M} {Y : va_W} {ce sl k a : Nat}
theorem mj_ldcSw {idx i : Nat} {tx : String} {bs : List Int32} (C : mj_C κ cc nL own) (hi : mj_st[i]? = some (own, idx, tx, bs)) (hd : decode cc pc = .ok (.ldc_w idx, 3)) (k : mj_R κ Q (pc + 3) L (mj_r (98, i) :: st) M) : mj_R κ Q pc L st M := by
  obtain ⟨⟨p, l, e, R, s, m, args, below, meth, c⟩, D, cI, ad, G, X, A, ce, sl⟩ := κ
  obtain ⟨hx, hb, hml, hown, hts, hK, hA, hE, hlk, hcs⟩ := C
  intro H locs ls hP hD hS hl T hT X'
  have hZ := (hE.2.2.2.2.1 i _ hi).1
  obtain ⟨t, a1, b1⟩ := k H locs ls hP hD hS hl T hT X'
  exact ⟨t, mx_ldcW X' hx hown (text := tx) (a := ad (98, i)) hZ.1 hZ.2 (g := F0 m pc ls (st.map (mj_cv ad))) rfl (by rw [hb]; exact hd) t a1, b1⟩
def mj_ad (κ : mj_K) : Nat × Nat → Nat := κ.2.2.2.1
theorem mx_raw {q : Nat × Nat} (h : mj_ad κ q = a) (kk : mj_R κ Q pc L (mj_o (some a) :: st) M) : mj_R κ Q pc L (mj_r q :: st) M := by
  subst h
  obtain ⟨⟨p, l, e, R, s, m, args, below, meth, c⟩, D, cI, ad, G, X, A, ce, sl⟩ := κ
  intro H locs ls hP hD hS hl
  exact kk H locs ls hP hD hS hl
/-- a contract over the memory M, for the places of ad that pa speaks of -/
def mx_SemM (cI : mj_I) (G : mj_G) (M : mj_M) (pa : (Nat × Nat → Nat) → Prop) (y : MethodName) (cc : ByteArray) (nL : Nat) (ret : Option FieldType) (d mc ms : Nat) (av : List mj_V) (Y : va_W) (post : Option mj_V → va_W → Prop) : Prop :=
  ∀ (l : Launch) (D : va_G) (ad : Nat × Nat → Nat) (X : va_W) (sz : Nat), pa ad → Met l y (Cond.code y cc nL ret :: mj_T) (mx_rm d mc ms) (mx_Pc D cI ad G M X Y sz av) (mx_Qc D cI ad G M X (va_A (mj_w cI ad G M ++ (X ++ Y)) sz) post) mc ms (va_A (mj_w cI ad G M ++ (X ++ Y)) sz)
theorem mx_introM {cI : mj_I} {G : mj_G} {M : mj_M} {pa : (Nat × Nat → Nat) → Prop} {y : MethodName} {cc : ByteArray} {nL : Nat} {ret : Option FieldType} {d mc ms : Nat} {av : List mj_V} {Y : va_W} {post : Option mj_V → va_W → Prop} (hy : plainName y.cls = true) (hlen : av.length ≤ nL)
    (body : ∀ (κ : mj_K), mj_C κ cc nL y.cls → mj_cI κ = cI → mj_g κ = G → pa (mj_ad κ) → mj_dp κ d → (mj_room κ).cells = mc → (mj_room κ).slots = ms → mj_rt κ = ret → mj_R (mj_ky κ Y 0 0) (mx_F κ M mc ms post) 0 (av.map some ++ List.replicate (nL - av.length) none) [] M) : mx_SemM cI G M pa y cc nL ret d mc ms av Y post := by
  intro l D ad X sz hpa
  refine Met.ofW (cc := cc) (maxL := nL) (ret := ret) hy rfl ?_
  intro p e s m args below meth c s₁ B hml hv
  obtain ⟨rfl, rfl, hP, hK, hD0, hE⟩ := hv
  have hD := hD0.self (sz := s.heap.size)
  have hts := atoms_spec (ws := Cond.code y cc nL ret :: mj_T) B.pre
  have hown : s.vm.findClass y.cls = some m.cls := findClass_of_methodNamed B.named
  rw [lg_entry_eq]
  exact body ((p, l, e, mx_rm d mc ms, s, m, _, below, meth, c), (D, cI, ad, G, X, va_A (mj_w cI ad G M ++ (X ++ Y)) s.heap.size, 0, 0)) ⟨B.exec, B.bytes, hml, hown, fun w hw => hts w (List.mem_cons_of_mem _ hw), hK, fun q h => Or.inr h, hE, B.notSynchronized, Nat.zero_le _, Nat.zero_le _⟩ rfl rfl hpa ⟨rfl, rfl⟩ rfl rfl B.returns s.heap [] _ hP hD va_S.rf (mj_lh_entry av hlen)
theorem mx_callVM {y : MethodName} {cy : ByteArray} {nLy dy n idx mc ms ci : Nat} {ret : Option FieldType} {av : List mj_V} {Y0 Yc : va_W} {q : Nat × Nat} {t : List (Option (Nat × Nat))} {pa : (Nat × Nat → Nat) → Prop} {post : Option mj_V → va_W → Prop} (C : mj_C κ cc nL own) (hlink : Cond.methodLink own idx y ∈ mj_T) (Kl : mj_lkV y cy nLy ret n) (hq : mj_at (mj_g κ) q (.inr (ci, t))) (hC : ∃ z : vw_C, vwCl[ci]? = some z ∧ z.1 = y.cls) (hL : L.length = nL) (S : mx_SemM (mj_cI κ) (mj_g κ) M pa y cy nLy ret dy mc ms (mj_r q :: av) Yc post) (hpa : pa (mj_ad κ)) (hY : Y = Y0 ++ Yc) (hF : mx_fits κ dy nLy ce sl mc ms) (hn : av.length = n) (hst : st.length ≤ 8) (hd : decode cc pc = .ok (.invokevirtual idx, 3)) (kk : ∀ (r : Option mj_V) (Y' : va_W), post r Y' → mj_R (mj_ky κ (Y0 ++ Y') (ce + mc) (sl + ms)) Q (pc + 3) L (r.toList ++ st) M) : mj_R (mj_ky κ Y ce sl) Q pc L (av.reverse ++ mj_r q :: st) M := by
  subst hY
  obtain ⟨⟨p, l, e, R, s, m, args, below, meth, c⟩, D, cI, ad, G, X, A, ce0, sl0⟩ := κ
  obtain ⟨hx, hb, hml, hown, hts, hK, hA, hE, hlk, hcs⟩ := C
  intro H locs ls hP hD hS hl
  have hP : va_P D vwCl (mj_w cI ad G M ++ (X ++ (Y0 ++ Yc))) H := hP
  have hD : va_D A (mj_w cI ad G M ++ (X ++ (Y0 ++ Yc))) := hD
  obtain ⟨hq1, hq2⟩ := hq
  obtain ⟨i, hi⟩ := List.getElem?_of_mem hq1
  have hi : G.2[i]? = some q := hi
  have hq2 : G.1 q = .inr (ci, t) := hq2
  have he := mj_w_get (cI := cI) (ad := ad) (M := M) (X := X ++ (Y0 ++ Yc)) hi
  rw [hq2] at he
  obtain ⟨z, hz1, hz2⟩ := hC
  have hrc : ∃ cellB : Cell, H[ad q]? = some cellB ∧ cellB.vm.isStatics = false ∧ s.vm.findClass y.cls = some cellB.cls := by
    rw [← hz2]
    exact va_recv hK hP hz1 he
  rw [← List.append_assoc X] at hP hD
  have hAH : ∀ q : Nat, H.size ≤ q → A q := fun q h => hA q (Nat.le_trans hS.1 h)
  have hin := mj_A_in hD hAH
  have hM := S l D ad (X ++ Y0) H.size hpa
  refine mx_after (va_runV (As := av.map (mj_cv ad)) (rest := st.map (mj_cv ad)) ⟨hx, hb, hml, hown, hts⟩ hM ⟨callB_of n hts (mj_wsIn Kl.1) rfl rfl rfl (hts _ Kl.1.2.1) (hts _ hlink) Kl.1.2.2 hF.1, hts _ Kl.2.1, hts _ Kl.2.2⟩ ⟨mx_blind D cI ad G M (X ++ Y0) Yc H.size (mj_r q :: av), hrc, fun U hU hW => ⟨rfl, by rw [hU], by rw [hU]; exact hP, va_K.moved hW.alike hK, hD.weaken (fun _ _ _ _ => trivial), mj_E.go (by rw [hU]; exact hS) hW hin hE⟩⟩ rfl (by rw [List.length_map]; exact hn) (hl.1.trans hL) (by simp [mj_cv, mj_r]; try rfl) (by rw [mj_cats]; show 2 * 0 + _ ≤ 8; omega) hd hF.2) hS hin hin (fun r Y' H1 locs1 hp hP1 hD1 hS1 => ?_)
  rw [mj_tol]
  rw [List.append_assoc X] at hP1 hD1
  exact kk r Y' hp H1 locs1 ls hP1 hD1 hS1 hl
theorem mj_Rc {pc' : Nat} {st' : List mj_V} (h : mj_R κ Q pc L st M) (h1 : st = st') (h2 : pc = pc') : mj_R κ Q pc' L st' M := by
  subst h1
  subst h2
  exact h
end MT6

def f_X10_machineWord (a1 : Int32) : Nat := if a1 = 1 then (13) else if a1 = 2 then (14) else if a1 = 3 then (15) else if a1 = 4 then (16) else if a1 = 5 then (17) else (18)
set_option maxHeartbeats 4000000 in
set_option maxRecDepth 20000 in
theorem C_X10_machineWord {G : mj_G} {M : mj_M} {a1 : Int32} {x0 : Nat} (h : f_X10_machineWord a1 = x0) : mj_S1 yX10_machineWord cX10_machineWord 1 (some (.object "java/lang/String")) 0 G [.inl a1] M (some (mj_r (98, x0))) M := by
  refine mj_intro (by decide) (Nat.le_of_ble_eq_true rfl) ?_
  intro κ C hG hR hT
  subst hG
  have C : mj_C κ cX10_machineWord 1 RX10 := C
  show mj_R κ (mj_F κ (fun r M' => r = (some (mj_r (98, x0))) ∧ M' = M ∧ mj_bb (some (.object "java/lang/String")) (some (mj_r (98, x0))))) 0 [some (.inl a1)] [] M
  unfold f_X10_machineWord at h
  refine mj_iload_n C dX10_machineWord_0 rfl ?_
  by_cases c1 : a1 = 1
  · replace h := mj_if_t c1 h
    refine mj_tin (off := 35) (tgt := 36) C dX10_machineWord_1 (by rw [c1]; decide) (by rw [c1]; decide) (by rw [c1]; decide) (by decide) ?_
    refine mj_ldcSw (i := 13) C rfl dX10_machineWord_36 ?_
    cases h
    exact mj_aret C hT dX10_machineWord_39 ⟨rfl, rfl, fun h => by cases h⟩
  replace h := mj_if_f c1 h
  by_cases c2 : a1 = 2
  · replace h := mj_if_t c2 h
    refine mj_tin (off := 39) (tgt := 40) C dX10_machineWord_1 (by rw [c2]; decide) (by rw [c2]; decide) (by rw [c2]; decide) (by decide) ?_
    refine mj_ldcSw (i := 14) C rfl dX10_machineWord_40 ?_
    cases h
    exact mj_aret C hT dX10_machineWord_43 ⟨rfl, rfl, fun h => by cases h⟩
  replace h := mj_if_f c2 h
  by_cases c3 : a1 = 3
  · replace h := mj_if_t c3 h
    refine mj_tin (off := 43) (tgt := 44) C dX10_machineWord_1 (by rw [c3]; decide) (by rw [c3]; decide) (by rw [c3]; decide) (by decide) ?_
    refine mj_ldcSw (i := 15) C rfl dX10_machineWord_44 ?_
    cases h
    exact mj_aret C hT dX10_machineWord_47 ⟨rfl, rfl, fun h => by cases h⟩
  replace h := mj_if_f c3 h
  by_cases c4 : a1 = 4
  · replace h := mj_if_t c4 h
    refine mj_tin (off := 47) (tgt := 48) C dX10_machineWord_1 (by rw [c4]; decide) (by rw [c4]; decide) (by rw [c4]; decide) (by decide) ?_
    refine mj_ldcSw (i := 16) C rfl dX10_machineWord_48 ?_
    cases h
    exact mj_aret C hT dX10_machineWord_51 ⟨rfl, rfl, fun h => by cases h⟩
  replace h := mj_if_f c4 h
  by_cases c5 : a1 = 5
  · replace h := mj_if_t c5 h
    refine mj_tin (off := 51) (tgt := 52) C dX10_machineWord_1 (by rw [c5]; decide) (by rw [c5]; decide) (by rw [c5]; decide) (by decide) ?_
    refine mj_ldcSw (i := 17) C rfl dX10_machineWord_52 ?_
    cases h
    exact mj_aret C hT dX10_machineWord_55 ⟨rfl, rfl, fun h => by cases h⟩
  replace h := mj_if_f c5 h
  refine mj_tout (tgt := 56) C dX10_machineWord_1 (by have := mj_neL 1 (by decide) c1; have := mj_neL 2 (by decide) c2; have := mj_neL 3 (by decide) c3; have := mj_neL 4 (by decide) c4; have := mj_neL 5 (by decide) c5; omega) (by decide) ?_
  refine mj_ldcSw (i := 18) C rfl dX10_machineWord_56 ?_
  cases h
  exact mj_aret C hT dX10_machineWord_59 ⟨rfl, rfl, fun h => by cases h⟩
def f_X10_alarmWord (a1 : Int32) : Nat := if a1 = 1 then (24) else if a1 = 2 then (25) else if a1 = 3 then (26) else if a1 = 4 then (27) else if a1 = 5 then (28) else if a1 = 6 then (29) else (30)
set_option maxHeartbeats 4000000 in
set_option maxRecDepth 20000 in
theorem C_X10_alarmWord {G : mj_G} {M : mj_M} {a1 : Int32} {x0 : Nat} (h : f_X10_alarmWord a1 = x0) : mj_S1 yX10_alarmWord cX10_alarmWord 1 (some (.object "java/lang/String")) 0 G [.inl a1] M (some (mj_r (98, x0))) M := by
  refine mj_intro (by decide) (Nat.le_of_ble_eq_true rfl) ?_
  intro κ C hG hR hT
  subst hG
  have C : mj_C κ cX10_alarmWord 1 RX10 := C
  show mj_R κ (mj_F κ (fun r M' => r = (some (mj_r (98, x0))) ∧ M' = M ∧ mj_bb (some (.object "java/lang/String")) (some (mj_r (98, x0))))) 0 [some (.inl a1)] [] M
  unfold f_X10_alarmWord at h
  refine mj_iload_n C dX10_alarmWord_0 rfl ?_
  by_cases c1 : a1 = 1
  · replace h := mj_if_t c1 h
    refine mj_tin (off := 39) (tgt := 40) C dX10_alarmWord_1 (by rw [c1]; decide) (by rw [c1]; decide) (by rw [c1]; decide) (by decide) ?_
    refine mj_ldcSw (i := 24) C rfl dX10_alarmWord_40 ?_
    cases h
    exact mj_aret C hT dX10_alarmWord_43 ⟨rfl, rfl, fun h => by cases h⟩
  replace h := mj_if_f c1 h
  by_cases c2 : a1 = 2
  · replace h := mj_if_t c2 h
    refine mj_tin (off := 43) (tgt := 44) C dX10_alarmWord_1 (by rw [c2]; decide) (by rw [c2]; decide) (by rw [c2]; decide) (by decide) ?_
    refine mj_ldcSw (i := 25) C rfl dX10_alarmWord_44 ?_
    cases h
    exact mj_aret C hT dX10_alarmWord_47 ⟨rfl, rfl, fun h => by cases h⟩
  replace h := mj_if_f c2 h
  by_cases c3 : a1 = 3
  · replace h := mj_if_t c3 h
    refine mj_tin (off := 47) (tgt := 48) C dX10_alarmWord_1 (by rw [c3]; decide) (by rw [c3]; decide) (by rw [c3]; decide) (by decide) ?_
    refine mj_ldcSw (i := 26) C rfl dX10_alarmWord_48 ?_
    cases h
    exact mj_aret C hT dX10_alarmWord_51 ⟨rfl, rfl, fun h => by cases h⟩
  replace h := mj_if_f c3 h
  by_cases c4 : a1 = 4
  · replace h := mj_if_t c4 h
    refine mj_tin (off := 51) (tgt := 52) C dX10_alarmWord_1 (by rw [c4]; decide) (by rw [c4]; decide) (by rw [c4]; decide) (by decide) ?_
    refine mj_ldcSw (i := 27) C rfl dX10_alarmWord_52 ?_
    cases h
    exact mj_aret C hT dX10_alarmWord_55 ⟨rfl, rfl, fun h => by cases h⟩
  replace h := mj_if_f c4 h
  by_cases c5 : a1 = 5
  · replace h := mj_if_t c5 h
    refine mj_tin (off := 55) (tgt := 56) C dX10_alarmWord_1 (by rw [c5]; decide) (by rw [c5]; decide) (by rw [c5]; decide) (by decide) ?_
    refine mj_ldcSw (i := 28) C rfl dX10_alarmWord_56 ?_
    cases h
    exact mj_aret C hT dX10_alarmWord_59 ⟨rfl, rfl, fun h => by cases h⟩
  replace h := mj_if_f c5 h
  by_cases c6 : a1 = 6
  · replace h := mj_if_t c6 h
    refine mj_tin (off := 59) (tgt := 60) C dX10_alarmWord_1 (by rw [c6]; decide) (by rw [c6]; decide) (by rw [c6]; decide) (by decide) ?_
    refine mj_ldcSw (i := 29) C rfl dX10_alarmWord_60 ?_
    cases h
    exact mj_aret C hT dX10_alarmWord_63 ⟨rfl, rfl, fun h => by cases h⟩
  replace h := mj_if_f c6 h
  refine mj_tout (tgt := 64) C dX10_alarmWord_1 (by have := mj_neL 1 (by decide) c1; have := mj_neL 2 (by decide) c2; have := mj_neL 3 (by decide) c3; have := mj_neL 4 (by decide) c4; have := mj_neL 5 (by decide) c5; have := mj_neL 6 (by decide) c6; omega) (by decide) ?_
  refine mj_ldcSw (i := 30) C rfl dX10_alarmWord_64 ?_
  cases h
  exact mj_aret C hT dX10_alarmWord_67 ⟨rfl, rfl, fun h => by cases h⟩
theorem tx_n0 {x : Int32} (h0 : 0 ≤ x) (h1 : x ≤ 255) : x = nI (mj_cl x) ∧ mj_cl x < 256 := by
  obtain ⟨j, hj, e⟩ := nI_of (x := x) (fun h => by have a := Int32.le_iff_toInt_le.mp h0; have b := Int32.lt_iff_toInt_lt.mp h; omega)
  subst e
  have e2 : mj_cl (nI j) = j := mj_cl_nI hj
  rw [e2]
  refine ⟨rfl, ?_⟩
  have := Int32.le_iff_toInt_le.mp h1
  rw [nI_toInt hj] at this
  have : (j : Int) ≤ 255 := this
  omega
def tt_n (x : Int32) : List Nat := dg (mj_cl x)
def tt_c (x : Int32) (k : Nat) : Nat := if x = 0 then 45 else k
theorem tt_n_le (x : Int32) : (tt_n x).length ≤ 3 := by
  unfold tt_n
  rw [dg_len]
  split
  · omega
  · split <;> omega
theorem tt_c_lt (x : Int32) (k : Nat) (h : k < 256) : tt_c x k < 256 := by
  unfold tt_c
  split <;> omega
def tt_rep (m : mj_m) : List Nat := if m 17 14 = -1 then [] else if m 17 14 = -2 then [] ++ [63] else ((((([] ++ [tt_c (mj_ush (m 17 14) 8 &&& 1) 76]) ++ [tt_c (mj_ush (m 17 14) 8 &&& 2) 87]) ++ [tt_c (mj_ush (m 17 14) 8 &&& 4) 82]) ++ tt_n (mj_ush (mj_ush (m 17 14) 8) 3)) ++ [32]) ++ tt_n (m 17 14 &&& 255)
def tt_sn0 (m : mj_m) : List Nat := ((((([] ++ sw (f_X10_machineWord (m 17 6))) ++ [32]) ++ tt_n (m 23 4)) ++ [47]) ++ tt_n (m 2 2)) ++ sw 19 ++ tt_n (m 17 7)
def tt_snd (m : mj_m) : List Nat := if m 17 11 = 0 then tt_sn0 m else (tt_sn0 m ++ sw 20) ++ sw (f_X10_machineWord (m 17 11))
def tt_rw (m : mj_m) : Nat := if m 9 3 = 0 then (if m 9 4 = 0 then 23 else 22) else 21
def tt_rc0 (m : mj_m) : List Nat := (([] ++ sw (tt_rw m)) ++ [32]) ++ tt_n (m 9 2)
def tt_rcv (m : mj_m) : List Nat := if m 9 5 = 0 then tt_rc0 m else tt_rc0 m ++ [82]
def tt_r (x : Int32) : Prop := 0 ≤ x ∧ x ≤ 255
def tt_ok (m : mj_m) : Prop := (m 17 14 = -1 ∨ m 17 14 = -2 ∨ (tt_r (mj_ush (mj_ush (m 17 14) 8) 3) ∧ tt_r (m 17 14 &&& 255))) ∧ tt_r (m 23 4) ∧ tt_r (m 2 2) ∧ tt_r (m 17 7) ∧ tt_r (m 9 2)
theorem mw_le (x : Int32) : f_X10_machineWord x < 31 ∧ (sw (f_X10_machineWord x)).length ≤ 7 := by
  unfold f_X10_machineWord
  repeat (first | (split; · decide) | decide)
theorem aw_le (x : Int32) : f_X10_alarmWord x < 31 := by
  unfold f_X10_alarmWord
  repeat (first | (split; · decide) | decide)
theorem sw19 : (sw 19).length = 2 := by decide
theorem sw20 : (sw 20).length = 6 := by decide
theorem rw_le (m : mj_m) : tt_rw m < 31 := by
  unfold tt_rw
  split
  · split <;> decide
  · decide
theorem sn0_le (m : mj_m) : (tt_sn0 m).length ≤ 20 := by
  unfold tt_sn0
  have h1 := (mw_le (m 17 6)).2
  have h2 := tt_n_le (m 23 4)
  have h3 := tt_n_le (m 2 2)
  have h4 := tt_n_le (m 17 7)
  have h5 := sw19
  simp only [List.length_append, List.length_nil, List.length_cons]
  omega
theorem rc0_le (m : mj_m) : (tt_rc0 m).length ≤ 14 := by
  unfold tt_rc0
  have h1 := sw_le (rw_le m)
  have h2 := tt_n_le (m 9 2)
  simp only [List.length_append, List.length_nil, List.length_cons]
  omega
theorem snd_le (m : mj_m) : (tt_snd m).length < 40 := by
  unfold tt_snd
  have h1 := sn0_le m
  have h2 := (mw_le (m 17 11)).2
  have h3 := sw20
  split
  · omega
  · simp only [List.length_append]
    omega
theorem rcv_le (m : mj_m) : (tt_rcv m).length < 40 := by
  unfold tt_rcv
  have h1 := rc0_le m
  split
  · omega
  · simp only [List.length_append, List.length_nil, List.length_cons]
    omega
theorem rep_le (m : mj_m) : (tt_rep m).length < 40 := by
  unfold tt_rep
  have h1 := tt_n_le (mj_ush (mj_ush (m 17 14) 8) 3)
  have h2 := tt_n_le (m 17 14 &&& 255)
  split
  · decide
  · split
    · decide
    · simp only [List.length_append, List.length_nil, List.length_cons]
      omega
set_option maxHeartbeats 8000000 in
set_option maxRecDepth 20000 in
theorem T_rep {cI : mj_I} {G : mj_G} {M : mj_M} {aS aV cap : Nat} {f : Nat → Int32} {ml : Int32} (hB : mj_isL G 0) (ho : tt_ok (M 0)) (hI : txJ [] cap f) : mx_SemM cI G M (fun _ => True) yX8_tellReport cX8_tellReport 3 none 6 6 480 [mj_r (0, 17), mj_o (some aS)] (tx cI aS aV cap f ml 0) (fun r Y' => r = none ∧ txY cI aS ml (tt_rep (M 0)) Y') := by
  refine mx_introM (by decide) (Nat.le_of_ble_eq_true rfl) ?_
  intro κ C hcI hG hpa hR hmc hms hT
  subst hcI
  subst hG
  have C : mj_C κ cX8_tellReport 3 RX8 := C
  have hPost : ∃ Q : State → Prop, mx_F κ M 6 480 (fun r Y' => r = none ∧ txY (mj_cI κ) aS ml (tt_rep (M 0)) Y') = Q := ⟨_, rfl⟩
  show mj_R (mj_ky κ (tx (mj_cI κ) aS aV cap f ml 0) 0 0) (mx_F κ M 6 480 _) 0 [some (mj_r (0, 17)), some (mj_o (some aS)), none] [] M
  obtain ⟨Q, hQ⟩ := hPost
  rw [hQ]
  refine mj_aload_n (mx_D C hmc hms rfl rfl) dX8_tellReport_0 rfl ?_
  refine mj_tget (mx_D C hmc hms rfl rfl) lF_X8_50 (sL17 hB) rfl dX8_tellReport_1 ?_
  refine mj_iconst (v := (-1)) (mx_D C hmc hms rfl rfl) dX8_tellReport_4 (by decide) ?_
  refine mj_icmp_ne (tgt := 9) (mx_D C hmc hms rfl rfl) dX8_tellReport_5 (by decide) (fun c1 => ?_) (fun c1 => ?_)
  · refine mj_aload_n (mx_D C hmc hms rfl rfl) dX8_tellReport_9 rfl ?_
    refine mj_tget (mx_D C hmc hms rfl rfl) lF_X8_50 (sL17 hB) rfl dX8_tellReport_10 ?_
    refine mj_bipush (v := (-2)) (mx_D C hmc hms rfl rfl) dX8_tellReport_13 (by decide) ?_
    refine mj_icmp_ne (tgt := 26) (mx_D C hmc hms rfl rfl) dX8_tellReport_15 (by decide) (fun c2 => ?_) (fun c2 => ?_)
    · obtain ⟨ho1, -⟩ := ho
      obtain ⟨ho2, ho3⟩ := (ho1.resolve_left c1).resolve_left c2
      refine mj_aload_n (mx_D C hmc hms rfl rfl) dX8_tellReport_26 rfl ?_
      refine mj_tget (mx_D C hmc hms rfl rfl) lF_X8_50 (sL17 hB) rfl dX8_tellReport_27 ?_
      refine mj_bipush (v := 8) (mx_D C hmc hms rfl rfl) dX8_tellReport_30 (by decide) ?_
      refine mj_iushr (mx_D C hmc hms rfl rfl) dX8_tellReport_32 ?_
      refine mj_istore_n (L2 := [some (mj_r (0, 17)), some (mj_o (some aS)), some (.inl (mj_ush (M 0 17 14) 8))]) (mx_D C hmc hms rfl rfl) dX8_tellReport_33 (Nat.le_of_ble_eq_true rfl) rfl ?_
      refine mx_aload_n (mx_D C hmc hms rfl rfl) dX8_tellReport_34 rfl ?_
      refine mj_iload_n (mx_D C hmc hms rfl rfl) dX8_tellReport_35 rfl ?_
      refine mj_iconst (v := 1) (mx_D C hmc hms rfl rfl) dX8_tellReport_36 (by decide) ?_
      refine mj_iand (mx_D C hmc hms rfl rfl) dX8_tellReport_37 ?_
      refine (fun (K : mj_R (mj_ky κ (tx (mj_cI κ) aS aV cap f ml 0) 0 0) Q 48 [some (mj_r (0, 17)), some (mj_o (some aS)), some (.inl (mj_ush (M 0 17 14) 8))] [.inl (nI (tt_c ((mj_ush (M 0 17 14) 8) &&& 1) 76)), mj_o (some aS)] M) => ?_) ?_
      · refine mj_if_eq (tgt := 46) (mx_D C hmc hms rfl rfl) dX8_tellReport_38 (by decide) (fun cb => ?_) (fun cb => ?_)
        · refine mj_bipush (v := 45) (mx_D C hmc hms rfl rfl) dX8_tellReport_46 (by decide) ?_
          exact mj_Rc K (by unfold tt_c; rw [if_pos cb]; rfl) rfl
        · refine mj_bipush (v := 76) (mx_D C hmc hms rfl rfl) dX8_tellReport_41 (by decide) ?_
          refine mj_goto (tgt := 48) (mx_D C hmc hms rfl rfl) dX8_tellReport_43 (by decide) ?_
          exact mj_Rc K (by unfold tt_c; rw [if_neg cb]; rfl) rfl
      refine mx_callV4 (av := [.inl (nI (tt_c ((mj_ush (M 0 17 14) 8) &&& 1) 76))]) (Y0 := []) (kc := 0) C lM_X8_191 lV_J4_append_cf468 rfl rfl (T4_appC (l := ([] : List Nat)) hI (by simp only [List.length_append, List.length_nil, List.length_cons]; omega) (tt_c_lt _ _ (by decide))) rfl rfl (mx_fit hR hmc hms rfl rfl rfl rfl) rfl (Nat.le_of_ble_eq_true rfl) dX8_tellReport_48 (fun r Y' hp => ?_)
      obtain ⟨rfl, aV1, cap1, f1, hI1, rfl⟩ := hp
      show mj_R (mj_ky κ (tx (mj_cI κ) aS aV1 cap1 f1 ml ((([] : List Nat) ++ [tt_c ((mj_ush (M 0 17 14) 8) &&& 1) 76]).length)) 1 80) _ 51 [some (mj_r (0, 17)), some (mj_o (some aS)), some (.inl (mj_ush (M 0 17 14) 8))] [mj_o (some aS)] M
      refine mj_pop (mx_D C hmc hms rfl rfl) dX8_tellReport_51 ?_
      refine mx_aload_n (mx_D C hmc hms rfl rfl) dX8_tellReport_52 rfl ?_
      refine mj_iload_n (mx_D C hmc hms rfl rfl) dX8_tellReport_53 rfl ?_
      refine mj_iconst (v := 2) (mx_D C hmc hms rfl rfl) dX8_tellReport_54 (by decide) ?_
      refine mj_iand (mx_D C hmc hms rfl rfl) dX8_tellReport_55 ?_
      refine (fun (K : mj_R (mj_ky κ (tx (mj_cI κ) aS aV1 cap1 f1 ml ((([] : List Nat) ++ [tt_c ((mj_ush (M 0 17 14) 8) &&& 1) 76]).length)) 1 80) Q 66 [some (mj_r (0, 17)), some (mj_o (some aS)), some (.inl (mj_ush (M 0 17 14) 8))] [.inl (nI (tt_c ((mj_ush (M 0 17 14) 8) &&& 2) 87)), mj_o (some aS)] M) => ?_) ?_
      · refine mj_if_eq (tgt := 64) (mx_D C hmc hms rfl rfl) dX8_tellReport_56 (by decide) (fun cb => ?_) (fun cb => ?_)
        · refine mj_bipush (v := 45) (mx_D C hmc hms rfl rfl) dX8_tellReport_64 (by decide) ?_
          exact mj_Rc K (by unfold tt_c; rw [if_pos cb]; rfl) rfl
        · refine mj_bipush (v := 87) (mx_D C hmc hms rfl rfl) dX8_tellReport_59 (by decide) ?_
          refine mj_goto (tgt := 66) (mx_D C hmc hms rfl rfl) dX8_tellReport_61 (by decide) ?_
          exact mj_Rc K (by unfold tt_c; rw [if_neg cb]; rfl) rfl
      refine mx_callV4 (av := [.inl (nI (tt_c ((mj_ush (M 0 17 14) 8) &&& 2) 87))]) (Y0 := []) (kc := 0) C lM_X8_191 lV_J4_append_cf468 rfl rfl (T4_appC (l := (([] : List Nat) ++ [tt_c ((mj_ush (M 0 17 14) 8) &&& 1) 76])) hI1 (by simp only [List.length_append, List.length_nil, List.length_cons]; omega) (tt_c_lt _ _ (by decide))) rfl rfl (mx_fit hR hmc hms rfl rfl rfl rfl) rfl (Nat.le_of_ble_eq_true rfl) dX8_tellReport_66 (fun r Y' hp => ?_)
      obtain ⟨rfl, aV2, cap2, f2, hI2, rfl⟩ := hp
      show mj_R (mj_ky κ (tx (mj_cI κ) aS aV2 cap2 f2 ml (((([] : List Nat) ++ [tt_c ((mj_ush (M 0 17 14) 8) &&& 1) 76]) ++ [tt_c ((mj_ush (M 0 17 14) 8) &&& 2) 87]).length)) 2 160) _ 69 [some (mj_r (0, 17)), some (mj_o (some aS)), some (.inl (mj_ush (M 0 17 14) 8))] [mj_o (some aS)] M
      refine mj_pop (mx_D C hmc hms rfl rfl) dX8_tellReport_69 ?_
      refine mx_aload_n (mx_D C hmc hms rfl rfl) dX8_tellReport_70 rfl ?_
      refine mj_iload_n (mx_D C hmc hms rfl rfl) dX8_tellReport_71 rfl ?_
      refine mj_iconst (v := 4) (mx_D C hmc hms rfl rfl) dX8_tellReport_72 (by decide) ?_
      refine mj_iand (mx_D C hmc hms rfl rfl) dX8_tellReport_73 ?_
      refine (fun (K : mj_R (mj_ky κ (tx (mj_cI κ) aS aV2 cap2 f2 ml (((([] : List Nat) ++ [tt_c ((mj_ush (M 0 17 14) 8) &&& 1) 76]) ++ [tt_c ((mj_ush (M 0 17 14) 8) &&& 2) 87]).length)) 2 160) Q 84 [some (mj_r (0, 17)), some (mj_o (some aS)), some (.inl (mj_ush (M 0 17 14) 8))] [.inl (nI (tt_c ((mj_ush (M 0 17 14) 8) &&& 4) 82)), mj_o (some aS)] M) => ?_) ?_
      · refine mj_if_eq (tgt := 82) (mx_D C hmc hms rfl rfl) dX8_tellReport_74 (by decide) (fun cb => ?_) (fun cb => ?_)
        · refine mj_bipush (v := 45) (mx_D C hmc hms rfl rfl) dX8_tellReport_82 (by decide) ?_
          exact mj_Rc K (by unfold tt_c; rw [if_pos cb]; rfl) rfl
        · refine mj_bipush (v := 82) (mx_D C hmc hms rfl rfl) dX8_tellReport_77 (by decide) ?_
          refine mj_goto (tgt := 84) (mx_D C hmc hms rfl rfl) dX8_tellReport_79 (by decide) ?_
          exact mj_Rc K (by unfold tt_c; rw [if_neg cb]; rfl) rfl
      refine mx_callV4 (av := [.inl (nI (tt_c ((mj_ush (M 0 17 14) 8) &&& 4) 82))]) (Y0 := []) (kc := 0) C lM_X8_191 lV_J4_append_cf468 rfl rfl (T4_appC (l := ((([] : List Nat) ++ [tt_c ((mj_ush (M 0 17 14) 8) &&& 1) 76]) ++ [tt_c ((mj_ush (M 0 17 14) 8) &&& 2) 87])) hI2 (by simp only [List.length_append, List.length_nil, List.length_cons]; omega) (tt_c_lt _ _ (by decide))) rfl rfl (mx_fit hR hmc hms rfl rfl rfl rfl) rfl (Nat.le_of_ble_eq_true rfl) dX8_tellReport_84 (fun r Y' hp => ?_)
      obtain ⟨rfl, aV3, cap3, f3, hI3, rfl⟩ := hp
      show mj_R (mj_ky κ (tx (mj_cI κ) aS aV3 cap3 f3 ml ((((([] : List Nat) ++ [tt_c ((mj_ush (M 0 17 14) 8) &&& 1) 76]) ++ [tt_c ((mj_ush (M 0 17 14) 8) &&& 2) 87]) ++ [tt_c ((mj_ush (M 0 17 14) 8) &&& 4) 82]).length)) 3 240) _ 87 [some (mj_r (0, 17)), some (mj_o (some aS)), some (.inl (mj_ush (M 0 17 14) 8))] [mj_o (some aS)] M
      refine mj_pop (mx_D C hmc hms rfl rfl) dX8_tellReport_87 ?_
      refine mx_aload_n (mx_D C hmc hms rfl rfl) dX8_tellReport_88 rfl ?_
      refine mj_iload_n (mx_D C hmc hms rfl rfl) dX8_tellReport_89 rfl ?_
      refine mj_iconst (v := 3) (mx_D C hmc hms rfl rfl) dX8_tellReport_90 (by decide) ?_
      refine mj_iushr (mx_D C hmc hms rfl rfl) dX8_tellReport_91 ?_
      refine mj_nm (a := nI (mj_cl (mj_ush (mj_ush (M 0 17 14) 8) 3))) (tx_n0 ho2.1 ho2.2).1 ?_
      refine mx_callV4 (av := [.inl (nI (mj_cl (mj_ush (mj_ush (M 0 17 14) 8) 3)))]) (Y0 := []) (kc := 0) C lM_X8_197 lV_J4_append_bf812 rfl rfl (T4_appI (l := (((([] : List Nat) ++ [tt_c ((mj_ush (M 0 17 14) 8) &&& 1) 76]) ++ [tt_c ((mj_ush (M 0 17 14) 8) &&& 2) 87]) ++ [tt_c ((mj_ush (M 0 17 14) 8) &&& 4) 82])) hI3 (by simp only [List.length_append, List.length_nil, List.length_cons]; omega) (tx_n0 ho2.1 ho2.2).2) rfl rfl (mx_fit hR hmc hms rfl rfl rfl rfl) rfl (Nat.le_of_ble_eq_true rfl) dX8_tellReport_92 (fun r Y' hp => ?_)
      obtain ⟨rfl, aV4, cap4, f4, hI4, rfl⟩ := hp
      show mj_R (mj_ky κ (tx (mj_cI κ) aS aV4 cap4 f4 ml (((((([] : List Nat) ++ [tt_c ((mj_ush (M 0 17 14) 8) &&& 1) 76]) ++ [tt_c ((mj_ush (M 0 17 14) 8) &&& 2) 87]) ++ [tt_c ((mj_ush (M 0 17 14) 8) &&& 4) 82]) ++ dg (mj_cl (mj_ush (mj_ush (M 0 17 14) 8) 3))).length)) 4 320) _ 95 [some (mj_r (0, 17)), some (mj_o (some aS)), some (.inl (mj_ush (M 0 17 14) 8))] [mj_o (some aS)] M
      have hn1 := tt_n_le (mj_ush (mj_ush (M 0 17 14) 8) 3)
      unfold tt_n at hn1
      refine mj_pop (mx_D C hmc hms rfl rfl) dX8_tellReport_95 ?_
      refine mx_aload_n (mx_D C hmc hms rfl rfl) dX8_tellReport_96 rfl ?_
      refine mj_bipush (v := 32) (mx_D C hmc hms rfl rfl) dX8_tellReport_97 (by decide) ?_
      refine mj_nm (a := nI 32) (by decide) ?_
      refine mx_callV4 (av := [.inl (nI 32)]) (Y0 := []) (kc := 0) C lM_X8_191 lV_J4_append_cf468 rfl rfl (T4_appC (l := ((((([] : List Nat) ++ [tt_c ((mj_ush (M 0 17 14) 8) &&& 1) 76]) ++ [tt_c ((mj_ush (M 0 17 14) 8) &&& 2) 87]) ++ [tt_c ((mj_ush (M 0 17 14) 8) &&& 4) 82]) ++ dg (mj_cl (mj_ush (mj_ush (M 0 17 14) 8) 3)))) hI4 (by simp only [List.length_append, List.length_nil, List.length_cons]; omega) (by decide)) rfl rfl (mx_fit hR hmc hms rfl rfl rfl rfl) rfl (Nat.le_of_ble_eq_true rfl) dX8_tellReport_99 (fun r Y' hp => ?_)
      obtain ⟨rfl, aV5, cap5, f5, hI5, rfl⟩ := hp
      show mj_R (mj_ky κ (tx (mj_cI κ) aS aV5 cap5 f5 ml ((((((([] : List Nat) ++ [tt_c ((mj_ush (M 0 17 14) 8) &&& 1) 76]) ++ [tt_c ((mj_ush (M 0 17 14) 8) &&& 2) 87]) ++ [tt_c ((mj_ush (M 0 17 14) 8) &&& 4) 82]) ++ dg (mj_cl (mj_ush (mj_ush (M 0 17 14) 8) 3))) ++ [32]).length)) 5 400) _ 102 [some (mj_r (0, 17)), some (mj_o (some aS)), some (.inl (mj_ush (M 0 17 14) 8))] [mj_o (some aS)] M
      refine mj_pop (mx_D C hmc hms rfl rfl) dX8_tellReport_102 ?_
      refine mx_aload_n (mx_D C hmc hms rfl rfl) dX8_tellReport_103 rfl ?_
      refine mj_aload_n (mx_D C hmc hms rfl rfl) dX8_tellReport_104 rfl ?_
      refine mj_tget (mx_D C hmc hms rfl rfl) lF_X8_50 (sL17 hB) rfl dX8_tellReport_105 ?_
      refine mj_sipush (v := 255) (mx_D C hmc hms rfl rfl) dX8_tellReport_108 (by decide) ?_
      refine mj_iand (mx_D C hmc hms rfl rfl) dX8_tellReport_111 ?_
      refine mj_nm (a := nI (mj_cl (M 0 17 14 &&& 255))) (tx_n0 ho3.1 ho3.2).1 ?_
      refine mx_callV4 (av := [.inl (nI (mj_cl (M 0 17 14 &&& 255)))]) (Y0 := []) (kc := 0) C lM_X8_197 lV_J4_append_bf812 rfl rfl (T4_appI (l := (((((([] : List Nat) ++ [tt_c ((mj_ush (M 0 17 14) 8) &&& 1) 76]) ++ [tt_c ((mj_ush (M 0 17 14) 8) &&& 2) 87]) ++ [tt_c ((mj_ush (M 0 17 14) 8) &&& 4) 82]) ++ dg (mj_cl (mj_ush (mj_ush (M 0 17 14) 8) 3))) ++ [32])) hI5 (by simp only [List.length_append, List.length_nil, List.length_cons]; omega) (tx_n0 ho3.1 ho3.2).2) rfl rfl (mx_fit hR hmc hms rfl rfl rfl rfl) rfl (Nat.le_of_ble_eq_true rfl) dX8_tellReport_112 (fun r Y' hp => ?_)
      obtain ⟨rfl, aV6, cap6, f6, hI6, rfl⟩ := hp
      show mj_R (mj_ky κ (tx (mj_cI κ) aS aV6 cap6 f6 ml (((((((([] : List Nat) ++ [tt_c ((mj_ush (M 0 17 14) 8) &&& 1) 76]) ++ [tt_c ((mj_ush (M 0 17 14) 8) &&& 2) 87]) ++ [tt_c ((mj_ush (M 0 17 14) 8) &&& 4) 82]) ++ dg (mj_cl (mj_ush (mj_ush (M 0 17 14) 8) 3))) ++ [32]) ++ dg (mj_cl (M 0 17 14 &&& 255))).length)) 6 480) _ 115 [some (mj_r (0, 17)), some (mj_o (some aS)), some (.inl (mj_ush (M 0 17 14) 8))] [mj_o (some aS)] M
      refine mj_pop (mx_D C hmc hms rfl rfl) dX8_tellReport_115 ?_
      rw [← hQ]
      refine mx_vret C hT (Nat.le_of_ble_eq_true rfl) (Nat.le_of_ble_eq_true rfl) dX8_tellReport_116 ⟨rfl, ?_⟩
      unfold tt_rep tt_n
      rw [if_neg c1, if_neg c2]
      exact ⟨_, _, _, hI6, rfl⟩
    · refine mx_aload_n (mx_D C hmc hms rfl rfl) dX8_tellReport_18 rfl ?_
      refine mj_bipush (v := 63) (mx_D C hmc hms rfl rfl) dX8_tellReport_19 (by decide) ?_
      have c2 : M 0 17 14 = -2 := c2
      refine mj_nm (a := nI 63) (by decide) ?_
      refine mx_callV4 (av := [.inl (nI 63)]) (Y0 := []) (kc := 0) C lM_X8_191 lV_J4_append_cf468 rfl rfl (T4_appC (l := ([] : List Nat)) hI (by decide) (by decide)) rfl rfl (mx_fit hR hmc hms rfl rfl rfl rfl) rfl (Nat.le_of_ble_eq_true rfl) dX8_tellReport_21 (fun r Y' hp => ?_)
      obtain ⟨rfl, aV1, cap1, f1, hI1, rfl⟩ := hp
      show mj_R (mj_ky κ (tx (mj_cI κ) aS aV1 cap1 f1 ml ((([] : List Nat) ++ [63]).length)) 1 80) _ 24 [some (mj_r (0, 17)), some (mj_o (some aS)), none] [mj_o (some aS)] M
      refine mj_pop (mx_D C hmc hms rfl rfl) dX8_tellReport_24 ?_
      rw [← hQ]
      refine mx_vret C hT (Nat.le_of_ble_eq_true rfl) (Nat.le_of_ble_eq_true rfl) dX8_tellReport_25 ⟨rfl, ?_⟩
      unfold tt_rep
      rw [if_neg c1, if_pos c2]
      exact ⟨_, _, _, hI1, rfl⟩
  · have c1 : M 0 17 14 = -1 := c1
    rw [← hQ]
    refine mx_vret C hT (Nat.le_of_ble_eq_true rfl) (Nat.le_of_ble_eq_true rfl) dX8_tellReport_8 ⟨rfl, ?_⟩
    unfold tt_rep
    rw [if_pos c1]
    exact ⟨_, _, _, hI, rfl⟩
set_option maxHeartbeats 8000000 in
set_option maxRecDepth 20000 in
theorem T_snd {cI : mj_I} {G : mj_G} {M : mj_M} {aS aV cap : Nat} {f : Nat → Int32} {ml : Int32} (hB : mj_isL G 0) (ho : tt_ok (M 0)) (hI : txJ [] cap f) : mx_SemM cI G M (fun _ => True) yX8_tellSelf cX8_tellSelf 2 none 6 9 720 [mj_r (0, 17), mj_o (some aS)] (tx cI aS aV cap f ml 0) (fun r Y' => r = none ∧ txY cI aS ml (tt_snd (M 0)) Y') := by
  refine mx_introM (by decide) (Nat.le_of_ble_eq_true rfl) ?_
  intro κ C hcI hG hpa hR hmc hms hT
  subst hcI
  subst hG
  have C : mj_C κ cX8_tellSelf 2 RX8 := C
  have hPost : ∃ Q : State → Prop, mx_F κ M 9 720 (fun r Y' => r = none ∧ txY (mj_cI κ) aS ml (tt_snd (M 0)) Y') = Q := ⟨_, rfl⟩
  show mj_R (mj_ky κ (tx (mj_cI κ) aS aV cap f ml 0) 0 0) (mx_F κ M 9 720 _) 0 [some (mj_r (0, 17)), some (mj_o (some aS))] [] M
  obtain ⟨Q, hQ⟩ := hPost
  rw [hQ]
  obtain ⟨-, ho1, ho2, ho3, -⟩ := ho
  have hm1 := mw_le (M 0 17 6)
  have hm2 := mw_le (M 0 17 11)
  have hs1 := sw19
  have hs2 := sw20
  have hn1 := tt_n_le (M 0 23 4)
  unfold tt_n at hn1
  have hn2 := tt_n_le (M 0 2 2)
  unfold tt_n at hn2
  have hn3 := tt_n_le (M 0 17 7)
  unfold tt_n at hn3
  refine mx_aload_n (mx_D C hmc hms rfl rfl) dX8_tellSelf_0 rfl ?_
  refine mj_aload_n (mx_D C hmc hms rfl rfl) dX8_tellSelf_1 rfl ?_
  refine mj_tget (mx_D C hmc hms rfl rfl) lF_X8_24 (sL17 hB) rfl dX8_tellSelf_2 ?_
  refine mj_callN1 (av := [.inl (M 0 17 6)]) (mx_D C hmc hms rfl rfl) lN_X8_200 lS_X10_machineWord rfl (C_X10_machineWord rfl) (mj_rmok (κ := mj_ky κ (tx (mj_cI κ) aS aV cap f ml 0) 0 0) hR (by decide) (by decide)) rfl (Nat.le_of_ble_eq_true rfl) dX8_tellSelf_5 (fun hb => ?_)
  refine mx_callV4 (av := [mj_r (98, (f_X10_machineWord (M 0 17 6)))]) (Y0 := []) (kc := 0) C lM_X8_204 lV_J4_append_15ec4 rfl rfl (T4_appS (l := ([] : List Nat)) hI hm1.1 (by simp only [List.length_append, List.length_nil, List.length_cons]; omega)) rfl rfl (mx_fit hR hmc hms rfl rfl rfl rfl) rfl (Nat.le_of_ble_eq_true rfl) dX8_tellSelf_8 (fun r Y' hp => ?_)
  obtain ⟨rfl, aV1, cap1, f1, hI1, rfl⟩ := hp
  show mj_R (mj_ky κ (tx (mj_cI κ) aS aV1 cap1 f1 ml ((([] : List Nat) ++ sw ((f_X10_machineWord (M 0 17 6)))).length)) 1 80) _ 11 [some (mj_r (0, 17)), some (mj_o (some aS))] [mj_o (some aS)] M
  refine mj_pop (mx_D C hmc hms rfl rfl) dX8_tellSelf_11 ?_
  refine mx_aload_n (mx_D C hmc hms rfl rfl) dX8_tellSelf_12 rfl ?_
  refine mj_bipush (v := 32) (mx_D C hmc hms rfl rfl) dX8_tellSelf_13 (by decide) ?_
  refine mj_nm (a := nI 32) (by decide) ?_
  refine mx_callV4 (av := [.inl (nI 32)]) (Y0 := []) (kc := 0) C lM_X8_191 lV_J4_append_cf468 rfl rfl (T4_appC (l := (([] : List Nat) ++ sw ((f_X10_machineWord (M 0 17 6))))) hI1 (by simp only [List.length_append, List.length_nil, List.length_cons]; omega) (by decide)) rfl rfl (mx_fit hR hmc hms rfl rfl rfl rfl) rfl (Nat.le_of_ble_eq_true rfl) dX8_tellSelf_15 (fun r Y' hp => ?_)
  obtain ⟨rfl, aV2, cap2, f2, hI2, rfl⟩ := hp
  show mj_R (mj_ky κ (tx (mj_cI κ) aS aV2 cap2 f2 ml (((([] : List Nat) ++ sw ((f_X10_machineWord (M 0 17 6)))) ++ [32]).length)) 2 160) _ 18 [some (mj_r (0, 17)), some (mj_o (some aS))] [mj_o (some aS)] M
  refine mj_pop (mx_D C hmc hms rfl rfl) dX8_tellSelf_18 ?_
  refine mx_aload_n (mx_D C hmc hms rfl rfl) dX8_tellSelf_19 rfl ?_
  refine mj_aload_n (mx_D C hmc hms rfl rfl) dX8_tellSelf_20 rfl ?_
  refine mj_getr (r := (0, 23)) (mx_D C hmc hms rfl rfl) lF_X8_18 (sL17 hB) rfl dX8_tellSelf_21 ?_
  refine mj_tget (mx_D C hmc hms rfl rfl) lF_X8_72 (sL23 hB) rfl dX8_tellSelf_24 ?_
  refine mj_nm (a := nI (mj_cl (M 0 23 4))) (tx_n0 ho1.1 ho1.2).1 ?_
  refine mx_callV4 (av := [.inl (nI (mj_cl (M 0 23 4)))]) (Y0 := []) (kc := 0) C lM_X8_197 lV_J4_append_bf812 rfl rfl (T4_appI (l := ((([] : List Nat) ++ sw ((f_X10_machineWord (M 0 17 6)))) ++ [32])) hI2 (by simp only [List.length_append, List.length_nil, List.length_cons]; omega) (tx_n0 ho1.1 ho1.2).2) rfl rfl (mx_fit hR hmc hms rfl rfl rfl rfl) rfl (Nat.le_of_ble_eq_true rfl) dX8_tellSelf_27 (fun r Y' hp => ?_)
  obtain ⟨rfl, aV3, cap3, f3, hI3, rfl⟩ := hp
  show mj_R (mj_ky κ (tx (mj_cI κ) aS aV3 cap3 f3 ml ((((([] : List Nat) ++ sw ((f_X10_machineWord (M 0 17 6)))) ++ [32]) ++ dg (mj_cl (M 0 23 4))).length)) 3 240) _ 30 [some (mj_r (0, 17)), some (mj_o (some aS))] [mj_o (some aS)] M
  refine mj_pop (mx_D C hmc hms rfl rfl) dX8_tellSelf_30 ?_
  refine mx_aload_n (mx_D C hmc hms rfl rfl) dX8_tellSelf_31 rfl ?_
  refine mj_bipush (v := 47) (mx_D C hmc hms rfl rfl) dX8_tellSelf_32 (by decide) ?_
  refine mj_nm (a := nI 47) (by decide) ?_
  refine mx_callV4 (av := [.inl (nI 47)]) (Y0 := []) (kc := 0) C lM_X8_191 lV_J4_append_cf468 rfl rfl (T4_appC (l := (((([] : List Nat) ++ sw ((f_X10_machineWord (M 0 17 6)))) ++ [32]) ++ dg (mj_cl (M 0 23 4)))) hI3 (by simp only [List.length_append, List.length_nil, List.length_cons]; omega) (by decide)) rfl rfl (mx_fit hR hmc hms rfl rfl rfl rfl) rfl (Nat.le_of_ble_eq_true rfl) dX8_tellSelf_34 (fun r Y' hp => ?_)
  obtain ⟨rfl, aV4, cap4, f4, hI4, rfl⟩ := hp
  show mj_R (mj_ky κ (tx (mj_cI κ) aS aV4 cap4 f4 ml (((((([] : List Nat) ++ sw ((f_X10_machineWord (M 0 17 6)))) ++ [32]) ++ dg (mj_cl (M 0 23 4))) ++ [47]).length)) 4 320) _ 37 [some (mj_r (0, 17)), some (mj_o (some aS))] [mj_o (some aS)] M
  refine mj_pop (mx_D C hmc hms rfl rfl) dX8_tellSelf_37 ?_
  refine mx_aload_n (mx_D C hmc hms rfl rfl) dX8_tellSelf_38 rfl ?_
  refine mj_aload_n (mx_D C hmc hms rfl rfl) dX8_tellSelf_39 rfl ?_
  refine mj_getr (r := (0, 1)) (mx_D C hmc hms rfl rfl) lF_X8_56 (sL17 hB) rfl dX8_tellSelf_40 ?_
  refine mj_getr (r := (0, 2)) (mx_D C hmc hms rfl rfl) lF_X8_96 (sL1 hB) rfl dX8_tellSelf_43 ?_
  refine mj_iconst (v := 2) (mx_D C hmc hms rfl rfl) dX8_tellSelf_46 (by decide) ?_
  refine mj_tald (mx_D C hmc hms rfl rfl) (sL2 hB) (mj_okn 2 11 (Nat.le_of_ble_eq_true rfl) (Nat.le_of_ble_eq_true rfl)) (mj_cln 2 (Nat.le_of_ble_eq_true rfl)) dX8_tellSelf_47 ?_
  refine mj_nm (a := nI (mj_cl (M 0 2 2))) (tx_n0 ho2.1 ho2.2).1 ?_
  refine mx_callV4 (av := [.inl (nI (mj_cl (M 0 2 2)))]) (Y0 := []) (kc := 0) C lM_X8_197 lV_J4_append_bf812 rfl rfl (T4_appI (l := ((((([] : List Nat) ++ sw ((f_X10_machineWord (M 0 17 6)))) ++ [32]) ++ dg (mj_cl (M 0 23 4))) ++ [47])) hI4 (by simp only [List.length_append, List.length_nil, List.length_cons]; omega) (tx_n0 ho2.1 ho2.2).2) rfl rfl (mx_fit hR hmc hms rfl rfl rfl rfl) rfl (Nat.le_of_ble_eq_true rfl) dX8_tellSelf_48 (fun r Y' hp => ?_)
  obtain ⟨rfl, aV5, cap5, f5, hI5, rfl⟩ := hp
  show mj_R (mj_ky κ (tx (mj_cI κ) aS aV5 cap5 f5 ml ((((((([] : List Nat) ++ sw ((f_X10_machineWord (M 0 17 6)))) ++ [32]) ++ dg (mj_cl (M 0 23 4))) ++ [47]) ++ dg (mj_cl (M 0 2 2))).length)) 5 400) _ 51 [some (mj_r (0, 17)), some (mj_o (some aS))] [mj_o (some aS)] M
  refine mj_pop (mx_D C hmc hms rfl rfl) dX8_tellSelf_51 ?_
  refine mx_aload_n (mx_D C hmc hms rfl rfl) dX8_tellSelf_52 rfl ?_
  refine mj_ldcS (i := 19) (mx_D C hmc hms rfl rfl) rfl dX8_tellSelf_53 ?_
  refine mx_callV4 (av := [mj_r (98, 19)]) (Y0 := []) (kc := 0) C lM_X8_204 lV_J4_append_15ec4 rfl rfl (T4_appS (l := (((((([] : List Nat) ++ sw ((f_X10_machineWord (M 0 17 6)))) ++ [32]) ++ dg (mj_cl (M 0 23 4))) ++ [47]) ++ dg (mj_cl (M 0 2 2)))) hI5 (by decide) (by simp only [List.length_append, List.length_nil, List.length_cons]; omega)) rfl rfl (mx_fit hR hmc hms rfl rfl rfl rfl) rfl (Nat.le_of_ble_eq_true rfl) dX8_tellSelf_55 (fun r Y' hp => ?_)
  obtain ⟨rfl, aV6, cap6, f6, hI6, rfl⟩ := hp
  show mj_R (mj_ky κ (tx (mj_cI κ) aS aV6 cap6 f6 ml (((((((([] : List Nat) ++ sw ((f_X10_machineWord (M 0 17 6)))) ++ [32]) ++ dg (mj_cl (M 0 23 4))) ++ [47]) ++ dg (mj_cl (M 0 2 2))) ++ sw 19).length)) 6 480) _ 58 [some (mj_r (0, 17)), some (mj_o (some aS))] [mj_o (some aS)] M
  refine mj_pop (mx_D C hmc hms rfl rfl) dX8_tellSelf_58 ?_
  refine mx_aload_n (mx_D C hmc hms rfl rfl) dX8_tellSelf_59 rfl ?_
  refine mj_aload_n (mx_D C hmc hms rfl rfl) dX8_tellSelf_60 rfl ?_
  refine mj_tget (mx_D C hmc hms rfl rfl) lF_X8_28 (sL17 hB) rfl dX8_tellSelf_61 ?_
  refine mj_nm (a := nI (mj_cl (M 0 17 7))) (tx_n0 ho3.1 ho3.2).1 ?_
  refine mx_callV4 (av := [.inl (nI (mj_cl (M 0 17 7)))]) (Y0 := []) (kc := 0) C lM_X8_197 lV_J4_append_bf812 rfl rfl (T4_appI (l := ((((((([] : List Nat) ++ sw ((f_X10_machineWord (M 0 17 6)))) ++ [32]) ++ dg (mj_cl (M 0 23 4))) ++ [47]) ++ dg (mj_cl (M 0 2 2))) ++ sw 19)) hI6 (by simp only [List.length_append, List.length_nil, List.length_cons]; omega) (tx_n0 ho3.1 ho3.2).2) rfl rfl (mx_fit hR hmc hms rfl rfl rfl rfl) rfl (Nat.le_of_ble_eq_true rfl) dX8_tellSelf_64 (fun r Y' hp => ?_)
  obtain ⟨rfl, aV7, cap7, f7, hI7, rfl⟩ := hp
  show mj_R (mj_ky κ (tx (mj_cI κ) aS aV7 cap7 f7 ml ((((((((([] : List Nat) ++ sw ((f_X10_machineWord (M 0 17 6)))) ++ [32]) ++ dg (mj_cl (M 0 23 4))) ++ [47]) ++ dg (mj_cl (M 0 2 2))) ++ sw 19) ++ dg (mj_cl (M 0 17 7))).length)) 7 560) _ 67 [some (mj_r (0, 17)), some (mj_o (some aS))] [mj_o (some aS)] M
  refine mj_pop (mx_D C hmc hms rfl rfl) dX8_tellSelf_67 ?_
  refine mj_aload_n (mx_D C hmc hms rfl rfl) dX8_tellSelf_68 rfl ?_
  refine mj_tget (mx_D C hmc hms rfl rfl) lF_X8_40 (sL17 hB) rfl dX8_tellSelf_69 ?_
  refine mj_if_eq (tgt := 94) (mx_D C hmc hms rfl rfl) dX8_tellSelf_72 (by decide) (fun c1 => ?_) (fun c1 => ?_)
  · rw [← hQ]
    refine mx_vret C hT (Nat.le_of_ble_eq_true rfl) (Nat.le_of_ble_eq_true rfl) dX8_tellSelf_94 ⟨rfl, ?_⟩
    unfold tt_snd tt_sn0 tt_n
    rw [if_pos c1]
    exact ⟨_, _, _, hI7, rfl⟩
  · refine mx_aload_n (mx_D C hmc hms rfl rfl) dX8_tellSelf_75 rfl ?_
    refine mj_ldcS (i := 20) (mx_D C hmc hms rfl rfl) rfl dX8_tellSelf_76 ?_
    refine mx_callV4 (av := [mj_r (98, 20)]) (Y0 := []) (kc := 0) C lM_X8_204 lV_J4_append_15ec4 rfl rfl (T4_appS (l := (((((((([] : List Nat) ++ sw ((f_X10_machineWord (M 0 17 6)))) ++ [32]) ++ dg (mj_cl (M 0 23 4))) ++ [47]) ++ dg (mj_cl (M 0 2 2))) ++ sw 19) ++ dg (mj_cl (M 0 17 7)))) hI7 (by decide) (by simp only [List.length_append, List.length_nil, List.length_cons]; omega)) rfl rfl (mx_fit hR hmc hms rfl rfl rfl rfl) rfl (Nat.le_of_ble_eq_true rfl) dX8_tellSelf_78 (fun r Y' hp => ?_)
    obtain ⟨rfl, aV8, cap8, f8, hI8, rfl⟩ := hp
    show mj_R (mj_ky κ (tx (mj_cI κ) aS aV8 cap8 f8 ml (((((((((([] : List Nat) ++ sw ((f_X10_machineWord (M 0 17 6)))) ++ [32]) ++ dg (mj_cl (M 0 23 4))) ++ [47]) ++ dg (mj_cl (M 0 2 2))) ++ sw 19) ++ dg (mj_cl (M 0 17 7))) ++ sw 20).length)) 8 640) _ 81 [some (mj_r (0, 17)), some (mj_o (some aS))] [mj_o (some aS)] M
    refine mj_pop (mx_D C hmc hms rfl rfl) dX8_tellSelf_81 ?_
    refine mx_aload_n (mx_D C hmc hms rfl rfl) dX8_tellSelf_82 rfl ?_
    refine mj_aload_n (mx_D C hmc hms rfl rfl) dX8_tellSelf_83 rfl ?_
    refine mj_tget (mx_D C hmc hms rfl rfl) lF_X8_40 (sL17 hB) rfl dX8_tellSelf_84 ?_
    refine mj_callN1 (av := [.inl (M 0 17 11)]) (mx_D C hmc hms rfl rfl) lN_X8_200 lS_X10_machineWord rfl (C_X10_machineWord rfl) (mj_rmok (κ := mj_ky κ (tx (mj_cI κ) aS aV8 cap8 f8 ml (((((((((([] : List Nat) ++ sw ((f_X10_machineWord (M 0 17 6)))) ++ [32]) ++ dg (mj_cl (M 0 23 4))) ++ [47]) ++ dg (mj_cl (M 0 2 2))) ++ sw 19) ++ dg (mj_cl (M 0 17 7))) ++ sw 20).length)) 8 640) hR (by decide) (by decide)) rfl (Nat.le_of_ble_eq_true rfl) dX8_tellSelf_87 (fun hb => ?_)
    refine mx_callV4 (av := [mj_r (98, (f_X10_machineWord (M 0 17 11)))]) (Y0 := []) (kc := 0) C lM_X8_204 lV_J4_append_15ec4 rfl rfl (T4_appS (l := ((((((((([] : List Nat) ++ sw ((f_X10_machineWord (M 0 17 6)))) ++ [32]) ++ dg (mj_cl (M 0 23 4))) ++ [47]) ++ dg (mj_cl (M 0 2 2))) ++ sw 19) ++ dg (mj_cl (M 0 17 7))) ++ sw 20)) hI8 hm2.1 (by simp only [List.length_append, List.length_nil, List.length_cons]; omega)) rfl rfl (mx_fit hR hmc hms rfl rfl rfl rfl) rfl (Nat.le_of_ble_eq_true rfl) dX8_tellSelf_90 (fun r Y' hp => ?_)
    obtain ⟨rfl, aV9, cap9, f9, hI9, rfl⟩ := hp
    show mj_R (mj_ky κ (tx (mj_cI κ) aS aV9 cap9 f9 ml ((((((((((([] : List Nat) ++ sw ((f_X10_machineWord (M 0 17 6)))) ++ [32]) ++ dg (mj_cl (M 0 23 4))) ++ [47]) ++ dg (mj_cl (M 0 2 2))) ++ sw 19) ++ dg (mj_cl (M 0 17 7))) ++ sw 20) ++ sw ((f_X10_machineWord (M 0 17 11)))).length)) 9 720) _ 93 [some (mj_r (0, 17)), some (mj_o (some aS))] [mj_o (some aS)] M
    refine mj_pop (mx_D C hmc hms rfl rfl) dX8_tellSelf_93 ?_
    rw [← hQ]
    refine mx_vret C hT (Nat.le_of_ble_eq_true rfl) (Nat.le_of_ble_eq_true rfl) dX8_tellSelf_94 ⟨rfl, ?_⟩
    unfold tt_snd tt_sn0 tt_n
    rw [if_neg c1]
    exact ⟨_, _, _, hI9, rfl⟩
set_option maxHeartbeats 8000000 in
set_option maxRecDepth 20000 in
theorem T_rcv {cI : mj_I} {G : mj_G} {M : mj_M} {aS aV cap : Nat} {f : Nat → Int32} {ml : Int32} (hB : mj_isL G 0) (ho : tt_ok (M 0)) (hI : txJ [] cap f) : mx_SemM cI G M (fun _ => True) yX6_tellSelf cX6_tellSelf 2 none 6 4 320 [mj_r (0, 9), mj_o (some aS)] (tx cI aS aV cap f ml 0) (fun r Y' => r = none ∧ txY cI aS ml (tt_rcv (M 0)) Y') := by
  refine mx_introM (by decide) (Nat.le_of_ble_eq_true rfl) ?_
  intro κ C hcI hG hpa hR hmc hms hT
  subst hcI
  subst hG
  have C : mj_C κ cX6_tellSelf 2 RX6 := C
  have hPost : ∃ Q : State → Prop, mx_F κ M 4 320 (fun r Y' => r = none ∧ txY (mj_cI κ) aS ml (tt_rcv (M 0)) Y') = Q := ⟨_, rfl⟩
  show mj_R (mj_ky κ (tx (mj_cI κ) aS aV cap f ml 0) 0 0) (mx_F κ M 4 320 _) 0 [some (mj_r (0, 9)), some (mj_o (some aS))] [] M
  obtain ⟨Q, hQ⟩ := hPost
  rw [hQ]
  obtain ⟨-, -, -, -, ho1⟩ := ho
  have hm1 := rw_le (M 0)
  have hm2 := sw_le hm1
  have hn1 := tt_n_le (M 0 9 2)
  unfold tt_n at hn1
  refine mx_aload_n (mx_D C hmc hms rfl rfl) dX6_tellSelf_0 rfl ?_
  refine mj_aload_n (mx_D C hmc hms rfl rfl) dX6_tellSelf_1 rfl ?_
  refine mj_tget (mx_D C hmc hms rfl rfl) lF_X6_15 (sL9 hB) rfl dX6_tellSelf_2 ?_
  refine (fun (K : mj_R (mj_ky κ (tx (mj_cI κ) aS aV cap f ml 0) 0 0) Q 27 [some (mj_r (0, 9)), some (mj_o (some aS))] [mj_r (98, tt_rw (M 0)), mj_o (some aS)] M) => ?_) ?_
  · refine mj_if_eq (tgt := 13) (mx_D C hmc hms rfl rfl) dX6_tellSelf_5 (by decide) (fun c1 => ?_) (fun c1 => ?_)
    · refine mj_aload_n (mx_D C hmc hms rfl rfl) dX6_tellSelf_13 rfl ?_
      refine mj_tget (mx_D C hmc hms rfl rfl) lF_X6_19 (sL9 hB) rfl dX6_tellSelf_14 ?_
      refine mj_if_eq (tgt := 25) (mx_D C hmc hms rfl rfl) dX6_tellSelf_17 (by decide) (fun c2 => ?_) (fun c2 => ?_)
      · refine mj_ldcS (i := 23) (mx_D C hmc hms rfl rfl) rfl dX6_tellSelf_25 ?_
        exact mj_Rc K (by unfold tt_rw; rw [if_pos c1, if_pos c2]) rfl
      · refine mj_ldcS (i := 22) (mx_D C hmc hms rfl rfl) rfl dX6_tellSelf_20 ?_
        refine mj_goto (tgt := 27) (mx_D C hmc hms rfl rfl) dX6_tellSelf_22 (by decide) ?_
        exact mj_Rc K (by unfold tt_rw; rw [if_pos c1, if_neg c2]) rfl
    · refine mj_ldcS (i := 21) (mx_D C hmc hms rfl rfl) rfl dX6_tellSelf_8 ?_
      refine mj_goto (tgt := 27) (mx_D C hmc hms rfl rfl) dX6_tellSelf_10 (by decide) ?_
      exact mj_Rc K (by unfold tt_rw; rw [if_neg c1]) rfl
  refine mx_callV4 (av := [mj_r (98, (tt_rw (M 0)))]) (Y0 := []) (kc := 0) C lM_X6_124 lV_J4_append_15ec4 rfl rfl (T4_appS (l := ([] : List Nat)) hI hm1 (by simp only [List.length_append, List.length_nil, List.length_cons]; omega)) rfl rfl (mx_fit hR hmc hms rfl rfl rfl rfl) rfl (Nat.le_of_ble_eq_true rfl) dX6_tellSelf_27 (fun r Y' hp => ?_)
  obtain ⟨rfl, aV1, cap1, f1, hI1, rfl⟩ := hp
  show mj_R (mj_ky κ (tx (mj_cI κ) aS aV1 cap1 f1 ml ((([] : List Nat) ++ sw ((tt_rw (M 0)))).length)) 1 80) _ 30 [some (mj_r (0, 9)), some (mj_o (some aS))] [mj_o (some aS)] M
  refine mj_pop (mx_D C hmc hms rfl rfl) dX6_tellSelf_30 ?_
  refine mx_aload_n (mx_D C hmc hms rfl rfl) dX6_tellSelf_31 rfl ?_
  refine mj_bipush (v := 32) (mx_D C hmc hms rfl rfl) dX6_tellSelf_32 (by decide) ?_
  refine mj_nm (a := nI 32) (by decide) ?_
  refine mx_callV4 (av := [.inl (nI 32)]) (Y0 := []) (kc := 0) C lM_X6_130 lV_J4_append_cf468 rfl rfl (T4_appC (l := (([] : List Nat) ++ sw ((tt_rw (M 0))))) hI1 (by simp only [List.length_append, List.length_nil, List.length_cons]; omega) (by decide)) rfl rfl (mx_fit hR hmc hms rfl rfl rfl rfl) rfl (Nat.le_of_ble_eq_true rfl) dX6_tellSelf_34 (fun r Y' hp => ?_)
  obtain ⟨rfl, aV2, cap2, f2, hI2, rfl⟩ := hp
  show mj_R (mj_ky κ (tx (mj_cI κ) aS aV2 cap2 f2 ml (((([] : List Nat) ++ sw ((tt_rw (M 0)))) ++ [32]).length)) 2 160) _ 37 [some (mj_r (0, 9)), some (mj_o (some aS))] [mj_o (some aS)] M
  refine mj_pop (mx_D C hmc hms rfl rfl) dX6_tellSelf_37 ?_
  refine mx_aload_n (mx_D C hmc hms rfl rfl) dX6_tellSelf_38 rfl ?_
  refine mj_aload_n (mx_D C hmc hms rfl rfl) dX6_tellSelf_39 rfl ?_
  refine mj_tget (mx_D C hmc hms rfl rfl) lF_X6_9 (sL9 hB) rfl dX6_tellSelf_40 ?_
  refine mj_nm (a := nI (mj_cl (M 0 9 2))) (tx_n0 ho1.1 ho1.2).1 ?_
  refine mx_callV4 (av := [.inl (nI (mj_cl (M 0 9 2)))]) (Y0 := []) (kc := 0) C lM_X6_133 lV_J4_append_bf812 rfl rfl (T4_appI (l := ((([] : List Nat) ++ sw ((tt_rw (M 0)))) ++ [32])) hI2 (by simp only [List.length_append, List.length_nil, List.length_cons]; omega) (tx_n0 ho1.1 ho1.2).2) rfl rfl (mx_fit hR hmc hms rfl rfl rfl rfl) rfl (Nat.le_of_ble_eq_true rfl) dX6_tellSelf_43 (fun r Y' hp => ?_)
  obtain ⟨rfl, aV3, cap3, f3, hI3, rfl⟩ := hp
  show mj_R (mj_ky κ (tx (mj_cI κ) aS aV3 cap3 f3 ml ((((([] : List Nat) ++ sw ((tt_rw (M 0)))) ++ [32]) ++ dg (mj_cl (M 0 9 2))).length)) 3 240) _ 46 [some (mj_r (0, 9)), some (mj_o (some aS))] [mj_o (some aS)] M
  refine mj_pop (mx_D C hmc hms rfl rfl) dX6_tellSelf_46 ?_
  refine mj_aload_n (mx_D C hmc hms rfl rfl) dX6_tellSelf_47 rfl ?_
  refine mj_tget (mx_D C hmc hms rfl rfl) lF_X6_22 (sL9 hB) rfl dX6_tellSelf_48 ?_
  refine mj_if_eq (tgt := 61) (mx_D C hmc hms rfl rfl) dX6_tellSelf_51 (by decide) (fun c1 => ?_) (fun c1 => ?_)
  · rw [← hQ]
    refine mx_vret C hT (Nat.le_of_ble_eq_true rfl) (Nat.le_of_ble_eq_true rfl) dX6_tellSelf_61 ⟨rfl, ?_⟩
    unfold tt_rcv tt_rc0 tt_n
    rw [if_pos c1]
    exact ⟨_, _, _, hI3, rfl⟩
  · refine mx_aload_n (mx_D C hmc hms rfl rfl) dX6_tellSelf_54 rfl ?_
    refine mj_bipush (v := 82) (mx_D C hmc hms rfl rfl) dX6_tellSelf_55 (by decide) ?_
    refine mj_nm (a := nI 82) (by decide) ?_
    refine mx_callV4 (av := [.inl (nI 82)]) (Y0 := []) (kc := 0) C lM_X6_130 lV_J4_append_cf468 rfl rfl (T4_appC (l := (((([] : List Nat) ++ sw ((tt_rw (M 0)))) ++ [32]) ++ dg (mj_cl (M 0 9 2)))) hI3 (by simp only [List.length_append, List.length_nil, List.length_cons]; omega) (by decide)) rfl rfl (mx_fit hR hmc hms rfl rfl rfl rfl) rfl (Nat.le_of_ble_eq_true rfl) dX6_tellSelf_57 (fun r Y' hp => ?_)
    obtain ⟨rfl, aV4, cap4, f4, hI4, rfl⟩ := hp
    show mj_R (mj_ky κ (tx (mj_cI κ) aS aV4 cap4 f4 ml (((((([] : List Nat) ++ sw ((tt_rw (M 0)))) ++ [32]) ++ dg (mj_cl (M 0 9 2))) ++ [82]).length)) 4 320) _ 60 [some (mj_r (0, 9)), some (mj_o (some aS))] [mj_o (some aS)] M
    refine mj_pop (mx_D C hmc hms rfl rfl) dX6_tellSelf_60 ?_
    rw [← hQ]
    refine mx_vret C hT (Nat.le_of_ble_eq_true rfl) (Nat.le_of_ble_eq_true rfl) dX6_tellSelf_61 ⟨rfl, ?_⟩
    unfold tt_rcv tt_rc0 tt_n
    rw [if_neg c1]
    exact ⟨_, _, _, hI4, rfl⟩
