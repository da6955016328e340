theorem dX10_machineWord_0 : decode cX10_machineWord 0 = .ok (.iload_n 0, 1) := by decide +kernel
theorem dX10_machineWord_1 : decode cX10_machineWord 1 = .ok (.tableswitch 55 1 5 #[35, 39, 43, 47, 51], 35) := by decide +kernel
theorem dX10_machineWord_36 : decode cX10_machineWord 36 = .ok (.ldc_w 385, 3) := by decide +kernel
theorem dX10_machineWord_39 : decode cX10_machineWord 39 = .ok (.areturn, 1) := by decide +kernel
theorem dX10_machineWord_40 : decode cX10_machineWord 40 = .ok (.ldc_w 387, 3) := by decide +kernel
theorem dX10_machineWord_43 : decode cX10_machineWord 43 = .ok (.areturn, 1) := by decide +kernel
theorem dX10_machineWord_44 : decode cX10_machineWord 44 = .ok (.ldc_w 389, 3) := by decide +kernel
theorem dX10_machineWord_47 : decode cX10_machineWord 47 = .ok (.areturn, 1) := by decide +kernel
theorem dX10_machineWord_48 : decode cX10_machineWord 48 = .ok (.ldc_w 391, 3) := by decide +kernel
theorem dX10_machineWord_51 : decode cX10_machineWord 51 = .ok (.areturn, 1) := by decide +kernel
theorem dX10_machineWord_52 : decode cX10_machineWord 52 = .ok (.ldc_w 393, 3) := by decide +kernel
theorem dX10_machineWord_55 : decode cX10_machineWord 55 = .ok (.areturn, 1) := by decide +kernel
theorem dX10_machineWord_56 : decode cX10_machineWord 56 = .ok (.ldc_w 395, 3) := by decide +kernel
theorem dX10_machineWord_59 : decode cX10_machineWord 59 = .ok (.areturn, 1) := by decide +kernel
theorem dX10_alarmWord_0 : decode cX10_alarmWord 0 = .ok (.iload_n 0, 1) := by decide +kernel
theorem dX10_alarmWord_1 : decode cX10_alarmWord 1 = .ok (.tableswitch 63 1 6 #[39, 43, 47, 51, 55, 59], 39) := by decide +kernel
theorem dX10_alarmWord_40 : decode cX10_alarmWord 40 = .ok (.ldc_w 397, 3) := by decide +kernel
theorem dX10_alarmWord_43 : decode cX10_alarmWord 43 = .ok (.areturn, 1) := by decide +kernel
theorem dX10_alarmWord_44 : decode cX10_alarmWord 44 = .ok (.ldc_w 399, 3) := by decide +kernel
theorem dX10_alarmWord_47 : decode cX10_alarmWord 47 = .ok (.areturn, 1) := by decide +kernel
theorem dX10_alarmWord_48 : decode cX10_alarmWord 48 = .ok (.ldc_w 401, 3) := by decide +kernel
theorem dX10_alarmWord_51 : decode cX10_alarmWord 51 = .ok (.areturn, 1) := by decide +kernel
theorem dX10_alarmWord_52 : decode cX10_alarmWord 52 = .ok (.ldc_w 403, 3) := by decide +kernel
theorem dX10_alarmWord_55 : decode cX10_alarmWord 55 = .ok (.areturn, 1) := by decide +kernel
theorem dX10_alarmWord_56 : decode cX10_alarmWord 56 = .ok (.ldc_w 405, 3) := by decide +kernel
theorem dX10_alarmWord_59 : decode cX10_alarmWord 59 = .ok (.areturn, 1) := by decide +kernel
theorem dX10_alarmWord_60 : decode cX10_alarmWord 60 = .ok (.ldc_w 407, 3) := by decide +kernel
theorem dX10_alarmWord_63 : decode cX10_alarmWord 63 = .ok (.areturn, 1) := by decide +kernel
theorem dX10_alarmWord_64 : decode cX10_alarmWord 64 = .ok (.ldc_w 409, 3) := by decide +kernel
theorem dX10_alarmWord_67 : decode cX10_alarmWord 67 = .ok (.areturn, 1) := by decide +kernel
theorem dX8_tellReport_0 : decode cX8_tellReport 0 = .ok (.aload_n 0, 1) := by decide +kernel
theorem dX8_tellReport_1 : decode cX8_tellReport 1 = .ok (.getfield 50, 3) := by decide +kernel
theorem dX8_tellReport_4 : decode cX8_tellReport 4 = .ok (.iconst (-1), 1) := by decide +kernel
theorem dX8_tellReport_5 : decode cX8_tellReport 5 = .ok (.if_icmp .ne 4, 3) := by decide +kernel
theorem dX8_tellReport_8 : decode cX8_tellReport 8 = .ok (.return_, 1) := by decide +kernel
theorem dX8_tellReport_9 : decode cX8_tellReport 9 = .ok (.aload_n 0, 1) := by decide +kernel
theorem dX8_tellReport_10 : decode cX8_tellReport 10 = .ok (.getfield 50, 3) := by decide +kernel
theorem dX8_tellReport_13 : decode cX8_tellReport 13 = .ok (.bipush (-2), 2) := by decide +kernel
theorem dX8_tellReport_15 : decode cX8_tellReport 15 = .ok (.if_icmp .ne 11, 3) := by decide +kernel
theorem dX8_tellReport_18 : decode cX8_tellReport 18 = .ok (.aload_n 1, 1) := by decide +kernel
theorem dX8_tellReport_19 : decode cX8_tellReport 19 = .ok (.bipush 63, 2) := by decide +kernel
theorem dX8_tellReport_21 : decode cX8_tellReport 21 = .ok (.invokevirtual 191, 3) := by decide +kernel
theorem dX8_tellReport_24 : decode cX8_tellReport 24 = .ok (.pop, 1) := by decide +kernel
theorem dX8_tellReport_25 : decode cX8_tellReport 25 = .ok (.return_, 1) := by decide +kernel
theorem dX8_tellReport_26 : decode cX8_tellReport 26 = .ok (.aload_n 0, 1) := by decide +kernel
theorem dX8_tellReport_27 : decode cX8_tellReport 27 = .ok (.getfield 50, 3) := by decide +kernel
theorem dX8_tellReport_30 : decode cX8_tellReport 30 = .ok (.bipush 8, 2) := by decide +kernel
theorem dX8_tellReport_32 : decode cX8_tellReport 32 = .ok (.iushr, 1) := by decide +kernel
theorem dX8_tellReport_33 : decode cX8_tellReport 33 = .ok (.istore_n 2, 1) := by decide +kernel
theorem dX8_tellReport_34 : decode cX8_tellReport 34 = .ok (.aload_n 1, 1) := by decide +kernel
theorem dX8_tellReport_35 : decode cX8_tellReport 35 = .ok (.iload_n 2, 1) := by decide +kernel
theorem dX8_tellReport_36 : decode cX8_tellReport 36 = .ok (.iconst 1, 1) := by decide +kernel
theorem dX8_tellReport_37 : decode cX8_tellReport 37 = .ok (.iand, 1) := by decide +kernel
theorem dX8_tellReport_38 : decode cX8_tellReport 38 = .ok (.ifCond .eq 8, 3) := by decide +kernel
theorem dX8_tellReport_41 : decode cX8_tellReport 41 = .ok (.bipush 76, 2) := by decide +kernel
theorem dX8_tellReport_43 : decode cX8_tellReport 43 = .ok (.goto 5, 3) := by decide +kernel
theorem dX8_tellReport_46 : decode cX8_tellReport 46 = .ok (.bipush 45, 2) := by decide +kernel
theorem dX8_tellReport_48 : decode cX8_tellReport 48 = .ok (.invokevirtual 191, 3) := by decide +kernel
theorem dX8_tellReport_51 : decode cX8_tellReport 51 = .ok (.pop, 1) := by decide +kernel
theorem dX8_tellReport_52 : decode cX8_tellReport 52 = .ok (.aload_n 1, 1) := by decide +kernel
theorem dX8_tellReport_53 : decode cX8_tellReport 53 = .ok (.iload_n 2, 1) := by decide +kernel
theorem dX8_tellReport_54 : decode cX8_tellReport 54 = .ok (.iconst 2, 1) := by decide +kernel
theorem dX8_tellReport_55 : decode cX8_tellReport 55 = .ok (.iand, 1) := by decide +kernel
theorem dX8_tellReport_56 : decode cX8_tellReport 56 = .ok (.ifCond .eq 8, 3) := by decide +kernel
theorem dX8_tellReport_59 : decode cX8_tellReport 59 = .ok (.bipush 87, 2) := by decide +kernel
theorem dX8_tellReport_61 : decode cX8_tellReport 61 = .ok (.goto 5, 3) := by decide +kernel
theorem dX8_tellReport_64 : decode cX8_tellReport 64 = .ok (.bipush 45, 2) := by decide +kernel
theorem dX8_tellReport_66 : decode cX8_tellReport 66 = .ok (.invokevirtual 191, 3) := by decide +kernel
theorem dX8_tellReport_69 : decode cX8_tellReport 69 = .ok (.pop, 1) := by decide +kernel
theorem dX8_tellReport_70 : decode cX8_tellReport 70 = .ok (.aload_n 1, 1) := by decide +kernel
theorem dX8_tellReport_71 : decode cX8_tellReport 71 = .ok (.iload_n 2, 1) := by decide +kernel
theorem dX8_tellReport_72 : decode cX8_tellReport 72 = .ok (.iconst 4, 1) := by decide +kernel
theorem dX8_tellReport_73 : decode cX8_tellReport 73 = .ok (.iand, 1) := by decide +kernel
theorem dX8_tellReport_74 : decode cX8_tellReport 74 = .ok (.ifCond .eq 8, 3) := by decide +kernel
theorem dX8_tellReport_77 : decode cX8_tellReport 77 = .ok (.bipush 82, 2) := by decide +kernel
theorem dX8_tellReport_79 : decode cX8_tellReport 79 = .ok (.goto 5, 3) := by decide +kernel
theorem dX8_tellReport_82 : decode cX8_tellReport 82 = .ok (.bipush 45, 2) := by decide +kernel
theorem dX8_tellReport_84 : decode cX8_tellReport 84 = .ok (.invokevirtual 191, 3) := by decide +kernel
theorem dX8_tellReport_87 : decode cX8_tellReport 87 = .ok (.pop, 1) := by decide +kernel
theorem dX8_tellReport_88 : decode cX8_tellReport 88 = .ok (.aload_n 1, 1) := by decide +kernel
theorem dX8_tellReport_89 : decode cX8_tellReport 89 = .ok (.iload_n 2, 1) := by decide +kernel
theorem dX8_tellReport_90 : decode cX8_tellReport 90 = .ok (.iconst 3, 1) := by decide +kernel
theorem dX8_tellReport_91 : decode cX8_tellReport 91 = .ok (.iushr, 1) := by decide +kernel
theorem dX8_tellReport_92 : decode cX8_tellReport 92 = .ok (.invokevirtual 197, 3) := by decide +kernel
theorem dX8_tellReport_95 : decode cX8_tellReport 95 = .ok (.pop, 1) := by decide +kernel
theorem dX8_tellReport_96 : decode cX8_tellReport 96 = .ok (.aload_n 1, 1) := by decide +kernel
theorem dX8_tellReport_97 : decode cX8_tellReport 97 = .ok (.bipush 32, 2) := by decide +kernel
theorem dX8_tellReport_99 : decode cX8_tellReport 99 = .ok (.invokevirtual 191, 3) := by decide +kernel
theorem dX8_tellReport_102 : decode cX8_tellReport 102 = .ok (.pop, 1) := by decide +kernel
theorem dX8_tellReport_103 : decode cX8_tellReport 103 = .ok (.aload_n 1, 1) := by decide +kernel
theorem dX8_tellReport_104 : decode cX8_tellReport 104 = .ok (.aload_n 0, 1) := by decide +kernel
theorem dX8_tellReport_105 : decode cX8_tellReport 105 = .ok (.getfield 50, 3) := by decide +kernel
theorem dX8_tellReport_108 : decode cX8_tellReport 108 = .ok (.sipush 255, 3) := by decide +kernel
theorem dX8_tellReport_111 : decode cX8_tellReport 111 = .ok (.iand, 1) := by decide +kernel
theorem dX8_tellReport_112 : decode cX8_tellReport 112 = .ok (.invokevirtual 197, 3) := by decide +kernel
theorem dX8_tellReport_115 : decode cX8_tellReport 115 = .ok (.pop, 1) := by decide +kernel
theorem dX8_tellReport_116 : decode cX8_tellReport 116 = .ok (.return_, 1) := by decide +kernel
theorem dX8_tellSelf_0 : decode cX8_tellSelf 0 = .ok (.aload_n 1, 1) := by decide +kernel
theorem dX8_tellSelf_1 : decode cX8_tellSelf 1 = .ok (.aload_n 0, 1) := by decide +kernel
theorem dX8_tellSelf_2 : decode cX8_tellSelf 2 = .ok (.getfield 24, 3) := by decide +kernel
theorem dX8_tellSelf_5 : decode cX8_tellSelf 5 = .ok (.invokestatic 200, 3) := by decide +kernel
theorem dX8_tellSelf_8 : decode cX8_tellSelf 8 = .ok (.invokevirtual 204, 3) := by decide +kernel
theorem dX8_tellSelf_11 : decode cX8_tellSelf 11 = .ok (.pop, 1) := by decide +kernel
theorem dX8_tellSelf_12 : decode cX8_tellSelf 12 = .ok (.aload_n 1, 1) := by decide +kernel
theorem dX8_tellSelf_13 : decode cX8_tellSelf 13 = .ok (.bipush 32, 2) := by decide +kernel
theorem dX8_tellSelf_15 : decode cX8_tellSelf 15 = .ok (.invokevirtual 191, 3) := by decide +kernel
theorem dX8_tellSelf_18 : decode cX8_tellSelf 18 = .ok (.pop, 1) := by decide +kernel
theorem dX8_tellSelf_19 : decode cX8_tellSelf 19 = .ok (.aload_n 1, 1) := by decide +kernel
theorem dX8_tellSelf_20 : decode cX8_tellSelf 20 = .ok (.aload_n 0, 1) := by decide +kernel
theorem dX8_tellSelf_21 : decode cX8_tellSelf 21 = .ok (.getfield 18, 3) := by decide +kernel
theorem dX8_tellSelf_24 : decode cX8_tellSelf 24 = .ok (.getfield 72, 3) := by decide +kernel
theorem dX8_tellSelf_27 : decode cX8_tellSelf 27 = .ok (.invokevirtual 197, 3) := by decide +kernel
theorem dX8_tellSelf_30 : decode cX8_tellSelf 30 = .ok (.pop, 1) := by decide +kernel
theorem dX8_tellSelf_31 : decode cX8_tellSelf 31 = .ok (.aload_n 1, 1) := by decide +kernel
theorem dX8_tellSelf_32 : decode cX8_tellSelf 32 = .ok (.bipush 47, 2) := by decide +kernel
theorem dX8_tellSelf_34 : decode cX8_tellSelf 34 = .ok (.invokevirtual 191, 3) := by decide +kernel
theorem dX8_tellSelf_37 : decode cX8_tellSelf 37 = .ok (.pop, 1) := by decide +kernel
theorem dX8_tellSelf_38 : decode cX8_tellSelf 38 = .ok (.aload_n 1, 1) := by decide +kernel
theorem dX8_tellSelf_39 : decode cX8_tellSelf 39 = .ok (.aload_n 0, 1) := by decide +kernel
theorem dX8_tellSelf_40 : decode cX8_tellSelf 40 = .ok (.getfield 56, 3) := by decide +kernel
theorem dX8_tellSelf_43 : decode cX8_tellSelf 43 = .ok (.getfield 96, 3) := by decide +kernel
theorem dX8_tellSelf_46 : decode cX8_tellSelf 46 = .ok (.iconst 2, 1) := by decide +kernel
theorem dX8_tellSelf_47 : decode cX8_tellSelf 47 = .ok (.iaload, 1) := by decide +kernel
theorem dX8_tellSelf_48 : decode cX8_tellSelf 48 = .ok (.invokevirtual 197, 3) := by decide +kernel
theorem dX8_tellSelf_51 : decode cX8_tellSelf 51 = .ok (.pop, 1) := by decide +kernel
theorem dX8_tellSelf_52 : decode cX8_tellSelf 52 = .ok (.aload_n 1, 1) := by decide +kernel
theorem dX8_tellSelf_53 : decode cX8_tellSelf 53 = .ok (.ldc 207, 2) := by decide +kernel
theorem dX8_tellSelf_55 : decode cX8_tellSelf 55 = .ok (.invokevirtual 204, 3) := by decide +kernel
theorem dX8_tellSelf_58 : decode cX8_tellSelf 58 = .ok (.pop, 1) := by decide +kernel
theorem dX8_tellSelf_59 : decode cX8_tellSelf 59 = .ok (.aload_n 1, 1) := by decide +kernel
theorem dX8_tellSelf_60 : decode cX8_tellSelf 60 = .ok (.aload_n 0, 1) := by decide +kernel
theorem dX8_tellSelf_61 : decode cX8_tellSelf 61 = .ok (.getfield 28, 3) := by decide +kernel
theorem dX8_tellSelf_64 : decode cX8_tellSelf 64 = .ok (.invokevirtual 197, 3) := by decide +kernel
theorem dX8_tellSelf_67 : decode cX8_tellSelf 67 = .ok (.pop, 1) := by decide +kernel
theorem dX8_tellSelf_68 : decode cX8_tellSelf 68 = .ok (.aload_n 0, 1) := by decide +kernel
theorem dX8_tellSelf_69 : decode cX8_tellSelf 69 = .ok (.getfield 40, 3) := by decide +kernel
theorem dX8_tellSelf_72 : decode cX8_tellSelf 72 = .ok (.ifCond .eq 22, 3) := by decide +kernel
theorem dX8_tellSelf_75 : decode cX8_tellSelf 75 = .ok (.aload_n 1, 1) := by decide +kernel
theorem dX8_tellSelf_76 : decode cX8_tellSelf 76 = .ok (.ldc 209, 2) := by decide +kernel
theorem dX8_tellSelf_78 : decode cX8_tellSelf 78 = .ok (.invokevirtual 204, 3) := by decide +kernel
theorem dX8_tellSelf_81 : decode cX8_tellSelf 81 = .ok (.pop, 1) := by decide +kernel
theorem dX8_tellSelf_82 : decode cX8_tellSelf 82 = .ok (.aload_n 1, 1) := by decide +kernel
theorem dX8_tellSelf_83 : decode cX8_tellSelf 83 = .ok (.aload_n 0, 1) := by decide +kernel
theorem dX8_tellSelf_84 : decode cX8_tellSelf 84 = .ok (.getfield 40, 3) := by decide +kernel
theorem dX8_tellSelf_87 : decode cX8_tellSelf 87 = .ok (.invokestatic 200, 3) := by decide +kernel
theorem dX8_tellSelf_90 : decode cX8_tellSelf 90 = .ok (.invokevirtual 204, 3) := by decide +kernel
theorem dX8_tellSelf_93 : decode cX8_tellSelf 93 = .ok (.pop, 1) := by decide +kernel
theorem dX8_tellSelf_94 : decode cX8_tellSelf 94 = .ok (.return_, 1) := by decide +kernel
theorem dX6_tellSelf_0 : decode cX6_tellSelf 0 = .ok (.aload_n 1, 1) := by decide +kernel
theorem dX6_tellSelf_1 : decode cX6_tellSelf 1 = .ok (.aload_n 0, 1) := by decide +kernel
theorem dX6_tellSelf_2 : decode cX6_tellSelf 2 = .ok (.getfield 15, 3) := by decide +kernel
theorem dX6_tellSelf_5 : decode cX6_tellSelf 5 = .ok (.ifCond .eq 8, 3) := by decide +kernel
theorem dX6_tellSelf_8 : decode cX6_tellSelf 8 = .ok (.ldc 118, 2) := by decide +kernel
theorem dX6_tellSelf_10 : decode cX6_tellSelf 10 = .ok (.goto 17, 3) := by decide +kernel
theorem dX6_tellSelf_13 : decode cX6_tellSelf 13 = .ok (.aload_n 0, 1) := by decide +kernel
theorem dX6_tellSelf_14 : decode cX6_tellSelf 14 = .ok (.getfield 19, 3) := by decide +kernel
theorem dX6_tellSelf_17 : decode cX6_tellSelf 17 = .ok (.ifCond .eq 8, 3) := by decide +kernel
theorem dX6_tellSelf_20 : decode cX6_tellSelf 20 = .ok (.ldc 120, 2) := by decide +kernel
theorem dX6_tellSelf_22 : decode cX6_tellSelf 22 = .ok (.goto 5, 3) := by decide +kernel
theorem dX6_tellSelf_25 : decode cX6_tellSelf 25 = .ok (.ldc 122, 2) := by decide +kernel
theorem dX6_tellSelf_27 : decode cX6_tellSelf 27 = .ok (.invokevirtual 124, 3) := by decide +kernel
theorem dX6_tellSelf_30 : decode cX6_tellSelf 30 = .ok (.pop, 1) := by decide +kernel
theorem dX6_tellSelf_31 : decode cX6_tellSelf 31 = .ok (.aload_n 1, 1) := by decide +kernel
theorem dX6_tellSelf_32 : decode cX6_tellSelf 32 = .ok (.bipush 32, 2) := by decide +kernel
theorem dX6_tellSelf_34 : decode cX6_tellSelf 34 = .ok (.invokevirtual 130, 3) := by decide +kernel
theorem dX6_tellSelf_37 : decode cX6_tellSelf 37 = .ok (.pop, 1) := by decide +kernel
theorem dX6_tellSelf_38 : decode cX6_tellSelf 38 = .ok (.aload_n 1, 1) := by decide +kernel
theorem dX6_tellSelf_39 : decode cX6_tellSelf 39 = .ok (.aload_n 0, 1) := by decide +kernel
theorem dX6_tellSelf_40 : decode cX6_tellSelf 40 = .ok (.getfield 9, 3) := by decide +kernel
theorem dX6_tellSelf_43 : decode cX6_tellSelf 43 = .ok (.invokevirtual 133, 3) := by decide +kernel
theorem dX6_tellSelf_46 : decode cX6_tellSelf 46 = .ok (.pop, 1) := by decide +kernel
theorem dX6_tellSelf_47 : decode cX6_tellSelf 47 = .ok (.aload_n 0, 1) := by decide +kernel
theorem dX6_tellSelf_48 : decode cX6_tellSelf 48 = .ok (.getfield 22, 3) := by decide +kernel
theorem dX6_tellSelf_51 : decode cX6_tellSelf 51 = .ok (.ifCond .eq 10, 3) := by decide +kernel
theorem dX6_tellSelf_54 : decode cX6_tellSelf 54 = .ok (.aload_n 1, 1) := by decide +kernel
theorem dX6_tellSelf_55 : decode cX6_tellSelf 55 = .ok (.bipush 82, 2) := by decide +kernel
theorem dX6_tellSelf_57 : decode cX6_tellSelf 57 = .ok (.invokevirtual 130, 3) := by decide +kernel
theorem dX6_tellSelf_60 : decode cX6_tellSelf 60 = .ok (.pop, 1) := by decide +kernel
theorem dX6_tellSelf_61 : decode cX6_tellSelf 61 = .ok (.return_, 1) := by decide +kernel
theorem dX10_told_0 : decode cX10_told 0 = .ok (.aload_n 0, 1) := by decide +kernel
theorem dX10_told_1 : decode cX10_told 1 = .ok (.getfield 36, 3) := by decide +kernel
theorem dX10_told_4 : decode cX10_told 4 = .ok (.iconst 0, 1) := by decide +kernel
theorem dX10_told_5 : decode cX10_told 5 = .ok (.invokevirtual 260, 3) := by decide +kernel
theorem dX10_told_8 : decode cX10_told 8 = .ok (.iload_n 1, 1) := by decide +kernel
theorem dX10_told_9 : decode cX10_told 9 = .ok (.tableswitch 106 0 3 #[31, 48, 65, 82], 31) := by decide +kernel
theorem dX10_told_40 : decode cX10_told 40 = .ok (.aload_n 0, 1) := by decide +kernel
theorem dX10_told_41 : decode cX10_told 41 = .ok (.getfield 12, 3) := by decide +kernel
theorem dX10_told_44 : decode cX10_told 44 = .ok (.getfield 54, 3) := by decide +kernel
theorem dX10_told_47 : decode cX10_told 47 = .ok (.aload_n 0, 1) := by decide +kernel
theorem dX10_told_48 : decode cX10_told 48 = .ok (.getfield 36, 3) := by decide +kernel
theorem dX10_told_51 : decode cX10_told 51 = .ok (.invokevirtual 263, 3) := by decide +kernel
theorem dX10_told_54 : decode cX10_told 54 = .ok (.goto 63, 3) := by decide +kernel
theorem dX10_told_57 : decode cX10_told 57 = .ok (.aload_n 0, 1) := by decide +kernel
theorem dX10_told_58 : decode cX10_told 58 = .ok (.getfield 12, 3) := by decide +kernel
theorem dX10_told_61 : decode cX10_told 61 = .ok (.getfield 54, 3) := by decide +kernel
theorem dX10_told_64 : decode cX10_told 64 = .ok (.aload_n 0, 1) := by decide +kernel
theorem dX10_told_65 : decode cX10_told 65 = .ok (.getfield 36, 3) := by decide +kernel
theorem dX10_told_68 : decode cX10_told 68 = .ok (.invokevirtual 267, 3) := by decide +kernel
theorem dX10_told_71 : decode cX10_told 71 = .ok (.goto 46, 3) := by decide +kernel
theorem dX10_told_74 : decode cX10_told 74 = .ok (.aload_n 0, 1) := by decide +kernel
theorem dX10_told_75 : decode cX10_told 75 = .ok (.getfield 12, 3) := by decide +kernel
theorem dX10_told_78 : decode cX10_told 78 = .ok (.getfield 81, 3) := by decide +kernel
theorem dX10_told_81 : decode cX10_told 81 = .ok (.aload_n 0, 1) := by decide +kernel
theorem dX10_told_82 : decode cX10_told 82 = .ok (.getfield 36, 3) := by decide +kernel
theorem dX10_told_85 : decode cX10_told 85 = .ok (.invokevirtual 270, 3) := by decide +kernel
theorem dX10_told_88 : decode cX10_told 88 = .ok (.goto 29, 3) := by decide +kernel
theorem dX10_told_91 : decode cX10_told 91 = .ok (.aload_n 0, 1) := by decide +kernel
theorem dX10_told_92 : decode cX10_told 92 = .ok (.getfield 36, 3) := by decide +kernel
theorem dX10_told_95 : decode cX10_told 95 = .ok (.aload_n 0, 1) := by decide +kernel
theorem dX10_told_96 : decode cX10_told 96 = .ok (.getfield 12, 3) := by decide +kernel
theorem dX10_told_99 : decode cX10_told 99 = .ok (.getfield 248, 3) := by decide +kernel
theorem dX10_told_102 : decode cX10_told 102 = .ok (.getfield 271, 3) := by decide +kernel
theorem dX10_told_105 : decode cX10_told 105 = .ok (.invokestatic 274, 3) := by decide +kernel
theorem dX10_told_108 : decode cX10_told 108 = .ok (.invokevirtual 278, 3) := by decide +kernel
theorem dX10_told_111 : decode cX10_told 111 = .ok (.pop, 1) := by decide +kernel
theorem dX10_told_112 : decode cX10_told 112 = .ok (.goto 5, 3) := by decide +kernel
theorem dX10_told_115 : decode cX10_told 115 = .ok (.iconst (-1), 1) := by decide +kernel
theorem dX10_told_116 : decode cX10_told 116 = .ok (.ireturn, 1) := by decide +kernel
theorem dX10_told_117 : decode cX10_told 117 = .ok (.iload_n 2, 1) := by decide +kernel
theorem dX10_told_118 : decode cX10_told 118 = .ok (.iconst (-1), 1) := by decide +kernel
theorem dX10_told_119 : decode cX10_told 119 = .ok (.if_icmp .ne 11, 3) := by decide +kernel
theorem dX10_told_122 : decode cX10_told 122 = .ok (.aload_n 0, 1) := by decide +kernel
theorem dX10_told_123 : decode cX10_told 123 = .ok (.getfield 36, 3) := by decide +kernel
theorem dX10_told_126 : decode cX10_told 126 = .ok (.invokevirtual 282, 3) := by decide +kernel
theorem dX10_told_129 : decode cX10_told 129 = .ok (.ireturn, 1) := by decide +kernel
theorem dX10_told_130 : decode cX10_told 130 = .ok (.iload_n 2, 1) := by decide +kernel
theorem dX10_told_131 : decode cX10_told 131 = .ok (.ifCond .lt 25, 3) := by decide +kernel
theorem dX10_told_134 : decode cX10_told 134 = .ok (.iload_n 2, 1) := by decide +kernel
theorem dX10_told_135 : decode cX10_told 135 = .ok (.aload_n 0, 1) := by decide +kernel
theorem dX10_told_136 : decode cX10_told 136 = .ok (.getfield 36, 3) := by decide +kernel
theorem dX10_told_139 : decode cX10_told 139 = .ok (.invokevirtual 282, 3) := by decide +kernel
theorem dX10_told_142 : decode cX10_told 142 = .ok (.if_icmp .ge 14, 3) := by decide +kernel
theorem dX10_told_145 : decode cX10_told 145 = .ok (.aload_n 0, 1) := by decide +kernel
theorem dX10_told_146 : decode cX10_told 146 = .ok (.getfield 36, 3) := by decide +kernel
theorem dX10_told_149 : decode cX10_told 149 = .ok (.iload_n 2, 1) := by decide +kernel
theorem dX10_told_150 : decode cX10_told 150 = .ok (.invokevirtual 285, 3) := by decide +kernel
theorem dX10_told_153 : decode cX10_told 153 = .ok (.goto 4, 3) := by decide +kernel
theorem dX10_told_156 : decode cX10_told 156 = .ok (.iconst (-1), 1) := by decide +kernel
theorem dX10_told_157 : decode cX10_told 157 = .ok (.ireturn, 1) := by decide +kernel
theorem mx_ldcW {p : Program} {l : Launch} {e : Env} {R : Room} {s : State} {m : MethodId} {args : Array Value} {below : List Frame} {meth : Method} {c : Code} {T : State} {locs : List Loc} {cells slots : Nat} (X : Stand p l e R s m args below meth c T locs cells slots) (hx : p.tables.exec = Jvm.exec) {own text : String} {index : Nat} {a : Addr} (hown : s.vm.findClass own = some m.cls) (h1 : (Cond.stringRef own index text).before args s = true) (h2 : (Term.string own index).eval args s none [] s = some (.ref a)) {g : JFrame} (hg : g.method = m) (hd : decode c.code g.pc = .ok (.ldc_w index, 3)) : ∀ target, Steps p.tables e below (T.setTop { g with pc := g.pc + 3, stack := .ref a :: g.stack }) target → Steps p.tables e below (T.setTop g) target := by
  obtain ⟨k, cf, i, a', q1, q2, q3, -, q4, q5⟩ := Cond.stringRef_spec hown h1
  cases h2.symm.trans q5
  obtain ⟨k', r1, r2⟩ := X.warmed.alike.2.2 _ _ q1
  have r3 : k'.resolved[index]? = some (some (.string a)) := by
    rcases X.warmed.entry q1 r1 index with h | ⟨h, -⟩
    · rw [h]
      exact q4
    · rw [q4] at h
      cases h
  intro target hrest
  subst hg
  jvm_step X.here [hx, hd, ldc_w.wp_string (e := e) (s := T) (f := g) X.here.top r1 (by rw [r2]; exact q2) q3 r3]
  exact hrest
section MT6
variable {κ : mj_K} {cc : ByteArray} {nL : Nat} {own : String} {Q : State → Prop} {pc : Nat} {L : List (Option mj_V)} {st : List mj_V} {M : mj_M} {Y : va_W} {ce sl k a : Nat}
theorem mj_ldcSw {idx i : Nat} {tx : String} {bs : List Int32} (C : mj_C κ cc nL own) (hi : mj_st[i]? = some (own, idx, tx, bs)) (hd : decode cc pc = .ok (.ldc_w idx, 3)) (k : mj_R κ Q (pc + 3) L (mj_r (98, i) :: st) M) : mj_R κ Q pc L st M := by
  obtain ⟨⟨p, l, e, R, s, m, args, below, meth, c⟩, D, cI, ad, G, X, A, ce, sl⟩ := κ
  obtain ⟨hx, hb, hml, hown, hts, hK, hA, hE, hlk, hcs⟩ := C
  intro H locs ls hP hD hS hl T hT X'
  have hZ := (hE.2.2.2.2.1 i _ hi).1
  obtain ⟨t, a1, b1⟩ := k H locs ls hP hD hS hl T hT X'
  exact ⟨t, mx_ldcW X' hx hown (text := tx) (a := ad (98, i)) hZ.1 hZ.2 (g := F0 m pc ls (st.map (mj_cv ad))) rfl (by rw [hb]; exact hd) t a1, b1⟩
def mj_ad (κ : mj_K) : Nat × Nat → Nat := κ.2.2.2.1
theorem mx_raw {q : Nat × Nat} (h : mj_ad κ q = a) (kk : mj_R κ Q pc L (mj_o (some a) :: st) M) : mj_R κ Q pc L (mj_r q :: st) M := by
  subst h
  obtain ⟨⟨p, l, e, R, s, m, args, below, meth, c⟩, D, cI, ad, G, X, A, ce, sl⟩ := κ
  intro H locs ls hP hD hS hl
  exact kk H locs ls hP hD hS hl
/-- a contract over the memory M, for the places of ad that pa speaks of -/
def mx_SemM (cI : mj_I) (G : mj_G) (M : mj_M) (pa : (Nat × Nat → Nat) → Prop) (y : MethodName) (cc : ByteArray) (nL : Nat) (ret : Option FieldType) (d mc ms : Nat) (av : List mj_V) (Y : va_W) (post : Option mj_V → va_W → Prop) : Prop :=
  ∀ (l : Launch) (D : va_G) (ad : Nat × Nat → Nat) (X : va_W) (sz : Nat), pa ad → Met l y (Cond.code y cc nL ret :: mj_T) (mx_rm d mc ms) (mx_Pc D cI ad G M X Y sz av) (mx_Qc D cI ad G M X (va_A (mj_w cI ad G M ++ (X ++ Y)) sz) post) mc ms (va_A (mj_w cI ad G M ++ (X ++ Y)) sz)
theorem mx_introM {cI : mj_I} {G : mj_G} {M : mj_M} {pa : (Nat × Nat → Nat) → Prop} {y : MethodName} {cc : ByteArray} {nL : Nat} {ret : Option FieldType} {d mc ms : Nat} {av : List mj_V} {Y : va_W} {post : Option mj_V → va_W → Prop} (hy : plainName y.cls = true) (hlen : av.length ≤ nL)
    (body : ∀ (κ : mj_K), mj_C κ cc nL y.cls → mj_cI κ = cI → mj_g κ = G → pa (mj_ad κ) → mj_dp κ d → (mj_room κ).cells = mc → (mj_room κ).slots = ms → mj_rt κ = ret → mj_R (mj_ky κ Y 0 0) (mx_F κ M mc ms post) 0 (av.map some ++ List.replicate (nL - av.length) none) [] M) : mx_SemM cI G M pa y cc nL ret d mc ms av Y post := by
  intro l D ad X sz hpa
  refine Met.ofW (cc := cc) (maxL := nL) (ret := ret) hy rfl ?_
  intro p e s m args below meth c s₁ B hml hv
  obtain ⟨rfl, rfl, hP, hK, hD0, hE⟩ := hv
  have hD := hD0.self (sz := s.heap.size)
  have hts := atoms_spec (ws := Cond.code y cc nL ret :: mj_T) B.pre
  have hown : s.vm.findClass y.cls = some m.cls := findClass_of_methodNamed B.named
  rw [lg_entry_eq]
  exact body ((p, l, e, mx_rm d mc ms, s, m, _, below, meth, c), (D, cI, ad, G, X, va_A (mj_w cI ad G M ++ (X ++ Y)) s.heap.size, 0, 0)) ⟨B.exec, B.bytes, hml, hown, fun w hw => hts w (List.mem_cons_of_mem _ hw), hK, fun q h => Or.inr h, hE, B.notSynchronized, Nat.zero_le _, Nat.zero_le _⟩ rfl rfl hpa ⟨rfl, rfl⟩ rfl rfl B.returns s.heap [] _ hP hD va_S.rf (mj_lh_entry av hlen)
theorem mx_callVM {y : MethodName} {cy : ByteArray} {nLy dy n idx mc ms ci : Nat} {ret : Option FieldType} {av : List mj_V} {Y0 Yc : va_W} {q : Nat × Nat} {t : List (Option (Nat × Nat))} {pa : (Nat × Nat → Nat) → Prop} {post : Option mj_V → va_W → Prop} (C : mj_C κ cc nL own) (hlink : Cond.methodLink own idx y ∈ mj_T) (Kl : mj_lkV y cy nLy ret n) (hq : mj_at (mj_g κ) q (.inr (ci, t))) (hC : ∃ z : vw_C, vwCl[ci]? = some z ∧ z.1 = y.cls) (hL : L.length = nL) (S : mx_SemM (mj_cI κ) (mj_g κ) M pa y cy nLy ret dy mc ms (mj_r q :: av) Yc post) (hpa : pa (mj_ad κ)) (hY : Y = Y0 ++ Yc) (hF : mx_fits κ dy nLy ce sl mc ms) (hn : av.length = n) (hst : st.length ≤ 8) (hd : decode cc pc = .ok (.invokevirtual idx, 3)) (kk : ∀ (r : Option mj_V) (Y' : va_W), post r Y' → mj_R (mj_ky κ (Y0 ++ Y') (ce + mc) (sl + ms)) Q (pc + 3) L (r.toList ++ st) M) : mj_R (mj_ky κ Y ce sl) Q pc L (av.reverse ++ mj_r q :: st) M := by
  subst hY
  obtain ⟨⟨p, l, e, R, s, m, args, below, meth, c⟩, D, cI, ad, G, X, A, ce0, sl0⟩ := κ
  obtain ⟨hx, hb, hml, hown, hts, hK, hA, hE, hlk, hcs⟩ := C
  intro H locs ls hP hD hS hl
  have hP : va_P D vwCl (mj_w cI ad G M ++ (X ++ (Y0 ++ Yc))) H := hP
  have hD : va_D A (mj_w cI ad G M ++ (X ++ (Y0 ++ Yc))) := hD
  obtain ⟨hq1, hq2⟩ := hq
  obtain ⟨i, hi⟩ := List.getElem?_of_mem hq1
  have hi : G.2[i]? = some q := hi
  have hq2 : G.1 q = .inr (ci, t) := hq2
  have he := mj_w_get (cI := cI) (ad := ad) (M := M) (X := X ++ (Y0 ++ Yc)) hi
  rw [hq2] at he
  obtain ⟨z, hz1, hz2⟩ := hC
  have hrc : ∃ cellB : Cell, H[ad q]? = some cellB ∧ cellB.vm.isStatics = false ∧ s.vm.findClass y.cls = some cellB.cls := by
    rw [← hz2]
    exact va_recv hK hP hz1 he
  rw [← List.append_assoc X] at hP hD
  have hAH : ∀ q : Nat, H.size ≤ q → A q := fun q h => hA q (Nat.le_trans hS.1 h)
  have hin := mj_A_in hD hAH
  have hM := S l D ad (X ++ Y0) H.size hpa
  refine mx_after (va_runV (As := av.map (mj_cv ad)) (rest := st.map (mj_cv ad)) ⟨hx, hb, hml, hown, hts⟩ hM ⟨callB_of n hts (mj_wsIn Kl.1) rfl rfl rfl (hts _ Kl.1.2.1) (hts _ hlink) Kl.1.2.2 hF.1, hts _ Kl.2.1, hts _ Kl.2.2⟩ ⟨mx_blind D cI ad G M (X ++ Y0) Yc H.size (mj_r q :: av), hrc, fun U hU hW => ⟨rfl, by rw [hU], by rw [hU]; exact hP, va_K.moved hW.alike hK, hD.weaken (fun _ _ _ _ => trivial), mj_E.go (by rw [hU]; exact hS) hW hin hE⟩⟩ rfl (by rw [List.length_map]; exact hn) (hl.1.trans hL) (by simp [mj_cv, mj_r]; try rfl) (by rw [mj_cats]; show 2 * 0 + _ ≤ 8; omega) hd hF.2) hS hin hin (fun r Y' H1 locs1 hp hP1 hD1 hS1 => ?_)
  rw [mj_tol]
  rw [List.append_assoc X] at hP1 hD1
  exact kk r Y' hp H1 locs1 ls hP1 hD1 hS1 hl
theorem mj_Rc {pc' : Nat} {st' : List mj_V} (h : mj_R κ Q pc L st M) (h1 : st = st') (h2 : pc = pc') : mj_R κ Q pc' L st' M := by
  subst h1
  subst h2
  exact h
end MT6

def f_X10_machineWord (a1 : Int32) : Nat := if a1 = 1 then (13) else if a1 = 2 then (14) else if a1 = 3 then (15) else if a1 = 4 then (16) else if a1 = 5 then (17) else (18)
set_option maxHeartbeats 4000000 in
set_option maxRecDepth 20000 in
theorem C_X10_machineWord {G : mj_G} {M : mj_M} {a1 : Int32} {x0 : Nat} (h : f_X10_machineWord a1 = x0) : mj_S1 yX10_machineWord cX10_machineWord 1 (some (.object "java/lang/String")) 0 G [.inl a1] M (some (mj_r (98, x0))) M := by
  refine mj_intro (by decide) (Nat.le_of_ble_eq_true rfl) ?_
  intro κ C hG hR hT
  subst hG
  have C : mj_C κ cX10_machineWord 1 RX10 := C
  show mj_R κ (mj_F κ (fun r M' => r = (some (mj_r (98, x0))) ∧ M' = M ∧ mj_bb (some (.object "java/lang/String")) (some (mj_r (98, x0))))) 0 [some (.inl a1)] [] M
  unfold f_X10_machineWord at h
  refine mj_iload_n C dX10_machineWord_0 rfl ?_
  by_cases c1 : a1 = 1
  · replace h := mj_if_t c1 h
    refine mj_tin (off := 35) (tgt := 36) C dX10_machineWord_1 (by rw [c1]; decide) (by rw [c1]; decide) (by rw [c1]; decide) (by decide) ?_
    refine mj_ldcSw (i := 13) C rfl dX10_machineWord_36 ?_
    cases h
    exact mj_aret C hT dX10_machineWord_39 ⟨rfl, rfl, fun h => by cases h⟩
  replace h := mj_if_f c1 h
  by_cases c2 : a1 = 2
  · replace h := mj_if_t c2 h
    refine mj_tin (off := 39) (tgt := 40) C dX10_machineWord_1 (by rw [c2]; decide) (by rw [c2]; decide) (by rw [c2]; decide) (by decide) ?_
    refine mj_ldcSw (i := 14) C rfl dX10_machineWord_40 ?_
    cases h
    exact mj_aret C hT dX10_machineWord_43 ⟨rfl, rfl, fun h => by cases h⟩
  replace h := mj_if_f c2 h
  by_cases c3 : a1 = 3
  · replace h := mj_if_t c3 h
    refine mj_tin (off := 43) (tgt := 44) C dX10_machineWord_1 (by rw [c3]; decide) (by rw [c3]; decide) (by rw [c3]; decide) (by decide) ?_
    refine mj_ldcSw (i := 15) C rfl dX10_machineWord_44 ?_
    cases h
    exact mj_aret C hT dX10_machineWord_47 ⟨rfl, rfl, fun h => by cases h⟩
  replace h := mj_if_f c3 h
  by_cases c4 : a1 = 4
  · replace h := mj_if_t c4 h
    refine mj_tin (off := 47) (tgt := 48) C dX10_machineWord_1 (by rw [c4]; decide) (by rw [c4]; decide) (by rw [c4]; decide) (by decide) ?_
    refine mj_ldcSw (i := 16) C rfl dX10_machineWord_48 ?_
    cases h
    exact mj_aret C hT dX10_machineWord_51 ⟨rfl, rfl, fun h => by cases h⟩
  replace h := mj_if_f c4 h
  by_cases c5 : a1 = 5
  · replace h := mj_if_t c5 h
    refine mj_tin (off := 51) (tgt := 52) C dX10_machineWord_1 (by rw [c5]; decide) (by rw [c5]; decide) (by rw [c5]; decide) (by decide) ?_
    refine mj_ldcSw (i := 17) C rfl dX10_machineWord_52 ?_
    cases h
    exact mj_aret C hT dX10_machineWord_55 ⟨rfl, rfl, fun h => by cases h⟩
  replace h := mj_if_f c5 h
  refine mj_tout (tgt := 56) C dX10_machineWord_1 (by have := mj_neL 1 (by decide) c1; have := mj_neL 2 (by decide) c2; have := mj_neL 3 (by decide) c3; have := mj_neL 4 (by decide) c4; have := mj_neL 5 (by decide) c5; omega) (by decide) ?_
  refine mj_ldcSw (i := 18) C rfl dX10_machineWord_56 ?_
  cases h
  exact mj_aret C hT dX10_machineWord_59 ⟨rfl, rfl, fun h => by cases h⟩
def f_X10_alarmWord (a1 : Int32) : Nat := if a1 = 1 then (24) else if a1 = 2 then (25) else if a1 = 3 then (26) else if a1 = 4 then (27) else if a1 = 5 then (28) else if a1 = 6 then (29) else (30)
set_option maxHeartbeats 4000000 in
set_option maxRecDepth 20000 in
theorem C_X10_alarmWord {G : mj_G} {M : mj_M} {a1 : Int32} {x0 : Nat} (h : f_X10_alarmWord a1 = x0) : mj_S1 yX10_alarmWord cX10_alarmWord 1 (some (.object "java/lang/String")) 0 G [.inl a1] M (some (mj_r (98, x0))) M := by
  refine mj_intro (by decide) (Nat.le_of_ble_eq_true rfl) ?_
  intro κ C hG hR hT
  subst hG
  have C : mj_C κ cX10_alarmWord 1 RX10 := C
  show mj_R κ (mj_F κ (fun r M' => r = (some (mj_r (98, x0))) ∧ M' = M ∧ mj_bb (some (.object "java/lang/String")) (some (mj_r (98, x0))))) 0 [some (.inl a1)] [] M
  unfold f_X10_alarmWord at h
  refine mj_iload_n C dX10_alarmWord_0 rfl ?_
  by_cases c1 : a1 = 1
  · replace h := mj_if_t c1 h
    refine mj_tin (off := 39) (tgt := 40) C dX10_alarmWord_1 (by rw [c1]; decide) (by rw [c1]; decide) (by rw [c1]; decide) (by decide) ?_
    refine mj_ldcSw (i := 24) C rfl dX10_alarmWord_40 ?_
    cases h
    exact mj_aret C hT dX10_alarmWord_43 ⟨rfl, rfl, fun h => by cases h⟩
  replace h := mj_if_f c1 h
  by_cases c2 : a1 = 2
  · replace h := mj_if_t c2 h
    refine mj_tin (off := 43) (tgt := 44) C dX10_alarmWord_1 (by rw [c2]; decide) (by rw [c2]; decide) (by rw [c2]; decide) (by decide) ?_
    refine mj_ldcSw (i := 25) C rfl dX10_alarmWord_44 ?_
    cases h
    exact mj_aret C hT dX10_alarmWord_47 ⟨rfl, rfl, fun h => by cases h⟩
  replace h := mj_if_f c2 h
  by_cases c3 : a1 = 3
  · replace h := mj_if_t c3 h
    refine mj_tin (off := 47) (tgt := 48) C dX10_alarmWord_1 (by rw [c3]; decide) (by rw [c3]; decide) (by rw [c3]; decide) (by decide) ?_
    refine mj_ldcSw (i := 26) C rfl dX10_alarmWord_48 ?_
    cases h
    exact mj_aret C hT dX10_alarmWord_51 ⟨rfl, rfl, fun h => by cases h⟩
  replace h := mj_if_f c3 h
  by_cases c4 : a1 = 4
  · replace h := mj_if_t c4 h
    refine mj_tin (off := 51) (tgt := 52) C dX10_alarmWord_1 (by rw [c4]; decide) (by rw [c4]; decide) (by rw [c4]; decide) (by decide) ?_
    refine mj_ldcSw (i := 27) C rfl dX10_alarmWord_52 ?_
    cases h
    exact mj_aret C hT dX10_alarmWord_55 ⟨rfl, rfl, fun h => by cases h⟩
  replace h := mj_if_f c4 h
  by_cases c5 : a1 = 5
  · replace h := mj_if_t c5 h
    refine mj_tin (off := 55) (tgt := 56) C dX10_alarmWord_1 (by rw [c5]; decide) (by rw [c5]; decide) (by rw [c5]; decide) (by decide) ?_
    refine mj_ldcSw (i := 28) C rfl dX10_alarmWord_56 ?_
    cases h
    exact mj_aret C hT dX10_alarmWord_59 ⟨rfl, rfl, fun h => by cases h⟩
  replace h := mj_if_f c5 h
  by_cases c6 : a1 = 6
  · replace h := mj_if_t c6 h
    refine mj_tin (off := 59) (tgt := 60) C dX10_alarmWord_1 (by rw [c6]; decide) (by rw [c6]; decide) (by rw [c6]; decide) (by decide) ?_
    refine mj_ldcSw (i := 29) C rfl dX10_alarmWord_60 ?_
    cases h
    exact mj_aret C hT dX10_alarmWord_63 ⟨rfl, rfl, fun h => by cases h⟩
  replace h := mj_if_f c6 h
  refine mj_tout (tgt := 64) C dX10_alarmWord_1 (by have := mj_neL 1 (by decide) c1; have := mj_neL 2 (by decide) c2; have := mj_neL 3 (by decide) c3; have := mj_neL 4 (by decide) c4; have := mj_neL 5 (by decide) c5; have := mj_neL 6 (by decide) c6; omega) (by decide) ?_
  refine mj_ldcSw (i := 30) C rfl dX10_alarmWord_64 ?_
  cases h
  exact mj_aret C hT dX10_alarmWord_67 ⟨rfl, rfl, fun h => by cases h⟩
theorem tx_n0 {x : Int32} (h0 : 0 ≤ x) (h1 : x ≤ 255) : x = nI (mj_cl x) ∧ mj_cl x < 256 := by
  obtain ⟨j, hj, e⟩ := nI_of (x := x) (fun h => by have a := Int32.le_iff_toInt_le.mp h0; have b := Int32.lt_iff_toInt_lt.mp h; omega)
  subst e
  have e2 : mj_cl (nI j) = j := mj_cl_nI hj
  rw [e2]
  refine ⟨rfl, ?_⟩
  have := Int32.le_iff_toInt_le.mp h1
  rw [nI_toInt hj] at this
  have : (j : Int) ≤ 255 := this
  omega
def tt_n (x : Int32) : List Nat := dg (mj_cl x)
def tt_c (x : Int32) (k : Nat) : Nat := if x = 0 then 45 else k
theorem tt_n_le (x : Int32) : (tt_n x).length ≤ 3 := by
  unfold tt_n
  rw [dg_len]
  split
  · omega
  · split <;> omega
theorem tt_c_lt (x : Int32) (k : Nat) (h : k < 256) : tt_c x k < 256 := by
  unfold tt_c
  split <;> omega
def tt_rep (m : mj_m) : List Nat := if m 17 14 = -1 then [] else if m 17 14 = -2 then [] ++ [63] else ((((([] ++ [tt_c (mj_ush (m 17 14) 8 &&& 1) 76]) ++ [tt_c (mj_ush (m 17 14) 8 &&& 2) 87]) ++ [tt_c (mj_ush (m 17 14) 8 &&& 4) 82]) ++ tt_n (mj_ush (mj_ush (m 17 14) 8) 3)) ++ [32]) ++ tt_n (m 17 14 &&& 255)
def tt_sn0 (m : mj_m) : List Nat := ((((([] ++ sw (f_X10_machineWord (m 17 6))) ++ [32]) ++ tt_n (m 23 4)) ++ [47]) ++ tt_n (m 2 2)) ++ sw 19 ++ tt_n (m 17 7)
def tt_snd (m : mj_m) : List Nat := if m 17 11 = 0 then tt_sn0 m else (tt_sn0 m ++ sw 20) ++ sw (f_X10_machineWord (m 17 11))
def tt_rw (m : mj_m) : Nat := if m 9 3 = 0 then (if m 9 4 = 0 then 23 else 22) else 21
def tt_rc0 (m : mj_m) : List Nat := (([] ++ sw (tt_rw m)) ++ [32]) ++ tt_n (m 9 2)
def tt_rcv (m : mj_m) : List Nat := if m 9 5 = 0 then tt_rc0 m else tt_rc0 m ++ [82]
def tt_r (x : Int32) : Prop := 0 ≤ x ∧ x ≤ 255
def tt_ok (m : mj_m) : Prop := (m 17 14 = -1 ∨ m 17 14 = -2 ∨ (tt_r (mj_ush (mj_ush (m 17 14) 8) 3) ∧ tt_r (m 17 14 &&& 255))) ∧ tt_r (m 23 4) ∧ tt_r (m 2 2) ∧ tt_r (m 17 7) ∧ tt_r (m 9 2)
