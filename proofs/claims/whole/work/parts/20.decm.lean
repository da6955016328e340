theorem dX11_isIn_0 : decode cX11_isIn 0 = .ok (.iload_n 1, 1) := by decide +kernel
theorem dX11_isIn_1 : decode cX11_isIn 1 = .ok (.iload_n 2, 1) := by decide +kernel
theorem dX11_isIn_2 : decode cX11_isIn 2 = .ok (.if_icmp .lt 12, 3) := by decide +kernel
theorem dX11_isIn_5 : decode cX11_isIn 5 = .ok (.iload_n 1, 1) := by decide +kernel
theorem dX11_isIn_6 : decode cX11_isIn 6 = .ok (.iload_n 3, 1) := by decide +kernel
theorem dX11_isIn_7 : decode cX11_isIn 7 = .ok (.if_icmp .gt 7, 3) := by decide +kernel
theorem dX11_isIn_10 : decode cX11_isIn 10 = .ok (.iconst 1, 1) := by decide +kernel
theorem dX11_isIn_11 : decode cX11_isIn 11 = .ok (.goto 4, 3) := by decide +kernel
theorem dX11_isIn_14 : decode cX11_isIn 14 = .ok (.iconst 0, 1) := by decide +kernel
theorem dX11_isIn_15 : decode cX11_isIn 15 = .ok (.ireturn, 1) := by decide +kernel
theorem dX11_round_0 : decode cX11_round 0 = .ok (.iload_n 1, 1) := by decide +kernel
theorem dX11_round_1 : decode cX11_round 1 = .ok (.sipush 255, 3) := by decide +kernel
theorem dX11_round_4 : decode cX11_round 4 = .ok (.iand, 1) := by decide +kernel
theorem dX11_round_5 : decode cX11_round 5 = .ok (.ireturn, 1) := by decide +kernel
theorem dX11_more_0 : decode cX11_more 0 = .ok (.aload_n 0, 1) := by decide +kernel
theorem dX11_more_1 : decode cX11_more 1 = .ok (.getfield 7, 3) := by decide +kernel
theorem dX11_more_4 : decode cX11_more 4 = .ok (.iload_n 1, 1) := by decide +kernel
theorem dX11_more_5 : decode cX11_more 5 = .ok (.aload_n 0, 1) := by decide +kernel
theorem dX11_more_6 : decode cX11_more 6 = .ok (.getfield 7, 3) := by decide +kernel
theorem dX11_more_9 : decode cX11_more 9 = .ok (.iload_n 1, 1) := by decide +kernel
theorem dX11_more_10 : decode cX11_more 10 = .ok (.iaload, 1) := by decide +kernel
theorem dX11_more_11 : decode cX11_more 11 = .ok (.iconst 1, 1) := by decide +kernel
theorem dX11_more_12 : decode cX11_more 12 = .ok (.iadd, 1) := by decide +kernel
theorem dX11_more_13 : decode cX11_more 13 = .ok (.iastore, 1) := by decide +kernel
theorem dX11_more_14 : decode cX11_more 14 = .ok (.return_, 1) := by decide +kernel
theorem dX11_firstOf_0 : decode cX11_firstOf 0 = .ok (.iload_n 1, 1) := by decide +kernel
theorem dX11_firstOf_1 : decode cX11_firstOf 1 = .ok (.ifCond .ne 6, 3) := by decide +kernel
theorem dX11_firstOf_4 : decode cX11_firstOf 4 = .ok (.bipush 10, 2) := by decide +kernel
theorem dX11_firstOf_6 : decode cX11_firstOf 6 = .ok (.ireturn, 1) := by decide +kernel
theorem dX11_firstOf_7 : decode cX11_firstOf 7 = .ok (.iload_n 1, 1) := by decide +kernel
theorem dX11_firstOf_8 : decode cX11_firstOf 8 = .ok (.iconst 4, 1) := by decide +kernel
theorem dX11_firstOf_9 : decode cX11_firstOf 9 = .ok (.if_icmp .ne 6, 3) := by decide +kernel
theorem dX11_firstOf_12 : decode cX11_firstOf 12 = .ok (.bipush 12, 2) := by decide +kernel
theorem dX11_firstOf_14 : decode cX11_firstOf 14 = .ok (.ireturn, 1) := by decide +kernel
theorem dX11_firstOf_15 : decode cX11_firstOf 15 = .ok (.iload_n 1, 1) := by decide +kernel
theorem dX11_firstOf_16 : decode cX11_firstOf 16 = .ok (.bipush 10, 2) := by decide +kernel
theorem dX11_firstOf_18 : decode cX11_firstOf 18 = .ok (.if_icmp .ne 5, 3) := by decide +kernel
theorem dX11_firstOf_21 : decode cX11_firstOf 21 = .ok (.iconst 4, 1) := by decide +kernel
theorem dX11_firstOf_22 : decode cX11_firstOf 22 = .ok (.ireturn, 1) := by decide +kernel
theorem dX11_firstOf_23 : decode cX11_firstOf 23 = .ok (.iload_n 1, 1) := by decide +kernel
theorem dX11_firstOf_24 : decode cX11_firstOf 24 = .ok (.iconst 1, 1) := by decide +kernel
theorem dX11_firstOf_25 : decode cX11_firstOf 25 = .ok (.if_icmp .eq 25, 3) := by decide +kernel
theorem dX11_firstOf_28 : decode cX11_firstOf 28 = .ok (.iload_n 1, 1) := by decide +kernel
theorem dX11_firstOf_29 : decode cX11_firstOf 29 = .ok (.iconst 2, 1) := by decide +kernel
theorem dX11_firstOf_30 : decode cX11_firstOf 30 = .ok (.if_icmp .eq 20, 3) := by decide +kernel
theorem dX11_firstOf_33 : decode cX11_firstOf 33 = .ok (.iload_n 1, 1) := by decide +kernel
theorem dX11_firstOf_34 : decode cX11_firstOf 34 = .ok (.iconst 3, 1) := by decide +kernel
theorem dX11_firstOf_35 : decode cX11_firstOf 35 = .ok (.if_icmp .eq 15, 3) := by decide +kernel
theorem dX11_firstOf_38 : decode cX11_firstOf 38 = .ok (.iload_n 1, 1) := by decide +kernel
theorem dX11_firstOf_39 : decode cX11_firstOf 39 = .ok (.bipush 6, 2) := by decide +kernel
theorem dX11_firstOf_41 : decode cX11_firstOf 41 = .ok (.if_icmp .eq 9, 3) := by decide +kernel
theorem dX11_firstOf_44 : decode cX11_firstOf 44 = .ok (.iload_n 1, 1) := by decide +kernel
theorem dX11_firstOf_45 : decode cX11_firstOf 45 = .ok (.bipush 7, 2) := by decide +kernel
theorem dX11_firstOf_47 : decode cX11_firstOf 47 = .ok (.if_icmp .ne 7, 3) := by decide +kernel
theorem dX11_firstOf_50 : decode cX11_firstOf 50 = .ok (.iconst 3, 1) := by decide +kernel
theorem dX11_firstOf_51 : decode cX11_firstOf 51 = .ok (.goto 4, 3) := by decide +kernel
theorem dX11_firstOf_54 : decode cX11_firstOf 54 = .ok (.iconst 0, 1) := by decide +kernel
theorem dX11_firstOf_55 : decode cX11_firstOf 55 = .ok (.ireturn, 1) := by decide +kernel
theorem dX11_settingOf_0 : decode cX11_settingOf 0 = .ok (.aload_n 0, 1) := by decide +kernel
theorem dX11_settingOf_1 : decode cX11_settingOf 1 = .ok (.getfield 7, 3) := by decide +kernel
theorem dX11_settingOf_4 : decode cX11_settingOf 4 = .ok (.iload_n 1, 1) := by decide +kernel
theorem dX11_settingOf_5 : decode cX11_settingOf 5 = .ok (.iaload, 1) := by decide +kernel
theorem dX11_settingOf_6 : decode cX11_settingOf 6 = .ok (.aload_n 0, 1) := by decide +kernel
theorem dX11_settingOf_7 : decode cX11_settingOf 7 = .ok (.iload_n 1, 1) := by decide +kernel
theorem dX11_settingOf_8 : decode cX11_settingOf 8 = .ok (.invokevirtual 44, 3) := by decide +kernel
theorem dX11_settingOf_11 : decode cX11_settingOf 11 = .ok (.iadd, 1) := by decide +kernel
theorem dX11_settingOf_12 : decode cX11_settingOf 12 = .ok (.ireturn, 1) := by decide +kernel
theorem dX11_canSet_0 : decode cX11_canSet 0 = .ok (.iload_n 1, 1) := by decide +kernel
theorem dX11_canSet_1 : decode cX11_canSet 1 = .ok (.ifCond .ne 27, 3) := by decide +kernel
theorem dX11_canSet_4 : decode cX11_canSet 4 = .ok (.aload_n 0, 1) := by decide +kernel
theorem dX11_canSet_5 : decode cX11_canSet 5 = .ok (.iload_n 2, 1) := by decide +kernel
theorem dX11_canSet_6 : decode cX11_canSet 6 = .ok (.iconst 2, 1) := by decide +kernel
theorem dX11_canSet_7 : decode cX11_canSet 7 = .ok (.sipush 200, 3) := by decide +kernel
theorem dX11_canSet_10 : decode cX11_canSet 10 = .ok (.invokevirtual 48, 3) := by decide +kernel
theorem dX11_canSet_13 : decode cX11_canSet 13 = .ok (.ifCond .eq 13, 3) := by decide +kernel
theorem dX11_canSet_16 : decode cX11_canSet 16 = .ok (.iload_n 2, 1) := by decide +kernel
theorem dX11_canSet_17 : decode cX11_canSet 17 = .ok (.iconst 2, 1) := by decide +kernel
theorem dX11_canSet_18 : decode cX11_canSet 18 = .ok (.irem, 1) := by decide +kernel
theorem dX11_canSet_19 : decode cX11_canSet 19 = .ok (.ifCond .ne 7, 3) := by decide +kernel
theorem dX11_canSet_22 : decode cX11_canSet 22 = .ok (.iconst 1, 1) := by decide +kernel
theorem dX11_canSet_23 : decode cX11_canSet 23 = .ok (.goto 4, 3) := by decide +kernel
theorem dX11_canSet_26 : decode cX11_canSet 26 = .ok (.iconst 0, 1) := by decide +kernel
theorem dX11_canSet_27 : decode cX11_canSet 27 = .ok (.ireturn, 1) := by decide +kernel
theorem dX11_canSet_28 : decode cX11_canSet 28 = .ok (.iload_n 1, 1) := by decide +kernel
theorem dX11_canSet_29 : decode cX11_canSet 29 = .ok (.iconst 1, 1) := by decide +kernel
theorem dX11_canSet_30 : decode cX11_canSet 30 = .ok (.if_icmp .ne 12, 3) := by decide +kernel
theorem dX11_canSet_33 : decode cX11_canSet 33 = .ok (.aload_n 0, 1) := by decide +kernel
theorem dX11_canSet_34 : decode cX11_canSet 34 = .ok (.iload_n 2, 1) := by decide +kernel
theorem dX11_canSet_35 : decode cX11_canSet 35 = .ok (.iconst 0, 1) := by decide +kernel
theorem dX11_canSet_36 : decode cX11_canSet 36 = .ok (.bipush 8, 2) := by decide +kernel
theorem dX11_canSet_38 : decode cX11_canSet 38 = .ok (.invokevirtual 48, 3) := by decide +kernel
theorem dX11_canSet_41 : decode cX11_canSet 41 = .ok (.ireturn, 1) := by decide +kernel
theorem dX11_canSet_42 : decode cX11_canSet 42 = .ok (.iload_n 1, 1) := by decide +kernel
theorem dX11_canSet_43 : decode cX11_canSet 43 = .ok (.iconst 2, 1) := by decide +kernel
theorem dX11_canSet_44 : decode cX11_canSet 44 = .ok (.if_icmp .eq 9, 3) := by decide +kernel
theorem dX11_canSet_47 : decode cX11_canSet 47 = .ok (.iload_n 1, 1) := by decide +kernel
theorem dX11_canSet_48 : decode cX11_canSet 48 = .ok (.bipush 10, 2) := by decide +kernel
theorem dX11_canSet_50 : decode cX11_canSet 50 = .ok (.if_icmp .ne 12, 3) := by decide +kernel
theorem dX11_canSet_53 : decode cX11_canSet 53 = .ok (.aload_n 0, 1) := by decide +kernel
theorem dX11_canSet_54 : decode cX11_canSet 54 = .ok (.iload_n 2, 1) := by decide +kernel
theorem dX11_canSet_55 : decode cX11_canSet 55 = .ok (.iconst 1, 1) := by decide +kernel
theorem dX11_canSet_56 : decode cX11_canSet 56 = .ok (.bipush 20, 2) := by decide +kernel
theorem dX11_canSet_58 : decode cX11_canSet 58 = .ok (.invokevirtual 48, 3) := by decide +kernel
theorem dX11_canSet_61 : decode cX11_canSet 61 = .ok (.ireturn, 1) := by decide +kernel
theorem dX11_canSet_62 : decode cX11_canSet 62 = .ok (.iload_n 1, 1) := by decide +kernel
theorem dX11_canSet_63 : decode cX11_canSet 63 = .ok (.iconst 3, 1) := by decide +kernel
theorem dX11_canSet_64 : decode cX11_canSet 64 = .ok (.if_icmp .ne 12, 3) := by decide +kernel
theorem dX11_canSet_67 : decode cX11_canSet 67 = .ok (.aload_n 0, 1) := by decide +kernel
theorem dX11_canSet_68 : decode cX11_canSet 68 = .ok (.iload_n 2, 1) := by decide +kernel
theorem dX11_canSet_69 : decode cX11_canSet 69 = .ok (.iconst 1, 1) := by decide +kernel
theorem dX11_canSet_70 : decode cX11_canSet 70 = .ok (.bipush 9, 2) := by decide +kernel
theorem dX11_canSet_72 : decode cX11_canSet 72 = .ok (.invokevirtual 48, 3) := by decide +kernel
theorem dX11_canSet_75 : decode cX11_canSet 75 = .ok (.ireturn, 1) := by decide +kernel
theorem dX11_canSet_76 : decode cX11_canSet 76 = .ok (.iload_n 1, 1) := by decide +kernel
theorem dX11_canSet_77 : decode cX11_canSet 77 = .ok (.iconst 4, 1) := by decide +kernel
theorem dX11_canSet_78 : decode cX11_canSet 78 = .ok (.if_icmp .ne 12, 3) := by decide +kernel
theorem dX11_canSet_81 : decode cX11_canSet 81 = .ok (.aload_n 0, 1) := by decide +kernel
theorem dX11_canSet_82 : decode cX11_canSet 82 = .ok (.iload_n 2, 1) := by decide +kernel
theorem dX11_canSet_83 : decode cX11_canSet 83 = .ok (.iconst 1, 1) := by decide +kernel
theorem dX11_canSet_84 : decode cX11_canSet 84 = .ok (.bipush 99, 2) := by decide +kernel
theorem dX11_canSet_86 : decode cX11_canSet 86 = .ok (.invokevirtual 48, 3) := by decide +kernel
theorem dX11_canSet_89 : decode cX11_canSet 89 = .ok (.ireturn, 1) := by decide +kernel
theorem dX11_canSet_90 : decode cX11_canSet 90 = .ok (.iload_n 1, 1) := by decide +kernel
theorem dX11_canSet_91 : decode cX11_canSet 91 = .ok (.iconst 5, 1) := by decide +kernel
theorem dX11_canSet_92 : decode cX11_canSet 92 = .ok (.if_icmp .ne 11, 3) := by decide +kernel
theorem dX11_canSet_95 : decode cX11_canSet 95 = .ok (.aload_n 0, 1) := by decide +kernel
theorem dX11_canSet_96 : decode cX11_canSet 96 = .ok (.iload_n 2, 1) := by decide +kernel
theorem dX11_canSet_97 : decode cX11_canSet 97 = .ok (.iconst 0, 1) := by decide +kernel
theorem dX11_canSet_98 : decode cX11_canSet 98 = .ok (.iconst 1, 1) := by decide +kernel
theorem dX11_canSet_99 : decode cX11_canSet 99 = .ok (.invokevirtual 48, 3) := by decide +kernel
theorem dX11_canSet_102 : decode cX11_canSet 102 = .ok (.ireturn, 1) := by decide +kernel
theorem dX11_canSet_103 : decode cX11_canSet 103 = .ok (.iload_n 1, 1) := by decide +kernel
theorem dX11_canSet_104 : decode cX11_canSet 104 = .ok (.bipush 6, 2) := by decide +kernel
theorem dX11_canSet_106 : decode cX11_canSet 106 = .ok (.if_icmp .eq 9, 3) := by decide +kernel
theorem dX11_canSet_109 : decode cX11_canSet 109 = .ok (.iload_n 1, 1) := by decide +kernel
theorem dX11_canSet_110 : decode cX11_canSet 110 = .ok (.bipush 7, 2) := by decide +kernel
theorem dX11_canSet_112 : decode cX11_canSet 112 = .ok (.if_icmp .ne 12, 3) := by decide +kernel
theorem dX11_canSet_115 : decode cX11_canSet 115 = .ok (.aload_n 0, 1) := by decide +kernel
theorem dX11_canSet_116 : decode cX11_canSet 116 = .ok (.iload_n 2, 1) := by decide +kernel
theorem dX11_canSet_117 : decode cX11_canSet 117 = .ok (.iconst 1, 1) := by decide +kernel
theorem dX11_canSet_118 : decode cX11_canSet 118 = .ok (.bipush 40, 2) := by decide +kernel
theorem dX11_canSet_120 : decode cX11_canSet 120 = .ok (.invokevirtual 48, 3) := by decide +kernel
theorem dX11_canSet_123 : decode cX11_canSet 123 = .ok (.ireturn, 1) := by decide +kernel
theorem dX11_canSet_124 : decode cX11_canSet 124 = .ok (.iload_n 1, 1) := by decide +kernel
theorem dX11_canSet_125 : decode cX11_canSet 125 = .ok (.bipush 8, 2) := by decide +kernel
theorem dX11_canSet_127 : decode cX11_canSet 127 = .ok (.if_icmp .ne 20, 3) := by decide +kernel
theorem dX11_canSet_130 : decode cX11_canSet 130 = .ok (.aload_n 0, 1) := by decide +kernel
theorem dX11_canSet_131 : decode cX11_canSet 131 = .ok (.iload_n 2, 1) := by decide +kernel
theorem dX11_canSet_132 : decode cX11_canSet 132 = .ok (.iconst 0, 1) := by decide +kernel
theorem dX11_canSet_133 : decode cX11_canSet 133 = .ok (.bipush 90, 2) := by decide +kernel
theorem dX11_canSet_135 : decode cX11_canSet 135 = .ok (.aload_n 0, 1) := by decide +kernel
theorem dX11_canSet_136 : decode cX11_canSet 136 = .ok (.getfield 7, 3) := by decide +kernel
theorem dX11_canSet_139 : decode cX11_canSet 139 = .ok (.bipush 9, 2) := by decide +kernel
theorem dX11_canSet_141 : decode cX11_canSet 141 = .ok (.iaload, 1) := by decide +kernel
theorem dX11_canSet_142 : decode cX11_canSet 142 = .ok (.isub, 1) := by decide +kernel
theorem dX11_canSet_143 : decode cX11_canSet 143 = .ok (.invokevirtual 48, 3) := by decide +kernel
theorem dX11_canSet_146 : decode cX11_canSet 146 = .ok (.ireturn, 1) := by decide +kernel
theorem dX11_canSet_147 : decode cX11_canSet 147 = .ok (.iload_n 1, 1) := by decide +kernel
theorem dX11_canSet_148 : decode cX11_canSet 148 = .ok (.bipush 9, 2) := by decide +kernel
theorem dX11_canSet_150 : decode cX11_canSet 150 = .ok (.if_icmp .ne 26, 3) := by decide +kernel
theorem dX11_canSet_153 : decode cX11_canSet 153 = .ok (.aload_n 0, 1) := by decide +kernel
theorem dX11_canSet_154 : decode cX11_canSet 154 = .ok (.iload_n 2, 1) := by decide +kernel
theorem dX11_canSet_155 : decode cX11_canSet 155 = .ok (.iconst 0, 1) := by decide +kernel
theorem dX11_canSet_156 : decode cX11_canSet 156 = .ok (.bipush 90, 2) := by decide +kernel
theorem dX11_canSet_158 : decode cX11_canSet 158 = .ok (.aload_n 0, 1) := by decide +kernel
theorem dX11_canSet_159 : decode cX11_canSet 159 = .ok (.getfield 7, 3) := by decide +kernel
theorem dX11_canSet_162 : decode cX11_canSet 162 = .ok (.bipush 8, 2) := by decide +kernel
theorem dX11_canSet_164 : decode cX11_canSet 164 = .ok (.iaload, 1) := by decide +kernel
theorem dX11_canSet_165 : decode cX11_canSet 165 = .ok (.isub, 1) := by decide +kernel
theorem dX11_canSet_166 : decode cX11_canSet 166 = .ok (.invokevirtual 48, 3) := by decide +kernel
theorem dX11_canSet_169 : decode cX11_canSet 169 = .ok (.ifCond .eq 7, 3) := by decide +kernel
theorem dX11_canSet_172 : decode cX11_canSet 172 = .ok (.iconst 1, 1) := by decide +kernel
theorem dX11_canSet_173 : decode cX11_canSet 173 = .ok (.goto 4, 3) := by decide +kernel
theorem dX11_canSet_176 : decode cX11_canSet 176 = .ok (.iconst 0, 1) := by decide +kernel
theorem dX11_canSet_177 : decode cX11_canSet 177 = .ok (.ireturn, 1) := by decide +kernel
theorem dX11_set_0 : decode cX11_set 0 = .ok (.aload_n 0, 1) := by decide +kernel
theorem dX11_set_1 : decode cX11_set 1 = .ok (.iconst 0, 1) := by decide +kernel
theorem dX11_set_2 : decode cX11_set 2 = .ok (.putfield 41, 3) := by decide +kernel
theorem dX11_set_5 : decode cX11_set 5 = .ok (.aload_n 0, 1) := by decide +kernel
theorem dX11_set_6 : decode cX11_set 6 = .ok (.iload_n 1, 1) := by decide +kernel
theorem dX11_set_7 : decode cX11_set 7 = .ok (.iload_n 2, 1) := by decide +kernel
theorem dX11_set_8 : decode cX11_set 8 = .ok (.invokevirtual 52, 3) := by decide +kernel
theorem dX11_set_11 : decode cX11_set 11 = .ok (.ifCond .ne 5, 3) := by decide +kernel
theorem dX11_set_14 : decode cX11_set 14 = .ok (.iconst 0, 1) := by decide +kernel
theorem dX11_set_15 : decode cX11_set 15 = .ok (.ireturn, 1) := by decide +kernel
theorem dX11_set_16 : decode cX11_set 16 = .ok (.aload_n 0, 1) := by decide +kernel
theorem dX11_set_17 : decode cX11_set 17 = .ok (.getfield 7, 3) := by decide +kernel
theorem dX11_set_20 : decode cX11_set 20 = .ok (.iload_n 1, 1) := by decide +kernel
theorem dX11_set_21 : decode cX11_set 21 = .ok (.iload_n 2, 1) := by decide +kernel
theorem dX11_set_22 : decode cX11_set 22 = .ok (.aload_n 0, 1) := by decide +kernel
theorem dX11_set_23 : decode cX11_set 23 = .ok (.iload_n 1, 1) := by decide +kernel
theorem dX11_set_24 : decode cX11_set 24 = .ok (.invokevirtual 44, 3) := by decide +kernel
theorem dX11_set_27 : decode cX11_set 27 = .ok (.isub, 1) := by decide +kernel
theorem dX11_set_28 : decode cX11_set 28 = .ok (.iastore, 1) := by decide +kernel
theorem dX11_set_29 : decode cX11_set 29 = .ok (.iconst 1, 1) := by decide +kernel
theorem dX11_set_30 : decode cX11_set 30 = .ok (.ireturn, 1) := by decide +kernel
theorem dX11_state_0 : decode cX11_state 0 = .ok (.aload_n 0, 1) := by decide +kernel
theorem dX11_state_1 : decode cX11_state 1 = .ok (.iconst 0, 1) := by decide +kernel
theorem dX11_state_2 : decode cX11_state 2 = .ok (.putfield 41, 3) := by decide +kernel
theorem dX11_state_5 : decode cX11_state 5 = .ok (.aload_n 0, 1) := by decide +kernel
theorem dX11_state_6 : decode cX11_state 6 = .ok (.getfield 7, 3) := by decide +kernel
theorem dX11_state_9 : decode cX11_state 9 = .ok (.bipush 12, 2) := by decide +kernel
theorem dX11_state_11 : decode cX11_state 11 = .ok (.iaload, 1) := by decide +kernel
theorem dX11_state_12 : decode cX11_state 12 = .ok (.istore_n 2, 1) := by decide +kernel
theorem dX11_state_13 : decode cX11_state 13 = .ok (.aload_n 0, 1) := by decide +kernel
theorem dX11_state_14 : decode cX11_state 14 = .ok (.getfield 7, 3) := by decide +kernel
theorem dX11_state_17 : decode cX11_state 17 = .ok (.bipush 12, 2) := by decide +kernel
theorem dX11_state_19 : decode cX11_state 19 = .ok (.iload_n 1, 1) := by decide +kernel
theorem dX11_state_20 : decode cX11_state 20 = .ok (.iastore, 1) := by decide +kernel
theorem dX11_state_21 : decode cX11_state 21 = .ok (.iload_n 2, 1) := by decide +kernel
theorem dX11_state_22 : decode cX11_state 22 = .ok (.ireturn, 1) := by decide +kernel
theorem dX11_draw_0 : decode cX11_draw 0 = .ok (.aload_n 0, 1) := by decide +kernel
theorem dX11_draw_1 : decode cX11_draw 1 = .ok (.getfield 7, 3) := by decide +kernel
theorem dX11_draw_4 : decode cX11_draw 4 = .ok (.bipush 12, 2) := by decide +kernel
theorem dX11_draw_6 : decode cX11_draw 6 = .ok (.ldc 56, 2) := by decide +kernel
theorem dX11_draw_8 : decode cX11_draw 8 = .ok (.aload_n 0, 1) := by decide +kernel
theorem dX11_draw_9 : decode cX11_draw 9 = .ok (.getfield 7, 3) := by decide +kernel
theorem dX11_draw_12 : decode cX11_draw 12 = .ok (.bipush 12, 2) := by decide +kernel
theorem dX11_draw_14 : decode cX11_draw 14 = .ok (.iaload, 1) := by decide +kernel
theorem dX11_draw_15 : decode cX11_draw 15 = .ok (.imul, 1) := by decide +kernel
theorem dX11_draw_16 : decode cX11_draw 16 = .ok (.ldc 57, 2) := by decide +kernel
theorem dX11_draw_18 : decode cX11_draw 18 = .ok (.iadd, 1) := by decide +kernel
theorem dX11_draw_19 : decode cX11_draw 19 = .ok (.iastore, 1) := by decide +kernel
theorem dX11_draw_20 : decode cX11_draw 20 = .ok (.aload_n 0, 1) := by decide +kernel
theorem dX11_draw_21 : decode cX11_draw 21 = .ok (.getfield 7, 3) := by decide +kernel
theorem dX11_draw_24 : decode cX11_draw 24 = .ok (.bipush 12, 2) := by decide +kernel
theorem dX11_draw_26 : decode cX11_draw 26 = .ok (.iaload, 1) := by decide +kernel
theorem dX11_draw_27 : decode cX11_draw 27 = .ok (.bipush 8, 2) := by decide +kernel
theorem dX11_draw_29 : decode cX11_draw 29 = .ok (.iushr, 1) := by decide +kernel
theorem dX11_draw_30 : decode cX11_draw 30 = .ok (.iload_n 1, 1) := by decide +kernel
theorem dX11_draw_31 : decode cX11_draw 31 = .ok (.irem, 1) := by decide +kernel
theorem dX11_draw_32 : decode cX11_draw 32 = .ok (.ireturn, 1) := by decide +kernel
theorem dX11_takesFirst_0 : decode cX11_takesFirst 0 = .ok (.aload_n 0, 1) := by decide +kernel
theorem dX11_takesFirst_1 : decode cX11_takesFirst 1 = .ok (.getfield 7, 3) := by decide +kernel
theorem dX11_takesFirst_4 : decode cX11_takesFirst 4 = .ok (.iload_n 1, 1) := by decide +kernel
theorem dX11_takesFirst_5 : decode cX11_takesFirst 5 = .ok (.iaload, 1) := by decide +kernel
theorem dX11_takesFirst_6 : decode cX11_takesFirst 6 = .ok (.istore_n 3, 1) := by decide +kernel
theorem dX11_takesFirst_7 : decode cX11_takesFirst 7 = .ok (.aload_n 0, 1) := by decide +kernel
theorem dX11_takesFirst_8 : decode cX11_takesFirst 8 = .ok (.getfield 7, 3) := by decide +kernel
theorem dX11_takesFirst_11 : decode cX11_takesFirst 11 = .ok (.iload_n 2, 1) := by decide +kernel
theorem dX11_takesFirst_12 : decode cX11_takesFirst 12 = .ok (.aload_n 0, 1) := by decide +kernel
theorem dX11_takesFirst_13 : decode cX11_takesFirst 13 = .ok (.getfield 7, 3) := by decide +kernel
theorem dX11_takesFirst_16 : decode cX11_takesFirst 16 = .ok (.iload_n 2, 1) := by decide +kernel
theorem dX11_takesFirst_17 : decode cX11_takesFirst 17 = .ok (.iaload, 1) := by decide +kernel
theorem dX11_takesFirst_18 : decode cX11_takesFirst 18 = .ok (.iconst 1, 1) := by decide +kernel
theorem dX11_takesFirst_19 : decode cX11_takesFirst 19 = .ok (.isub, 1) := by decide +kernel
theorem dX11_takesFirst_20 : decode cX11_takesFirst 20 = .ok (.iastore, 1) := by decide +kernel
theorem dX11_takesFirst_21 : decode cX11_takesFirst 21 = .ok (.iconst 0, 1) := by decide +kernel
theorem dX11_takesFirst_22 : decode cX11_takesFirst 22 = .ok (.istore 4, 2) := by decide +kernel
theorem dX11_takesFirst_24 : decode cX11_takesFirst 24 = .ok (.iload 4, 2) := by decide +kernel
theorem dX11_takesFirst_26 : decode cX11_takesFirst 26 = .ok (.aload_n 0, 1) := by decide +kernel
theorem dX11_takesFirst_27 : decode cX11_takesFirst 27 = .ok (.getfield 7, 3) := by decide +kernel
theorem dX11_takesFirst_30 : decode cX11_takesFirst 30 = .ok (.iload_n 2, 1) := by decide +kernel
theorem dX11_takesFirst_31 : decode cX11_takesFirst 31 = .ok (.iaload, 1) := by decide +kernel
theorem dX11_takesFirst_32 : decode cX11_takesFirst 32 = .ok (.if_icmp .ge 29, 3) := by decide +kernel
theorem dX11_takesFirst_35 : decode cX11_takesFirst 35 = .ok (.aload_n 0, 1) := by decide +kernel
theorem dX11_takesFirst_36 : decode cX11_takesFirst 36 = .ok (.getfield 7, 3) := by decide +kernel
theorem dX11_takesFirst_39 : decode cX11_takesFirst 39 = .ok (.iload_n 1, 1) := by decide +kernel
theorem dX11_takesFirst_40 : decode cX11_takesFirst 40 = .ok (.iload 4, 2) := by decide +kernel
theorem dX11_takesFirst_42 : decode cX11_takesFirst 42 = .ok (.iadd, 1) := by decide +kernel
theorem dX11_takesFirst_43 : decode cX11_takesFirst 43 = .ok (.aload_n 0, 1) := by decide +kernel
theorem dX11_takesFirst_44 : decode cX11_takesFirst 44 = .ok (.getfield 7, 3) := by decide +kernel
theorem dX11_takesFirst_47 : decode cX11_takesFirst 47 = .ok (.iload_n 1, 1) := by decide +kernel
theorem dX11_takesFirst_48 : decode cX11_takesFirst 48 = .ok (.iload 4, 2) := by decide +kernel
theorem dX11_takesFirst_50 : decode cX11_takesFirst 50 = .ok (.iadd, 1) := by decide +kernel
theorem dX11_takesFirst_51 : decode cX11_takesFirst 51 = .ok (.iconst 1, 1) := by decide +kernel
theorem dX11_takesFirst_52 : decode cX11_takesFirst 52 = .ok (.iadd, 1) := by decide +kernel
theorem dX11_takesFirst_53 : decode cX11_takesFirst 53 = .ok (.iaload, 1) := by decide +kernel
theorem dX11_takesFirst_54 : decode cX11_takesFirst 54 = .ok (.iastore, 1) := by decide +kernel
theorem dX11_takesFirst_55 : decode cX11_takesFirst 55 = .ok (.iinc 4 1, 3) := by decide +kernel
theorem dX11_takesFirst_58 : decode cX11_takesFirst 58 = .ok (.goto (-34), 3) := by decide +kernel
theorem dX11_takesFirst_61 : decode cX11_takesFirst 61 = .ok (.iload_n 3, 1) := by decide +kernel
theorem dX11_takesFirst_62 : decode cX11_takesFirst 62 = .ok (.ireturn, 1) := by decide +kernel
theorem dX11_puts_0 : decode cX11_puts 0 = .ok (.aload_n 0, 1) := by decide +kernel
theorem dX11_puts_1 : decode cX11_puts 1 = .ok (.getfield 7, 3) := by decide +kernel
theorem dX11_puts_4 : decode cX11_puts 4 = .ok (.iload_n 1, 1) := by decide +kernel
theorem dX11_puts_5 : decode cX11_puts 5 = .ok (.aload_n 0, 1) := by decide +kernel
theorem dX11_puts_6 : decode cX11_puts 6 = .ok (.getfield 7, 3) := by decide +kernel
theorem dX11_puts_9 : decode cX11_puts 9 = .ok (.iload_n 2, 1) := by decide +kernel
theorem dX11_puts_10 : decode cX11_puts 10 = .ok (.iaload, 1) := by decide +kernel
theorem dX11_puts_11 : decode cX11_puts 11 = .ok (.iadd, 1) := by decide +kernel
theorem dX11_puts_12 : decode cX11_puts 12 = .ok (.iload_n 3, 1) := by decide +kernel
theorem dX11_puts_13 : decode cX11_puts 13 = .ok (.iastore, 1) := by decide +kernel
theorem dX11_puts_14 : decode cX11_puts 14 = .ok (.aload_n 0, 1) := by decide +kernel
theorem dX11_puts_15 : decode cX11_puts 15 = .ok (.iload_n 2, 1) := by decide +kernel
theorem dX11_puts_16 : decode cX11_puts 16 = .ok (.invokevirtual 58, 3) := by decide +kernel
theorem dX11_puts_19 : decode cX11_puts 19 = .ok (.return_, 1) := by decide +kernel
theorem dX11_ledgerAt_0 : decode cX11_ledgerAt 0 = .ok (.sipush 1097, 3) := by decide +kernel
theorem dX11_ledgerAt_3 : decode cX11_ledgerAt 3 = .ok (.bipush 8, 2) := by decide +kernel
theorem dX11_ledgerAt_5 : decode cX11_ledgerAt 5 = .ok (.iload_n 1, 1) := by decide +kernel
theorem dX11_ledgerAt_6 : decode cX11_ledgerAt 6 = .ok (.imul, 1) := by decide +kernel
theorem dX11_ledgerAt_7 : decode cX11_ledgerAt 7 = .ok (.iadd, 1) := by decide +kernel
theorem dX11_ledgerAt_8 : decode cX11_ledgerAt 8 = .ok (.ireturn, 1) := by decide +kernel
theorem dX11_ledgerMany_0 : decode cX11_ledgerMany 0 = .ok (.aload_n 0, 1) := by decide +kernel
theorem dX11_ledgerMany_1 : decode cX11_ledgerMany 1 = .ok (.getfield 7, 3) := by decide +kernel
theorem dX11_ledgerMany_4 : decode cX11_ledgerMany 4 = .ok (.bipush 40, 2) := by decide +kernel
theorem dX11_ledgerMany_6 : decode cX11_ledgerMany 6 = .ok (.iaload, 1) := by decide +kernel
theorem dX11_ledgerMany_7 : decode cX11_ledgerMany 7 = .ok (.bipush 100, 2) := by decide +kernel
theorem dX11_ledgerMany_9 : decode cX11_ledgerMany 9 = .ok (.if_icmp .ge 13, 3) := by decide +kernel
theorem dX11_ledgerMany_12 : decode cX11_ledgerMany 12 = .ok (.aload_n 0, 1) := by decide +kernel
theorem dX11_ledgerMany_13 : decode cX11_ledgerMany 13 = .ok (.getfield 7, 3) := by decide +kernel
theorem dX11_ledgerMany_16 : decode cX11_ledgerMany 16 = .ok (.bipush 40, 2) := by decide +kernel
theorem dX11_ledgerMany_18 : decode cX11_ledgerMany 18 = .ok (.iaload, 1) := by decide +kernel
theorem dX11_ledgerMany_19 : decode cX11_ledgerMany 19 = .ok (.goto 5, 3) := by decide +kernel
theorem dX11_ledgerMany_22 : decode cX11_ledgerMany 22 = .ok (.bipush 100, 2) := by decide +kernel
theorem dX11_ledgerMany_24 : decode cX11_ledgerMany 24 = .ok (.ireturn, 1) := by decide +kernel
theorem dX11_firstSent_0 : decode cX11_firstSent 0 = .ok (.aload_n 0, 1) := by decide +kernel
theorem dX11_firstSent_1 : decode cX11_firstSent 1 = .ok (.getfield 7, 3) := by decide +kernel
theorem dX11_firstSent_4 : decode cX11_firstSent 4 = .ok (.bipush 40, 2) := by decide +kernel
theorem dX11_firstSent_6 : decode cX11_firstSent 6 = .ok (.iaload, 1) := by decide +kernel
theorem dX11_firstSent_7 : decode cX11_firstSent 7 = .ok (.aload_n 0, 1) := by decide +kernel
theorem dX11_firstSent_8 : decode cX11_firstSent 8 = .ok (.getfield 7, 3) := by decide +kernel
theorem dX11_firstSent_11 : decode cX11_firstSent 11 = .ok (.bipush 24, 2) := by decide +kernel
theorem dX11_firstSent_13 : decode cX11_firstSent 13 = .ok (.iaload, 1) := by decide +kernel
theorem dX11_firstSent_14 : decode cX11_firstSent 14 = .ok (.isub, 1) := by decide +kernel
theorem dX11_firstSent_15 : decode cX11_firstSent 15 = .ok (.aload_n 0, 1) := by decide +kernel
theorem dX11_firstSent_16 : decode cX11_firstSent 16 = .ok (.getfield 7, 3) := by decide +kernel
theorem dX11_firstSent_19 : decode cX11_firstSent 19 = .ok (.bipush 25, 2) := by decide +kernel
theorem dX11_firstSent_21 : decode cX11_firstSent 21 = .ok (.iaload, 1) := by decide +kernel
theorem dX11_firstSent_22 : decode cX11_firstSent 22 = .ok (.isub, 1) := by decide +kernel
theorem dX11_firstSent_23 : decode cX11_firstSent 23 = .ok (.ireturn, 1) := by decide +kernel
theorem dX11_stands_0 : decode cX11_stands 0 = .ok (.iload_n 1, 1) := by decide +kernel
theorem dX11_stands_1 : decode cX11_stands 1 = .ok (.bipush 100, 2) := by decide +kernel
theorem dX11_stands_3 : decode cX11_stands 3 = .ok (.if_icmp .ge 17, 3) := by decide +kernel
theorem dX11_stands_6 : decode cX11_stands 6 = .ok (.aload_n 0, 1) := by decide +kernel
theorem dX11_stands_7 : decode cX11_stands 7 = .ok (.getfield 7, 3) := by decide +kernel
theorem dX11_stands_10 : decode cX11_stands 10 = .ok (.aload_n 0, 1) := by decide +kernel
theorem dX11_stands_11 : decode cX11_stands 11 = .ok (.iload_n 1, 1) := by decide +kernel
theorem dX11_stands_12 : decode cX11_stands 12 = .ok (.invokevirtual 62, 3) := by decide +kernel
theorem dX11_stands_15 : decode cX11_stands 15 = .ok (.bipush 6, 2) := by decide +kernel
theorem dX11_stands_17 : decode cX11_stands 17 = .ok (.iadd, 1) := by decide +kernel
theorem dX11_stands_18 : decode cX11_stands 18 = .ok (.iload_n 2, 1) := by decide +kernel
theorem dX11_stands_19 : decode cX11_stands 19 = .ok (.iastore, 1) := by decide +kernel
theorem dX11_stands_20 : decode cX11_stands 20 = .ok (.return_, 1) := by decide +kernel
theorem dX11_isLedgered_0 : decode cX11_isLedgered 0 = .ok (.aload_n 0, 1) := by decide +kernel
theorem dX11_isLedgered_1 : decode cX11_isLedgered 1 = .ok (.getfield 7, 3) := by decide +kernel
theorem dX11_isLedgered_4 : decode cX11_isLedgered 4 = .ok (.bipush 40, 2) := by decide +kernel
theorem dX11_isLedgered_6 : decode cX11_isLedgered 6 = .ok (.iaload, 1) := by decide +kernel
theorem dX11_isLedgered_7 : decode cX11_isLedgered 7 = .ok (.bipush 100, 2) := by decide +kernel
theorem dX11_isLedgered_9 : decode cX11_isLedgered 9 = .ok (.if_icmp .ge 62, 3) := by decide +kernel
theorem dX11_isLedgered_12 : decode cX11_isLedgered 12 = .ok (.aload_n 0, 1) := by decide +kernel
theorem dX11_isLedgered_13 : decode cX11_isLedgered 13 = .ok (.aload_n 0, 1) := by decide +kernel
theorem dX11_isLedgered_14 : decode cX11_isLedgered 14 = .ok (.getfield 7, 3) := by decide +kernel
theorem dX11_isLedgered_17 : decode cX11_isLedgered 17 = .ok (.bipush 40, 2) := by decide +kernel
theorem dX11_isLedgered_19 : decode cX11_isLedgered 19 = .ok (.iaload, 1) := by decide +kernel
theorem dX11_isLedgered_20 : decode cX11_isLedgered 20 = .ok (.invokevirtual 62, 3) := by decide +kernel
theorem dX11_isLedgered_23 : decode cX11_isLedgered 23 = .ok (.istore_n 2, 1) := by decide +kernel
theorem dX11_isLedgered_24 : decode cX11_isLedgered 24 = .ok (.iconst 0, 1) := by decide +kernel
theorem dX11_isLedgered_25 : decode cX11_isLedgered 25 = .ok (.istore_n 3, 1) := by decide +kernel
theorem dX11_isLedgered_26 : decode cX11_isLedgered 26 = .ok (.iload_n 3, 1) := by decide +kernel
theorem dX11_isLedgered_27 : decode cX11_isLedgered 27 = .ok (.bipush 8, 2) := by decide +kernel
theorem dX11_isLedgered_29 : decode cX11_isLedgered 29 = .ok (.if_icmp .ge 18, 3) := by decide +kernel
theorem dX11_isLedgered_32 : decode cX11_isLedgered 32 = .ok (.aload_n 0, 1) := by decide +kernel
theorem dX11_isLedgered_33 : decode cX11_isLedgered 33 = .ok (.getfield 7, 3) := by decide +kernel
theorem dX11_isLedgered_36 : decode cX11_isLedgered 36 = .ok (.iload_n 2, 1) := by decide +kernel
theorem dX11_isLedgered_37 : decode cX11_isLedgered 37 = .ok (.iload_n 3, 1) := by decide +kernel
theorem dX11_isLedgered_38 : decode cX11_isLedgered 38 = .ok (.iadd, 1) := by decide +kernel
theorem dX11_isLedgered_39 : decode cX11_isLedgered 39 = .ok (.iconst 0, 1) := by decide +kernel
theorem dX11_isLedgered_40 : decode cX11_isLedgered 40 = .ok (.iastore, 1) := by decide +kernel
theorem dX11_isLedgered_41 : decode cX11_isLedgered 41 = .ok (.iinc 3 1, 3) := by decide +kernel
theorem dX11_isLedgered_44 : decode cX11_isLedgered 44 = .ok (.goto (-18), 3) := by decide +kernel
theorem dX11_isLedgered_47 : decode cX11_isLedgered 47 = .ok (.aload_n 0, 1) := by decide +kernel
theorem dX11_isLedgered_48 : decode cX11_isLedgered 48 = .ok (.getfield 7, 3) := by decide +kernel
theorem dX11_isLedgered_51 : decode cX11_isLedgered 51 = .ok (.iload_n 2, 1) := by decide +kernel
theorem dX11_isLedgered_52 : decode cX11_isLedgered 52 = .ok (.iconst 0, 1) := by decide +kernel
theorem dX11_isLedgered_53 : decode cX11_isLedgered 53 = .ok (.iadd, 1) := by decide +kernel
theorem dX11_isLedgered_54 : decode cX11_isLedgered 54 = .ok (.iload_n 1, 1) := by decide +kernel
theorem dX11_isLedgered_55 : decode cX11_isLedgered 55 = .ok (.iastore, 1) := by decide +kernel
theorem dX11_isLedgered_56 : decode cX11_isLedgered 56 = .ok (.aload_n 0, 1) := by decide +kernel
theorem dX11_isLedgered_57 : decode cX11_isLedgered 57 = .ok (.getfield 7, 3) := by decide +kernel
theorem dX11_isLedgered_60 : decode cX11_isLedgered 60 = .ok (.iload_n 2, 1) := by decide +kernel
theorem dX11_isLedgered_61 : decode cX11_isLedgered 61 = .ok (.iconst 1, 1) := by decide +kernel
theorem dX11_isLedgered_62 : decode cX11_isLedgered 62 = .ok (.iadd, 1) := by decide +kernel
theorem dX11_isLedgered_63 : decode cX11_isLedgered 63 = .ok (.aload_n 0, 1) := by decide +kernel
theorem dX11_isLedgered_64 : decode cX11_isLedgered 64 = .ok (.getfield 7, 3) := by decide +kernel
theorem dX11_isLedgered_67 : decode cX11_isLedgered 67 = .ok (.bipush 11, 2) := by decide +kernel
theorem dX11_isLedgered_69 : decode cX11_isLedgered 69 = .ok (.iaload, 1) := by decide +kernel
theorem dX11_isLedgered_70 : decode cX11_isLedgered 70 = .ok (.iastore, 1) := by decide +kernel
theorem dX11_isLedgered_71 : decode cX11_isLedgered 71 = .ok (.aload_n 0, 1) := by decide +kernel
theorem dX11_isLedgered_72 : decode cX11_isLedgered 72 = .ok (.bipush 40, 2) := by decide +kernel
theorem dX11_isLedgered_74 : decode cX11_isLedgered 74 = .ok (.invokevirtual 58, 3) := by decide +kernel
theorem dX11_isLedgered_77 : decode cX11_isLedgered 77 = .ok (.return_, 1) := by decide +kernel
theorem dX11_goesOf_0 : decode cX11_goesOf 0 = .ok (.iload_n 1, 1) := by decide +kernel
theorem dX11_goesOf_1 : decode cX11_goesOf 1 = .ok (.bipush 100, 2) := by decide +kernel
theorem dX11_goesOf_3 : decode cX11_goesOf 3 = .ok (.if_icmp .lt 4, 3) := by decide +kernel
theorem dX11_goesOf_6 : decode cX11_goesOf 6 = .ok (.return_, 1) := by decide +kernel
theorem dX11_goesOf_7 : decode cX11_goesOf 7 = .ok (.aload_n 0, 1) := by decide +kernel
theorem dX11_goesOf_8 : decode cX11_goesOf 8 = .ok (.iload_n 1, 1) := by decide +kernel
theorem dX11_goesOf_9 : decode cX11_goesOf 9 = .ok (.invokevirtual 62, 3) := by decide +kernel
theorem dX11_goesOf_12 : decode cX11_goesOf 12 = .ok (.istore_n 2, 1) := by decide +kernel
theorem dX11_goesOf_13 : decode cX11_goesOf 13 = .ok (.aload_n 0, 1) := by decide +kernel
theorem dX11_goesOf_14 : decode cX11_goesOf 14 = .ok (.getfield 7, 3) := by decide +kernel
theorem dX11_goesOf_17 : decode cX11_goesOf 17 = .ok (.iload_n 2, 1) := by decide +kernel
theorem dX11_goesOf_18 : decode cX11_goesOf 18 = .ok (.iconst 2, 1) := by decide +kernel
theorem dX11_goesOf_19 : decode cX11_goesOf 19 = .ok (.iadd, 1) := by decide +kernel
theorem dX11_goesOf_20 : decode cX11_goesOf 20 = .ok (.iaload, 1) := by decide +kernel
theorem dX11_goesOf_21 : decode cX11_goesOf 21 = .ok (.ifCond .ne 20, 3) := by decide +kernel
theorem dX11_goesOf_24 : decode cX11_goesOf 24 = .ok (.aload_n 0, 1) := by decide +kernel
theorem dX11_goesOf_25 : decode cX11_goesOf 25 = .ok (.getfield 7, 3) := by decide +kernel
theorem dX11_goesOf_28 : decode cX11_goesOf 28 = .ok (.iload_n 2, 1) := by decide +kernel
theorem dX11_goesOf_29 : decode cX11_goesOf 29 = .ok (.iconst 3, 1) := by decide +kernel
theorem dX11_goesOf_30 : decode cX11_goesOf 30 = .ok (.iadd, 1) := by decide +kernel
theorem dX11_goesOf_31 : decode cX11_goesOf 31 = .ok (.aload_n 0, 1) := by decide +kernel
theorem dX11_goesOf_32 : decode cX11_goesOf 32 = .ok (.getfield 7, 3) := by decide +kernel
theorem dX11_goesOf_35 : decode cX11_goesOf 35 = .ok (.bipush 11, 2) := by decide +kernel
theorem dX11_goesOf_37 : decode cX11_goesOf 37 = .ok (.iaload, 1) := by decide +kernel
theorem dX11_goesOf_38 : decode cX11_goesOf 38 = .ok (.iconst 1, 1) := by decide +kernel
theorem dX11_goesOf_39 : decode cX11_goesOf 39 = .ok (.iadd, 1) := by decide +kernel
theorem dX11_goesOf_40 : decode cX11_goesOf 40 = .ok (.iastore, 1) := by decide +kernel
theorem dX11_goesOf_41 : decode cX11_goesOf 41 = .ok (.aload_n 0, 1) := by decide +kernel
theorem dX11_goesOf_42 : decode cX11_goesOf 42 = .ok (.iload_n 2, 1) := by decide +kernel
theorem dX11_goesOf_43 : decode cX11_goesOf 43 = .ok (.iconst 2, 1) := by decide +kernel
theorem dX11_goesOf_44 : decode cX11_goesOf 44 = .ok (.iadd, 1) := by decide +kernel
theorem dX11_goesOf_45 : decode cX11_goesOf 45 = .ok (.invokevirtual 58, 3) := by decide +kernel
theorem dX11_goesOf_48 : decode cX11_goesOf 48 = .ok (.aload_n 0, 1) := by decide +kernel
theorem dX11_goesOf_49 : decode cX11_goesOf 49 = .ok (.getfield 7, 3) := by decide +kernel
theorem dX11_goesOf_52 : decode cX11_goesOf 52 = .ok (.iload_n 2, 1) := by decide +kernel
theorem dX11_goesOf_53 : decode cX11_goesOf 53 = .ok (.bipush 6, 2) := by decide +kernel
theorem dX11_goesOf_55 : decode cX11_goesOf 55 = .ok (.iadd, 1) := by decide +kernel
theorem dX11_goesOf_56 : decode cX11_goesOf 56 = .ok (.iconst 1, 1) := by decide +kernel
theorem dX11_goesOf_57 : decode cX11_goesOf 57 = .ok (.iastore, 1) := by decide +kernel
theorem dX11_goesOf_58 : decode cX11_goesOf 58 = .ok (.return_, 1) := by decide +kernel
theorem dX11_takenOf_0 : decode cX11_takenOf 0 = .ok (.iload_n 1, 1) := by decide +kernel
theorem dX11_takenOf_1 : decode cX11_takenOf 1 = .ok (.ifCond .lt 9, 3) := by decide +kernel
theorem dX11_takenOf_4 : decode cX11_takenOf 4 = .ok (.iload_n 1, 1) := by decide +kernel
theorem dX11_takenOf_5 : decode cX11_takenOf 5 = .ok (.bipush 100, 2) := by decide +kernel
theorem dX11_takenOf_7 : decode cX11_takenOf 7 = .ok (.if_icmp .lt 4, 3) := by decide +kernel
theorem dX11_takenOf_10 : decode cX11_takenOf 10 = .ok (.return_, 1) := by decide +kernel
theorem dX11_takenOf_11 : decode cX11_takenOf 11 = .ok (.aload_n 0, 1) := by decide +kernel
theorem dX11_takenOf_12 : decode cX11_takenOf 12 = .ok (.iload_n 1, 1) := by decide +kernel
theorem dX11_takenOf_13 : decode cX11_takenOf 13 = .ok (.invokevirtual 62, 3) := by decide +kernel
theorem dX11_takenOf_16 : decode cX11_takenOf 16 = .ok (.istore_n 2, 1) := by decide +kernel
theorem dX11_takenOf_17 : decode cX11_takenOf 17 = .ok (.aload_n 0, 1) := by decide +kernel
theorem dX11_takenOf_18 : decode cX11_takenOf 18 = .ok (.getfield 7, 3) := by decide +kernel
theorem dX11_takenOf_21 : decode cX11_takenOf 21 = .ok (.iload_n 2, 1) := by decide +kernel
theorem dX11_takenOf_22 : decode cX11_takenOf 22 = .ok (.iconst 4, 1) := by decide +kernel
theorem dX11_takenOf_23 : decode cX11_takenOf 23 = .ok (.iadd, 1) := by decide +kernel
theorem dX11_takenOf_24 : decode cX11_takenOf 24 = .ok (.iaload, 1) := by decide +kernel
theorem dX11_takenOf_25 : decode cX11_takenOf 25 = .ok (.ifCond .ne 36, 3) := by decide +kernel
theorem dX11_takenOf_28 : decode cX11_takenOf 28 = .ok (.aload_n 0, 1) := by decide +kernel
theorem dX11_takenOf_29 : decode cX11_takenOf 29 = .ok (.getfield 7, 3) := by decide +kernel
theorem dX11_takenOf_32 : decode cX11_takenOf 32 = .ok (.iload_n 2, 1) := by decide +kernel
theorem dX11_takenOf_33 : decode cX11_takenOf 33 = .ok (.iconst 5, 1) := by decide +kernel
theorem dX11_takenOf_34 : decode cX11_takenOf 34 = .ok (.iadd, 1) := by decide +kernel
theorem dX11_takenOf_35 : decode cX11_takenOf 35 = .ok (.aload_n 0, 1) := by decide +kernel
theorem dX11_takenOf_36 : decode cX11_takenOf 36 = .ok (.getfield 7, 3) := by decide +kernel
theorem dX11_takenOf_39 : decode cX11_takenOf 39 = .ok (.bipush 11, 2) := by decide +kernel
theorem dX11_takenOf_41 : decode cX11_takenOf 41 = .ok (.iaload, 1) := by decide +kernel
theorem dX11_takenOf_42 : decode cX11_takenOf 42 = .ok (.iconst 1, 1) := by decide +kernel
theorem dX11_takenOf_43 : decode cX11_takenOf 43 = .ok (.iadd, 1) := by decide +kernel
theorem dX11_takenOf_44 : decode cX11_takenOf 44 = .ok (.iastore, 1) := by decide +kernel
theorem dX11_takenOf_45 : decode cX11_takenOf 45 = .ok (.aload_n 0, 1) := by decide +kernel
theorem dX11_takenOf_46 : decode cX11_takenOf 46 = .ok (.getfield 7, 3) := by decide +kernel
theorem dX11_takenOf_49 : decode cX11_takenOf 49 = .ok (.iload_n 2, 1) := by decide +kernel
theorem dX11_takenOf_50 : decode cX11_takenOf 50 = .ok (.bipush 7, 2) := by decide +kernel
theorem dX11_takenOf_52 : decode cX11_takenOf 52 = .ok (.iadd, 1) := by decide +kernel
theorem dX11_takenOf_53 : decode cX11_takenOf 53 = .ok (.aload_n 0, 1) := by decide +kernel
theorem dX11_takenOf_54 : decode cX11_takenOf 54 = .ok (.getfield 7, 3) := by decide +kernel
theorem dX11_takenOf_57 : decode cX11_takenOf 57 = .ok (.bipush 19, 2) := by decide +kernel
theorem dX11_takenOf_59 : decode cX11_takenOf 59 = .ok (.iaload, 1) := by decide +kernel
theorem dX11_takenOf_60 : decode cX11_takenOf 60 = .ok (.iastore, 1) := by decide +kernel
theorem dX11_takenOf_61 : decode cX11_takenOf 61 = .ok (.aload_n 0, 1) := by decide +kernel
theorem dX11_takenOf_62 : decode cX11_takenOf 62 = .ok (.iload_n 2, 1) := by decide +kernel
theorem dX11_takenOf_63 : decode cX11_takenOf 63 = .ok (.iconst 4, 1) := by decide +kernel
theorem dX11_takenOf_64 : decode cX11_takenOf 64 = .ok (.iadd, 1) := by decide +kernel
theorem dX11_takenOf_65 : decode cX11_takenOf 65 = .ok (.invokevirtual 58, 3) := by decide +kernel
theorem dX11_takenOf_68 : decode cX11_takenOf 68 = .ok (.return_, 1) := by decide +kernel
theorem dX11_empties_0 : decode cX11_empties 0 = .ok (.aload_n 0, 1) := by decide +kernel
theorem dX11_empties_1 : decode cX11_empties 1 = .ok (.invokevirtual 65, 3) := by decide +kernel
theorem dX11_empties_4 : decode cX11_empties 4 = .ok (.istore_n 1, 1) := by decide +kernel
theorem dX11_empties_5 : decode cX11_empties 5 = .ok (.iload_n 1, 1) := by decide +kernel
theorem dX11_empties_6 : decode cX11_empties 6 = .ok (.aload_n 0, 1) := by decide +kernel
theorem dX11_empties_7 : decode cX11_empties 7 = .ok (.getfield 7, 3) := by decide +kernel
theorem dX11_empties_10 : decode cX11_empties 10 = .ok (.bipush 40, 2) := by decide +kernel
theorem dX11_empties_12 : decode cX11_empties 12 = .ok (.iaload, 1) := by decide +kernel
theorem dX11_empties_13 : decode cX11_empties 13 = .ok (.if_icmp .ge 15, 3) := by decide +kernel
theorem dX11_empties_16 : decode cX11_empties 16 = .ok (.aload_n 0, 1) := by decide +kernel
theorem dX11_empties_17 : decode cX11_empties 17 = .ok (.iload_n 1, 1) := by decide +kernel
theorem dX11_empties_18 : decode cX11_empties 18 = .ok (.iconst 3, 1) := by decide +kernel
theorem dX11_empties_19 : decode cX11_empties 19 = .ok (.invokevirtual 69, 3) := by decide +kernel
theorem dX11_empties_22 : decode cX11_empties 22 = .ok (.iinc 1 1, 3) := by decide +kernel
theorem dX11_empties_25 : decode cX11_empties 25 = .ok (.goto (-20), 3) := by decide +kernel
theorem dX11_empties_28 : decode cX11_empties 28 = .ok (.aload_n 0, 1) := by decide +kernel
theorem dX11_empties_29 : decode cX11_empties 29 = .ok (.getfield 7, 3) := by decide +kernel
theorem dX11_empties_32 : decode cX11_empties 32 = .ok (.bipush 24, 2) := by decide +kernel
theorem dX11_empties_34 : decode cX11_empties 34 = .ok (.iconst 0, 1) := by decide +kernel
theorem dX11_empties_35 : decode cX11_empties 35 = .ok (.iastore, 1) := by decide +kernel
theorem dX11_empties_36 : decode cX11_empties 36 = .ok (.aload_n 0, 1) := by decide +kernel
theorem dX11_empties_37 : decode cX11_empties 37 = .ok (.getfield 7, 3) := by decide +kernel
theorem dX11_empties_40 : decode cX11_empties 40 = .ok (.bipush 25, 2) := by decide +kernel
theorem dX11_empties_42 : decode cX11_empties 42 = .ok (.iconst 0, 1) := by decide +kernel
theorem dX11_empties_43 : decode cX11_empties 43 = .ok (.iastore, 1) := by decide +kernel
theorem dX11_empties_44 : decode cX11_empties 44 = .ok (.return_, 1) := by decide +kernel
theorem dX11_ledger_0 : decode cX11_ledger 0 = .ok (.aload_n 0, 1) := by decide +kernel
theorem dX11_ledger_1 : decode cX11_ledger 1 = .ok (.iconst 0, 1) := by decide +kernel
theorem dX11_ledger_2 : decode cX11_ledger 2 = .ok (.putfield 41, 3) := by decide +kernel
theorem dX11_ledger_5 : decode cX11_ledger 5 = .ok (.iload_n 1, 1) := by decide +kernel
theorem dX11_ledger_6 : decode cX11_ledger 6 = .ok (.iconst (-1), 1) := by decide +kernel
theorem dX11_ledger_7 : decode cX11_ledger 7 = .ok (.if_icmp .ne 8, 3) := by decide +kernel
theorem dX11_ledger_10 : decode cX11_ledger 10 = .ok (.aload_n 0, 1) := by decide +kernel
theorem dX11_ledger_11 : decode cX11_ledger 11 = .ok (.invokevirtual 73, 3) := by decide +kernel
theorem dX11_ledger_14 : decode cX11_ledger 14 = .ok (.ireturn, 1) := by decide +kernel
theorem dX11_ledger_15 : decode cX11_ledger 15 = .ok (.iload_n 1, 1) := by decide +kernel
theorem dX11_ledger_16 : decode cX11_ledger 16 = .ok (.ifCond .lt 22, 3) := by decide +kernel
theorem dX11_ledger_19 : decode cX11_ledger 19 = .ok (.iload_n 1, 1) := by decide +kernel
theorem dX11_ledger_20 : decode cX11_ledger 20 = .ok (.aload_n 0, 1) := by decide +kernel
theorem dX11_ledger_21 : decode cX11_ledger 21 = .ok (.invokevirtual 73, 3) := by decide +kernel
theorem dX11_ledger_24 : decode cX11_ledger 24 = .ok (.if_icmp .ge 14, 3) := by decide +kernel
theorem dX11_ledger_27 : decode cX11_ledger 27 = .ok (.aload_n 0, 1) := by decide +kernel
theorem dX11_ledger_28 : decode cX11_ledger 28 = .ok (.iload_n 2, 1) := by decide +kernel
theorem dX11_ledger_29 : decode cX11_ledger 29 = .ok (.iconst 0, 1) := by decide +kernel
theorem dX11_ledger_30 : decode cX11_ledger 30 = .ok (.bipush 6, 2) := by decide +kernel
theorem dX11_ledger_32 : decode cX11_ledger 32 = .ok (.invokevirtual 48, 3) := by decide +kernel
theorem dX11_ledger_35 : decode cX11_ledger 35 = .ok (.ifCond .ne 5, 3) := by decide +kernel
theorem dX11_ledger_38 : decode cX11_ledger 38 = .ok (.iconst (-1), 1) := by decide +kernel
theorem dX11_ledger_39 : decode cX11_ledger 39 = .ok (.ireturn, 1) := by decide +kernel
theorem dX11_ledger_40 : decode cX11_ledger 40 = .ok (.aload_n 0, 1) := by decide +kernel
theorem dX11_ledger_41 : decode cX11_ledger 41 = .ok (.getfield 7, 3) := by decide +kernel
theorem dX11_ledger_44 : decode cX11_ledger 44 = .ok (.aload_n 0, 1) := by decide +kernel
theorem dX11_ledger_45 : decode cX11_ledger 45 = .ok (.iload_n 1, 1) := by decide +kernel
theorem dX11_ledger_46 : decode cX11_ledger 46 = .ok (.invokevirtual 62, 3) := by decide +kernel
theorem dX11_ledger_49 : decode cX11_ledger 49 = .ok (.iload_n 2, 1) := by decide +kernel
theorem dX11_ledger_50 : decode cX11_ledger 50 = .ok (.iadd, 1) := by decide +kernel
theorem dX11_ledger_51 : decode cX11_ledger 51 = .ok (.iaload, 1) := by decide +kernel
theorem dX11_ledger_52 : decode cX11_ledger 52 = .ok (.istore_n 3, 1) := by decide +kernel
theorem dX11_ledger_53 : decode cX11_ledger 53 = .ok (.iload_n 2, 1) := by decide +kernel
theorem dX11_ledger_54 : decode cX11_ledger 54 = .ok (.iconst 3, 1) := by decide +kernel
theorem dX11_ledger_55 : decode cX11_ledger 55 = .ok (.if_icmp .eq 8, 3) := by decide +kernel
theorem dX11_ledger_58 : decode cX11_ledger 58 = .ok (.iload_n 2, 1) := by decide +kernel
theorem dX11_ledger_59 : decode cX11_ledger 59 = .ok (.iconst 5, 1) := by decide +kernel
theorem dX11_ledger_60 : decode cX11_ledger 60 = .ok (.if_icmp .ne 9, 3) := by decide +kernel
theorem dX11_ledger_63 : decode cX11_ledger 63 = .ok (.iload_n 3, 1) := by decide +kernel
theorem dX11_ledger_64 : decode cX11_ledger 64 = .ok (.iconst 1, 1) := by decide +kernel
theorem dX11_ledger_65 : decode cX11_ledger 65 = .ok (.isub, 1) := by decide +kernel
theorem dX11_ledger_66 : decode cX11_ledger 66 = .ok (.goto 4, 3) := by decide +kernel
theorem dX11_ledger_69 : decode cX11_ledger 69 = .ok (.iload_n 3, 1) := by decide +kernel
theorem dX11_ledger_70 : decode cX11_ledger 70 = .ok (.ireturn, 1) := by decide +kernel
theorem dX11_ledgerOf_0 : decode cX11_ledgerOf 0 = .ok (.aload_n 0, 1) := by decide +kernel
theorem dX11_ledgerOf_1 : decode cX11_ledgerOf 1 = .ok (.getfield 7, 3) := by decide +kernel
theorem dX11_ledgerOf_4 : decode cX11_ledgerOf 4 = .ok (.aload_n 0, 1) := by decide +kernel
theorem dX11_ledgerOf_5 : decode cX11_ledgerOf 5 = .ok (.iload_n 1, 1) := by decide +kernel
theorem dX11_ledgerOf_6 : decode cX11_ledgerOf 6 = .ok (.invokevirtual 62, 3) := by decide +kernel
theorem dX11_ledgerOf_9 : decode cX11_ledgerOf 9 = .ok (.iload_n 2, 1) := by decide +kernel
theorem dX11_ledgerOf_10 : decode cX11_ledgerOf 10 = .ok (.iadd, 1) := by decide +kernel
theorem dX11_ledgerOf_11 : decode cX11_ledgerOf 11 = .ok (.iaload, 1) := by decide +kernel
theorem dX11_ledgerOf_12 : decode cX11_ledgerOf 12 = .ok (.ireturn, 1) := by decide +kernel
theorem dX11_isBehindLater_0 : decode cX11_isBehindLater 0 = .ok (.iload_n 1, 1) := by decide +kernel
theorem dX11_isBehindLater_1 : decode cX11_isBehindLater 1 = .ok (.iconst 1, 1) := by decide +kernel
theorem dX11_isBehindLater_2 : decode cX11_isBehindLater 2 = .ok (.iadd, 1) := by decide +kernel
theorem dX11_isBehindLater_3 : decode cX11_isBehindLater 3 = .ok (.istore_n 2, 1) := by decide +kernel
theorem dX11_isBehindLater_4 : decode cX11_isBehindLater 4 = .ok (.iload_n 2, 1) := by decide +kernel
theorem dX11_isBehindLater_5 : decode cX11_isBehindLater 5 = .ok (.aload_n 0, 1) := by decide +kernel
theorem dX11_isBehindLater_6 : decode cX11_isBehindLater 6 = .ok (.invokevirtual 73, 3) := by decide +kernel
theorem dX11_isBehindLater_9 : decode cX11_isBehindLater 9 = .ok (.if_icmp .ge 37, 3) := by decide +kernel
theorem dX11_isBehindLater_12 : decode cX11_isBehindLater 12 = .ok (.aload_n 0, 1) := by decide +kernel
theorem dX11_isBehindLater_13 : decode cX11_isBehindLater 13 = .ok (.iload_n 2, 1) := by decide +kernel
theorem dX11_isBehindLater_14 : decode cX11_isBehindLater 14 = .ok (.iconst 4, 1) := by decide +kernel
theorem dX11_isBehindLater_15 : decode cX11_isBehindLater 15 = .ok (.invokevirtual 76, 3) := by decide +kernel
theorem dX11_isBehindLater_18 : decode cX11_isBehindLater 18 = .ok (.ifCond .le 22, 3) := by decide +kernel
theorem dX11_isBehindLater_21 : decode cX11_isBehindLater 21 = .ok (.aload_n 0, 1) := by decide +kernel
theorem dX11_isBehindLater_22 : decode cX11_isBehindLater 22 = .ok (.iload_n 2, 1) := by decide +kernel
theorem dX11_isBehindLater_23 : decode cX11_isBehindLater 23 = .ok (.bipush 7, 2) := by decide +kernel
theorem dX11_isBehindLater_25 : decode cX11_isBehindLater 25 = .ok (.invokevirtual 76, 3) := by decide +kernel
theorem dX11_isBehindLater_28 : decode cX11_isBehindLater 28 = .ok (.aload_n 0, 1) := by decide +kernel
theorem dX11_isBehindLater_29 : decode cX11_isBehindLater 29 = .ok (.iload_n 1, 1) := by decide +kernel
theorem dX11_isBehindLater_30 : decode cX11_isBehindLater 30 = .ok (.bipush 7, 2) := by decide +kernel
theorem dX11_isBehindLater_32 : decode cX11_isBehindLater 32 = .ok (.invokevirtual 76, 3) := by decide +kernel
theorem dX11_isBehindLater_35 : decode cX11_isBehindLater 35 = .ok (.if_icmp .ge 5, 3) := by decide +kernel
theorem dX11_isBehindLater_38 : decode cX11_isBehindLater 38 = .ok (.iconst 1, 1) := by decide +kernel
theorem dX11_isBehindLater_39 : decode cX11_isBehindLater 39 = .ok (.ireturn, 1) := by decide +kernel
theorem dX11_isBehindLater_40 : decode cX11_isBehindLater 40 = .ok (.iinc 2 1, 3) := by decide +kernel
theorem dX11_isBehindLater_43 : decode cX11_isBehindLater 43 = .ok (.goto (-39), 3) := by decide +kernel
theorem dX11_isBehindLater_46 : decode cX11_isBehindLater 46 = .ok (.iconst 0, 1) := by decide +kernel
theorem dX11_isBehindLater_47 : decode cX11_isBehindLater 47 = .ok (.ireturn, 1) := by decide +kernel
theorem dX11_isDelayed_0 : decode cX11_isDelayed 0 = .ok (.aload_n 0, 1) := by decide +kernel
theorem dX11_isDelayed_1 : decode cX11_isDelayed 1 = .ok (.iload_n 1, 1) := by decide +kernel
theorem dX11_isDelayed_2 : decode cX11_isDelayed 2 = .ok (.iconst 4, 1) := by decide +kernel
theorem dX11_isDelayed_3 : decode cX11_isDelayed 3 = .ok (.invokevirtual 76, 3) := by decide +kernel
theorem dX11_isDelayed_6 : decode cX11_isDelayed 6 = .ok (.istore_n 3, 1) := by decide +kernel
theorem dX11_isDelayed_7 : decode cX11_isDelayed 7 = .ok (.iload_n 2, 1) := by decide +kernel
theorem dX11_isDelayed_8 : decode cX11_isDelayed 8 = .ok (.iconst 3, 1) := by decide +kernel
theorem dX11_isDelayed_9 : decode cX11_isDelayed 9 = .ok (.if_icmp .ne 14, 3) := by decide +kernel
theorem dX11_isDelayed_12 : decode cX11_isDelayed 12 = .ok (.iload_n 3, 1) := by decide +kernel
theorem dX11_isDelayed_13 : decode cX11_isDelayed 13 = .ok (.iconst 1, 1) := by decide +kernel
theorem dX11_isDelayed_14 : decode cX11_isDelayed 14 = .ok (.if_icmp .le 7, 3) := by decide +kernel
theorem dX11_isDelayed_17 : decode cX11_isDelayed 17 = .ok (.iconst 1, 1) := by decide +kernel
theorem dX11_isDelayed_18 : decode cX11_isDelayed 18 = .ok (.goto 4, 3) := by decide +kernel
theorem dX11_isDelayed_21 : decode cX11_isDelayed 21 = .ok (.iconst 0, 1) := by decide +kernel
theorem dX11_isDelayed_22 : decode cX11_isDelayed 22 = .ok (.ireturn, 1) := by decide +kernel
theorem dX11_isDelayed_23 : decode cX11_isDelayed 23 = .ok (.iload_n 2, 1) := by decide +kernel
theorem dX11_isDelayed_24 : decode cX11_isDelayed 24 = .ok (.iconst 4, 1) := by decide +kernel
theorem dX11_isDelayed_25 : decode cX11_isDelayed 25 = .ok (.if_icmp .ne 24, 3) := by decide +kernel
theorem dX11_isDelayed_28 : decode cX11_isDelayed 28 = .ok (.iload_n 3, 1) := by decide +kernel
theorem dX11_isDelayed_29 : decode cX11_isDelayed 29 = .ok (.ifCond .ne 18, 3) := by decide +kernel
theorem dX11_isDelayed_32 : decode cX11_isDelayed 32 = .ok (.aload_n 0, 1) := by decide +kernel
theorem dX11_isDelayed_33 : decode cX11_isDelayed 33 = .ok (.iload_n 1, 1) := by decide +kernel
theorem dX11_isDelayed_34 : decode cX11_isDelayed 34 = .ok (.bipush 6, 2) := by decide +kernel
theorem dX11_isDelayed_36 : decode cX11_isDelayed 36 = .ok (.invokevirtual 76, 3) := by decide +kernel
theorem dX11_isDelayed_39 : decode cX11_isDelayed 39 = .ok (.iconst 2, 1) := by decide +kernel
theorem dX11_isDelayed_40 : decode cX11_isDelayed 40 = .ok (.if_icmp .ne 7, 3) := by decide +kernel
theorem dX11_isDelayed_43 : decode cX11_isDelayed 43 = .ok (.iconst 1, 1) := by decide +kernel
theorem dX11_isDelayed_44 : decode cX11_isDelayed 44 = .ok (.goto 4, 3) := by decide +kernel
theorem dX11_isDelayed_47 : decode cX11_isDelayed 47 = .ok (.iconst 0, 1) := by decide +kernel
theorem dX11_isDelayed_48 : decode cX11_isDelayed 48 = .ok (.ireturn, 1) := by decide +kernel
theorem dX11_isDelayed_49 : decode cX11_isDelayed 49 = .ok (.iload_n 2, 1) := by decide +kernel
theorem dX11_isDelayed_50 : decode cX11_isDelayed 50 = .ok (.iconst 5, 1) := by decide +kernel
theorem dX11_isDelayed_51 : decode cX11_isDelayed 51 = .ok (.if_icmp .ne 21, 3) := by decide +kernel
theorem dX11_isDelayed_54 : decode cX11_isDelayed 54 = .ok (.iload_n 3, 1) := by decide +kernel
theorem dX11_isDelayed_55 : decode cX11_isDelayed 55 = .ok (.ifCond .le 15, 3) := by decide +kernel
theorem dX11_isDelayed_58 : decode cX11_isDelayed 58 = .ok (.aload_n 0, 1) := by decide +kernel
theorem dX11_isDelayed_59 : decode cX11_isDelayed 59 = .ok (.iload_n 1, 1) := by decide +kernel
theorem dX11_isDelayed_60 : decode cX11_isDelayed 60 = .ok (.invokevirtual 80, 3) := by decide +kernel
theorem dX11_isDelayed_63 : decode cX11_isDelayed 63 = .ok (.ifCond .eq 7, 3) := by decide +kernel
theorem dX11_isDelayed_66 : decode cX11_isDelayed 66 = .ok (.iconst 1, 1) := by decide +kernel
theorem dX11_isDelayed_67 : decode cX11_isDelayed 67 = .ok (.goto 4, 3) := by decide +kernel
theorem dX11_isDelayed_70 : decode cX11_isDelayed 70 = .ok (.iconst 0, 1) := by decide +kernel
theorem dX11_isDelayed_71 : decode cX11_isDelayed 71 = .ok (.ireturn, 1) := by decide +kernel
theorem dX11_isDelayed_72 : decode cX11_isDelayed 72 = .ok (.iload_n 2, 1) := by decide +kernel
theorem dX11_isDelayed_73 : decode cX11_isDelayed 73 = .ok (.bipush 6, 2) := by decide +kernel
theorem dX11_isDelayed_75 : decode cX11_isDelayed 75 = .ok (.if_icmp .ne 21, 3) := by decide +kernel
theorem dX11_isDelayed_78 : decode cX11_isDelayed 78 = .ok (.aload_n 0, 1) := by decide +kernel
theorem dX11_isDelayed_79 : decode cX11_isDelayed 79 = .ok (.iload_n 1, 1) := by decide +kernel
theorem dX11_isDelayed_80 : decode cX11_isDelayed 80 = .ok (.iconst 2, 1) := by decide +kernel
theorem dX11_isDelayed_81 : decode cX11_isDelayed 81 = .ok (.invokevirtual 76, 3) := by decide +kernel
theorem dX11_isDelayed_84 : decode cX11_isDelayed 84 = .ok (.iconst 1, 1) := by decide +kernel
theorem dX11_isDelayed_85 : decode cX11_isDelayed 85 = .ok (.if_icmp .le 7, 3) := by decide +kernel
theorem dX11_isDelayed_88 : decode cX11_isDelayed 88 = .ok (.iconst 1, 1) := by decide +kernel
theorem dX11_isDelayed_89 : decode cX11_isDelayed 89 = .ok (.goto 16, 3) := by decide +kernel
theorem dX11_isDelayed_92 : decode cX11_isDelayed 92 = .ok (.iconst 0, 1) := by decide +kernel
theorem dX11_isDelayed_93 : decode cX11_isDelayed 93 = .ok (.goto 12, 3) := by decide +kernel
theorem dX11_isDelayed_96 : decode cX11_isDelayed 96 = .ok (.iload_n 3, 1) := by decide +kernel
theorem dX11_isDelayed_97 : decode cX11_isDelayed 97 = .ok (.ifCond .le 7, 3) := by decide +kernel
theorem dX11_isDelayed_100 : decode cX11_isDelayed 100 = .ok (.iconst 1, 1) := by decide +kernel
theorem dX11_isDelayed_101 : decode cX11_isDelayed 101 = .ok (.goto 4, 3) := by decide +kernel
theorem dX11_isDelayed_104 : decode cX11_isDelayed 104 = .ok (.iconst 0, 1) := by decide +kernel
theorem dX11_isDelayed_105 : decode cX11_isDelayed 105 = .ok (.ireturn, 1) := by decide +kernel
theorem dX11_delays_0 : decode cX11_delays 0 = .ok (.aload_n 0, 1) := by decide +kernel
theorem dX11_delays_1 : decode cX11_delays 1 = .ok (.iconst 0, 1) := by decide +kernel
theorem dX11_delays_2 : decode cX11_delays 2 = .ok (.putfield 41, 3) := by decide +kernel
theorem dX11_delays_5 : decode cX11_delays 5 = .ok (.aload_n 0, 1) := by decide +kernel
theorem dX11_delays_6 : decode cX11_delays 6 = .ok (.iload_n 1, 1) := by decide +kernel
theorem dX11_delays_7 : decode cX11_delays 7 = .ok (.iconst 0, 1) := by decide +kernel
theorem dX11_delays_8 : decode cX11_delays 8 = .ok (.bipush 6, 2) := by decide +kernel
theorem dX11_delays_10 : decode cX11_delays 10 = .ok (.invokevirtual 48, 3) := by decide +kernel
theorem dX11_delays_13 : decode cX11_delays 13 = .ok (.ifCond .ne 5, 3) := by decide +kernel
theorem dX11_delays_16 : decode cX11_delays 16 = .ok (.iconst (-1), 1) := by decide +kernel
theorem dX11_delays_17 : decode cX11_delays 17 = .ok (.ireturn, 1) := by decide +kernel
theorem dX11_delays_18 : decode cX11_delays 18 = .ok (.iconst 0, 1) := by decide +kernel
theorem dX11_delays_19 : decode cX11_delays 19 = .ok (.istore_n 2, 1) := by decide +kernel
theorem dX11_delays_20 : decode cX11_delays 20 = .ok (.iconst 0, 1) := by decide +kernel
theorem dX11_delays_21 : decode cX11_delays 21 = .ok (.istore_n 3, 1) := by decide +kernel
theorem dX11_delays_22 : decode cX11_delays 22 = .ok (.iconst (-1), 1) := by decide +kernel
theorem dX11_delays_23 : decode cX11_delays 23 = .ok (.istore 4, 2) := by decide +kernel
theorem dX11_delays_25 : decode cX11_delays 25 = .ok (.iconst 0, 1) := by decide +kernel
theorem dX11_delays_26 : decode cX11_delays 26 = .ok (.istore 5, 2) := by decide +kernel
theorem dX11_delays_28 : decode cX11_delays 28 = .ok (.iload 5, 2) := by decide +kernel
theorem dX11_delays_30 : decode cX11_delays 30 = .ok (.aload_n 0, 1) := by decide +kernel
theorem dX11_delays_31 : decode cX11_delays 31 = .ok (.invokevirtual 73, 3) := by decide +kernel
theorem dX11_delays_34 : decode cX11_delays 34 = .ok (.if_icmp .ge 66, 3) := by decide +kernel
theorem dX11_delays_37 : decode cX11_delays 37 = .ok (.aload_n 0, 1) := by decide +kernel
theorem dX11_delays_38 : decode cX11_delays 38 = .ok (.iload 5, 2) := by decide +kernel
theorem dX11_delays_40 : decode cX11_delays 40 = .ok (.iload_n 1, 1) := by decide +kernel
theorem dX11_delays_41 : decode cX11_delays 41 = .ok (.invokevirtual 84, 3) := by decide +kernel
theorem dX11_delays_44 : decode cX11_delays 44 = .ok (.ifCond .ne 6, 3) := by decide +kernel
theorem dX11_delays_47 : decode cX11_delays 47 = .ok (.goto 47, 3) := by decide +kernel
theorem dX11_delays_50 : decode cX11_delays 50 = .ok (.aload_n 0, 1) := by decide +kernel
theorem dX11_delays_51 : decode cX11_delays 51 = .ok (.iload 5, 2) := by decide +kernel
theorem dX11_delays_53 : decode cX11_delays 53 = .ok (.iconst 5, 1) := by decide +kernel
theorem dX11_delays_54 : decode cX11_delays 54 = .ok (.invokevirtual 76, 3) := by decide +kernel
theorem dX11_delays_57 : decode cX11_delays 57 = .ok (.iconst 1, 1) := by decide +kernel
theorem dX11_delays_58 : decode cX11_delays 58 = .ok (.isub, 1) := by decide +kernel
theorem dX11_delays_59 : decode cX11_delays 59 = .ok (.aload_n 0, 1) := by decide +kernel
theorem dX11_delays_60 : decode cX11_delays 60 = .ok (.iload 5, 2) := by decide +kernel
theorem dX11_delays_62 : decode cX11_delays 62 = .ok (.iconst 1, 1) := by decide +kernel
theorem dX11_delays_63 : decode cX11_delays 63 = .ok (.invokevirtual 76, 3) := by decide +kernel
theorem dX11_delays_66 : decode cX11_delays 66 = .ok (.isub, 1) := by decide +kernel
theorem dX11_delays_67 : decode cX11_delays 67 = .ok (.istore 6, 2) := by decide +kernel
theorem dX11_delays_69 : decode cX11_delays 69 = .ok (.iload_n 2, 1) := by decide +kernel
theorem dX11_delays_70 : decode cX11_delays 70 = .ok (.iconst 1, 1) := by decide +kernel
theorem dX11_delays_71 : decode cX11_delays 71 = .ok (.iadd, 1) := by decide +kernel
theorem dX11_delays_72 : decode cX11_delays 72 = .ok (.istore_n 2, 1) := by decide +kernel
theorem dX11_delays_73 : decode cX11_delays 73 = .ok (.iload_n 3, 1) := by decide +kernel
theorem dX11_delays_74 : decode cX11_delays 74 = .ok (.iload 6, 2) := by decide +kernel
theorem dX11_delays_76 : decode cX11_delays 76 = .ok (.iadd, 1) := by decide +kernel
theorem dX11_delays_77 : decode cX11_delays 77 = .ok (.istore_n 3, 1) := by decide +kernel
theorem dX11_delays_78 : decode cX11_delays 78 = .ok (.iload 6, 2) := by decide +kernel
theorem dX11_delays_80 : decode cX11_delays 80 = .ok (.iload 4, 2) := by decide +kernel
theorem dX11_delays_82 : decode cX11_delays 82 = .ok (.if_icmp .le 8, 3) := by decide +kernel
theorem dX11_delays_85 : decode cX11_delays 85 = .ok (.iload 6, 2) := by decide +kernel
theorem dX11_delays_87 : decode cX11_delays 87 = .ok (.goto 5, 3) := by decide +kernel
theorem dX11_delays_90 : decode cX11_delays 90 = .ok (.iload 4, 2) := by decide +kernel
theorem dX11_delays_92 : decode cX11_delays 92 = .ok (.istore 4, 2) := by decide +kernel
theorem dX11_delays_94 : decode cX11_delays 94 = .ok (.iinc 5 1, 3) := by decide +kernel
theorem dX11_delays_97 : decode cX11_delays 97 = .ok (.goto (-69), 3) := by decide +kernel
theorem dX11_delays_100 : decode cX11_delays 100 = .ok (.iload_n 1, 1) := by decide +kernel
theorem dX11_delays_101 : decode cX11_delays 101 = .ok (.iconst 1, 1) := by decide +kernel
theorem dX11_delays_102 : decode cX11_delays 102 = .ok (.if_icmp .ne 8, 3) := by decide +kernel
theorem dX11_delays_105 : decode cX11_delays 105 = .ok (.iload 4, 2) := by decide +kernel
theorem dX11_delays_107 : decode cX11_delays 107 = .ok (.goto 13, 3) := by decide +kernel
theorem dX11_delays_110 : decode cX11_delays 110 = .ok (.iload_n 1, 1) := by decide +kernel
theorem dX11_delays_111 : decode cX11_delays 111 = .ok (.iconst 2, 1) := by decide +kernel
theorem dX11_delays_112 : decode cX11_delays 112 = .ok (.if_icmp .ne 7, 3) := by decide +kernel
theorem dX11_delays_115 : decode cX11_delays 115 = .ok (.iload_n 3, 1) := by decide +kernel
theorem dX11_delays_116 : decode cX11_delays 116 = .ok (.goto 4, 3) := by decide +kernel
theorem dX11_delays_119 : decode cX11_delays 119 = .ok (.iload_n 2, 1) := by decide +kernel
theorem dX11_delays_120 : decode cX11_delays 120 = .ok (.ireturn, 1) := by decide +kernel
theorem dX11_machine_0 : decode cX11_machine 0 = .ok (.aload_n 0, 1) := by decide +kernel
theorem dX11_machine_1 : decode cX11_machine 1 = .ok (.getfield 7, 3) := by decide +kernel
theorem dX11_machine_4 : decode cX11_machine 4 = .ok (.bipush 21, 2) := by decide +kernel
theorem dX11_machine_6 : decode cX11_machine 6 = .ok (.iaload, 1) := by decide +kernel
theorem dX11_machine_7 : decode cX11_machine 7 = .ok (.bipush 6, 2) := by decide +kernel
theorem dX11_machine_9 : decode cX11_machine 9 = .ok (.iadd, 1) := by decide +kernel
theorem dX11_machine_10 : decode cX11_machine 10 = .ok (.ireturn, 1) := by decide +kernel
theorem dX11_isMoving_0 : decode cX11_isMoving 0 = .ok (.aload_n 0, 1) := by decide +kernel
theorem dX11_isMoving_1 : decode cX11_isMoving 1 = .ok (.aload_n 0, 1) := by decide +kernel
theorem dX11_isMoving_2 : decode cX11_isMoving 2 = .ok (.invokevirtual 87, 3) := by decide +kernel
theorem dX11_isMoving_5 : decode cX11_isMoving 5 = .ok (.iconst 1, 1) := by decide +kernel
theorem dX11_isMoving_6 : decode cX11_isMoving 6 = .ok (.iconst 3, 1) := by decide +kernel
theorem dX11_isMoving_7 : decode cX11_isMoving 7 = .ok (.invokevirtual 48, 3) := by decide +kernel
theorem dX11_isMoving_10 : decode cX11_isMoving 10 = .ok (.ireturn, 1) := by decide +kernel
theorem dX11_becomes_0 : decode cX11_becomes 0 = .ok (.iload_n 1, 1) := by decide +kernel
theorem dX11_becomes_1 : decode cX11_becomes 1 = .ok (.aload_n 0, 1) := by decide +kernel
theorem dX11_becomes_2 : decode cX11_becomes 2 = .ok (.invokevirtual 87, 3) := by decide +kernel
theorem dX11_becomes_5 : decode cX11_becomes 5 = .ok (.if_icmp .ne 4, 3) := by decide +kernel
theorem dX11_becomes_8 : decode cX11_becomes 8 = .ok (.return_, 1) := by decide +kernel
theorem dX11_becomes_9 : decode cX11_becomes 9 = .ok (.aload_n 0, 1) := by decide +kernel
theorem dX11_becomes_10 : decode cX11_becomes 10 = .ok (.getfield 7, 3) := by decide +kernel
theorem dX11_becomes_13 : decode cX11_becomes 13 = .ok (.bipush 34, 2) := by decide +kernel
theorem dX11_becomes_15 : decode cX11_becomes 15 = .ok (.iaload, 1) := by decide +kernel
theorem dX11_becomes_16 : decode cX11_becomes 16 = .ok (.bipush 80, 2) := by decide +kernel
theorem dX11_becomes_18 : decode cX11_becomes 18 = .ok (.if_icmp .ge 57, 3) := by decide +kernel
theorem dX11_becomes_21 : decode cX11_becomes 21 = .ok (.sipush 179, 3) := by decide +kernel
theorem dX11_becomes_24 : decode cX11_becomes 24 = .ok (.iconst 3, 1) := by decide +kernel
theorem dX11_becomes_25 : decode cX11_becomes 25 = .ok (.aload_n 0, 1) := by decide +kernel
theorem dX11_becomes_26 : decode cX11_becomes 26 = .ok (.getfield 7, 3) := by decide +kernel
theorem dX11_becomes_29 : decode cX11_becomes 29 = .ok (.bipush 34, 2) := by decide +kernel
theorem dX11_becomes_31 : decode cX11_becomes 31 = .ok (.iaload, 1) := by decide +kernel
theorem dX11_becomes_32 : decode cX11_becomes 32 = .ok (.imul, 1) := by decide +kernel
theorem dX11_becomes_33 : decode cX11_becomes 33 = .ok (.iadd, 1) := by decide +kernel
theorem dX11_becomes_34 : decode cX11_becomes 34 = .ok (.istore_n 2, 1) := by decide +kernel
theorem dX11_becomes_35 : decode cX11_becomes 35 = .ok (.aload_n 0, 1) := by decide +kernel
theorem dX11_becomes_36 : decode cX11_becomes 36 = .ok (.getfield 7, 3) := by decide +kernel
theorem dX11_becomes_39 : decode cX11_becomes 39 = .ok (.iload_n 2, 1) := by decide +kernel
theorem dX11_becomes_40 : decode cX11_becomes 40 = .ok (.aload_n 0, 1) := by decide +kernel
theorem dX11_becomes_41 : decode cX11_becomes 41 = .ok (.getfield 7, 3) := by decide +kernel
theorem dX11_becomes_44 : decode cX11_becomes 44 = .ok (.bipush 11, 2) := by decide +kernel
theorem dX11_becomes_46 : decode cX11_becomes 46 = .ok (.iaload, 1) := by decide +kernel
theorem dX11_becomes_47 : decode cX11_becomes 47 = .ok (.iastore, 1) := by decide +kernel
theorem dX11_becomes_48 : decode cX11_becomes 48 = .ok (.aload_n 0, 1) := by decide +kernel
theorem dX11_becomes_49 : decode cX11_becomes 49 = .ok (.getfield 7, 3) := by decide +kernel
theorem dX11_becomes_52 : decode cX11_becomes 52 = .ok (.iload_n 2, 1) := by decide +kernel
theorem dX11_becomes_53 : decode cX11_becomes 53 = .ok (.iconst 1, 1) := by decide +kernel
theorem dX11_becomes_54 : decode cX11_becomes 54 = .ok (.iadd, 1) := by decide +kernel
theorem dX11_becomes_55 : decode cX11_becomes 55 = .ok (.aload_n 0, 1) := by decide +kernel
theorem dX11_becomes_56 : decode cX11_becomes 56 = .ok (.invokevirtual 87, 3) := by decide +kernel
theorem dX11_becomes_59 : decode cX11_becomes 59 = .ok (.iastore, 1) := by decide +kernel
theorem dX11_becomes_60 : decode cX11_becomes 60 = .ok (.aload_n 0, 1) := by decide +kernel
theorem dX11_becomes_61 : decode cX11_becomes 61 = .ok (.getfield 7, 3) := by decide +kernel
theorem dX11_becomes_64 : decode cX11_becomes 64 = .ok (.iload_n 2, 1) := by decide +kernel
theorem dX11_becomes_65 : decode cX11_becomes 65 = .ok (.iconst 2, 1) := by decide +kernel
theorem dX11_becomes_66 : decode cX11_becomes 66 = .ok (.iadd, 1) := by decide +kernel
theorem dX11_becomes_67 : decode cX11_becomes 67 = .ok (.iload_n 1, 1) := by decide +kernel
theorem dX11_becomes_68 : decode cX11_becomes 68 = .ok (.iastore, 1) := by decide +kernel
theorem dX11_becomes_69 : decode cX11_becomes 69 = .ok (.aload_n 0, 1) := by decide +kernel
theorem dX11_becomes_70 : decode cX11_becomes 70 = .ok (.bipush 34, 2) := by decide +kernel
theorem dX11_becomes_72 : decode cX11_becomes 72 = .ok (.invokevirtual 58, 3) := by decide +kernel
theorem dX11_becomes_75 : decode cX11_becomes 75 = .ok (.aload_n 0, 1) := by decide +kernel
theorem dX11_becomes_76 : decode cX11_becomes 76 = .ok (.getfield 7, 3) := by decide +kernel
theorem dX11_becomes_79 : decode cX11_becomes 79 = .ok (.bipush 21, 2) := by decide +kernel
theorem dX11_becomes_81 : decode cX11_becomes 81 = .ok (.iload_n 1, 1) := by decide +kernel
theorem dX11_becomes_82 : decode cX11_becomes 82 = .ok (.bipush 6, 2) := by decide +kernel
theorem dX11_becomes_84 : decode cX11_becomes 84 = .ok (.isub, 1) := by decide +kernel
theorem dX11_becomes_85 : decode cX11_becomes 85 = .ok (.iastore, 1) := by decide +kernel
theorem dX11_becomes_86 : decode cX11_becomes 86 = .ok (.return_, 1) := by decide +kernel
theorem dX11_alarms_0 : decode cX11_alarms 0 = .ok (.aload_n 0, 1) := by decide +kernel
theorem dX11_alarms_1 : decode cX11_alarms 1 = .ok (.bipush 6, 2) := by decide +kernel
theorem dX11_alarms_3 : decode cX11_alarms 3 = .ok (.invokevirtual 90, 3) := by decide +kernel
theorem dX11_alarms_6 : decode cX11_alarms 6 = .ok (.aload_n 0, 1) := by decide +kernel
theorem dX11_alarms_7 : decode cX11_alarms 7 = .ok (.invokevirtual 93, 3) := by decide +kernel
theorem dX11_alarms_10 : decode cX11_alarms 10 = .ok (.aload_n 0, 1) := by decide +kernel
theorem dX11_alarms_11 : decode cX11_alarms 11 = .ok (.getfield 7, 3) := by decide +kernel
theorem dX11_alarms_14 : decode cX11_alarms 14 = .ok (.bipush 26, 2) := by decide +kernel
theorem dX11_alarms_16 : decode cX11_alarms 16 = .ok (.iconst 0, 1) := by decide +kernel
theorem dX11_alarms_17 : decode cX11_alarms 17 = .ok (.iastore, 1) := by decide +kernel
theorem dX11_alarms_18 : decode cX11_alarms 18 = .ok (.aload_n 0, 1) := by decide +kernel
theorem dX11_alarms_19 : decode cX11_alarms 19 = .ok (.getfield 7, 3) := by decide +kernel
theorem dX11_alarms_22 : decode cX11_alarms 22 = .ok (.bipush 31, 2) := by decide +kernel
theorem dX11_alarms_24 : decode cX11_alarms 24 = .ok (.iconst 0, 1) := by decide +kernel
theorem dX11_alarms_25 : decode cX11_alarms 25 = .ok (.iastore, 1) := by decide +kernel
theorem dX11_alarms_26 : decode cX11_alarms 26 = .ok (.aload_n 0, 1) := by decide +kernel
theorem dX11_alarms_27 : decode cX11_alarms 27 = .ok (.getfield 7, 3) := by decide +kernel
theorem dX11_alarms_30 : decode cX11_alarms 30 = .ok (.bipush 32, 2) := by decide +kernel
theorem dX11_alarms_32 : decode cX11_alarms 32 = .ok (.iconst 0, 1) := by decide +kernel
theorem dX11_alarms_33 : decode cX11_alarms 33 = .ok (.iastore, 1) := by decide +kernel
theorem dX11_alarms_34 : decode cX11_alarms 34 = .ok (.aload_n 0, 1) := by decide +kernel
theorem dX11_alarms_35 : decode cX11_alarms 35 = .ok (.getfield 7, 3) := by decide +kernel
theorem dX11_alarms_38 : decode cX11_alarms 38 = .ok (.bipush 33, 2) := by decide +kernel
theorem dX11_alarms_40 : decode cX11_alarms 40 = .ok (.iaload, 1) := by decide +kernel
theorem dX11_alarms_41 : decode cX11_alarms 41 = .ok (.bipush 60, 2) := by decide +kernel
theorem dX11_alarms_43 : decode cX11_alarms 43 = .ok (.if_icmp .ge 19, 3) := by decide +kernel
theorem dX11_alarms_46 : decode cX11_alarms 46 = .ok (.aload_n 0, 1) := by decide +kernel
theorem dX11_alarms_47 : decode cX11_alarms 47 = .ok (.getfield 7, 3) := by decide +kernel
theorem dX11_alarms_50 : decode cX11_alarms 50 = .ok (.bipush 119, 2) := by decide +kernel
theorem dX11_alarms_52 : decode cX11_alarms 52 = .ok (.aload_n 0, 1) := by decide +kernel
theorem dX11_alarms_53 : decode cX11_alarms 53 = .ok (.getfield 7, 3) := by decide +kernel
theorem dX11_alarms_56 : decode cX11_alarms 56 = .ok (.bipush 33, 2) := by decide +kernel
theorem dX11_alarms_58 : decode cX11_alarms 58 = .ok (.iaload, 1) := by decide +kernel
theorem dX11_alarms_59 : decode cX11_alarms 59 = .ok (.iadd, 1) := by decide +kernel
theorem dX11_alarms_60 : decode cX11_alarms 60 = .ok (.iload_n 1, 1) := by decide +kernel
theorem dX11_alarms_61 : decode cX11_alarms 61 = .ok (.iastore, 1) := by decide +kernel
theorem dX11_alarms_62 : decode cX11_alarms 62 = .ok (.aload_n 0, 1) := by decide +kernel
theorem dX11_alarms_63 : decode cX11_alarms 63 = .ok (.bipush 33, 2) := by decide +kernel
theorem dX11_alarms_65 : decode cX11_alarms 65 = .ok (.invokevirtual 58, 3) := by decide +kernel
theorem dX11_alarms_68 : decode cX11_alarms 68 = .ok (.aload_n 0, 1) := by decide +kernel
theorem dX11_alarms_69 : decode cX11_alarms 69 = .ok (.getfield 7, 3) := by decide +kernel
theorem dX11_alarms_72 : decode cX11_alarms 72 = .ok (.bipush 48, 2) := by decide +kernel
theorem dX11_alarms_74 : decode cX11_alarms 74 = .ok (.iload_n 1, 1) := by decide +kernel
theorem dX11_alarms_75 : decode cX11_alarms 75 = .ok (.iastore, 1) := by decide +kernel
theorem dX11_alarms_76 : decode cX11_alarms 76 = .ok (.return_, 1) := by decide +kernel
theorem dX11_suspends_0 : decode cX11_suspends 0 = .ok (.aload_n 0, 1) := by decide +kernel
theorem dX11_suspends_1 : decode cX11_suspends 1 = .ok (.getfield 7, 3) := by decide +kernel
theorem dX11_suspends_4 : decode cX11_suspends 4 = .ok (.bipush 32, 2) := by decide +kernel
theorem dX11_suspends_6 : decode cX11_suspends 6 = .ok (.aload_n 0, 1) := by decide +kernel
theorem dX11_suspends_7 : decode cX11_suspends 7 = .ok (.invokevirtual 87, 3) := by decide +kernel
theorem dX11_suspends_10 : decode cX11_suspends 10 = .ok (.iastore, 1) := by decide +kernel
theorem dX11_suspends_11 : decode cX11_suspends 11 = .ok (.aload_n 0, 1) := by decide +kernel
theorem dX11_suspends_12 : decode cX11_suspends 12 = .ok (.bipush 6, 2) := by decide +kernel
theorem dX11_suspends_14 : decode cX11_suspends 14 = .ok (.invokevirtual 90, 3) := by decide +kernel
theorem dX11_suspends_17 : decode cX11_suspends 17 = .ok (.aload_n 0, 1) := by decide +kernel
theorem dX11_suspends_18 : decode cX11_suspends 18 = .ok (.getfield 7, 3) := by decide +kernel
theorem dX11_suspends_21 : decode cX11_suspends 21 = .ok (.bipush 31, 2) := by decide +kernel
theorem dX11_suspends_23 : decode cX11_suspends 23 = .ok (.iconst 0, 1) := by decide +kernel
theorem dX11_suspends_24 : decode cX11_suspends 24 = .ok (.iastore, 1) := by decide +kernel
theorem dX11_suspends_25 : decode cX11_suspends 25 = .ok (.return_, 1) := by decide +kernel
theorem dX11_givesUp_0 : decode cX11_givesUp 0 = .ok (.aload_n 0, 1) := by decide +kernel
theorem dX11_givesUp_1 : decode cX11_givesUp 1 = .ok (.getfield 7, 3) := by decide +kernel
theorem dX11_givesUp_4 : decode cX11_givesUp 4 = .ok (.iconst 5, 1) := by decide +kernel
theorem dX11_givesUp_5 : decode cX11_givesUp 5 = .ok (.iaload, 1) := by decide +kernel
theorem dX11_givesUp_6 : decode cX11_givesUp 6 = .ok (.ifCond .ne 11, 3) := by decide +kernel
theorem dX11_givesUp_9 : decode cX11_givesUp 9 = .ok (.aload_n 0, 1) := by decide +kernel
theorem dX11_givesUp_10 : decode cX11_givesUp 10 = .ok (.iconst 5, 1) := by decide +kernel
theorem dX11_givesUp_11 : decode cX11_givesUp 11 = .ok (.invokevirtual 96, 3) := by decide +kernel
theorem dX11_givesUp_14 : decode cX11_givesUp 14 = .ok (.goto 7, 3) := by decide +kernel
theorem dX11_givesUp_17 : decode cX11_givesUp 17 = .ok (.aload_n 0, 1) := by decide +kernel
theorem dX11_givesUp_18 : decode cX11_givesUp 18 = .ok (.invokevirtual 99, 3) := by decide +kernel
theorem dX11_givesUp_21 : decode cX11_givesUp 21 = .ok (.return_, 1) := by decide +kernel
theorem dX11_marks_0 : decode cX11_marks 0 = .ok (.aload_n 0, 1) := by decide +kernel
theorem dX11_marks_1 : decode cX11_marks 1 = .ok (.invokevirtual 87, 3) := by decide +kernel
theorem dX11_marks_4 : decode cX11_marks 4 = .ok (.iconst 5, 1) := by decide +kernel
theorem dX11_marks_5 : decode cX11_marks 5 = .ok (.if_icmp .ne 14, 3) := by decide +kernel
theorem dX11_marks_8 : decode cX11_marks 8 = .ok (.aload_n 0, 1) := by decide +kernel
theorem dX11_marks_9 : decode cX11_marks 9 = .ok (.getfield 7, 3) := by decide +kernel
theorem dX11_marks_12 : decode cX11_marks 12 = .ok (.bipush 28, 2) := by decide +kernel
theorem dX11_marks_14 : decode cX11_marks 14 = .ok (.iconst 1, 1) := by decide +kernel
theorem dX11_marks_15 : decode cX11_marks 15 = .ok (.iastore, 1) := by decide +kernel
theorem dX11_marks_16 : decode cX11_marks 16 = .ok (.goto 32, 3) := by decide +kernel
theorem dX11_marks_19 : decode cX11_marks 19 = .ok (.iconst 0, 1) := by decide +kernel
theorem dX11_marks_20 : decode cX11_marks 20 = .ok (.istore_n 1, 1) := by decide +kernel
theorem dX11_marks_21 : decode cX11_marks 21 = .ok (.iload_n 1, 1) := by decide +kernel
theorem dX11_marks_22 : decode cX11_marks 22 = .ok (.aload_n 0, 1) := by decide +kernel
theorem dX11_marks_23 : decode cX11_marks 23 = .ok (.getfield 7, 3) := by decide +kernel
theorem dX11_marks_26 : decode cX11_marks 26 = .ok (.bipush 25, 2) := by decide +kernel
theorem dX11_marks_28 : decode cX11_marks 28 = .ok (.iaload, 1) := by decide +kernel
theorem dX11_marks_29 : decode cX11_marks 29 = .ok (.if_icmp .ge 19, 3) := by decide +kernel
theorem dX11_marks_32 : decode cX11_marks 32 = .ok (.aload_n 0, 1) := by decide +kernel
theorem dX11_marks_33 : decode cX11_marks 33 = .ok (.getfield 7, 3) := by decide +kernel
theorem dX11_marks_36 : decode cX11_marks 36 = .ok (.bipush 86, 2) := by decide +kernel
theorem dX11_marks_38 : decode cX11_marks 38 = .ok (.iload_n 1, 1) := by decide +kernel
theorem dX11_marks_39 : decode cX11_marks 39 = .ok (.iadd, 1) := by decide +kernel
theorem dX11_marks_40 : decode cX11_marks 40 = .ok (.iconst 1, 1) := by decide +kernel
theorem dX11_marks_41 : decode cX11_marks 41 = .ok (.iastore, 1) := by decide +kernel
theorem dX11_marks_42 : decode cX11_marks 42 = .ok (.iinc 1 1, 3) := by decide +kernel
theorem dX11_marks_45 : decode cX11_marks 45 = .ok (.goto (-24), 3) := by decide +kernel
theorem dX11_marks_48 : decode cX11_marks 48 = .ok (.aload_n 0, 1) := by decide +kernel
theorem dX11_marks_49 : decode cX11_marks 49 = .ok (.bipush 30, 2) := by decide +kernel
theorem dX11_marks_51 : decode cX11_marks 51 = .ok (.invokevirtual 58, 3) := by decide +kernel
theorem dX11_marks_54 : decode cX11_marks 54 = .ok (.aload_n 0, 1) := by decide +kernel
theorem dX11_marks_55 : decode cX11_marks 55 = .ok (.getfield 7, 3) := by decide +kernel
theorem dX11_marks_58 : decode cX11_marks 58 = .ok (.bipush 31, 2) := by decide +kernel
theorem dX11_marks_60 : decode cX11_marks 60 = .ok (.aload_n 0, 1) := by decide +kernel
theorem dX11_marks_61 : decode cX11_marks 61 = .ok (.iconst 4, 1) := by decide +kernel
theorem dX11_marks_62 : decode cX11_marks 62 = .ok (.invokevirtual 102, 3) := by decide +kernel
theorem dX11_marks_65 : decode cX11_marks 65 = .ok (.iastore, 1) := by decide +kernel
theorem dX11_marks_66 : decode cX11_marks 66 = .ok (.return_, 1) := by decide +kernel
theorem dX11_send_0 : decode cX11_send 0 = .ok (.aload_n 0, 1) := by decide +kernel
theorem dX11_send_1 : decode cX11_send 1 = .ok (.iconst 0, 1) := by decide +kernel
theorem dX11_send_2 : decode cX11_send 2 = .ok (.putfield 41, 3) := by decide +kernel
theorem dX11_send_5 : decode cX11_send 5 = .ok (.aload_n 0, 1) := by decide +kernel
theorem dX11_send_6 : decode cX11_send 6 = .ok (.iload_n 1, 1) := by decide +kernel
theorem dX11_send_7 : decode cX11_send 7 = .ok (.iconst 0, 1) := by decide +kernel
theorem dX11_send_8 : decode cX11_send 8 = .ok (.sipush 9999, 3) := by decide +kernel
theorem dX11_send_11 : decode cX11_send 11 = .ok (.invokevirtual 48, 3) := by decide +kernel
theorem dX11_send_14 : decode cX11_send 14 = .ok (.ifCond .eq 22, 3) := by decide +kernel
theorem dX11_send_17 : decode cX11_send 17 = .ok (.aload_n 0, 1) := by decide +kernel
theorem dX11_send_18 : decode cX11_send 18 = .ok (.invokevirtual 105, 3) := by decide +kernel
theorem dX11_send_21 : decode cX11_send 21 = .ok (.ifCond .eq 15, 3) := by decide +kernel
theorem dX11_send_24 : decode cX11_send 24 = .ok (.aload_n 0, 1) := by decide +kernel
theorem dX11_send_25 : decode cX11_send 25 = .ok (.getfield 7, 3) := by decide +kernel
theorem dX11_send_28 : decode cX11_send 28 = .ok (.bipush 24, 2) := by decide +kernel
theorem dX11_send_30 : decode cX11_send 30 = .ok (.iaload, 1) := by decide +kernel
theorem dX11_send_31 : decode cX11_send 31 = .ok (.bipush 8, 2) := by decide +kernel
theorem dX11_send_33 : decode cX11_send 33 = .ok (.if_icmp .ne 5, 3) := by decide +kernel
theorem dX11_send_36 : decode cX11_send 36 = .ok (.iconst (-1), 1) := by decide +kernel
theorem dX11_send_37 : decode cX11_send 37 = .ok (.ireturn, 1) := by decide +kernel
theorem dX11_send_38 : decode cX11_send 38 = .ok (.aload_n 0, 1) := by decide +kernel
theorem dX11_send_39 : decode cX11_send 39 = .ok (.bipush 58, 2) := by decide +kernel
theorem dX11_send_41 : decode cX11_send 41 = .ok (.bipush 24, 2) := by decide +kernel
theorem dX11_send_43 : decode cX11_send 43 = .ok (.iload_n 1, 1) := by decide +kernel
theorem dX11_send_44 : decode cX11_send 44 = .ok (.invokevirtual 109, 3) := by decide +kernel
theorem dX11_send_47 : decode cX11_send 47 = .ok (.aload_n 0, 1) := by decide +kernel
theorem dX11_send_48 : decode cX11_send 48 = .ok (.iload_n 1, 1) := by decide +kernel
theorem dX11_send_49 : decode cX11_send 49 = .ok (.invokevirtual 113, 3) := by decide +kernel
theorem dX11_send_52 : decode cX11_send 52 = .ok (.aload_n 0, 1) := by decide +kernel
theorem dX11_send_53 : decode cX11_send 53 = .ok (.getfield 7, 3) := by decide +kernel
theorem dX11_send_56 : decode cX11_send 56 = .ok (.bipush 24, 2) := by decide +kernel
theorem dX11_send_58 : decode cX11_send 58 = .ok (.iaload, 1) := by decide +kernel
theorem dX11_send_59 : decode cX11_send 59 = .ok (.ireturn, 1) := by decide +kernel
theorem dX11_past_0 : decode cX11_past 0 = .ok (.aload_n 0, 1) := by decide +kernel
theorem dX11_past_1 : decode cX11_past 1 = .ok (.iconst 0, 1) := by decide +kernel
theorem dX11_past_2 : decode cX11_past 2 = .ok (.putfield 41, 3) := by decide +kernel
theorem dX11_past_5 : decode cX11_past 5 = .ok (.aload_n 0, 1) := by decide +kernel
theorem dX11_past_6 : decode cX11_past 6 = .ok (.iload_n 1, 1) := by decide +kernel
theorem dX11_past_7 : decode cX11_past 7 = .ok (.iconst 0, 1) := by decide +kernel
theorem dX11_past_8 : decode cX11_past 8 = .ok (.sipush 9999, 3) := by decide +kernel
theorem dX11_past_11 : decode cX11_past 11 = .ok (.invokevirtual 48, 3) := by decide +kernel
theorem dX11_past_14 : decode cX11_past 14 = .ok (.ifCond .eq 14, 3) := by decide +kernel
theorem dX11_past_17 : decode cX11_past 17 = .ok (.aload_n 0, 1) := by decide +kernel
theorem dX11_past_18 : decode cX11_past 18 = .ok (.getfield 7, 3) := by decide +kernel
theorem dX11_past_21 : decode cX11_past 21 = .ok (.bipush 29, 2) := by decide +kernel
theorem dX11_past_23 : decode cX11_past 23 = .ok (.iaload, 1) := by decide +kernel
theorem dX11_past_24 : decode cX11_past 24 = .ok (.iconst 4, 1) := by decide +kernel
theorem dX11_past_25 : decode cX11_past 25 = .ok (.if_icmp .ne 5, 3) := by decide +kernel
theorem dX11_past_28 : decode cX11_past 28 = .ok (.iconst (-1), 1) := by decide +kernel
theorem dX11_past_29 : decode cX11_past 29 = .ok (.ireturn, 1) := by decide +kernel
theorem dX11_past_30 : decode cX11_past 30 = .ok (.aload_n 0, 1) := by decide +kernel
theorem dX11_past_31 : decode cX11_past 31 = .ok (.bipush 106, 2) := by decide +kernel
theorem dX11_past_33 : decode cX11_past 33 = .ok (.bipush 29, 2) := by decide +kernel
theorem dX11_past_35 : decode cX11_past 35 = .ok (.iload_n 1, 1) := by decide +kernel
theorem dX11_past_36 : decode cX11_past 36 = .ok (.invokevirtual 109, 3) := by decide +kernel
theorem dX11_past_39 : decode cX11_past 39 = .ok (.aload_n 0, 1) := by decide +kernel
theorem dX11_past_40 : decode cX11_past 40 = .ok (.getfield 7, 3) := by decide +kernel
theorem dX11_past_43 : decode cX11_past 43 = .ok (.bipush 29, 2) := by decide +kernel
theorem dX11_past_45 : decode cX11_past 45 = .ok (.iaload, 1) := by decide +kernel
theorem dX11_past_46 : decode cX11_past 46 = .ok (.ireturn, 1) := by decide +kernel
theorem dX11_directs_0 : decode cX11_directs 0 = .ok (.aload_n 0, 1) := by decide +kernel
theorem dX11_directs_1 : decode cX11_directs 1 = .ok (.getfield 7, 3) := by decide +kernel
theorem dX11_directs_4 : decode cX11_directs 4 = .ok (.bipush 26, 2) := by decide +kernel
theorem dX11_directs_6 : decode cX11_directs 6 = .ok (.iload_n 1, 1) := by decide +kernel
theorem dX11_directs_7 : decode cX11_directs 7 = .ok (.iastore, 1) := by decide +kernel
theorem dX11_directs_8 : decode cX11_directs 8 = .ok (.aload_n 0, 1) := by decide +kernel
theorem dX11_directs_9 : decode cX11_directs 9 = .ok (.getfield 7, 3) := by decide +kernel
theorem dX11_directs_12 : decode cX11_directs 12 = .ok (.bipush 27, 2) := by decide +kernel
theorem dX11_directs_14 : decode cX11_directs 14 = .ok (.iload_n 2, 1) := by decide +kernel
theorem dX11_directs_15 : decode cX11_directs 15 = .ok (.iastore, 1) := by decide +kernel
theorem dX11_directs_16 : decode cX11_directs 16 = .ok (.aload_n 0, 1) := by decide +kernel
theorem dX11_directs_17 : decode cX11_directs 17 = .ok (.getfield 7, 3) := by decide +kernel
theorem dX11_directs_20 : decode cX11_directs 20 = .ok (.bipush 28, 2) := by decide +kernel
theorem dX11_directs_22 : decode cX11_directs 22 = .ok (.iconst 1, 1) := by decide +kernel
theorem dX11_directs_23 : decode cX11_directs 23 = .ok (.iastore, 1) := by decide +kernel
theorem dX11_directs_24 : decode cX11_directs 24 = .ok (.aload_n 0, 1) := by decide +kernel
theorem dX11_directs_25 : decode cX11_directs 25 = .ok (.getfield 7, 3) := by decide +kernel
theorem dX11_directs_28 : decode cX11_directs 28 = .ok (.bipush 31, 2) := by decide +kernel
theorem dX11_directs_30 : decode cX11_directs 30 = .ok (.aload_n 0, 1) := by decide +kernel
theorem dX11_directs_31 : decode cX11_directs 31 = .ok (.iconst 4, 1) := by decide +kernel
theorem dX11_directs_32 : decode cX11_directs 32 = .ok (.invokevirtual 102, 3) := by decide +kernel
theorem dX11_directs_35 : decode cX11_directs 35 = .ok (.iastore, 1) := by decide +kernel
theorem dX11_directs_36 : decode cX11_directs 36 = .ok (.aload_n 0, 1) := by decide +kernel
theorem dX11_directs_37 : decode cX11_directs 37 = .ok (.iconst 5, 1) := by decide +kernel
theorem dX11_directs_38 : decode cX11_directs 38 = .ok (.invokevirtual 90, 3) := by decide +kernel
theorem dX11_directs_41 : decode cX11_directs 41 = .ok (.return_, 1) := by decide +kernel
theorem dX11_start_0 : decode cX11_start 0 = .ok (.aload_n 0, 1) := by decide +kernel
theorem dX11_start_1 : decode cX11_start 1 = .ok (.iconst 0, 1) := by decide +kernel
theorem dX11_start_2 : decode cX11_start 2 = .ok (.putfield 41, 3) := by decide +kernel
theorem dX11_start_5 : decode cX11_start 5 = .ok (.aload_n 0, 1) := by decide +kernel
theorem dX11_start_6 : decode cX11_start 6 = .ok (.invokevirtual 87, 3) := by decide +kernel
theorem dX11_start_9 : decode cX11_start 9 = .ok (.bipush 6, 2) := by decide +kernel
theorem dX11_start_11 : decode cX11_start 11 = .ok (.if_icmp .ne 30, 3) := by decide +kernel
theorem dX11_start_14 : decode cX11_start 14 = .ok (.aload_n 0, 1) := by decide +kernel
theorem dX11_start_15 : decode cX11_start 15 = .ok (.iload_n 1, 1) := by decide +kernel
theorem dX11_start_16 : decode cX11_start 16 = .ok (.iconst 0, 1) := by decide +kernel
theorem dX11_start_17 : decode cX11_start 17 = .ok (.iconst 3, 1) := by decide +kernel
theorem dX11_start_18 : decode cX11_start 18 = .ok (.invokevirtual 48, 3) := by decide +kernel
theorem dX11_start_21 : decode cX11_start 21 = .ok (.ifCond .eq 20, 3) := by decide +kernel
theorem dX11_start_24 : decode cX11_start 24 = .ok (.iload_n 1, 1) := by decide +kernel
theorem dX11_start_25 : decode cX11_start 25 = .ok (.iconst 3, 1) := by decide +kernel
theorem dX11_start_26 : decode cX11_start 26 = .ok (.if_icmp .ne 17, 3) := by decide +kernel
theorem dX11_start_29 : decode cX11_start 29 = .ok (.aload_n 0, 1) := by decide +kernel
theorem dX11_start_30 : decode cX11_start 30 = .ok (.iload_n 2, 1) := by decide +kernel
theorem dX11_start_31 : decode cX11_start 31 = .ok (.iconst 0, 1) := by decide +kernel
theorem dX11_start_32 : decode cX11_start 32 = .ok (.sipush 255, 3) := by decide +kernel
theorem dX11_start_35 : decode cX11_start 35 = .ok (.invokevirtual 48, 3) := by decide +kernel
theorem dX11_start_38 : decode cX11_start 38 = .ok (.ifCond .ne 5, 3) := by decide +kernel
theorem dX11_start_41 : decode cX11_start 41 = .ok (.iconst 0, 1) := by decide +kernel
theorem dX11_start_42 : decode cX11_start 42 = .ok (.ireturn, 1) := by decide +kernel
theorem dX11_start_43 : decode cX11_start 43 = .ok (.aload_n 0, 1) := by decide +kernel
theorem dX11_start_44 : decode cX11_start 44 = .ok (.invokevirtual 93, 3) := by decide +kernel
theorem dX11_start_47 : decode cX11_start 47 = .ok (.aload_n 0, 1) := by decide +kernel
theorem dX11_start_48 : decode cX11_start 48 = .ok (.getfield 7, 3) := by decide +kernel
theorem dX11_start_51 : decode cX11_start 51 = .ok (.bipush 32, 2) := by decide +kernel
theorem dX11_start_53 : decode cX11_start 53 = .ok (.iconst 0, 1) := by decide +kernel
theorem dX11_start_54 : decode cX11_start 54 = .ok (.iastore, 1) := by decide +kernel
theorem dX11_start_55 : decode cX11_start 55 = .ok (.aload_n 0, 1) := by decide +kernel
theorem dX11_start_56 : decode cX11_start 56 = .ok (.getfield 7, 3) := by decide +kernel
theorem dX11_start_59 : decode cX11_start 59 = .ok (.bipush 26, 2) := by decide +kernel
theorem dX11_start_61 : decode cX11_start 61 = .ok (.iconst 0, 1) := by decide +kernel
theorem dX11_start_62 : decode cX11_start 62 = .ok (.iastore, 1) := by decide +kernel
theorem dX11_start_63 : decode cX11_start 63 = .ok (.aload_n 0, 1) := by decide +kernel
theorem dX11_start_64 : decode cX11_start 64 = .ok (.getfield 7, 3) := by decide +kernel
theorem dX11_start_67 : decode cX11_start 67 = .ok (.bipush 30, 2) := by decide +kernel
theorem dX11_start_69 : decode cX11_start 69 = .ok (.iconst 1, 1) := by decide +kernel
theorem dX11_start_70 : decode cX11_start 70 = .ok (.iastore, 1) := by decide +kernel
theorem dX11_start_71 : decode cX11_start 71 = .ok (.iload_n 1, 1) := by decide +kernel
theorem dX11_start_72 : decode cX11_start 72 = .ok (.iconst 3, 1) := by decide +kernel
theorem dX11_start_73 : decode cX11_start 73 = .ok (.if_icmp .ne 11, 3) := by decide +kernel
theorem dX11_start_76 : decode cX11_start 76 = .ok (.aload_n 0, 1) := by decide +kernel
theorem dX11_start_77 : decode cX11_start 77 = .ok (.getfield 7, 3) := by decide +kernel
theorem dX11_start_80 : decode cX11_start 80 = .ok (.bipush 22, 2) := by decide +kernel
theorem dX11_start_82 : decode cX11_start 82 = .ok (.iload_n 2, 1) := by decide +kernel
theorem dX11_start_83 : decode cX11_start 83 = .ok (.iastore, 1) := by decide +kernel
theorem dX11_start_84 : decode cX11_start 84 = .ok (.aload_n 0, 1) := by decide +kernel
theorem dX11_start_85 : decode cX11_start 85 = .ok (.getfield 7, 3) := by decide +kernel
theorem dX11_start_88 : decode cX11_start 88 = .ok (.bipush 23, 2) := by decide +kernel
theorem dX11_start_90 : decode cX11_start 90 = .ok (.aload_n 0, 1) := by decide +kernel
theorem dX11_start_91 : decode cX11_start 91 = .ok (.getfield 7, 3) := by decide +kernel
theorem dX11_start_94 : decode cX11_start 94 = .ok (.bipush 22, 2) := by decide +kernel
theorem dX11_start_96 : decode cX11_start 96 = .ok (.iaload, 1) := by decide +kernel
theorem dX11_start_97 : decode cX11_start 97 = .ok (.iastore, 1) := by decide +kernel
theorem dX11_start_98 : decode cX11_start 98 = .ok (.iload_n 1, 1) := by decide +kernel
theorem dX11_start_99 : decode cX11_start 99 = .ok (.ifCond .ne 8, 3) := by decide +kernel
theorem dX11_start_102 : decode cX11_start 102 = .ok (.aload_n 0, 1) := by decide +kernel
theorem dX11_start_103 : decode cX11_start 103 = .ok (.iconst 1, 1) := by decide +kernel
theorem dX11_start_104 : decode cX11_start 104 = .ok (.invokevirtual 90, 3) := by decide +kernel
theorem dX11_start_107 : decode cX11_start 107 = .ok (.iload_n 1, 1) := by decide +kernel
theorem dX11_start_108 : decode cX11_start 108 = .ok (.iconst 1, 1) := by decide +kernel
theorem dX11_start_109 : decode cX11_start 109 = .ok (.if_icmp .ne 20, 3) := by decide +kernel
theorem dX11_start_112 : decode cX11_start 112 = .ok (.aload_n 0, 1) := by decide +kernel
theorem dX11_start_113 : decode cX11_start 113 = .ok (.iconst 4, 1) := by decide +kernel
theorem dX11_start_114 : decode cX11_start 114 = .ok (.invokevirtual 90, 3) := by decide +kernel
theorem dX11_start_117 : decode cX11_start 117 = .ok (.aload_n 0, 1) := by decide +kernel
theorem dX11_start_118 : decode cX11_start 118 = .ok (.getfield 7, 3) := by decide +kernel
theorem dX11_start_121 : decode cX11_start 121 = .ok (.bipush 31, 2) := by decide +kernel
theorem dX11_start_123 : decode cX11_start 123 = .ok (.aload_n 0, 1) := by decide +kernel
theorem dX11_start_124 : decode cX11_start 124 = .ok (.iconst 4, 1) := by decide +kernel
theorem dX11_start_125 : decode cX11_start 125 = .ok (.invokevirtual 102, 3) := by decide +kernel
theorem dX11_start_128 : decode cX11_start 128 = .ok (.iastore, 1) := by decide +kernel
theorem dX11_start_129 : decode cX11_start 129 = .ok (.iload_n 1, 1) := by decide +kernel
theorem dX11_start_130 : decode cX11_start 130 = .ok (.iconst 2, 1) := by decide +kernel
theorem dX11_start_131 : decode cX11_start 131 = .ok (.if_icmp .ne 9, 3) := by decide +kernel
theorem dX11_start_134 : decode cX11_start 134 = .ok (.aload_n 0, 1) := by decide +kernel
theorem dX11_start_135 : decode cX11_start 135 = .ok (.iconst 1, 1) := by decide +kernel
theorem dX11_start_136 : decode cX11_start 136 = .ok (.iconst 0, 1) := by decide +kernel
theorem dX11_start_137 : decode cX11_start 137 = .ok (.invokevirtual 116, 3) := by decide +kernel
theorem dX11_start_140 : decode cX11_start 140 = .ok (.iload_n 1, 1) := by decide +kernel
theorem dX11_start_141 : decode cX11_start 141 = .ok (.iconst 3, 1) := by decide +kernel
theorem dX11_start_142 : decode cX11_start 142 = .ok (.if_icmp .ne 9, 3) := by decide +kernel
theorem dX11_start_145 : decode cX11_start 145 = .ok (.aload_n 0, 1) := by decide +kernel
theorem dX11_start_146 : decode cX11_start 146 = .ok (.iconst 2, 1) := by decide +kernel
theorem dX11_start_147 : decode cX11_start 147 = .ok (.iload_n 2, 1) := by decide +kernel
theorem dX11_start_148 : decode cX11_start 148 = .ok (.invokevirtual 116, 3) := by decide +kernel
theorem dX11_start_151 : decode cX11_start 151 = .ok (.iconst 1, 1) := by decide +kernel
theorem dX11_start_152 : decode cX11_start 152 = .ok (.ireturn, 1) := by decide +kernel
theorem dX11_goesOn_0 : decode cX11_goesOn 0 = .ok (.aload_n 0, 1) := by decide +kernel
theorem dX11_goesOn_1 : decode cX11_goesOn 1 = .ok (.getfield 7, 3) := by decide +kernel
theorem dX11_goesOn_4 : decode cX11_goesOn 4 = .ok (.bipush 32, 2) := by decide +kernel
theorem dX11_goesOn_6 : decode cX11_goesOn 6 = .ok (.iaload, 1) := by decide +kernel
theorem dX11_goesOn_7 : decode cX11_goesOn 7 = .ok (.istore_n 1, 1) := by decide +kernel
theorem dX11_goesOn_8 : decode cX11_goesOn 8 = .ok (.aload_n 0, 1) := by decide +kernel
theorem dX11_goesOn_9 : decode cX11_goesOn 9 = .ok (.getfield 7, 3) := by decide +kernel
theorem dX11_goesOn_12 : decode cX11_goesOn 12 = .ok (.bipush 32, 2) := by decide +kernel
theorem dX11_goesOn_14 : decode cX11_goesOn 14 = .ok (.iconst 0, 1) := by decide +kernel
theorem dX11_goesOn_15 : decode cX11_goesOn 15 = .ok (.iastore, 1) := by decide +kernel
theorem dX11_goesOn_16 : decode cX11_goesOn 16 = .ok (.aload_n 0, 1) := by decide +kernel
theorem dX11_goesOn_17 : decode cX11_goesOn 17 = .ok (.iload_n 1, 1) := by decide +kernel
theorem dX11_goesOn_18 : decode cX11_goesOn 18 = .ok (.invokevirtual 90, 3) := by decide +kernel
theorem dX11_goesOn_21 : decode cX11_goesOn 21 = .ok (.iload_n 1, 1) := by decide +kernel
theorem dX11_goesOn_22 : decode cX11_goesOn 22 = .ok (.iconst 4, 1) := by decide +kernel
theorem dX11_goesOn_23 : decode cX11_goesOn 23 = .ok (.if_icmp .ne 16, 3) := by decide +kernel
theorem dX11_goesOn_26 : decode cX11_goesOn 26 = .ok (.aload_n 0, 1) := by decide +kernel
theorem dX11_goesOn_27 : decode cX11_goesOn 27 = .ok (.getfield 7, 3) := by decide +kernel
theorem dX11_goesOn_30 : decode cX11_goesOn 30 = .ok (.bipush 31, 2) := by decide +kernel
theorem dX11_goesOn_32 : decode cX11_goesOn 32 = .ok (.aload_n 0, 1) := by decide +kernel
theorem dX11_goesOn_33 : decode cX11_goesOn 33 = .ok (.iconst 4, 1) := by decide +kernel
theorem dX11_goesOn_34 : decode cX11_goesOn 34 = .ok (.invokevirtual 102, 3) := by decide +kernel
theorem dX11_goesOn_37 : decode cX11_goesOn 37 = .ok (.iastore, 1) := by decide +kernel
theorem dX11_goesOn_38 : decode cX11_goesOn 38 = .ok (.return_, 1) := by decide +kernel
theorem dX11_goesOn_39 : decode cX11_goesOn 39 = .ok (.aload_n 0, 1) := by decide +kernel
theorem dX11_goesOn_40 : decode cX11_goesOn 40 = .ok (.getfield 7, 3) := by decide +kernel
theorem dX11_goesOn_43 : decode cX11_goesOn 43 = .ok (.bipush 30, 2) := by decide +kernel
theorem dX11_goesOn_45 : decode cX11_goesOn 45 = .ok (.iconst 0, 1) := by decide +kernel
theorem dX11_goesOn_46 : decode cX11_goesOn 46 = .ok (.iastore, 1) := by decide +kernel
theorem dX11_goesOn_47 : decode cX11_goesOn 47 = .ok (.iload_n 1, 1) := by decide +kernel
theorem dX11_goesOn_48 : decode cX11_goesOn 48 = .ok (.iconst 5, 1) := by decide +kernel
theorem dX11_goesOn_49 : decode cX11_goesOn 49 = .ok (.if_icmp .eq 22, 3) := by decide +kernel
theorem dX11_goesOn_52 : decode cX11_goesOn 52 = .ok (.aload_n 0, 1) := by decide +kernel
theorem dX11_goesOn_53 : decode cX11_goesOn 53 = .ok (.aload_n 0, 1) := by decide +kernel
theorem dX11_goesOn_54 : decode cX11_goesOn 54 = .ok (.getfield 7, 3) := by decide +kernel
theorem dX11_goesOn_57 : decode cX11_goesOn 57 = .ok (.bipush 25, 2) := by decide +kernel
theorem dX11_goesOn_59 : decode cX11_goesOn 59 = .ok (.iaload, 1) := by decide +kernel
theorem dX11_goesOn_60 : decode cX11_goesOn 60 = .ok (.ifCond .le 7, 3) := by decide +kernel
theorem dX11_goesOn_63 : decode cX11_goesOn 63 = .ok (.iconst 2, 1) := by decide +kernel
theorem dX11_goesOn_64 : decode cX11_goesOn 64 = .ok (.goto 4, 3) := by decide +kernel
theorem dX11_goesOn_67 : decode cX11_goesOn 67 = .ok (.iconst 1, 1) := by decide +kernel
theorem dX11_goesOn_68 : decode cX11_goesOn 68 = .ok (.invokevirtual 90, 3) := by decide +kernel
theorem dX11_goesOn_71 : decode cX11_goesOn 71 = .ok (.aload_n 0, 1) := by decide +kernel
theorem dX11_goesOn_72 : decode cX11_goesOn 72 = .ok (.invokevirtual 119, 3) := by decide +kernel
theorem dX11_goesOn_75 : decode cX11_goesOn 75 = .ok (.iload_n 1, 1) := by decide +kernel
theorem dX11_goesOn_76 : decode cX11_goesOn 76 = .ok (.iconst 5, 1) := by decide +kernel
theorem dX11_goesOn_77 : decode cX11_goesOn 77 = .ok (.if_icmp .eq 21, 3) := by decide +kernel
theorem dX11_goesOn_80 : decode cX11_goesOn 80 = .ok (.aload_n 0, 1) := by decide +kernel
theorem dX11_goesOn_81 : decode cX11_goesOn 81 = .ok (.getfield 7, 3) := by decide +kernel
theorem dX11_goesOn_84 : decode cX11_goesOn 84 = .ok (.bipush 25, 2) := by decide +kernel
theorem dX11_goesOn_86 : decode cX11_goesOn 86 = .ok (.iaload, 1) := by decide +kernel
theorem dX11_goesOn_87 : decode cX11_goesOn 87 = .ok (.ifCond .ne 11, 3) := by decide +kernel
theorem dX11_goesOn_90 : decode cX11_goesOn 90 = .ok (.aload_n 0, 1) := by decide +kernel
theorem dX11_goesOn_91 : decode cX11_goesOn 91 = .ok (.getfield 7, 3) := by decide +kernel
theorem dX11_goesOn_94 : decode cX11_goesOn 94 = .ok (.bipush 31, 2) := by decide +kernel
theorem dX11_goesOn_96 : decode cX11_goesOn 96 = .ok (.iconst 0, 1) := by decide +kernel
theorem dX11_goesOn_97 : decode cX11_goesOn 97 = .ok (.iastore, 1) := by decide +kernel
theorem dX11_goesOn_98 : decode cX11_goesOn 98 = .ok (.return_, 1) := by decide +kernel
theorem dX11_direct_0 : decode cX11_direct 0 = .ok (.aload_n 0, 1) := by decide +kernel
theorem dX11_direct_1 : decode cX11_direct 1 = .ok (.iconst 0, 1) := by decide +kernel
theorem dX11_direct_2 : decode cX11_direct 2 = .ok (.putfield 41, 3) := by decide +kernel
theorem dX11_direct_5 : decode cX11_direct 5 = .ok (.iload_n 1, 1) := by decide +kernel
theorem dX11_direct_6 : decode cX11_direct 6 = .ok (.ifCond .ne 32, 3) := by decide +kernel
theorem dX11_direct_9 : decode cX11_direct 9 = .ok (.aload_n 0, 1) := by decide +kernel
theorem dX11_direct_10 : decode cX11_direct 10 = .ok (.invokevirtual 87, 3) := by decide +kernel
theorem dX11_direct_13 : decode cX11_direct 13 = .ok (.bipush 6, 2) := by decide +kernel
theorem dX11_direct_15 : decode cX11_direct 15 = .ok (.if_icmp .ne 15, 3) := by decide +kernel
theorem dX11_direct_18 : decode cX11_direct 18 = .ok (.aload_n 0, 1) := by decide +kernel
theorem dX11_direct_19 : decode cX11_direct 19 = .ok (.getfield 7, 3) := by decide +kernel
theorem dX11_direct_22 : decode cX11_direct 22 = .ok (.bipush 32, 2) := by decide +kernel
theorem dX11_direct_24 : decode cX11_direct 24 = .ok (.iaload, 1) := by decide +kernel
theorem dX11_direct_25 : decode cX11_direct 25 = .ok (.ifCond .ne 5, 3) := by decide +kernel
theorem dX11_direct_28 : decode cX11_direct 28 = .ok (.iconst 0, 1) := by decide +kernel
theorem dX11_direct_29 : decode cX11_direct 29 = .ok (.ireturn, 1) := by decide +kernel
theorem dX11_direct_30 : decode cX11_direct 30 = .ok (.aload_n 0, 1) := by decide +kernel
theorem dX11_direct_31 : decode cX11_direct 31 = .ok (.bipush 6, 2) := by decide +kernel
theorem dX11_direct_33 : decode cX11_direct 33 = .ok (.invokevirtual 96, 3) := by decide +kernel
theorem dX11_direct_36 : decode cX11_direct 36 = .ok (.iconst 1, 1) := by decide +kernel
theorem dX11_direct_37 : decode cX11_direct 37 = .ok (.ireturn, 1) := by decide +kernel
theorem dX11_direct_38 : decode cX11_direct 38 = .ok (.iload_n 1, 1) := by decide +kernel
theorem dX11_direct_39 : decode cX11_direct 39 = .ok (.iconst 1, 1) := by decide +kernel
theorem dX11_direct_40 : decode cX11_direct 40 = .ok (.if_icmp .ne 13, 3) := by decide +kernel
theorem dX11_direct_43 : decode cX11_direct 43 = .ok (.aload_n 0, 1) := by decide +kernel
theorem dX11_direct_44 : decode cX11_direct 44 = .ok (.getfield 7, 3) := by decide +kernel
theorem dX11_direct_47 : decode cX11_direct 47 = .ok (.bipush 32, 2) := by decide +kernel
theorem dX11_direct_49 : decode cX11_direct 49 = .ok (.iaload, 1) := by decide +kernel
theorem dX11_direct_50 : decode cX11_direct 50 = .ok (.ifCond .ne 5, 3) := by decide +kernel
theorem dX11_direct_53 : decode cX11_direct 53 = .ok (.iconst 0, 1) := by decide +kernel
theorem dX11_direct_54 : decode cX11_direct 54 = .ok (.ireturn, 1) := by decide +kernel
theorem dX11_direct_55 : decode cX11_direct 55 = .ok (.aload_n 0, 1) := by decide +kernel
theorem dX11_direct_56 : decode cX11_direct 56 = .ok (.invokevirtual 122, 3) := by decide +kernel
theorem dX11_direct_59 : decode cX11_direct 59 = .ok (.iconst 1, 1) := by decide +kernel
theorem dX11_direct_60 : decode cX11_direct 60 = .ok (.ireturn, 1) := by decide +kernel
theorem dX11_renumber_0 : decode cX11_renumber 0 = .ok (.aload_n 0, 1) := by decide +kernel
theorem dX11_renumber_1 : decode cX11_renumber 1 = .ok (.iconst 0, 1) := by decide +kernel
theorem dX11_renumber_2 : decode cX11_renumber 2 = .ok (.putfield 41, 3) := by decide +kernel
theorem dX11_renumber_5 : decode cX11_renumber 5 = .ok (.aload_n 0, 1) := by decide +kernel
theorem dX11_renumber_6 : decode cX11_renumber 6 = .ok (.iload_n 1, 1) := by decide +kernel
theorem dX11_renumber_7 : decode cX11_renumber 7 = .ok (.iconst 0, 1) := by decide +kernel
theorem dX11_renumber_8 : decode cX11_renumber 8 = .ok (.sipush 255, 3) := by decide +kernel
theorem dX11_renumber_11 : decode cX11_renumber 11 = .ok (.invokevirtual 48, 3) := by decide +kernel
theorem dX11_renumber_14 : decode cX11_renumber 14 = .ok (.ifCond .eq 22, 3) := by decide +kernel
theorem dX11_renumber_17 : decode cX11_renumber 17 = .ok (.aload_n 0, 1) := by decide +kernel
theorem dX11_renumber_18 : decode cX11_renumber 18 = .ok (.invokevirtual 87, 3) := by decide +kernel
theorem dX11_renumber_21 : decode cX11_renumber 21 = .ok (.bipush 6, 2) := by decide +kernel
theorem dX11_renumber_23 : decode cX11_renumber 23 = .ok (.if_icmp .ne 13, 3) := by decide +kernel
theorem dX11_renumber_26 : decode cX11_renumber 26 = .ok (.aload_n 0, 1) := by decide +kernel
theorem dX11_renumber_27 : decode cX11_renumber 27 = .ok (.getfield 7, 3) := by decide +kernel
theorem dX11_renumber_30 : decode cX11_renumber 30 = .ok (.bipush 32, 2) := by decide +kernel
theorem dX11_renumber_32 : decode cX11_renumber 32 = .ok (.iaload, 1) := by decide +kernel
theorem dX11_renumber_33 : decode cX11_renumber 33 = .ok (.ifCond .le 5, 3) := by decide +kernel
theorem dX11_renumber_36 : decode cX11_renumber 36 = .ok (.iconst 0, 1) := by decide +kernel
theorem dX11_renumber_37 : decode cX11_renumber 37 = .ok (.ireturn, 1) := by decide +kernel
theorem dX11_renumber_38 : decode cX11_renumber 38 = .ok (.aload_n 0, 1) := by decide +kernel
theorem dX11_renumber_39 : decode cX11_renumber 39 = .ok (.getfield 7, 3) := by decide +kernel
theorem dX11_renumber_42 : decode cX11_renumber 42 = .ok (.bipush 22, 2) := by decide +kernel
theorem dX11_renumber_44 : decode cX11_renumber 44 = .ok (.iload_n 1, 1) := by decide +kernel
theorem dX11_renumber_45 : decode cX11_renumber 45 = .ok (.iastore, 1) := by decide +kernel
theorem dX11_renumber_46 : decode cX11_renumber 46 = .ok (.aload_n 0, 1) := by decide +kernel
theorem dX11_renumber_47 : decode cX11_renumber 47 = .ok (.getfield 7, 3) := by decide +kernel
theorem dX11_renumber_50 : decode cX11_renumber 50 = .ok (.bipush 23, 2) := by decide +kernel
theorem dX11_renumber_52 : decode cX11_renumber 52 = .ok (.iload_n 1, 1) := by decide +kernel
theorem dX11_renumber_53 : decode cX11_renumber 53 = .ok (.iastore, 1) := by decide +kernel
theorem dX11_renumber_54 : decode cX11_renumber 54 = .ok (.iconst 1, 1) := by decide +kernel
theorem dX11_renumber_55 : decode cX11_renumber 55 = .ok (.ireturn, 1) := by decide +kernel
theorem dX11_wayAt_0 : decode cX11_wayAt 0 = .ok (.iload_n 1, 1) := by decide +kernel
theorem dX11_wayAt_1 : decode cX11_wayAt 1 = .ok (.ifCond .eq 14, 3) := by decide +kernel
theorem dX11_wayAt_4 : decode cX11_wayAt 4 = .ok (.sipush 635, 3) := by decide +kernel
theorem dX11_wayAt_7 : decode cX11_wayAt 7 = .ok (.bipush 7, 2) := by decide +kernel
theorem dX11_wayAt_9 : decode cX11_wayAt 9 = .ok (.iload_n 2, 1) := by decide +kernel
theorem dX11_wayAt_10 : decode cX11_wayAt 10 = .ok (.imul, 1) := by decide +kernel
theorem dX11_wayAt_11 : decode cX11_wayAt 11 = .ok (.iadd, 1) := by decide +kernel
theorem dX11_wayAt_12 : decode cX11_wayAt 12 = .ok (.goto 10, 3) := by decide +kernel
theorem dX11_wayAt_15 : decode cX11_wayAt 15 = .ok (.sipush 929, 3) := by decide +kernel
theorem dX11_wayAt_18 : decode cX11_wayAt 18 = .ok (.iconst 4, 1) := by decide +kernel
theorem dX11_wayAt_19 : decode cX11_wayAt 19 = .ok (.iload_n 2, 1) := by decide +kernel
theorem dX11_wayAt_20 : decode cX11_wayAt 20 = .ok (.imul, 1) := by decide +kernel
theorem dX11_wayAt_21 : decode cX11_wayAt 21 = .ok (.iadd, 1) := by decide +kernel
theorem dX11_wayAt_22 : decode cX11_wayAt 22 = .ok (.ireturn, 1) := by decide +kernel
theorem dX11_wayMany_0 : decode cX11_wayMany 0 = .ok (.aload_n 0, 1) := by decide +kernel
theorem dX11_wayMany_1 : decode cX11_wayMany 1 = .ok (.getfield 7, 3) := by decide +kernel
theorem dX11_wayMany_4 : decode cX11_wayMany 4 = .ok (.iload_n 1, 1) := by decide +kernel
theorem dX11_wayMany_5 : decode cX11_wayMany 5 = .ok (.ifCond .eq 8, 3) := by decide +kernel
theorem dX11_wayMany_8 : decode cX11_wayMany 8 = .ok (.bipush 41, 2) := by decide +kernel
theorem dX11_wayMany_10 : decode cX11_wayMany 10 = .ok (.goto 5, 3) := by decide +kernel
theorem dX11_wayMany_13 : decode cX11_wayMany 13 = .ok (.bipush 42, 2) := by decide +kernel
theorem dX11_wayMany_15 : decode cX11_wayMany 15 = .ok (.iaload, 1) := by decide +kernel
theorem dX11_wayMany_16 : decode cX11_wayMany 16 = .ok (.ireturn, 1) := by decide +kernel
theorem dX11_wayLong_0 : decode cX11_wayLong 0 = .ok (.iload_n 1, 1) := by decide +kernel
theorem dX11_wayLong_1 : decode cX11_wayLong 1 = .ok (.ifCond .eq 8, 3) := by decide +kernel
theorem dX11_wayLong_4 : decode cX11_wayLong 4 = .ok (.bipush 7, 2) := by decide +kernel
theorem dX11_wayLong_6 : decode cX11_wayLong 6 = .ok (.goto 4, 3) := by decide +kernel
theorem dX11_wayLong_9 : decode cX11_wayLong 9 = .ok (.iconst 4, 1) := by decide +kernel
theorem dX11_wayLong_10 : decode cX11_wayLong 10 = .ok (.ireturn, 1) := by decide +kernel
theorem dX11_byteMany_0 : decode cX11_byteMany 0 = .ok (.iload_n 1, 1) := by decide +kernel
theorem dX11_byteMany_1 : decode cX11_byteMany 1 = .ok (.ifCond .eq 7, 3) := by decide +kernel
theorem dX11_byteMany_4 : decode cX11_byteMany 4 = .ok (.iconst 5, 1) := by decide +kernel
theorem dX11_byteMany_5 : decode cX11_byteMany 5 = .ok (.goto 4, 3) := by decide +kernel
theorem dX11_byteMany_8 : decode cX11_byteMany 8 = .ok (.iconst 3, 1) := by decide +kernel
theorem dX11_byteMany_9 : decode cX11_byteMany 9 = .ok (.ireturn, 1) := by decide +kernel
theorem dX11_drops_0 : decode cX11_drops 0 = .ok (.aload_n 0, 1) := by decide +kernel
theorem dX11_drops_1 : decode cX11_drops 1 = .ok (.iload_n 1, 1) := by decide +kernel
theorem dX11_drops_2 : decode cX11_drops 2 = .ok (.invokevirtual 125, 3) := by decide +kernel
theorem dX11_drops_5 : decode cX11_drops 5 = .ok (.iconst 1, 1) := by decide +kernel
theorem dX11_drops_6 : decode cX11_drops 6 = .ok (.isub, 1) := by decide +kernel
theorem dX11_drops_7 : decode cX11_drops 7 = .ok (.istore_n 3, 1) := by decide +kernel
theorem dX11_drops_8 : decode cX11_drops 8 = .ok (.aload_n 0, 1) := by decide +kernel
theorem dX11_drops_9 : decode cX11_drops 9 = .ok (.iload_n 1, 1) := by decide +kernel
theorem dX11_drops_10 : decode cX11_drops 10 = .ok (.iload_n 2, 1) := by decide +kernel
theorem dX11_drops_11 : decode cX11_drops 11 = .ok (.invokevirtual 129, 3) := by decide +kernel
theorem dX11_drops_14 : decode cX11_drops 14 = .ok (.istore 4, 2) := by decide +kernel
theorem dX11_drops_16 : decode cX11_drops 16 = .ok (.iload 4, 2) := by decide +kernel
theorem dX11_drops_18 : decode cX11_drops 18 = .ok (.aload_n 0, 1) := by decide +kernel
theorem dX11_drops_19 : decode cX11_drops 19 = .ok (.iload_n 1, 1) := by decide +kernel
theorem dX11_drops_20 : decode cX11_drops 20 = .ok (.iload_n 3, 1) := by decide +kernel
theorem dX11_drops_21 : decode cX11_drops 21 = .ok (.invokevirtual 129, 3) := by decide +kernel
theorem dX11_drops_24 : decode cX11_drops 24 = .ok (.if_icmp .ge 29, 3) := by decide +kernel
theorem dX11_drops_27 : decode cX11_drops 27 = .ok (.aload_n 0, 1) := by decide +kernel
theorem dX11_drops_28 : decode cX11_drops 28 = .ok (.getfield 7, 3) := by decide +kernel
theorem dX11_drops_31 : decode cX11_drops 31 = .ok (.iload 4, 2) := by decide +kernel
theorem dX11_drops_33 : decode cX11_drops 33 = .ok (.aload_n 0, 1) := by decide +kernel
theorem dX11_drops_34 : decode cX11_drops 34 = .ok (.getfield 7, 3) := by decide +kernel
theorem dX11_drops_37 : decode cX11_drops 37 = .ok (.iload 4, 2) := by decide +kernel
theorem dX11_drops_39 : decode cX11_drops 39 = .ok (.aload_n 0, 1) := by decide +kernel
theorem dX11_drops_40 : decode cX11_drops 40 = .ok (.iload_n 1, 1) := by decide +kernel
theorem dX11_drops_41 : decode cX11_drops 41 = .ok (.invokevirtual 133, 3) := by decide +kernel
theorem dX11_drops_44 : decode cX11_drops 44 = .ok (.iadd, 1) := by decide +kernel
theorem dX11_drops_45 : decode cX11_drops 45 = .ok (.iaload, 1) := by decide +kernel
theorem dX11_drops_46 : decode cX11_drops 46 = .ok (.iastore, 1) := by decide +kernel
theorem dX11_drops_47 : decode cX11_drops 47 = .ok (.iinc 4 1, 3) := by decide +kernel
theorem dX11_drops_50 : decode cX11_drops 50 = .ok (.goto (-34), 3) := by decide +kernel
theorem dX11_drops_53 : decode cX11_drops 53 = .ok (.aload_n 0, 1) := by decide +kernel
theorem dX11_drops_54 : decode cX11_drops 54 = .ok (.getfield 7, 3) := by decide +kernel
theorem dX11_drops_57 : decode cX11_drops 57 = .ok (.iload_n 1, 1) := by decide +kernel
theorem dX11_drops_58 : decode cX11_drops 58 = .ok (.ifCond .eq 8, 3) := by decide +kernel
theorem dX11_drops_61 : decode cX11_drops 61 = .ok (.bipush 41, 2) := by decide +kernel
theorem dX11_drops_63 : decode cX11_drops 63 = .ok (.goto 5, 3) := by decide +kernel
theorem dX11_drops_66 : decode cX11_drops 66 = .ok (.bipush 42, 2) := by decide +kernel
theorem dX11_drops_68 : decode cX11_drops 68 = .ok (.iload_n 3, 1) := by decide +kernel
theorem dX11_drops_69 : decode cX11_drops 69 = .ok (.iastore, 1) := by decide +kernel
theorem dX11_drops_70 : decode cX11_drops 70 = .ok (.return_, 1) := by decide +kernel
theorem dX11_fateMany_0 : decode cX11_fateMany 0 = .ok (.aload_n 0, 1) := by decide +kernel
theorem dX11_fateMany_1 : decode cX11_fateMany 1 = .ok (.getfield 7, 3) := by decide +kernel
theorem dX11_fateMany_4 : decode cX11_fateMany 4 = .ok (.iload_n 1, 1) := by decide +kernel
theorem dX11_fateMany_5 : decode cX11_fateMany 5 = .ok (.ifCond .eq 8, 3) := by decide +kernel
theorem dX11_fateMany_8 : decode cX11_fateMany 8 = .ok (.bipush 43, 2) := by decide +kernel
theorem dX11_fateMany_10 : decode cX11_fateMany 10 = .ok (.goto 5, 3) := by decide +kernel
theorem dX11_fateMany_13 : decode cX11_fateMany 13 = .ok (.bipush 44, 2) := by decide +kernel
theorem dX11_fateMany_15 : decode cX11_fateMany 15 = .ok (.iaload, 1) := by decide +kernel
theorem dX11_fateMany_16 : decode cX11_fateMany 16 = .ok (.ireturn, 1) := by decide +kernel
theorem dX11_fateAt_0 : decode cX11_fateAt 0 = .ok (.iload_n 1, 1) := by decide +kernel
theorem dX11_fateAt_1 : decode cX11_fateAt 1 = .ok (.ifCond .eq 9, 3) := by decide +kernel
theorem dX11_fateAt_4 : decode cX11_fateAt 4 = .ok (.sipush 619, 3) := by decide +kernel
theorem dX11_fateAt_7 : decode cX11_fateAt 7 = .ok (.goto 6, 3) := by decide +kernel
theorem dX11_fateAt_10 : decode cX11_fateAt 10 = .ok (.sipush 627, 3) := by decide +kernel
theorem dX11_fateAt_13 : decode cX11_fateAt 13 = .ok (.iload_n 2, 1) := by decide +kernel
theorem dX11_fateAt_14 : decode cX11_fateAt 14 = .ok (.iadd, 1) := by decide +kernel
theorem dX11_fateAt_15 : decode cX11_fateAt 15 = .ok (.ireturn, 1) := by decide +kernel
theorem dX11_fateOf_0 : decode cX11_fateOf 0 = .ok (.iconst 0, 1) := by decide +kernel
theorem dX11_fateOf_1 : decode cX11_fateOf 1 = .ok (.istore_n 3, 1) := by decide +kernel
theorem dX11_fateOf_2 : decode cX11_fateOf 2 = .ok (.iload_n 3, 1) := by decide +kernel
theorem dX11_fateOf_3 : decode cX11_fateOf 3 = .ok (.aload_n 0, 1) := by decide +kernel
theorem dX11_fateOf_4 : decode cX11_fateOf 4 = .ok (.iload_n 1, 1) := by decide +kernel
theorem dX11_fateOf_5 : decode cX11_fateOf 5 = .ok (.invokevirtual 136, 3) := by decide +kernel
theorem dX11_fateOf_8 : decode cX11_fateOf 8 = .ok (.if_icmp .ge 26, 3) := by decide +kernel
theorem dX11_fateOf_11 : decode cX11_fateOf 11 = .ok (.aload_n 0, 1) := by decide +kernel
theorem dX11_fateOf_12 : decode cX11_fateOf 12 = .ok (.getfield 7, 3) := by decide +kernel
theorem dX11_fateOf_15 : decode cX11_fateOf 15 = .ok (.aload_n 0, 1) := by decide +kernel
theorem dX11_fateOf_16 : decode cX11_fateOf 16 = .ok (.iload_n 1, 1) := by decide +kernel
theorem dX11_fateOf_17 : decode cX11_fateOf 17 = .ok (.iload_n 3, 1) := by decide +kernel
theorem dX11_fateOf_18 : decode cX11_fateOf 18 = .ok (.invokevirtual 139, 3) := by decide +kernel
theorem dX11_fateOf_21 : decode cX11_fateOf 21 = .ok (.iaload, 1) := by decide +kernel
theorem dX11_fateOf_22 : decode cX11_fateOf 22 = .ok (.iload_n 2, 1) := by decide +kernel
theorem dX11_fateOf_23 : decode cX11_fateOf 23 = .ok (.if_icmp .ne 5, 3) := by decide +kernel
theorem dX11_fateOf_26 : decode cX11_fateOf 26 = .ok (.iload_n 3, 1) := by decide +kernel
theorem dX11_fateOf_27 : decode cX11_fateOf 27 = .ok (.ireturn, 1) := by decide +kernel
theorem dX11_fateOf_28 : decode cX11_fateOf 28 = .ok (.iinc 3 1, 3) := by decide +kernel
theorem dX11_fateOf_31 : decode cX11_fateOf 31 = .ok (.goto (-29), 3) := by decide +kernel
theorem dX11_fateOf_34 : decode cX11_fateOf 34 = .ok (.iconst (-1), 1) := by decide +kernel
theorem dX11_fateOf_35 : decode cX11_fateOf 35 = .ok (.ireturn, 1) := by decide +kernel
theorem dX11_isFated_0 : decode cX11_isFated 0 = .ok (.aload_n 0, 1) := by decide +kernel
theorem dX11_isFated_1 : decode cX11_isFated 1 = .ok (.iload_n 1, 1) := by decide +kernel
theorem dX11_isFated_2 : decode cX11_isFated 2 = .ok (.aload_n 0, 1) := by decide +kernel
theorem dX11_isFated_3 : decode cX11_isFated 3 = .ok (.getfield 7, 3) := by decide +kernel
theorem dX11_isFated_6 : decode cX11_isFated 6 = .ok (.iload_n 1, 1) := by decide +kernel
theorem dX11_isFated_7 : decode cX11_isFated 7 = .ok (.ifCond .eq 8, 3) := by decide +kernel
theorem dX11_isFated_10 : decode cX11_isFated 10 = .ok (.bipush 35, 2) := by decide +kernel
theorem dX11_isFated_12 : decode cX11_isFated 12 = .ok (.goto 5, 3) := by decide +kernel
theorem dX11_isFated_15 : decode cX11_isFated 15 = .ok (.bipush 36, 2) := by decide +kernel
theorem dX11_isFated_17 : decode cX11_isFated 17 = .ok (.iaload, 1) := by decide +kernel
theorem dX11_isFated_18 : decode cX11_isFated 18 = .ok (.invokevirtual 142, 3) := by decide +kernel
theorem dX11_isFated_21 : decode cX11_isFated 21 = .ok (.istore_n 2, 1) := by decide +kernel
theorem dX11_isFated_22 : decode cX11_isFated 22 = .ok (.iload_n 2, 1) := by decide +kernel
theorem dX11_isFated_23 : decode cX11_isFated 23 = .ok (.iconst (-1), 1) := by decide +kernel
theorem dX11_isFated_24 : decode cX11_isFated 24 = .ok (.if_icmp .ne 5, 3) := by decide +kernel
theorem dX11_isFated_27 : decode cX11_isFated 27 = .ok (.iconst 0, 1) := by decide +kernel
theorem dX11_isFated_28 : decode cX11_isFated 28 = .ok (.ireturn, 1) := by decide +kernel
theorem dX11_isFated_29 : decode cX11_isFated 29 = .ok (.aload_n 0, 1) := by decide +kernel
theorem dX11_isFated_30 : decode cX11_isFated 30 = .ok (.iload_n 1, 1) := by decide +kernel
theorem dX11_isFated_31 : decode cX11_isFated 31 = .ok (.invokevirtual 136, 3) := by decide +kernel
theorem dX11_isFated_34 : decode cX11_isFated 34 = .ok (.iconst 1, 1) := by decide +kernel
theorem dX11_isFated_35 : decode cX11_isFated 35 = .ok (.isub, 1) := by decide +kernel
theorem dX11_isFated_36 : decode cX11_isFated 36 = .ok (.istore_n 3, 1) := by decide +kernel
theorem dX11_isFated_37 : decode cX11_isFated 37 = .ok (.iload_n 2, 1) := by decide +kernel
theorem dX11_isFated_38 : decode cX11_isFated 38 = .ok (.istore 4, 2) := by decide +kernel
theorem dX11_isFated_40 : decode cX11_isFated 40 = .ok (.iload 4, 2) := by decide +kernel
theorem dX11_isFated_42 : decode cX11_isFated 42 = .ok (.iload_n 3, 1) := by decide +kernel
theorem dX11_isFated_43 : decode cX11_isFated 43 = .ok (.if_icmp .ge 35, 3) := by decide +kernel
theorem dX11_isFated_46 : decode cX11_isFated 46 = .ok (.aload_n 0, 1) := by decide +kernel
theorem dX11_isFated_47 : decode cX11_isFated 47 = .ok (.getfield 7, 3) := by decide +kernel
theorem dX11_isFated_50 : decode cX11_isFated 50 = .ok (.aload_n 0, 1) := by decide +kernel
theorem dX11_isFated_51 : decode cX11_isFated 51 = .ok (.iload_n 1, 1) := by decide +kernel
theorem dX11_isFated_52 : decode cX11_isFated 52 = .ok (.iload 4, 2) := by decide +kernel
theorem dX11_isFated_54 : decode cX11_isFated 54 = .ok (.invokevirtual 139, 3) := by decide +kernel
theorem dX11_isFated_57 : decode cX11_isFated 57 = .ok (.aload_n 0, 1) := by decide +kernel
theorem dX11_isFated_58 : decode cX11_isFated 58 = .ok (.getfield 7, 3) := by decide +kernel
theorem dX11_isFated_61 : decode cX11_isFated 61 = .ok (.aload_n 0, 1) := by decide +kernel
theorem dX11_isFated_62 : decode cX11_isFated 62 = .ok (.iload_n 1, 1) := by decide +kernel
theorem dX11_isFated_63 : decode cX11_isFated 63 = .ok (.iload 4, 2) := by decide +kernel
theorem dX11_isFated_65 : decode cX11_isFated 65 = .ok (.iconst 1, 1) := by decide +kernel
theorem dX11_isFated_66 : decode cX11_isFated 66 = .ok (.iadd, 1) := by decide +kernel
theorem dX11_isFated_67 : decode cX11_isFated 67 = .ok (.invokevirtual 139, 3) := by decide +kernel
theorem dX11_isFated_70 : decode cX11_isFated 70 = .ok (.iaload, 1) := by decide +kernel
theorem dX11_isFated_71 : decode cX11_isFated 71 = .ok (.iastore, 1) := by decide +kernel
theorem dX11_isFated_72 : decode cX11_isFated 72 = .ok (.iinc 4 1, 3) := by decide +kernel
theorem dX11_isFated_75 : decode cX11_isFated 75 = .ok (.goto (-35), 3) := by decide +kernel
theorem dX11_isFated_78 : decode cX11_isFated 78 = .ok (.aload_n 0, 1) := by decide +kernel
theorem dX11_isFated_79 : decode cX11_isFated 79 = .ok (.getfield 7, 3) := by decide +kernel
theorem dX11_isFated_82 : decode cX11_isFated 82 = .ok (.iload_n 1, 1) := by decide +kernel
theorem dX11_isFated_83 : decode cX11_isFated 83 = .ok (.ifCond .eq 8, 3) := by decide +kernel
theorem dX11_isFated_86 : decode cX11_isFated 86 = .ok (.bipush 43, 2) := by decide +kernel
theorem dX11_isFated_88 : decode cX11_isFated 88 = .ok (.goto 5, 3) := by decide +kernel
theorem dX11_isFated_91 : decode cX11_isFated 91 = .ok (.bipush 44, 2) := by decide +kernel
theorem dX11_isFated_93 : decode cX11_isFated 93 = .ok (.iload_n 3, 1) := by decide +kernel
theorem dX11_isFated_94 : decode cX11_isFated 94 = .ok (.iastore, 1) := by decide +kernel
theorem dX11_isFated_95 : decode cX11_isFated 95 = .ok (.iconst 1, 1) := by decide +kernel
theorem dX11_isFated_96 : decode cX11_isFated 96 = .ok (.ireturn, 1) := by decide +kernel
theorem dX11_fate_0 : decode cX11_fate 0 = .ok (.aload_n 0, 1) := by decide +kernel
theorem dX11_fate_1 : decode cX11_fate 1 = .ok (.iconst 0, 1) := by decide +kernel
theorem dX11_fate_2 : decode cX11_fate 2 = .ok (.putfield 41, 3) := by decide +kernel
theorem dX11_fate_5 : decode cX11_fate 5 = .ok (.aload_n 0, 1) := by decide +kernel
theorem dX11_fate_6 : decode cX11_fate 6 = .ok (.getfield 7, 3) := by decide +kernel
theorem dX11_fate_9 : decode cX11_fate 9 = .ok (.iload_n 1, 1) := by decide +kernel
theorem dX11_fate_10 : decode cX11_fate 10 = .ok (.ifCond .eq 8, 3) := by decide +kernel
theorem dX11_fate_13 : decode cX11_fate 13 = .ok (.bipush 35, 2) := by decide +kernel
theorem dX11_fate_15 : decode cX11_fate 15 = .ok (.goto 5, 3) := by decide +kernel
theorem dX11_fate_18 : decode cX11_fate 18 = .ok (.bipush 36, 2) := by decide +kernel
theorem dX11_fate_20 : decode cX11_fate 20 = .ok (.iaload, 1) := by decide +kernel
theorem dX11_fate_21 : decode cX11_fate 21 = .ok (.istore_n 3, 1) := by decide +kernel
theorem dX11_fate_22 : decode cX11_fate 22 = .ok (.aload_n 0, 1) := by decide +kernel
theorem dX11_fate_23 : decode cX11_fate 23 = .ok (.iload_n 2, 1) := by decide +kernel
theorem dX11_fate_24 : decode cX11_fate 24 = .ok (.iconst 1, 1) := by decide +kernel
theorem dX11_fate_25 : decode cX11_fate 25 = .ok (.bipush 99, 2) := by decide +kernel
theorem dX11_fate_27 : decode cX11_fate 27 = .ok (.invokevirtual 48, 3) := by decide +kernel
theorem dX11_fate_30 : decode cX11_fate 30 = .ok (.ifCond .eq 25, 3) := by decide +kernel
theorem dX11_fate_33 : decode cX11_fate 33 = .ok (.aload_n 0, 1) := by decide +kernel
theorem dX11_fate_34 : decode cX11_fate 34 = .ok (.iload_n 1, 1) := by decide +kernel
theorem dX11_fate_35 : decode cX11_fate 35 = .ok (.invokevirtual 136, 3) := by decide +kernel
theorem dX11_fate_38 : decode cX11_fate 38 = .ok (.bipush 8, 2) := by decide +kernel
theorem dX11_fate_40 : decode cX11_fate 40 = .ok (.if_icmp .eq 15, 3) := by decide +kernel
theorem dX11_fate_43 : decode cX11_fate 43 = .ok (.aload_n 0, 1) := by decide +kernel
theorem dX11_fate_44 : decode cX11_fate 44 = .ok (.iload_n 1, 1) := by decide +kernel
theorem dX11_fate_45 : decode cX11_fate 45 = .ok (.iload_n 3, 1) := by decide +kernel
theorem dX11_fate_46 : decode cX11_fate 46 = .ok (.iload_n 2, 1) := by decide +kernel
theorem dX11_fate_47 : decode cX11_fate 47 = .ok (.iadd, 1) := by decide +kernel
theorem dX11_fate_48 : decode cX11_fate 48 = .ok (.invokevirtual 142, 3) := by decide +kernel
theorem dX11_fate_51 : decode cX11_fate 51 = .ok (.iconst (-1), 1) := by decide +kernel
theorem dX11_fate_52 : decode cX11_fate 52 = .ok (.if_icmp .eq 5, 3) := by decide +kernel
theorem dX11_fate_55 : decode cX11_fate 55 = .ok (.iconst (-1), 1) := by decide +kernel
theorem dX11_fate_56 : decode cX11_fate 56 = .ok (.ireturn, 1) := by decide +kernel
theorem dX11_fate_57 : decode cX11_fate 57 = .ok (.aload_n 0, 1) := by decide +kernel
theorem dX11_fate_58 : decode cX11_fate 58 = .ok (.getfield 7, 3) := by decide +kernel
theorem dX11_fate_61 : decode cX11_fate 61 = .ok (.aload_n 0, 1) := by decide +kernel
theorem dX11_fate_62 : decode cX11_fate 62 = .ok (.iload_n 1, 1) := by decide +kernel
theorem dX11_fate_63 : decode cX11_fate 63 = .ok (.aload_n 0, 1) := by decide +kernel
theorem dX11_fate_64 : decode cX11_fate 64 = .ok (.iload_n 1, 1) := by decide +kernel
theorem dX11_fate_65 : decode cX11_fate 65 = .ok (.invokevirtual 136, 3) := by decide +kernel
theorem dX11_fate_68 : decode cX11_fate 68 = .ok (.invokevirtual 139, 3) := by decide +kernel
theorem dX11_fate_71 : decode cX11_fate 71 = .ok (.iload_n 3, 1) := by decide +kernel
theorem dX11_fate_72 : decode cX11_fate 72 = .ok (.iload_n 2, 1) := by decide +kernel
theorem dX11_fate_73 : decode cX11_fate 73 = .ok (.iadd, 1) := by decide +kernel
theorem dX11_fate_74 : decode cX11_fate 74 = .ok (.iastore, 1) := by decide +kernel
theorem dX11_fate_75 : decode cX11_fate 75 = .ok (.aload_n 0, 1) := by decide +kernel
theorem dX11_fate_76 : decode cX11_fate 76 = .ok (.iload_n 1, 1) := by decide +kernel
theorem dX11_fate_77 : decode cX11_fate 77 = .ok (.ifCond .eq 8, 3) := by decide +kernel
theorem dX11_fate_80 : decode cX11_fate 80 = .ok (.bipush 43, 2) := by decide +kernel
theorem dX11_fate_82 : decode cX11_fate 82 = .ok (.goto 5, 3) := by decide +kernel
theorem dX11_fate_85 : decode cX11_fate 85 = .ok (.bipush 44, 2) := by decide +kernel
theorem dX11_fate_87 : decode cX11_fate 87 = .ok (.invokevirtual 58, 3) := by decide +kernel
theorem dX11_fate_90 : decode cX11_fate 90 = .ok (.aload_n 0, 1) := by decide +kernel
theorem dX11_fate_91 : decode cX11_fate 91 = .ok (.iload_n 1, 1) := by decide +kernel
theorem dX11_fate_92 : decode cX11_fate 92 = .ok (.invokevirtual 136, 3) := by decide +kernel
theorem dX11_fate_95 : decode cX11_fate 95 = .ok (.ireturn, 1) := by decide +kernel
theorem dX11_goes_0 : decode cX11_goes 0 = .ok (.aload_n 0, 1) := by decide +kernel
theorem dX11_goes_1 : decode cX11_goes 1 = .ok (.iload_n 1, 1) := by decide +kernel
theorem dX11_goes_2 : decode cX11_goes 2 = .ok (.ifCond .eq 8, 3) := by decide +kernel
theorem dX11_goes_5 : decode cX11_goes 5 = .ok (.bipush 35, 2) := by decide +kernel
theorem dX11_goes_7 : decode cX11_goes 7 = .ok (.goto 5, 3) := by decide +kernel
theorem dX11_goes_10 : decode cX11_goes 10 = .ok (.bipush 36, 2) := by decide +kernel
theorem dX11_goes_12 : decode cX11_goes 12 = .ok (.invokevirtual 58, 3) := by decide +kernel
theorem dX11_goes_15 : decode cX11_goes 15 = .ok (.aload_n 0, 1) := by decide +kernel
theorem dX11_goes_16 : decode cX11_goes 16 = .ok (.iload_n 1, 1) := by decide +kernel
theorem dX11_goes_17 : decode cX11_goes 17 = .ok (.invokevirtual 145, 3) := by decide +kernel
theorem dX11_goes_20 : decode cX11_goes 20 = .ok (.istore_n 2, 1) := by decide +kernel
theorem dX11_goes_21 : decode cX11_goes 21 = .ok (.iload_n 2, 1) := by decide +kernel
theorem dX11_goes_22 : decode cX11_goes 22 = .ok (.ifCond .eq 7, 3) := by decide +kernel
theorem dX11_goes_25 : decode cX11_goes 25 = .ok (.iconst 0, 1) := by decide +kernel
theorem dX11_goes_26 : decode cX11_goes 26 = .ok (.goto 9, 3) := by decide +kernel
theorem dX11_goes_29 : decode cX11_goes 29 = .ok (.aload_n 0, 1) := by decide +kernel
theorem dX11_goes_30 : decode cX11_goes 30 = .ok (.bipush 100, 2) := by decide +kernel
theorem dX11_goes_32 : decode cX11_goes 32 = .ok (.invokevirtual 149, 3) := by decide +kernel
theorem dX11_goes_35 : decode cX11_goes 35 = .ok (.istore_n 3, 1) := by decide +kernel
theorem dX11_goes_36 : decode cX11_goes 36 = .ok (.iload_n 2, 1) := by decide +kernel
theorem dX11_goes_37 : decode cX11_goes 37 = .ok (.ifCond .ne 14, 3) := by decide +kernel
theorem dX11_goes_40 : decode cX11_goes 40 = .ok (.iload_n 3, 1) := by decide +kernel
theorem dX11_goes_41 : decode cX11_goes 41 = .ok (.aload_n 0, 1) := by decide +kernel
theorem dX11_goes_42 : decode cX11_goes 42 = .ok (.getfield 7, 3) := by decide +kernel
theorem dX11_goes_45 : decode cX11_goes 45 = .ok (.bipush 8, 2) := by decide +kernel
theorem dX11_goes_47 : decode cX11_goes 47 = .ok (.iaload, 1) := by decide +kernel
theorem dX11_goes_48 : decode cX11_goes 48 = .ok (.if_icmp .ge 7, 3) := by decide +kernel
theorem dX11_goes_51 : decode cX11_goes 51 = .ok (.iconst 1, 1) := by decide +kernel
theorem dX11_goes_52 : decode cX11_goes 52 = .ok (.goto 4, 3) := by decide +kernel
theorem dX11_goes_55 : decode cX11_goes 55 = .ok (.iconst 0, 1) := by decide +kernel
theorem dX11_goes_56 : decode cX11_goes 56 = .ok (.istore_n 2, 1) := by decide +kernel
theorem dX11_goes_57 : decode cX11_goes 57 = .ok (.iload_n 2, 1) := by decide +kernel
theorem dX11_goes_58 : decode cX11_goes 58 = .ok (.ifCond .ne 26, 3) := by decide +kernel
theorem dX11_goes_61 : decode cX11_goes 61 = .ok (.iload_n 3, 1) := by decide +kernel
theorem dX11_goes_62 : decode cX11_goes 62 = .ok (.aload_n 0, 1) := by decide +kernel
theorem dX11_goes_63 : decode cX11_goes 63 = .ok (.getfield 7, 3) := by decide +kernel
theorem dX11_goes_66 : decode cX11_goes 66 = .ok (.bipush 8, 2) := by decide +kernel
theorem dX11_goes_68 : decode cX11_goes 68 = .ok (.iaload, 1) := by decide +kernel
theorem dX11_goes_69 : decode cX11_goes 69 = .ok (.aload_n 0, 1) := by decide +kernel
theorem dX11_goes_70 : decode cX11_goes 70 = .ok (.getfield 7, 3) := by decide +kernel
theorem dX11_goes_73 : decode cX11_goes 73 = .ok (.bipush 9, 2) := by decide +kernel
theorem dX11_goes_75 : decode cX11_goes 75 = .ok (.iaload, 1) := by decide +kernel
theorem dX11_goes_76 : decode cX11_goes 76 = .ok (.iadd, 1) := by decide +kernel
theorem dX11_goes_77 : decode cX11_goes 77 = .ok (.if_icmp .ge 7, 3) := by decide +kernel
theorem dX11_goes_80 : decode cX11_goes 80 = .ok (.iconst 1, 1) := by decide +kernel
theorem dX11_goes_81 : decode cX11_goes 81 = .ok (.goto 4, 3) := by decide +kernel
theorem dX11_goes_84 : decode cX11_goes 84 = .ok (.iconst 0, 1) := by decide +kernel
theorem dX11_goes_85 : decode cX11_goes 85 = .ok (.istore 4, 2) := by decide +kernel
theorem dX11_goes_87 : decode cX11_goes 87 = .ok (.iload_n 1, 1) := by decide +kernel
theorem dX11_goes_88 : decode cX11_goes 88 = .ok (.ifCond .eq 18, 3) := by decide +kernel
theorem dX11_goes_91 : decode cX11_goes 91 = .ok (.iload_n 2, 1) := by decide +kernel
theorem dX11_goes_92 : decode cX11_goes 92 = .ok (.ifCond .ne 8, 3) := by decide +kernel
theorem dX11_goes_95 : decode cX11_goes 95 = .ok (.iload 4, 2) := by decide +kernel
theorem dX11_goes_97 : decode cX11_goes 97 = .ok (.ifCond .eq 9, 3) := by decide +kernel
theorem dX11_goes_100 : decode cX11_goes 100 = .ok (.aload_n 0, 1) := by decide +kernel
theorem dX11_goes_101 : decode cX11_goes 101 = .ok (.bipush 37, 2) := by decide +kernel
theorem dX11_goes_103 : decode cX11_goes 103 = .ok (.invokevirtual 58, 3) := by decide +kernel
theorem dX11_goes_106 : decode cX11_goes 106 = .ok (.iload_n 2, 1) := by decide +kernel
theorem dX11_goes_107 : decode cX11_goes 107 = .ok (.ifCond .eq 4, 3) := by decide +kernel
theorem dX11_goes_110 : decode cX11_goes 110 = .ok (.return_, 1) := by decide +kernel
theorem dX11_goes_111 : decode cX11_goes 111 = .ok (.iload 4, 2) := by decide +kernel
theorem dX11_goes_113 : decode cX11_goes 113 = .ok (.ifCond .eq 34, 3) := by decide +kernel
theorem dX11_goes_116 : decode cX11_goes 116 = .ok (.aload_n 0, 1) := by decide +kernel
theorem dX11_goes_117 : decode cX11_goes 117 = .ok (.aload_n 0, 1) := by decide +kernel
theorem dX11_goes_118 : decode cX11_goes 118 = .ok (.iload_n 1, 1) := by decide +kernel
theorem dX11_goes_119 : decode cX11_goes 119 = .ok (.invokevirtual 152, 3) := by decide +kernel
theorem dX11_goes_122 : decode cX11_goes 122 = .ok (.invokevirtual 149, 3) := by decide +kernel
theorem dX11_goes_125 : decode cX11_goes 125 = .ok (.istore 5, 2) := by decide +kernel
theorem dX11_goes_127 : decode cX11_goes 127 = .ok (.aload_n 0, 1) := by decide +kernel
theorem dX11_goes_128 : decode cX11_goes 128 = .ok (.getfield 16, 3) := by decide +kernel
theorem dX11_goes_131 : decode cX11_goes 131 = .ok (.iload 5, 2) := by decide +kernel
theorem dX11_goes_133 : decode cX11_goes 133 = .ok (.aload_n 0, 1) := by decide +kernel
theorem dX11_goes_134 : decode cX11_goes 134 = .ok (.aload_n 0, 1) := by decide +kernel
theorem dX11_goes_135 : decode cX11_goes 135 = .ok (.getfield 16, 3) := by decide +kernel
theorem dX11_goes_138 : decode cX11_goes 138 = .ok (.iload 5, 2) := by decide +kernel
theorem dX11_goes_140 : decode cX11_goes 140 = .ok (.iaload, 1) := by decide +kernel
theorem dX11_goes_141 : decode cX11_goes 141 = .ok (.iconst 1, 1) := by decide +kernel
theorem dX11_goes_142 : decode cX11_goes 142 = .ok (.iadd, 1) := by decide +kernel
theorem dX11_goes_143 : decode cX11_goes 143 = .ok (.invokevirtual 155, 3) := by decide +kernel
theorem dX11_goes_146 : decode cX11_goes 146 = .ok (.iastore, 1) := by decide +kernel
theorem dX11_goes_147 : decode cX11_goes 147 = .ok (.aload_n 0, 1) := by decide +kernel
theorem dX11_goes_148 : decode cX11_goes 148 = .ok (.iload_n 1, 1) := by decide +kernel
theorem dX11_goes_149 : decode cX11_goes 149 = .ok (.aload_n 0, 1) := by decide +kernel
theorem dX11_goes_150 : decode cX11_goes 150 = .ok (.iload_n 1, 1) := by decide +kernel
theorem dX11_goes_151 : decode cX11_goes 151 = .ok (.invokevirtual 125, 3) := by decide +kernel
theorem dX11_goes_154 : decode cX11_goes 154 = .ok (.invokevirtual 129, 3) := by decide +kernel
theorem dX11_goes_157 : decode cX11_goes 157 = .ok (.istore 5, 2) := by decide +kernel
theorem dX11_goes_159 : decode cX11_goes 159 = .ok (.aload_n 0, 1) := by decide +kernel
theorem dX11_goes_160 : decode cX11_goes 160 = .ok (.getfield 7, 3) := by decide +kernel
theorem dX11_goes_163 : decode cX11_goes 163 = .ok (.iload 5, 2) := by decide +kernel
theorem dX11_goes_165 : decode cX11_goes 165 = .ok (.aload_n 0, 1) := by decide +kernel
theorem dX11_goes_166 : decode cX11_goes 166 = .ok (.getfield 7, 3) := by decide +kernel
theorem dX11_goes_169 : decode cX11_goes 169 = .ok (.bipush 11, 2) := by decide +kernel
theorem dX11_goes_171 : decode cX11_goes 171 = .ok (.iaload, 1) := by decide +kernel
theorem dX11_goes_172 : decode cX11_goes 172 = .ok (.aload_n 0, 1) := by decide +kernel
theorem dX11_goes_173 : decode cX11_goes 173 = .ok (.iload_n 1, 1) := by decide +kernel
theorem dX11_goes_174 : decode cX11_goes 174 = .ok (.ifCond .eq 8, 3) := by decide +kernel
theorem dX11_goes_177 : decode cX11_goes 177 = .ok (.bipush 6, 2) := by decide +kernel
theorem dX11_goes_179 : decode cX11_goes 179 = .ok (.goto 5, 3) := by decide +kernel
theorem dX11_goes_182 : decode cX11_goes 182 = .ok (.bipush 7, 2) := by decide +kernel
theorem dX11_goes_184 : decode cX11_goes 184 = .ok (.invokevirtual 102, 3) := by decide +kernel
theorem dX11_goes_187 : decode cX11_goes 187 = .ok (.iadd, 1) := by decide +kernel
theorem dX11_goes_188 : decode cX11_goes 188 = .ok (.iastore, 1) := by decide +kernel
theorem dX11_goes_189 : decode cX11_goes 189 = .ok (.iconst 0, 1) := by decide +kernel
theorem dX11_goes_190 : decode cX11_goes 190 = .ok (.istore 6, 2) := by decide +kernel
theorem dX11_goes_192 : decode cX11_goes 192 = .ok (.iload 6, 2) := by decide +kernel
theorem dX11_goes_194 : decode cX11_goes 194 = .ok (.aload_n 0, 1) := by decide +kernel
theorem dX11_goes_195 : decode cX11_goes 195 = .ok (.iload_n 1, 1) := by decide +kernel
theorem dX11_goes_196 : decode cX11_goes 196 = .ok (.invokevirtual 152, 3) := by decide +kernel
theorem dX11_goes_199 : decode cX11_goes 199 = .ok (.if_icmp .ge 28, 3) := by decide +kernel
theorem dX11_goes_202 : decode cX11_goes 202 = .ok (.aload_n 0, 1) := by decide +kernel
theorem dX11_goes_203 : decode cX11_goes 203 = .ok (.getfield 7, 3) := by decide +kernel
theorem dX11_goes_206 : decode cX11_goes 206 = .ok (.iload 5, 2) := by decide +kernel
theorem dX11_goes_208 : decode cX11_goes 208 = .ok (.iconst 1, 1) := by decide +kernel
theorem dX11_goes_209 : decode cX11_goes 209 = .ok (.iadd, 1) := by decide +kernel
theorem dX11_goes_210 : decode cX11_goes 210 = .ok (.iload 6, 2) := by decide +kernel
theorem dX11_goes_212 : decode cX11_goes 212 = .ok (.iadd, 1) := by decide +kernel
theorem dX11_goes_213 : decode cX11_goes 213 = .ok (.aload_n 0, 1) := by decide +kernel
theorem dX11_goes_214 : decode cX11_goes 214 = .ok (.getfield 16, 3) := by decide +kernel
theorem dX11_goes_217 : decode cX11_goes 217 = .ok (.iload 6, 2) := by decide +kernel
theorem dX11_goes_219 : decode cX11_goes 219 = .ok (.iaload, 1) := by decide +kernel
theorem dX11_goes_220 : decode cX11_goes 220 = .ok (.iastore, 1) := by decide +kernel
theorem dX11_goes_221 : decode cX11_goes 221 = .ok (.iinc 6 1, 3) := by decide +kernel
theorem dX11_goes_224 : decode cX11_goes 224 = .ok (.goto (-32), 3) := by decide +kernel
theorem dX11_goes_227 : decode cX11_goes 227 = .ok (.iload_n 1, 1) := by decide +kernel
theorem dX11_goes_228 : decode cX11_goes 228 = .ok (.ifCond .eq 18, 3) := by decide +kernel
theorem dX11_goes_231 : decode cX11_goes 231 = .ok (.aload_n 0, 1) := by decide +kernel
theorem dX11_goes_232 : decode cX11_goes 232 = .ok (.getfield 7, 3) := by decide +kernel
theorem dX11_goes_235 : decode cX11_goes 235 = .ok (.iload 5, 2) := by decide +kernel
theorem dX11_goes_237 : decode cX11_goes 237 = .ok (.iconst 1, 1) := by decide +kernel
theorem dX11_goes_238 : decode cX11_goes 238 = .ok (.iadd, 1) := by decide +kernel
theorem dX11_goes_239 : decode cX11_goes 239 = .ok (.iconst 5, 1) := by decide +kernel
theorem dX11_goes_240 : decode cX11_goes 240 = .ok (.iadd, 1) := by decide +kernel
theorem dX11_goes_241 : decode cX11_goes 241 = .ok (.aload_n 0, 1) := by decide +kernel
theorem dX11_goes_242 : decode cX11_goes 242 = .ok (.getfield 158, 3) := by decide +kernel
theorem dX11_goes_245 : decode cX11_goes 245 = .ok (.iastore, 1) := by decide +kernel
theorem dX11_goes_246 : decode cX11_goes 246 = .ok (.aload_n 0, 1) := by decide +kernel
theorem dX11_goes_247 : decode cX11_goes 247 = .ok (.iload_n 1, 1) := by decide +kernel
theorem dX11_goes_248 : decode cX11_goes 248 = .ok (.ifCond .eq 8, 3) := by decide +kernel
theorem dX11_goes_251 : decode cX11_goes 251 = .ok (.bipush 41, 2) := by decide +kernel
theorem dX11_goes_253 : decode cX11_goes 253 = .ok (.goto 5, 3) := by decide +kernel
theorem dX11_goes_256 : decode cX11_goes 256 = .ok (.bipush 42, 2) := by decide +kernel
theorem dX11_goes_258 : decode cX11_goes 258 = .ok (.invokevirtual 58, 3) := by decide +kernel
theorem dX11_goes_261 : decode cX11_goes 261 = .ok (.return_, 1) := by decide +kernel
theorem dX11_goesFrame_0 : decode cX11_goesFrame 0 = .ok (.aload_n 0, 1) := by decide +kernel
theorem dX11_goesFrame_1 : decode cX11_goesFrame 1 = .ok (.iload 5, 2) := by decide +kernel
theorem dX11_goesFrame_3 : decode cX11_goesFrame 3 = .ok (.iconst 1, 1) := by decide +kernel
theorem dX11_goesFrame_4 : decode cX11_goesFrame 4 = .ok (.iadd, 1) := by decide +kernel
theorem dX11_goesFrame_5 : decode cX11_goesFrame 5 = .ok (.putfield 158, 3) := by decide +kernel
theorem dX11_goesFrame_8 : decode cX11_goesFrame 8 = .ok (.aload_n 0, 1) := by decide +kernel
theorem dX11_goesFrame_9 : decode cX11_goesFrame 9 = .ok (.getfield 16, 3) := by decide +kernel
theorem dX11_goesFrame_12 : decode cX11_goesFrame 12 = .ok (.iconst 0, 1) := by decide +kernel
theorem dX11_goesFrame_13 : decode cX11_goesFrame 13 = .ok (.iload_n 1, 1) := by decide +kernel
theorem dX11_goesFrame_14 : decode cX11_goesFrame 14 = .ok (.iastore, 1) := by decide +kernel
theorem dX11_goesFrame_15 : decode cX11_goesFrame 15 = .ok (.aload_n 0, 1) := by decide +kernel
theorem dX11_goesFrame_16 : decode cX11_goesFrame 16 = .ok (.getfield 16, 3) := by decide +kernel
theorem dX11_goesFrame_19 : decode cX11_goesFrame 19 = .ok (.iconst 1, 1) := by decide +kernel
theorem dX11_goesFrame_20 : decode cX11_goesFrame 20 = .ok (.iload_n 2, 1) := by decide +kernel
theorem dX11_goesFrame_21 : decode cX11_goesFrame 21 = .ok (.iastore, 1) := by decide +kernel
theorem dX11_goesFrame_22 : decode cX11_goesFrame 22 = .ok (.aload_n 0, 1) := by decide +kernel
theorem dX11_goesFrame_23 : decode cX11_goesFrame 23 = .ok (.getfield 16, 3) := by decide +kernel
theorem dX11_goesFrame_26 : decode cX11_goesFrame 26 = .ok (.iconst 2, 1) := by decide +kernel
theorem dX11_goesFrame_27 : decode cX11_goesFrame 27 = .ok (.iload_n 3, 1) := by decide +kernel
theorem dX11_goesFrame_28 : decode cX11_goesFrame 28 = .ok (.iastore, 1) := by decide +kernel
theorem dX11_goesFrame_29 : decode cX11_goesFrame 29 = .ok (.aload_n 0, 1) := by decide +kernel
theorem dX11_goesFrame_30 : decode cX11_goesFrame 30 = .ok (.getfield 16, 3) := by decide +kernel
theorem dX11_goesFrame_33 : decode cX11_goesFrame 33 = .ok (.iconst 3, 1) := by decide +kernel
theorem dX11_goesFrame_34 : decode cX11_goesFrame 34 = .ok (.iload 4, 2) := by decide +kernel
theorem dX11_goesFrame_36 : decode cX11_goesFrame 36 = .ok (.iastore, 1) := by decide +kernel
theorem dX11_goesFrame_37 : decode cX11_goesFrame 37 = .ok (.aload_n 0, 1) := by decide +kernel
theorem dX11_goesFrame_38 : decode cX11_goesFrame 38 = .ok (.getfield 16, 3) := by decide +kernel
theorem dX11_goesFrame_41 : decode cX11_goesFrame 41 = .ok (.iconst 4, 1) := by decide +kernel
theorem dX11_goesFrame_42 : decode cX11_goesFrame 42 = .ok (.aload_n 0, 1) := by decide +kernel
theorem dX11_goesFrame_43 : decode cX11_goesFrame 43 = .ok (.iload_n 1, 1) := by decide +kernel
theorem dX11_goesFrame_44 : decode cX11_goesFrame 44 = .ok (.iload_n 2, 1) := by decide +kernel
theorem dX11_goesFrame_45 : decode cX11_goesFrame 45 = .ok (.iadd, 1) := by decide +kernel
theorem dX11_goesFrame_46 : decode cX11_goesFrame 46 = .ok (.iload_n 3, 1) := by decide +kernel
theorem dX11_goesFrame_47 : decode cX11_goesFrame 47 = .ok (.iadd, 1) := by decide +kernel
theorem dX11_goesFrame_48 : decode cX11_goesFrame 48 = .ok (.iload 4, 2) := by decide +kernel
theorem dX11_goesFrame_50 : decode cX11_goesFrame 50 = .ok (.iadd, 1) := by decide +kernel
theorem dX11_goesFrame_51 : decode cX11_goesFrame 51 = .ok (.bipush 85, 2) := by decide +kernel
theorem dX11_goesFrame_53 : decode cX11_goesFrame 53 = .ok (.iadd, 1) := by decide +kernel
theorem dX11_goesFrame_54 : decode cX11_goesFrame 54 = .ok (.invokevirtual 155, 3) := by decide +kernel
theorem dX11_goesFrame_57 : decode cX11_goesFrame 57 = .ok (.iastore, 1) := by decide +kernel
theorem dX11_goesFrame_58 : decode cX11_goesFrame 58 = .ok (.aload_n 0, 1) := by decide +kernel
theorem dX11_goesFrame_59 : decode cX11_goesFrame 59 = .ok (.iconst 1, 1) := by decide +kernel
theorem dX11_goesFrame_60 : decode cX11_goesFrame 60 = .ok (.invokevirtual 161, 3) := by decide +kernel
theorem dX11_goesFrame_63 : decode cX11_goesFrame 63 = .ok (.return_, 1) := by decide +kernel
theorem dX11_comes_0 : decode cX11_comes 0 = .ok (.aload_n 0, 1) := by decide +kernel
theorem dX11_comes_1 : decode cX11_comes 1 = .ok (.iload_n 1, 1) := by decide +kernel
theorem dX11_comes_2 : decode cX11_comes 2 = .ok (.invokevirtual 125, 3) := by decide +kernel
theorem dX11_comes_5 : decode cX11_comes 5 = .ok (.ifCond .eq 24, 3) := by decide +kernel
theorem dX11_comes_8 : decode cX11_comes 8 = .ok (.aload_n 0, 1) := by decide +kernel
theorem dX11_comes_9 : decode cX11_comes 9 = .ok (.getfield 7, 3) := by decide +kernel
theorem dX11_comes_12 : decode cX11_comes 12 = .ok (.aload_n 0, 1) := by decide +kernel
theorem dX11_comes_13 : decode cX11_comes 13 = .ok (.iload_n 1, 1) := by decide +kernel
theorem dX11_comes_14 : decode cX11_comes 14 = .ok (.iconst 0, 1) := by decide +kernel
theorem dX11_comes_15 : decode cX11_comes 15 = .ok (.invokevirtual 129, 3) := by decide +kernel
theorem dX11_comes_18 : decode cX11_comes 18 = .ok (.iaload, 1) := by decide +kernel
theorem dX11_comes_19 : decode cX11_comes 19 = .ok (.aload_n 0, 1) := by decide +kernel
theorem dX11_comes_20 : decode cX11_comes 20 = .ok (.getfield 7, 3) := by decide +kernel
theorem dX11_comes_23 : decode cX11_comes 23 = .ok (.bipush 11, 2) := by decide +kernel
theorem dX11_comes_25 : decode cX11_comes 25 = .ok (.iaload, 1) := by decide +kernel
theorem dX11_comes_26 : decode cX11_comes 26 = .ok (.if_icmp .le 5, 3) := by decide +kernel
theorem dX11_comes_29 : decode cX11_comes 29 = .ok (.iconst 0, 1) := by decide +kernel
theorem dX11_comes_30 : decode cX11_comes 30 = .ok (.ireturn, 1) := by decide +kernel
theorem dX11_comes_31 : decode cX11_comes 31 = .ok (.iconst 0, 1) := by decide +kernel
theorem dX11_comes_32 : decode cX11_comes 32 = .ok (.istore_n 2, 1) := by decide +kernel
theorem dX11_comes_33 : decode cX11_comes 33 = .ok (.iload_n 2, 1) := by decide +kernel
theorem dX11_comes_34 : decode cX11_comes 34 = .ok (.aload_n 0, 1) := by decide +kernel
theorem dX11_comes_35 : decode cX11_comes 35 = .ok (.iload_n 1, 1) := by decide +kernel
theorem dX11_comes_36 : decode cX11_comes 36 = .ok (.invokevirtual 152, 3) := by decide +kernel
theorem dX11_comes_39 : decode cX11_comes 39 = .ok (.if_icmp .ge 30, 3) := by decide +kernel
theorem dX11_comes_42 : decode cX11_comes 42 = .ok (.aload_n 0, 1) := by decide +kernel
theorem dX11_comes_43 : decode cX11_comes 43 = .ok (.getfield 16, 3) := by decide +kernel
theorem dX11_comes_46 : decode cX11_comes 46 = .ok (.iload_n 2, 1) := by decide +kernel
theorem dX11_comes_47 : decode cX11_comes 47 = .ok (.aload_n 0, 1) := by decide +kernel
theorem dX11_comes_48 : decode cX11_comes 48 = .ok (.getfield 7, 3) := by decide +kernel
theorem dX11_comes_51 : decode cX11_comes 51 = .ok (.aload_n 0, 1) := by decide +kernel
theorem dX11_comes_52 : decode cX11_comes 52 = .ok (.iload_n 1, 1) := by decide +kernel
theorem dX11_comes_53 : decode cX11_comes 53 = .ok (.iconst 0, 1) := by decide +kernel
theorem dX11_comes_54 : decode cX11_comes 54 = .ok (.invokevirtual 129, 3) := by decide +kernel
theorem dX11_comes_57 : decode cX11_comes 57 = .ok (.iconst 1, 1) := by decide +kernel
theorem dX11_comes_58 : decode cX11_comes 58 = .ok (.iadd, 1) := by decide +kernel
theorem dX11_comes_59 : decode cX11_comes 59 = .ok (.iload_n 2, 1) := by decide +kernel
theorem dX11_comes_60 : decode cX11_comes 60 = .ok (.iadd, 1) := by decide +kernel
theorem dX11_comes_61 : decode cX11_comes 61 = .ok (.iaload, 1) := by decide +kernel
theorem dX11_comes_62 : decode cX11_comes 62 = .ok (.iastore, 1) := by decide +kernel
theorem dX11_comes_63 : decode cX11_comes 63 = .ok (.iinc 2 1, 3) := by decide +kernel
theorem dX11_comes_66 : decode cX11_comes 66 = .ok (.goto (-33), 3) := by decide +kernel
theorem dX11_comes_69 : decode cX11_comes 69 = .ok (.iload_n 1, 1) := by decide +kernel
theorem dX11_comes_70 : decode cX11_comes 70 = .ok (.ifCond .eq 22, 3) := by decide +kernel
theorem dX11_comes_73 : decode cX11_comes 73 = .ok (.aload_n 0, 1) := by decide +kernel
theorem dX11_comes_74 : decode cX11_comes 74 = .ok (.aload_n 0, 1) := by decide +kernel
theorem dX11_comes_75 : decode cX11_comes 75 = .ok (.getfield 7, 3) := by decide +kernel
theorem dX11_comes_78 : decode cX11_comes 78 = .ok (.aload_n 0, 1) := by decide +kernel
theorem dX11_comes_79 : decode cX11_comes 79 = .ok (.iload_n 1, 1) := by decide +kernel
theorem dX11_comes_80 : decode cX11_comes 80 = .ok (.iconst 0, 1) := by decide +kernel
theorem dX11_comes_81 : decode cX11_comes 81 = .ok (.invokevirtual 129, 3) := by decide +kernel
theorem dX11_comes_84 : decode cX11_comes 84 = .ok (.iconst 1, 1) := by decide +kernel
theorem dX11_comes_85 : decode cX11_comes 85 = .ok (.iadd, 1) := by decide +kernel
theorem dX11_comes_86 : decode cX11_comes 86 = .ok (.iconst 5, 1) := by decide +kernel
theorem dX11_comes_87 : decode cX11_comes 87 = .ok (.iadd, 1) := by decide +kernel
theorem dX11_comes_88 : decode cX11_comes 88 = .ok (.iaload, 1) := by decide +kernel
theorem dX11_comes_89 : decode cX11_comes 89 = .ok (.putfield 158, 3) := by decide +kernel
theorem dX11_comes_92 : decode cX11_comes 92 = .ok (.aload_n 0, 1) := by decide +kernel
theorem dX11_comes_93 : decode cX11_comes 93 = .ok (.iload_n 1, 1) := by decide +kernel
theorem dX11_comes_94 : decode cX11_comes 94 = .ok (.iconst 0, 1) := by decide +kernel
theorem dX11_comes_95 : decode cX11_comes 95 = .ok (.invokevirtual 165, 3) := by decide +kernel
theorem dX11_comes_98 : decode cX11_comes 98 = .ok (.iconst 1, 1) := by decide +kernel
theorem dX11_comes_99 : decode cX11_comes 99 = .ok (.ireturn, 1) := by decide +kernel
theorem dX11_isOnWay_0 : decode cX11_isOnWay 0 = .ok (.iload_n 2, 1) := by decide +kernel
theorem dX11_isOnWay_1 : decode cX11_isOnWay 1 = .ok (.ifCond .lt 16, 3) := by decide +kernel
theorem dX11_isOnWay_4 : decode cX11_isOnWay 4 = .ok (.iload_n 2, 1) := by decide +kernel
theorem dX11_isOnWay_5 : decode cX11_isOnWay 5 = .ok (.aload_n 0, 1) := by decide +kernel
theorem dX11_isOnWay_6 : decode cX11_isOnWay 6 = .ok (.iload_n 1, 1) := by decide +kernel
theorem dX11_isOnWay_7 : decode cX11_isOnWay 7 = .ok (.invokevirtual 125, 3) := by decide +kernel
theorem dX11_isOnWay_10 : decode cX11_isOnWay 10 = .ok (.if_icmp .ge 7, 3) := by decide +kernel
theorem dX11_isOnWay_13 : decode cX11_isOnWay 13 = .ok (.iconst 1, 1) := by decide +kernel
theorem dX11_isOnWay_14 : decode cX11_isOnWay 14 = .ok (.goto 4, 3) := by decide +kernel
theorem dX11_isOnWay_17 : decode cX11_isOnWay 17 = .ok (.iconst 0, 1) := by decide +kernel
theorem dX11_isOnWay_18 : decode cX11_isOnWay 18 = .ok (.ireturn, 1) := by decide +kernel
theorem dX11_drop_0 : decode cX11_drop 0 = .ok (.aload_n 0, 1) := by decide +kernel
theorem dX11_drop_1 : decode cX11_drop 1 = .ok (.iconst 0, 1) := by decide +kernel
theorem dX11_drop_2 : decode cX11_drop 2 = .ok (.putfield 41, 3) := by decide +kernel
theorem dX11_drop_5 : decode cX11_drop 5 = .ok (.aload_n 0, 1) := by decide +kernel
theorem dX11_drop_6 : decode cX11_drop 6 = .ok (.iload_n 1, 1) := by decide +kernel
theorem dX11_drop_7 : decode cX11_drop 7 = .ok (.iload_n 2, 1) := by decide +kernel
theorem dX11_drop_8 : decode cX11_drop 8 = .ok (.invokevirtual 169, 3) := by decide +kernel
theorem dX11_drop_11 : decode cX11_drop 11 = .ok (.ifCond .ne 5, 3) := by decide +kernel
theorem dX11_drop_14 : decode cX11_drop 14 = .ok (.iconst 0, 1) := by decide +kernel
theorem dX11_drop_15 : decode cX11_drop 15 = .ok (.ireturn, 1) := by decide +kernel
theorem dX11_drop_16 : decode cX11_drop 16 = .ok (.aload_n 0, 1) := by decide +kernel
theorem dX11_drop_17 : decode cX11_drop 17 = .ok (.iload_n 1, 1) := by decide +kernel
theorem dX11_drop_18 : decode cX11_drop 18 = .ok (.iload_n 2, 1) := by decide +kernel
theorem dX11_drop_19 : decode cX11_drop 19 = .ok (.invokevirtual 165, 3) := by decide +kernel
theorem dX11_drop_22 : decode cX11_drop 22 = .ok (.iconst 1, 1) := by decide +kernel
theorem dX11_drop_23 : decode cX11_drop 23 = .ok (.ireturn, 1) := by decide +kernel
theorem dX11_spoil_0 : decode cX11_spoil 0 = .ok (.aload_n 0, 1) := by decide +kernel
theorem dX11_spoil_1 : decode cX11_spoil 1 = .ok (.iconst 0, 1) := by decide +kernel
theorem dX11_spoil_2 : decode cX11_spoil 2 = .ok (.putfield 41, 3) := by decide +kernel
theorem dX11_spoil_5 : decode cX11_spoil 5 = .ok (.aload_n 0, 1) := by decide +kernel
theorem dX11_spoil_6 : decode cX11_spoil 6 = .ok (.iload_n 1, 1) := by decide +kernel
theorem dX11_spoil_7 : decode cX11_spoil 7 = .ok (.iload_n 2, 1) := by decide +kernel
theorem dX11_spoil_8 : decode cX11_spoil 8 = .ok (.invokevirtual 169, 3) := by decide +kernel
theorem dX11_spoil_11 : decode cX11_spoil 11 = .ok (.ifCond .eq 32, 3) := by decide +kernel
theorem dX11_spoil_14 : decode cX11_spoil 14 = .ok (.aload_n 0, 1) := by decide +kernel
theorem dX11_spoil_15 : decode cX11_spoil 15 = .ok (.iload_n 3, 1) := by decide +kernel
theorem dX11_spoil_16 : decode cX11_spoil 16 = .ok (.iconst 0, 1) := by decide +kernel
theorem dX11_spoil_17 : decode cX11_spoil 17 = .ok (.aload_n 0, 1) := by decide +kernel
theorem dX11_spoil_18 : decode cX11_spoil 18 = .ok (.iload_n 1, 1) := by decide +kernel
theorem dX11_spoil_19 : decode cX11_spoil 19 = .ok (.invokevirtual 152, 3) := by decide +kernel
theorem dX11_spoil_22 : decode cX11_spoil 22 = .ok (.iconst 1, 1) := by decide +kernel
theorem dX11_spoil_23 : decode cX11_spoil 23 = .ok (.isub, 1) := by decide +kernel
theorem dX11_spoil_24 : decode cX11_spoil 24 = .ok (.invokevirtual 48, 3) := by decide +kernel
theorem dX11_spoil_27 : decode cX11_spoil 27 = .ok (.ifCond .eq 16, 3) := by decide +kernel
theorem dX11_spoil_30 : decode cX11_spoil 30 = .ok (.aload_n 0, 1) := by decide +kernel
theorem dX11_spoil_31 : decode cX11_spoil 31 = .ok (.iload 4, 2) := by decide +kernel
theorem dX11_spoil_33 : decode cX11_spoil 33 = .ok (.iconst 0, 1) := by decide +kernel
theorem dX11_spoil_34 : decode cX11_spoil 34 = .ok (.sipush 255, 3) := by decide +kernel
theorem dX11_spoil_37 : decode cX11_spoil 37 = .ok (.invokevirtual 48, 3) := by decide +kernel
theorem dX11_spoil_40 : decode cX11_spoil 40 = .ok (.ifCond .ne 5, 3) := by decide +kernel
theorem dX11_spoil_43 : decode cX11_spoil 43 = .ok (.iconst 0, 1) := by decide +kernel
theorem dX11_spoil_44 : decode cX11_spoil 44 = .ok (.ireturn, 1) := by decide +kernel
theorem dX11_spoil_45 : decode cX11_spoil 45 = .ok (.aload_n 0, 1) := by decide +kernel
theorem dX11_spoil_46 : decode cX11_spoil 46 = .ok (.getfield 7, 3) := by decide +kernel
theorem dX11_spoil_49 : decode cX11_spoil 49 = .ok (.aload_n 0, 1) := by decide +kernel
theorem dX11_spoil_50 : decode cX11_spoil 50 = .ok (.iload_n 1, 1) := by decide +kernel
theorem dX11_spoil_51 : decode cX11_spoil 51 = .ok (.iload_n 2, 1) := by decide +kernel
theorem dX11_spoil_52 : decode cX11_spoil 52 = .ok (.invokevirtual 129, 3) := by decide +kernel
theorem dX11_spoil_55 : decode cX11_spoil 55 = .ok (.iconst 1, 1) := by decide +kernel
theorem dX11_spoil_56 : decode cX11_spoil 56 = .ok (.iadd, 1) := by decide +kernel
theorem dX11_spoil_57 : decode cX11_spoil 57 = .ok (.iload_n 3, 1) := by decide +kernel
theorem dX11_spoil_58 : decode cX11_spoil 58 = .ok (.iadd, 1) := by decide +kernel
theorem dX11_spoil_59 : decode cX11_spoil 59 = .ok (.iload 4, 2) := by decide +kernel
theorem dX11_spoil_61 : decode cX11_spoil 61 = .ok (.iastore, 1) := by decide +kernel
theorem dX11_spoil_62 : decode cX11_spoil 62 = .ok (.iconst 1, 1) := by decide +kernel
theorem dX11_spoil_63 : decode cX11_spoil 63 = .ok (.ireturn, 1) := by decide +kernel
theorem dX11_way_0 : decode cX11_way 0 = .ok (.aload_n 0, 1) := by decide +kernel
theorem dX11_way_1 : decode cX11_way 1 = .ok (.iconst 0, 1) := by decide +kernel
theorem dX11_way_2 : decode cX11_way 2 = .ok (.putfield 41, 3) := by decide +kernel
theorem dX11_way_5 : decode cX11_way 5 = .ok (.iload_n 2, 1) := by decide +kernel
theorem dX11_way_6 : decode cX11_way 6 = .ok (.iconst (-1), 1) := by decide +kernel
theorem dX11_way_7 : decode cX11_way 7 = .ok (.if_icmp .ne 9, 3) := by decide +kernel
theorem dX11_way_10 : decode cX11_way 10 = .ok (.aload_n 0, 1) := by decide +kernel
theorem dX11_way_11 : decode cX11_way 11 = .ok (.iload_n 1, 1) := by decide +kernel
theorem dX11_way_12 : decode cX11_way 12 = .ok (.invokevirtual 125, 3) := by decide +kernel
theorem dX11_way_15 : decode cX11_way 15 = .ok (.ireturn, 1) := by decide +kernel
theorem dX11_way_16 : decode cX11_way 16 = .ok (.aload_n 0, 1) := by decide +kernel
theorem dX11_way_17 : decode cX11_way 17 = .ok (.iload_n 1, 1) := by decide +kernel
theorem dX11_way_18 : decode cX11_way 18 = .ok (.iload_n 2, 1) := by decide +kernel
theorem dX11_way_19 : decode cX11_way 19 = .ok (.invokevirtual 169, 3) := by decide +kernel
theorem dX11_way_22 : decode cX11_way 22 = .ok (.ifCond .eq 19, 3) := by decide +kernel
theorem dX11_way_25 : decode cX11_way 25 = .ok (.aload_n 0, 1) := by decide +kernel
theorem dX11_way_26 : decode cX11_way 26 = .ok (.iload_n 3, 1) := by decide +kernel
theorem dX11_way_27 : decode cX11_way 27 = .ok (.iconst (-1), 1) := by decide +kernel
theorem dX11_way_28 : decode cX11_way 28 = .ok (.aload_n 0, 1) := by decide +kernel
theorem dX11_way_29 : decode cX11_way 29 = .ok (.iload_n 1, 1) := by decide +kernel
theorem dX11_way_30 : decode cX11_way 30 = .ok (.invokevirtual 152, 3) := by decide +kernel
theorem dX11_way_33 : decode cX11_way 33 = .ok (.iconst 1, 1) := by decide +kernel
theorem dX11_way_34 : decode cX11_way 34 = .ok (.isub, 1) := by decide +kernel
theorem dX11_way_35 : decode cX11_way 35 = .ok (.invokevirtual 48, 3) := by decide +kernel
theorem dX11_way_38 : decode cX11_way 38 = .ok (.ifCond .ne 5, 3) := by decide +kernel
theorem dX11_way_41 : decode cX11_way 41 = .ok (.iconst (-1), 1) := by decide +kernel
theorem dX11_way_42 : decode cX11_way 42 = .ok (.ireturn, 1) := by decide +kernel
theorem dX11_way_43 : decode cX11_way 43 = .ok (.aload_n 0, 1) := by decide +kernel
theorem dX11_way_44 : decode cX11_way 44 = .ok (.getfield 7, 3) := by decide +kernel
theorem dX11_way_47 : decode cX11_way 47 = .ok (.aload_n 0, 1) := by decide +kernel
theorem dX11_way_48 : decode cX11_way 48 = .ok (.iload_n 1, 1) := by decide +kernel
theorem dX11_way_49 : decode cX11_way 49 = .ok (.iload_n 2, 1) := by decide +kernel
theorem dX11_way_50 : decode cX11_way 50 = .ok (.invokevirtual 129, 3) := by decide +kernel
theorem dX11_way_53 : decode cX11_way 53 = .ok (.iconst 1, 1) := by decide +kernel
theorem dX11_way_54 : decode cX11_way 54 = .ok (.iadd, 1) := by decide +kernel
theorem dX11_way_55 : decode cX11_way 55 = .ok (.iload_n 3, 1) := by decide +kernel
theorem dX11_way_56 : decode cX11_way 56 = .ok (.iadd, 1) := by decide +kernel
theorem dX11_way_57 : decode cX11_way 57 = .ok (.iaload, 1) := by decide +kernel
theorem dX11_way_58 : decode cX11_way 58 = .ok (.ireturn, 1) := by decide +kernel
theorem dX11_isGoodFrame_0 : decode cX11_isGoodFrame 0 = .ok (.aload_n 0, 1) := by decide +kernel
theorem dX11_isGoodFrame_1 : decode cX11_isGoodFrame 1 = .ok (.getfield 16, 3) := by decide +kernel
theorem dX11_isGoodFrame_4 : decode cX11_isGoodFrame 4 = .ok (.iconst 4, 1) := by decide +kernel
theorem dX11_isGoodFrame_5 : decode cX11_isGoodFrame 5 = .ok (.iaload, 1) := by decide +kernel
theorem dX11_isGoodFrame_6 : decode cX11_isGoodFrame 6 = .ok (.aload_n 0, 1) := by decide +kernel
theorem dX11_isGoodFrame_7 : decode cX11_isGoodFrame 7 = .ok (.aload_n 0, 1) := by decide +kernel
theorem dX11_isGoodFrame_8 : decode cX11_isGoodFrame 8 = .ok (.getfield 16, 3) := by decide +kernel
theorem dX11_isGoodFrame_11 : decode cX11_isGoodFrame 11 = .ok (.iconst 0, 1) := by decide +kernel
theorem dX11_isGoodFrame_12 : decode cX11_isGoodFrame 12 = .ok (.iaload, 1) := by decide +kernel
theorem dX11_isGoodFrame_13 : decode cX11_isGoodFrame 13 = .ok (.aload_n 0, 1) := by decide +kernel
theorem dX11_isGoodFrame_14 : decode cX11_isGoodFrame 14 = .ok (.getfield 16, 3) := by decide +kernel
theorem dX11_isGoodFrame_17 : decode cX11_isGoodFrame 17 = .ok (.iconst 1, 1) := by decide +kernel
theorem dX11_isGoodFrame_18 : decode cX11_isGoodFrame 18 = .ok (.iaload, 1) := by decide +kernel
theorem dX11_isGoodFrame_19 : decode cX11_isGoodFrame 19 = .ok (.iadd, 1) := by decide +kernel
theorem dX11_isGoodFrame_20 : decode cX11_isGoodFrame 20 = .ok (.aload_n 0, 1) := by decide +kernel
theorem dX11_isGoodFrame_21 : decode cX11_isGoodFrame 21 = .ok (.getfield 16, 3) := by decide +kernel
theorem dX11_isGoodFrame_24 : decode cX11_isGoodFrame 24 = .ok (.iconst 2, 1) := by decide +kernel
theorem dX11_isGoodFrame_25 : decode cX11_isGoodFrame 25 = .ok (.iaload, 1) := by decide +kernel
theorem dX11_isGoodFrame_26 : decode cX11_isGoodFrame 26 = .ok (.iadd, 1) := by decide +kernel
theorem dX11_isGoodFrame_27 : decode cX11_isGoodFrame 27 = .ok (.aload_n 0, 1) := by decide +kernel
theorem dX11_isGoodFrame_28 : decode cX11_isGoodFrame 28 = .ok (.getfield 16, 3) := by decide +kernel
theorem dX11_isGoodFrame_31 : decode cX11_isGoodFrame 31 = .ok (.iconst 3, 1) := by decide +kernel
theorem dX11_isGoodFrame_32 : decode cX11_isGoodFrame 32 = .ok (.iaload, 1) := by decide +kernel
theorem dX11_isGoodFrame_33 : decode cX11_isGoodFrame 33 = .ok (.iadd, 1) := by decide +kernel
theorem dX11_isGoodFrame_34 : decode cX11_isGoodFrame 34 = .ok (.bipush 85, 2) := by decide +kernel
theorem dX11_isGoodFrame_36 : decode cX11_isGoodFrame 36 = .ok (.iadd, 1) := by decide +kernel
theorem dX11_isGoodFrame_37 : decode cX11_isGoodFrame 37 = .ok (.invokevirtual 155, 3) := by decide +kernel
theorem dX11_isGoodFrame_40 : decode cX11_isGoodFrame 40 = .ok (.if_icmp .ne 13, 3) := by decide +kernel
theorem dX11_isGoodFrame_43 : decode cX11_isGoodFrame 43 = .ok (.aload_n 0, 1) := by decide +kernel
theorem dX11_isGoodFrame_44 : decode cX11_isGoodFrame 44 = .ok (.getfield 16, 3) := by decide +kernel
theorem dX11_isGoodFrame_47 : decode cX11_isGoodFrame 47 = .ok (.iconst 0, 1) := by decide +kernel
theorem dX11_isGoodFrame_48 : decode cX11_isGoodFrame 48 = .ok (.iaload, 1) := by decide +kernel
theorem dX11_isGoodFrame_49 : decode cX11_isGoodFrame 49 = .ok (.iconst 2, 1) := by decide +kernel
theorem dX11_isGoodFrame_50 : decode cX11_isGoodFrame 50 = .ok (.if_icmp .le 5, 3) := by decide +kernel
theorem dX11_isGoodFrame_53 : decode cX11_isGoodFrame 53 = .ok (.iconst 0, 1) := by decide +kernel
theorem dX11_isGoodFrame_54 : decode cX11_isGoodFrame 54 = .ok (.ireturn, 1) := by decide +kernel
theorem dX11_isGoodFrame_55 : decode cX11_isGoodFrame 55 = .ok (.aload_n 0, 1) := by decide +kernel
theorem dX11_isGoodFrame_56 : decode cX11_isGoodFrame 56 = .ok (.getfield 16, 3) := by decide +kernel
theorem dX11_isGoodFrame_59 : decode cX11_isGoodFrame 59 = .ok (.iconst 0, 1) := by decide +kernel
theorem dX11_isGoodFrame_60 : decode cX11_isGoodFrame 60 = .ok (.iaload, 1) := by decide +kernel
theorem dX11_isGoodFrame_61 : decode cX11_isGoodFrame 61 = .ok (.iconst 2, 1) := by decide +kernel
theorem dX11_isGoodFrame_62 : decode cX11_isGoodFrame 62 = .ok (.if_icmp .ne 21, 3) := by decide +kernel
theorem dX11_isGoodFrame_65 : decode cX11_isGoodFrame 65 = .ok (.aload_n 0, 1) := by decide +kernel
theorem dX11_isGoodFrame_66 : decode cX11_isGoodFrame 66 = .ok (.getfield 16, 3) := by decide +kernel
theorem dX11_isGoodFrame_69 : decode cX11_isGoodFrame 69 = .ok (.iconst 2, 1) := by decide +kernel
theorem dX11_isGoodFrame_70 : decode cX11_isGoodFrame 70 = .ok (.iaload, 1) := by decide +kernel
theorem dX11_isGoodFrame_71 : decode cX11_isGoodFrame 71 = .ok (.iconst 2, 1) := by decide +kernel
theorem dX11_isGoodFrame_72 : decode cX11_isGoodFrame 72 = .ok (.if_icmp .ge 7, 3) := by decide +kernel
theorem dX11_isGoodFrame_75 : decode cX11_isGoodFrame 75 = .ok (.iconst 1, 1) := by decide +kernel
theorem dX11_isGoodFrame_76 : decode cX11_isGoodFrame 76 = .ok (.goto 35, 3) := by decide +kernel
theorem dX11_isGoodFrame_79 : decode cX11_isGoodFrame 79 = .ok (.iconst 0, 1) := by decide +kernel
theorem dX11_isGoodFrame_80 : decode cX11_isGoodFrame 80 = .ok (.goto 31, 3) := by decide +kernel
theorem dX11_isGoodFrame_83 : decode cX11_isGoodFrame 83 = .ok (.sipush 256, 3) := by decide +kernel
theorem dX11_isGoodFrame_86 : decode cX11_isGoodFrame 86 = .ok (.aload_n 0, 1) := by decide +kernel
theorem dX11_isGoodFrame_87 : decode cX11_isGoodFrame 87 = .ok (.getfield 16, 3) := by decide +kernel
theorem dX11_isGoodFrame_90 : decode cX11_isGoodFrame 90 = .ok (.iconst 2, 1) := by decide +kernel
theorem dX11_isGoodFrame_91 : decode cX11_isGoodFrame 91 = .ok (.iaload, 1) := by decide +kernel
theorem dX11_isGoodFrame_92 : decode cX11_isGoodFrame 92 = .ok (.imul, 1) := by decide +kernel
theorem dX11_isGoodFrame_93 : decode cX11_isGoodFrame 93 = .ok (.aload_n 0, 1) := by decide +kernel
theorem dX11_isGoodFrame_94 : decode cX11_isGoodFrame 94 = .ok (.getfield 16, 3) := by decide +kernel
theorem dX11_isGoodFrame_97 : decode cX11_isGoodFrame 97 = .ok (.iconst 3, 1) := by decide +kernel
theorem dX11_isGoodFrame_98 : decode cX11_isGoodFrame 98 = .ok (.iaload, 1) := by decide +kernel
theorem dX11_isGoodFrame_99 : decode cX11_isGoodFrame 99 = .ok (.iadd, 1) := by decide +kernel
theorem dX11_isGoodFrame_100 : decode cX11_isGoodFrame 100 = .ok (.sipush 9999, 3) := by decide +kernel
theorem dX11_isGoodFrame_103 : decode cX11_isGoodFrame 103 = .ok (.if_icmp .gt 7, 3) := by decide +kernel
theorem dX11_isGoodFrame_106 : decode cX11_isGoodFrame 106 = .ok (.iconst 1, 1) := by decide +kernel
theorem dX11_isGoodFrame_107 : decode cX11_isGoodFrame 107 = .ok (.goto 4, 3) := by decide +kernel
theorem dX11_isGoodFrame_110 : decode cX11_isGoodFrame 110 = .ok (.iconst 0, 1) := by decide +kernel
theorem dX11_isGoodFrame_111 : decode cX11_isGoodFrame 111 = .ok (.ireturn, 1) := by decide +kernel
theorem dX11_far_0 : decode cX11_far 0 = .ok (.aload_n 0, 1) := by decide +kernel
theorem dX11_far_1 : decode cX11_far 1 = .ok (.iload_n 1, 1) := by decide +kernel
theorem dX11_far_2 : decode cX11_far 2 = .ok (.aload_n 0, 1) := by decide +kernel
theorem dX11_far_3 : decode cX11_far 3 = .ok (.getfield 7, 3) := by decide +kernel
theorem dX11_far_6 : decode cX11_far 6 = .ok (.bipush 13, 2) := by decide +kernel
theorem dX11_far_8 : decode cX11_far 8 = .ok (.iaload, 1) := by decide +kernel
theorem dX11_far_9 : decode cX11_far 9 = .ok (.isub, 1) := by decide +kernel
theorem dX11_far_10 : decode cX11_far 10 = .ok (.invokevirtual 155, 3) := by decide +kernel
theorem dX11_far_13 : decode cX11_far 13 = .ok (.ireturn, 1) := by decide +kernel
theorem dX11_zoneOf_0 : decode cX11_zoneOf 0 = .ok (.iload_n 1, 1) := by decide +kernel
theorem dX11_zoneOf_1 : decode cX11_zoneOf 1 = .ok (.ifCond .ne 5, 3) := by decide +kernel
theorem dX11_zoneOf_4 : decode cX11_zoneOf 4 = .ok (.iconst 0, 1) := by decide +kernel
theorem dX11_zoneOf_5 : decode cX11_zoneOf 5 = .ok (.ireturn, 1) := by decide +kernel
theorem dX11_zoneOf_6 : decode cX11_zoneOf 6 = .ok (.aload_n 0, 1) := by decide +kernel
theorem dX11_zoneOf_7 : decode cX11_zoneOf 7 = .ok (.iconst 0, 1) := by decide +kernel
theorem dX11_zoneOf_8 : decode cX11_zoneOf 8 = .ok (.invokevirtual 102, 3) := by decide +kernel
theorem dX11_zoneOf_11 : decode cX11_zoneOf 11 = .ok (.iconst 2, 1) := by decide +kernel
theorem dX11_zoneOf_12 : decode cX11_zoneOf 12 = .ok (.idiv, 1) := by decide +kernel
theorem dX11_zoneOf_13 : decode cX11_zoneOf 13 = .ok (.istore_n 2, 1) := by decide +kernel
theorem dX11_zoneOf_14 : decode cX11_zoneOf 14 = .ok (.iload_n 1, 1) := by decide +kernel
theorem dX11_zoneOf_15 : decode cX11_zoneOf 15 = .ok (.iload_n 2, 1) := by decide +kernel
theorem dX11_zoneOf_16 : decode cX11_zoneOf 16 = .ok (.if_icmp .ge 7, 3) := by decide +kernel
theorem dX11_zoneOf_19 : decode cX11_zoneOf 19 = .ok (.iconst 1, 1) := by decide +kernel
theorem dX11_zoneOf_20 : decode cX11_zoneOf 20 = .ok (.goto 17, 3) := by decide +kernel
theorem dX11_zoneOf_23 : decode cX11_zoneOf 23 = .ok (.iload_n 1, 1) := by decide +kernel
theorem dX11_zoneOf_24 : decode cX11_zoneOf 24 = .ok (.sipush 256, 3) := by decide +kernel
theorem dX11_zoneOf_27 : decode cX11_zoneOf 27 = .ok (.iload_n 2, 1) := by decide +kernel
theorem dX11_zoneOf_28 : decode cX11_zoneOf 28 = .ok (.isub, 1) := by decide +kernel
theorem dX11_zoneOf_29 : decode cX11_zoneOf 29 = .ok (.if_icmp .lt 7, 3) := by decide +kernel
theorem dX11_zoneOf_32 : decode cX11_zoneOf 32 = .ok (.iconst 2, 1) := by decide +kernel
theorem dX11_zoneOf_33 : decode cX11_zoneOf 33 = .ok (.goto 4, 3) := by decide +kernel
theorem dX11_zoneOf_36 : decode cX11_zoneOf 36 = .ok (.iconst 3, 1) := by decide +kernel
theorem dX11_zoneOf_37 : decode cX11_zoneOf 37 = .ok (.ireturn, 1) := by decide +kernel
theorem dX11_keeps_0 : decode cX11_keeps 0 = .ok (.aload_n 0, 1) := by decide +kernel
theorem dX11_keeps_1 : decode cX11_keeps 1 = .ok (.getfield 7, 3) := by decide +kernel
theorem dX11_keeps_4 : decode cX11_keeps 4 = .ok (.iload_n 2, 1) := by decide +kernel
theorem dX11_keeps_5 : decode cX11_keeps 5 = .ok (.iaload, 1) := by decide +kernel
theorem dX11_keeps_6 : decode cX11_keeps 6 = .ok (.bipush 100, 2) := by decide +kernel
theorem dX11_keeps_8 : decode cX11_keeps 8 = .ok (.if_icmp .ge 17, 3) := by decide +kernel
theorem dX11_keeps_11 : decode cX11_keeps 11 = .ok (.aload_n 0, 1) := by decide +kernel
theorem dX11_keeps_12 : decode cX11_keeps 12 = .ok (.getfield 7, 3) := by decide +kernel
theorem dX11_keeps_15 : decode cX11_keeps 15 = .ok (.iload_n 1, 1) := by decide +kernel
theorem dX11_keeps_16 : decode cX11_keeps 16 = .ok (.aload_n 0, 1) := by decide +kernel
theorem dX11_keeps_17 : decode cX11_keeps 17 = .ok (.getfield 7, 3) := by decide +kernel
theorem dX11_keeps_20 : decode cX11_keeps 20 = .ok (.iload_n 2, 1) := by decide +kernel
theorem dX11_keeps_21 : decode cX11_keeps 21 = .ok (.iaload, 1) := by decide +kernel
theorem dX11_keeps_22 : decode cX11_keeps 22 = .ok (.iadd, 1) := by decide +kernel
theorem dX11_keeps_23 : decode cX11_keeps 23 = .ok (.iload_n 3, 1) := by decide +kernel
theorem dX11_keeps_24 : decode cX11_keeps 24 = .ok (.iastore, 1) := by decide +kernel
theorem dX11_keeps_25 : decode cX11_keeps 25 = .ok (.aload_n 0, 1) := by decide +kernel
theorem dX11_keeps_26 : decode cX11_keeps 26 = .ok (.iload_n 2, 1) := by decide +kernel
theorem dX11_keeps_27 : decode cX11_keeps 27 = .ok (.invokevirtual 58, 3) := by decide +kernel
theorem dX11_keeps_30 : decode cX11_keeps 30 = .ok (.return_, 1) := by decide +kernel
theorem dX11_counts_0 : decode cX11_counts 0 = .ok (.aload_n 0, 1) := by decide +kernel
theorem dX11_counts_1 : decode cX11_counts 1 = .ok (.getfield 7, 3) := by decide +kernel
theorem dX11_counts_4 : decode cX11_counts 4 = .ok (.bipush 17, 2) := by decide +kernel
theorem dX11_counts_6 : decode cX11_counts 6 = .ok (.aload_n 0, 1) := by decide +kernel
theorem dX11_counts_7 : decode cX11_counts 7 = .ok (.getfield 7, 3) := by decide +kernel
theorem dX11_counts_10 : decode cX11_counts 10 = .ok (.bipush 17, 2) := by decide +kernel
theorem dX11_counts_12 : decode cX11_counts 12 = .ok (.iaload, 1) := by decide +kernel
theorem dX11_counts_13 : decode cX11_counts 13 = .ok (.iconst 1, 1) := by decide +kernel
theorem dX11_counts_14 : decode cX11_counts 14 = .ok (.iadd, 1) := by decide +kernel
theorem dX11_counts_15 : decode cX11_counts 15 = .ok (.iconst 4, 1) := by decide +kernel
theorem dX11_counts_16 : decode cX11_counts 16 = .ok (.irem, 1) := by decide +kernel
theorem dX11_counts_17 : decode cX11_counts 17 = .ok (.iastore, 1) := by decide +kernel
theorem dX11_counts_18 : decode cX11_counts 18 = .ok (.return_, 1) := by decide +kernel
theorem dX11_takesIn_0 : decode cX11_takesIn 0 = .ok (.aload_n 0, 1) := by decide +kernel
theorem dX11_takesIn_1 : decode cX11_takesIn 1 = .ok (.getfield 7, 3) := by decide +kernel
theorem dX11_takesIn_4 : decode cX11_takesIn 4 = .ok (.bipush 14, 2) := by decide +kernel
theorem dX11_takesIn_6 : decode cX11_takesIn 6 = .ok (.iaload, 1) := by decide +kernel
theorem dX11_takesIn_7 : decode cX11_takesIn 7 = .ok (.iconst 1, 1) := by decide +kernel
theorem dX11_takesIn_8 : decode cX11_takesIn 8 = .ok (.if_icmp .ne 5, 3) := by decide +kernel
theorem dX11_takesIn_11 : decode cX11_takesIn 11 = .ok (.iconst 0, 1) := by decide +kernel
theorem dX11_takesIn_12 : decode cX11_takesIn 12 = .ok (.ireturn, 1) := by decide +kernel
theorem dX11_takesIn_13 : decode cX11_takesIn 13 = .ok (.aload_n 0, 1) := by decide +kernel
theorem dX11_takesIn_14 : decode cX11_takesIn 14 = .ok (.aload_n 0, 1) := by decide +kernel
theorem dX11_takesIn_15 : decode cX11_takesIn 15 = .ok (.iload_n 1, 1) := by decide +kernel
theorem dX11_takesIn_16 : decode cX11_takesIn 16 = .ok (.invokevirtual 173, 3) := by decide +kernel
theorem dX11_takesIn_19 : decode cX11_takesIn 19 = .ok (.invokevirtual 176, 3) := by decide +kernel
theorem dX11_takesIn_22 : decode cX11_takesIn 22 = .ok (.istore_n 3, 1) := by decide +kernel
theorem dX11_takesIn_23 : decode cX11_takesIn 23 = .ok (.iload_n 3, 1) := by decide +kernel
theorem dX11_takesIn_24 : decode cX11_takesIn 24 = .ok (.iconst 1, 1) := by decide +kernel
theorem dX11_takesIn_25 : decode cX11_takesIn 25 = .ok (.if_icmp .ne 21, 3) := by decide +kernel
theorem dX11_takesIn_28 : decode cX11_takesIn 28 = .ok (.aload_n 0, 1) := by decide +kernel
theorem dX11_takesIn_29 : decode cX11_takesIn 29 = .ok (.getfield 7, 3) := by decide +kernel
theorem dX11_takesIn_32 : decode cX11_takesIn 32 = .ok (.bipush 15, 2) := by decide +kernel
theorem dX11_takesIn_34 : decode cX11_takesIn 34 = .ok (.iaload, 1) := by decide +kernel
theorem dX11_takesIn_35 : decode cX11_takesIn 35 = .ok (.ifCond .ne 11, 3) := by decide +kernel
theorem dX11_takesIn_38 : decode cX11_takesIn 38 = .ok (.aload_n 0, 1) := by decide +kernel
theorem dX11_takesIn_39 : decode cX11_takesIn 39 = .ok (.getfield 7, 3) := by decide +kernel
theorem dX11_takesIn_42 : decode cX11_takesIn 42 = .ok (.bipush 16, 2) := by decide +kernel
theorem dX11_takesIn_44 : decode cX11_takesIn 44 = .ok (.iconst 1, 1) := by decide +kernel
theorem dX11_takesIn_45 : decode cX11_takesIn 45 = .ok (.iastore, 1) := by decide +kernel
theorem dX11_takesIn_46 : decode cX11_takesIn 46 = .ok (.iload_n 3, 1) := by decide +kernel
theorem dX11_takesIn_47 : decode cX11_takesIn 47 = .ok (.iconst 3, 1) := by decide +kernel
theorem dX11_takesIn_48 : decode cX11_takesIn 48 = .ok (.if_icmp .ne 11, 3) := by decide +kernel
theorem dX11_takesIn_51 : decode cX11_takesIn 51 = .ok (.aload_n 0, 1) := by decide +kernel
theorem dX11_takesIn_52 : decode cX11_takesIn 52 = .ok (.getfield 7, 3) := by decide +kernel
theorem dX11_takesIn_55 : decode cX11_takesIn 55 = .ok (.bipush 14, 2) := by decide +kernel
theorem dX11_takesIn_57 : decode cX11_takesIn 57 = .ok (.iconst 1, 1) := by decide +kernel
theorem dX11_takesIn_58 : decode cX11_takesIn 58 = .ok (.iastore, 1) := by decide +kernel
theorem dX11_takesIn_59 : decode cX11_takesIn 59 = .ok (.iload_n 3, 1) := by decide +kernel
theorem dX11_takesIn_60 : decode cX11_takesIn 60 = .ok (.ifCond .gt 14, 3) := by decide +kernel
theorem dX11_takesIn_63 : decode cX11_takesIn 63 = .ok (.aload_n 0, 1) := by decide +kernel
theorem dX11_takesIn_64 : decode cX11_takesIn 64 = .ok (.getfield 7, 3) := by decide +kernel
theorem dX11_takesIn_67 : decode cX11_takesIn 67 = .ok (.bipush 15, 2) := by decide +kernel
theorem dX11_takesIn_69 : decode cX11_takesIn 69 = .ok (.iaload, 1) := by decide +kernel
theorem dX11_takesIn_70 : decode cX11_takesIn 70 = .ok (.iconst 1, 1) := by decide +kernel
theorem dX11_takesIn_71 : decode cX11_takesIn 71 = .ok (.if_icmp .ne 5, 3) := by decide +kernel
theorem dX11_takesIn_74 : decode cX11_takesIn 74 = .ok (.iconst 0, 1) := by decide +kernel
theorem dX11_takesIn_75 : decode cX11_takesIn 75 = .ok (.ireturn, 1) := by decide +kernel
theorem dX11_takesIn_76 : decode cX11_takesIn 76 = .ok (.aload_n 0, 1) := by decide +kernel
theorem dX11_takesIn_77 : decode cX11_takesIn 77 = .ok (.getfield 7, 3) := by decide +kernel
theorem dX11_takesIn_80 : decode cX11_takesIn 80 = .ok (.bipush 18, 2) := by decide +kernel
theorem dX11_takesIn_82 : decode cX11_takesIn 82 = .ok (.iaload, 1) := by decide +kernel
theorem dX11_takesIn_83 : decode cX11_takesIn 83 = .ok (.aload_n 0, 1) := by decide +kernel
theorem dX11_takesIn_84 : decode cX11_takesIn 84 = .ok (.iconst 1, 1) := by decide +kernel
theorem dX11_takesIn_85 : decode cX11_takesIn 85 = .ok (.invokevirtual 102, 3) := by decide +kernel
theorem dX11_takesIn_88 : decode cX11_takesIn 88 = .ok (.if_icmp .lt 21, 3) := by decide +kernel
theorem dX11_takesIn_91 : decode cX11_takesIn 91 = .ok (.aload_n 0, 1) := by decide +kernel
theorem dX11_takesIn_92 : decode cX11_takesIn 92 = .ok (.getfield 7, 3) := by decide +kernel
theorem dX11_takesIn_95 : decode cX11_takesIn 95 = .ok (.bipush 16, 2) := by decide +kernel
theorem dX11_takesIn_97 : decode cX11_takesIn 97 = .ok (.iconst 1, 1) := by decide +kernel
theorem dX11_takesIn_98 : decode cX11_takesIn 98 = .ok (.iastore, 1) := by decide +kernel
theorem dX11_takesIn_99 : decode cX11_takesIn 99 = .ok (.aload_n 0, 1) := by decide +kernel
theorem dX11_takesIn_100 : decode cX11_takesIn 100 = .ok (.getfield 7, 3) := by decide +kernel
theorem dX11_takesIn_103 : decode cX11_takesIn 103 = .ok (.bipush 15, 2) := by decide +kernel
theorem dX11_takesIn_105 : decode cX11_takesIn 105 = .ok (.iconst 1, 1) := by decide +kernel
theorem dX11_takesIn_106 : decode cX11_takesIn 106 = .ok (.iastore, 1) := by decide +kernel
theorem dX11_takesIn_107 : decode cX11_takesIn 107 = .ok (.iconst 0, 1) := by decide +kernel
theorem dX11_takesIn_108 : decode cX11_takesIn 108 = .ok (.ireturn, 1) := by decide +kernel
theorem dX11_takesIn_109 : decode cX11_takesIn 109 = .ok (.aload_n 0, 1) := by decide +kernel
theorem dX11_takesIn_110 : decode cX11_takesIn 110 = .ok (.bipush 50, 2) := by decide +kernel
theorem dX11_takesIn_112 : decode cX11_takesIn 112 = .ok (.bipush 18, 2) := by decide +kernel
theorem dX11_takesIn_114 : decode cX11_takesIn 114 = .ok (.iload_n 2, 1) := by decide +kernel
theorem dX11_takesIn_115 : decode cX11_takesIn 115 = .ok (.invokevirtual 109, 3) := by decide +kernel
theorem dX11_takesIn_118 : decode cX11_takesIn 118 = .ok (.aload_n 0, 1) := by decide +kernel
theorem dX11_takesIn_119 : decode cX11_takesIn 119 = .ok (.sipush 419, 3) := by decide +kernel
theorem dX11_takesIn_122 : decode cX11_takesIn 122 = .ok (.bipush 19, 2) := by decide +kernel
theorem dX11_takesIn_124 : decode cX11_takesIn 124 = .ok (.iload_n 2, 1) := by decide +kernel
theorem dX11_takesIn_125 : decode cX11_takesIn 125 = .ok (.invokevirtual 179, 3) := by decide +kernel
theorem dX11_takesIn_128 : decode cX11_takesIn 128 = .ok (.aload_n 0, 1) := by decide +kernel
theorem dX11_takesIn_129 : decode cX11_takesIn 129 = .ok (.aload_n 0, 1) := by decide +kernel
theorem dX11_takesIn_130 : decode cX11_takesIn 130 = .ok (.getfield 158, 3) := by decide +kernel
theorem dX11_takesIn_133 : decode cX11_takesIn 133 = .ok (.iconst 1, 1) := by decide +kernel
theorem dX11_takesIn_134 : decode cX11_takesIn 134 = .ok (.isub, 1) := by decide +kernel
theorem dX11_takesIn_135 : decode cX11_takesIn 135 = .ok (.invokevirtual 182, 3) := by decide +kernel
theorem dX11_takesIn_138 : decode cX11_takesIn 138 = .ok (.aload_n 0, 1) := by decide +kernel
theorem dX11_takesIn_139 : decode cX11_takesIn 139 = .ok (.getfield 7, 3) := by decide +kernel
theorem dX11_takesIn_142 : decode cX11_takesIn 142 = .ok (.bipush 13, 2) := by decide +kernel
theorem dX11_takesIn_144 : decode cX11_takesIn 144 = .ok (.aload_n 0, 1) := by decide +kernel
theorem dX11_takesIn_145 : decode cX11_takesIn 145 = .ok (.aload_n 0, 1) := by decide +kernel
theorem dX11_takesIn_146 : decode cX11_takesIn 146 = .ok (.getfield 7, 3) := by decide +kernel
theorem dX11_takesIn_149 : decode cX11_takesIn 149 = .ok (.bipush 13, 2) := by decide +kernel
theorem dX11_takesIn_151 : decode cX11_takesIn 151 = .ok (.iaload, 1) := by decide +kernel
theorem dX11_takesIn_152 : decode cX11_takesIn 152 = .ok (.iconst 1, 1) := by decide +kernel
theorem dX11_takesIn_153 : decode cX11_takesIn 153 = .ok (.iadd, 1) := by decide +kernel
theorem dX11_takesIn_154 : decode cX11_takesIn 154 = .ok (.invokevirtual 155, 3) := by decide +kernel
theorem dX11_takesIn_157 : decode cX11_takesIn 157 = .ok (.iastore, 1) := by decide +kernel
theorem dX11_takesIn_158 : decode cX11_takesIn 158 = .ok (.aload_n 0, 1) := by decide +kernel
theorem dX11_takesIn_159 : decode cX11_takesIn 159 = .ok (.getfield 7, 3) := by decide +kernel
theorem dX11_takesIn_162 : decode cX11_takesIn 162 = .ok (.bipush 16, 2) := by decide +kernel
theorem dX11_takesIn_164 : decode cX11_takesIn 164 = .ok (.iconst 0, 1) := by decide +kernel
theorem dX11_takesIn_165 : decode cX11_takesIn 165 = .ok (.iastore, 1) := by decide +kernel
theorem dX11_takesIn_166 : decode cX11_takesIn 166 = .ok (.iconst 1, 1) := by decide +kernel
theorem dX11_takesIn_167 : decode cX11_takesIn 167 = .ok (.ireturn, 1) := by decide +kernel
theorem dX11_isDirected_0 : decode cX11_isDirected 0 = .ok (.aload_n 0, 1) := by decide +kernel
theorem dX11_isDirected_1 : decode cX11_isDirected 1 = .ok (.invokevirtual 185, 3) := by decide +kernel
theorem dX11_isDirected_4 : decode cX11_isDirected 4 = .ok (.iload_n 1, 1) := by decide +kernel
theorem dX11_isDirected_5 : decode cX11_isDirected 5 = .ok (.ifCond .ne 11, 3) := by decide +kernel
theorem dX11_isDirected_8 : decode cX11_isDirected 8 = .ok (.aload_n 0, 1) := by decide +kernel
theorem dX11_isDirected_9 : decode cX11_isDirected 9 = .ok (.getfield 7, 3) := by decide +kernel
theorem dX11_isDirected_12 : decode cX11_isDirected 12 = .ok (.bipush 14, 2) := by decide +kernel
theorem dX11_isDirected_14 : decode cX11_isDirected 14 = .ok (.iconst 0, 1) := by decide +kernel
theorem dX11_isDirected_15 : decode cX11_isDirected 15 = .ok (.iastore, 1) := by decide +kernel
theorem dX11_isDirected_16 : decode cX11_isDirected 16 = .ok (.aload_n 0, 1) := by decide +kernel
theorem dX11_isDirected_17 : decode cX11_isDirected 17 = .ok (.getfield 7, 3) := by decide +kernel
theorem dX11_isDirected_20 : decode cX11_isDirected 20 = .ok (.bipush 14, 2) := by decide +kernel
theorem dX11_isDirected_22 : decode cX11_isDirected 22 = .ok (.iaload, 1) := by decide +kernel
theorem dX11_isDirected_23 : decode cX11_isDirected 23 = .ok (.iconst 1, 1) := by decide +kernel
theorem dX11_isDirected_24 : decode cX11_isDirected 24 = .ok (.if_icmp .ne 4, 3) := by decide +kernel
theorem dX11_isDirected_27 : decode cX11_isDirected 27 = .ok (.return_, 1) := by decide +kernel
theorem dX11_isDirected_28 : decode cX11_isDirected 28 = .ok (.aload_n 0, 1) := by decide +kernel
theorem dX11_isDirected_29 : decode cX11_isDirected 29 = .ok (.getfield 7, 3) := by decide +kernel
theorem dX11_isDirected_32 : decode cX11_isDirected 32 = .ok (.bipush 15, 2) := by decide +kernel
theorem dX11_isDirected_34 : decode cX11_isDirected 34 = .ok (.iconst 0, 1) := by decide +kernel
theorem dX11_isDirected_35 : decode cX11_isDirected 35 = .ok (.iastore, 1) := by decide +kernel
theorem dX11_isDirected_36 : decode cX11_isDirected 36 = .ok (.aload_n 0, 1) := by decide +kernel
theorem dX11_isDirected_37 : decode cX11_isDirected 37 = .ok (.getfield 7, 3) := by decide +kernel
theorem dX11_isDirected_40 : decode cX11_isDirected 40 = .ok (.bipush 16, 2) := by decide +kernel
theorem dX11_isDirected_42 : decode cX11_isDirected 42 = .ok (.iconst 0, 1) := by decide +kernel
theorem dX11_isDirected_43 : decode cX11_isDirected 43 = .ok (.iastore, 1) := by decide +kernel
theorem dX11_isDirected_44 : decode cX11_isDirected 44 = .ok (.iload_n 1, 1) := by decide +kernel
theorem dX11_isDirected_45 : decode cX11_isDirected 45 = .ok (.iconst 1, 1) := by decide +kernel
theorem dX11_isDirected_46 : decode cX11_isDirected 46 = .ok (.if_icmp .ne 11, 3) := by decide +kernel
theorem dX11_isDirected_49 : decode cX11_isDirected 49 = .ok (.aload_n 0, 1) := by decide +kernel
theorem dX11_isDirected_50 : decode cX11_isDirected 50 = .ok (.getfield 7, 3) := by decide +kernel
theorem dX11_isDirected_53 : decode cX11_isDirected 53 = .ok (.bipush 13, 2) := by decide +kernel
theorem dX11_isDirected_55 : decode cX11_isDirected 55 = .ok (.iload_n 2, 1) := by decide +kernel
theorem dX11_isDirected_56 : decode cX11_isDirected 56 = .ok (.iastore, 1) := by decide +kernel
theorem dX11_isDirected_57 : decode cX11_isDirected 57 = .ok (.return_, 1) := by decide +kernel
theorem dX11_comesFrame_0 : decode cX11_comesFrame 0 = .ok (.aload_n 0, 1) := by decide +kernel
theorem dX11_comesFrame_1 : decode cX11_comesFrame 1 = .ok (.invokevirtual 188, 3) := by decide +kernel
theorem dX11_comesFrame_4 : decode cX11_comesFrame 4 = .ok (.istore_n 1, 1) := by decide +kernel
theorem dX11_comesFrame_5 : decode cX11_comesFrame 5 = .ok (.iload_n 1, 1) := by decide +kernel
theorem dX11_comesFrame_6 : decode cX11_comesFrame 6 = .ok (.ifCond .eq 43, 3) := by decide +kernel
theorem dX11_comesFrame_9 : decode cX11_comesFrame 9 = .ok (.aload_n 0, 1) := by decide +kernel
theorem dX11_comesFrame_10 : decode cX11_comesFrame 10 = .ok (.getfield 16, 3) := by decide +kernel
theorem dX11_comesFrame_13 : decode cX11_comesFrame 13 = .ok (.iconst 0, 1) := by decide +kernel
theorem dX11_comesFrame_14 : decode cX11_comesFrame 14 = .ok (.iaload, 1) := by decide +kernel
theorem dX11_comesFrame_15 : decode cX11_comesFrame 15 = .ok (.ifCond .ne 34, 3) := by decide +kernel
theorem dX11_comesFrame_18 : decode cX11_comesFrame 18 = .ok (.aload_n 0, 1) := by decide +kernel
theorem dX11_comesFrame_19 : decode cX11_comesFrame 19 = .ok (.aload_n 0, 1) := by decide +kernel
theorem dX11_comesFrame_20 : decode cX11_comesFrame 20 = .ok (.getfield 16, 3) := by decide +kernel
theorem dX11_comesFrame_23 : decode cX11_comesFrame 23 = .ok (.iconst 1, 1) := by decide +kernel
theorem dX11_comesFrame_24 : decode cX11_comesFrame 24 = .ok (.iaload, 1) := by decide +kernel
theorem dX11_comesFrame_25 : decode cX11_comesFrame 25 = .ok (.sipush 256, 3) := by decide +kernel
theorem dX11_comesFrame_28 : decode cX11_comesFrame 28 = .ok (.aload_n 0, 1) := by decide +kernel
theorem dX11_comesFrame_29 : decode cX11_comesFrame 29 = .ok (.getfield 16, 3) := by decide +kernel
theorem dX11_comesFrame_32 : decode cX11_comesFrame 32 = .ok (.iconst 2, 1) := by decide +kernel
theorem dX11_comesFrame_33 : decode cX11_comesFrame 33 = .ok (.iaload, 1) := by decide +kernel
theorem dX11_comesFrame_34 : decode cX11_comesFrame 34 = .ok (.imul, 1) := by decide +kernel
theorem dX11_comesFrame_35 : decode cX11_comesFrame 35 = .ok (.aload_n 0, 1) := by decide +kernel
theorem dX11_comesFrame_36 : decode cX11_comesFrame 36 = .ok (.getfield 16, 3) := by decide +kernel
theorem dX11_comesFrame_39 : decode cX11_comesFrame 39 = .ok (.iconst 3, 1) := by decide +kernel
theorem dX11_comesFrame_40 : decode cX11_comesFrame 40 = .ok (.iaload, 1) := by decide +kernel
theorem dX11_comesFrame_41 : decode cX11_comesFrame 41 = .ok (.iadd, 1) := by decide +kernel
theorem dX11_comesFrame_42 : decode cX11_comesFrame 42 = .ok (.invokevirtual 191, 3) := by decide +kernel
theorem dX11_comesFrame_45 : decode cX11_comesFrame 45 = .ok (.istore_n 1, 1) := by decide +kernel
theorem dX11_comesFrame_46 : decode cX11_comesFrame 46 = .ok (.goto 70, 3) := by decide +kernel
theorem dX11_comesFrame_49 : decode cX11_comesFrame 49 = .ok (.iload_n 1, 1) := by decide +kernel
theorem dX11_comesFrame_50 : decode cX11_comesFrame 50 = .ok (.ifCond .eq 46, 3) := by decide +kernel
theorem dX11_comesFrame_53 : decode cX11_comesFrame 53 = .ok (.aload_n 0, 1) := by decide +kernel
theorem dX11_comesFrame_54 : decode cX11_comesFrame 54 = .ok (.getfield 16, 3) := by decide +kernel
theorem dX11_comesFrame_57 : decode cX11_comesFrame 57 = .ok (.iconst 0, 1) := by decide +kernel
theorem dX11_comesFrame_58 : decode cX11_comesFrame 58 = .ok (.iaload, 1) := by decide +kernel
theorem dX11_comesFrame_59 : decode cX11_comesFrame 59 = .ok (.iconst 1, 1) := by decide +kernel
theorem dX11_comesFrame_60 : decode cX11_comesFrame 60 = .ok (.if_icmp .ne 36, 3) := by decide +kernel
theorem dX11_comesFrame_63 : decode cX11_comesFrame 63 = .ok (.aload_n 0, 1) := by decide +kernel
theorem dX11_comesFrame_64 : decode cX11_comesFrame 64 = .ok (.sipush 519, 3) := by decide +kernel
theorem dX11_comesFrame_67 : decode cX11_comesFrame 67 = .ok (.bipush 20, 2) := by decide +kernel
theorem dX11_comesFrame_69 : decode cX11_comesFrame 69 = .ok (.sipush 256, 3) := by decide +kernel
theorem dX11_comesFrame_72 : decode cX11_comesFrame 72 = .ok (.aload_n 0, 1) := by decide +kernel
theorem dX11_comesFrame_73 : decode cX11_comesFrame 73 = .ok (.getfield 16, 3) := by decide +kernel
theorem dX11_comesFrame_76 : decode cX11_comesFrame 76 = .ok (.iconst 2, 1) := by decide +kernel
theorem dX11_comesFrame_77 : decode cX11_comesFrame 77 = .ok (.iaload, 1) := by decide +kernel
theorem dX11_comesFrame_78 : decode cX11_comesFrame 78 = .ok (.imul, 1) := by decide +kernel
theorem dX11_comesFrame_79 : decode cX11_comesFrame 79 = .ok (.aload_n 0, 1) := by decide +kernel
theorem dX11_comesFrame_80 : decode cX11_comesFrame 80 = .ok (.getfield 16, 3) := by decide +kernel
theorem dX11_comesFrame_83 : decode cX11_comesFrame 83 = .ok (.iconst 3, 1) := by decide +kernel
theorem dX11_comesFrame_84 : decode cX11_comesFrame 84 = .ok (.iaload, 1) := by decide +kernel
theorem dX11_comesFrame_85 : decode cX11_comesFrame 85 = .ok (.iadd, 1) := by decide +kernel
theorem dX11_comesFrame_86 : decode cX11_comesFrame 86 = .ok (.invokevirtual 179, 3) := by decide +kernel
theorem dX11_comesFrame_89 : decode cX11_comesFrame 89 = .ok (.aload_n 0, 1) := by decide +kernel
theorem dX11_comesFrame_90 : decode cX11_comesFrame 90 = .ok (.invokevirtual 185, 3) := by decide +kernel
theorem dX11_comesFrame_93 : decode cX11_comesFrame 93 = .ok (.goto 23, 3) := by decide +kernel
theorem dX11_comesFrame_96 : decode cX11_comesFrame 96 = .ok (.iload_n 1, 1) := by decide +kernel
theorem dX11_comesFrame_97 : decode cX11_comesFrame 97 = .ok (.ifCond .eq 19, 3) := by decide +kernel
theorem dX11_comesFrame_100 : decode cX11_comesFrame 100 = .ok (.aload_n 0, 1) := by decide +kernel
theorem dX11_comesFrame_101 : decode cX11_comesFrame 101 = .ok (.aload_n 0, 1) := by decide +kernel
theorem dX11_comesFrame_102 : decode cX11_comesFrame 102 = .ok (.getfield 16, 3) := by decide +kernel
theorem dX11_comesFrame_105 : decode cX11_comesFrame 105 = .ok (.iconst 2, 1) := by decide +kernel
theorem dX11_comesFrame_106 : decode cX11_comesFrame 106 = .ok (.iaload, 1) := by decide +kernel
theorem dX11_comesFrame_107 : decode cX11_comesFrame 107 = .ok (.aload_n 0, 1) := by decide +kernel
theorem dX11_comesFrame_108 : decode cX11_comesFrame 108 = .ok (.getfield 16, 3) := by decide +kernel
theorem dX11_comesFrame_111 : decode cX11_comesFrame 111 = .ok (.iconst 3, 1) := by decide +kernel
theorem dX11_comesFrame_112 : decode cX11_comesFrame 112 = .ok (.iaload, 1) := by decide +kernel
theorem dX11_comesFrame_113 : decode cX11_comesFrame 113 = .ok (.invokevirtual 194, 3) := by decide +kernel
theorem dX11_comesFrame_116 : decode cX11_comesFrame 116 = .ok (.iload_n 1, 1) := by decide +kernel
theorem dX11_comesFrame_117 : decode cX11_comesFrame 117 = .ok (.ifCond .ne 9, 3) := by decide +kernel
theorem dX11_comesFrame_120 : decode cX11_comesFrame 120 = .ok (.aload_n 0, 1) := by decide +kernel
theorem dX11_comesFrame_121 : decode cX11_comesFrame 121 = .ok (.bipush 38, 2) := by decide +kernel
theorem dX11_comesFrame_123 : decode cX11_comesFrame 123 = .ok (.invokevirtual 58, 3) := by decide +kernel
theorem dX11_comesFrame_126 : decode cX11_comesFrame 126 = .ok (.return_, 1) := by decide +kernel
theorem dX11_reports_0 : decode cX11_reports 0 = .ok (.aload_n 0, 1) := by decide +kernel
theorem dX11_reports_1 : decode cX11_reports 1 = .ok (.getfield 16, 3) := by decide +kernel
theorem dX11_reports_4 : decode cX11_reports 4 = .ok (.iconst 0, 1) := by decide +kernel
theorem dX11_reports_5 : decode cX11_reports 5 = .ok (.aload_n 0, 1) := by decide +kernel
theorem dX11_reports_6 : decode cX11_reports 6 = .ok (.getfield 7, 3) := by decide +kernel
theorem dX11_reports_9 : decode cX11_reports 9 = .ok (.bipush 14, 2) := by decide +kernel
theorem dX11_reports_11 : decode cX11_reports 11 = .ok (.iaload, 1) := by decide +kernel
theorem dX11_reports_12 : decode cX11_reports 12 = .ok (.iconst 2, 1) := by decide +kernel
theorem dX11_reports_13 : decode cX11_reports 13 = .ok (.aload_n 0, 1) := by decide +kernel
theorem dX11_reports_14 : decode cX11_reports 14 = .ok (.getfield 7, 3) := by decide +kernel
theorem dX11_reports_17 : decode cX11_reports 17 = .ok (.bipush 15, 2) := by decide +kernel
theorem dX11_reports_19 : decode cX11_reports 19 = .ok (.iaload, 1) := by decide +kernel
theorem dX11_reports_20 : decode cX11_reports 20 = .ok (.imul, 1) := by decide +kernel
theorem dX11_reports_21 : decode cX11_reports 21 = .ok (.iadd, 1) := by decide +kernel
theorem dX11_reports_22 : decode cX11_reports 22 = .ok (.iconst 4, 1) := by decide +kernel
theorem dX11_reports_23 : decode cX11_reports 23 = .ok (.aload_n 0, 1) := by decide +kernel
theorem dX11_reports_24 : decode cX11_reports 24 = .ok (.getfield 7, 3) := by decide +kernel
theorem dX11_reports_27 : decode cX11_reports 27 = .ok (.bipush 16, 2) := by decide +kernel
theorem dX11_reports_29 : decode cX11_reports 29 = .ok (.iaload, 1) := by decide +kernel
theorem dX11_reports_30 : decode cX11_reports 30 = .ok (.imul, 1) := by decide +kernel
theorem dX11_reports_31 : decode cX11_reports 31 = .ok (.iadd, 1) := by decide +kernel
theorem dX11_reports_32 : decode cX11_reports 32 = .ok (.bipush 8, 2) := by decide +kernel
theorem dX11_reports_34 : decode cX11_reports 34 = .ok (.aload_n 0, 1) := by decide +kernel
theorem dX11_reports_35 : decode cX11_reports 35 = .ok (.getfield 7, 3) := by decide +kernel
theorem dX11_reports_38 : decode cX11_reports 38 = .ok (.bipush 17, 2) := by decide +kernel
theorem dX11_reports_40 : decode cX11_reports 40 = .ok (.iaload, 1) := by decide +kernel
theorem dX11_reports_41 : decode cX11_reports 41 = .ok (.imul, 1) := by decide +kernel
theorem dX11_reports_42 : decode cX11_reports 42 = .ok (.iadd, 1) := by decide +kernel
theorem dX11_reports_43 : decode cX11_reports 43 = .ok (.iastore, 1) := by decide +kernel
theorem dX11_reports_44 : decode cX11_reports 44 = .ok (.aload_n 0, 1) := by decide +kernel
theorem dX11_reports_45 : decode cX11_reports 45 = .ok (.getfield 16, 3) := by decide +kernel
theorem dX11_reports_48 : decode cX11_reports 48 = .ok (.iconst 1, 1) := by decide +kernel
theorem dX11_reports_49 : decode cX11_reports 49 = .ok (.aload_n 0, 1) := by decide +kernel
theorem dX11_reports_50 : decode cX11_reports 50 = .ok (.getfield 7, 3) := by decide +kernel
theorem dX11_reports_53 : decode cX11_reports 53 = .ok (.bipush 13, 2) := by decide +kernel
theorem dX11_reports_55 : decode cX11_reports 55 = .ok (.iaload, 1) := by decide +kernel
theorem dX11_reports_56 : decode cX11_reports 56 = .ok (.iastore, 1) := by decide +kernel
theorem dX11_reports_57 : decode cX11_reports 57 = .ok (.aload_n 0, 1) := by decide +kernel
theorem dX11_reports_58 : decode cX11_reports 58 = .ok (.getfield 16, 3) := by decide +kernel
theorem dX11_reports_61 : decode cX11_reports 61 = .ok (.iconst 2, 1) := by decide +kernel
theorem dX11_reports_62 : decode cX11_reports 62 = .ok (.aload_n 0, 1) := by decide +kernel
theorem dX11_reports_63 : decode cX11_reports 63 = .ok (.aload_n 0, 1) := by decide +kernel
theorem dX11_reports_64 : decode cX11_reports 64 = .ok (.getfield 16, 3) := by decide +kernel
theorem dX11_reports_67 : decode cX11_reports 67 = .ok (.iconst 0, 1) := by decide +kernel
theorem dX11_reports_68 : decode cX11_reports 68 = .ok (.iaload, 1) := by decide +kernel
theorem dX11_reports_69 : decode cX11_reports 69 = .ok (.aload_n 0, 1) := by decide +kernel
theorem dX11_reports_70 : decode cX11_reports 70 = .ok (.getfield 16, 3) := by decide +kernel
theorem dX11_reports_73 : decode cX11_reports 73 = .ok (.iconst 1, 1) := by decide +kernel
theorem dX11_reports_74 : decode cX11_reports 74 = .ok (.iaload, 1) := by decide +kernel
theorem dX11_reports_75 : decode cX11_reports 75 = .ok (.iadd, 1) := by decide +kernel
theorem dX11_reports_76 : decode cX11_reports 76 = .ok (.bipush 85, 2) := by decide +kernel
theorem dX11_reports_78 : decode cX11_reports 78 = .ok (.iadd, 1) := by decide +kernel
theorem dX11_reports_79 : decode cX11_reports 79 = .ok (.invokevirtual 155, 3) := by decide +kernel
theorem dX11_reports_82 : decode cX11_reports 82 = .ok (.iastore, 1) := by decide +kernel
theorem dX11_reports_83 : decode cX11_reports 83 = .ok (.aload_n 0, 1) := by decide +kernel
theorem dX11_reports_84 : decode cX11_reports 84 = .ok (.iconst 0, 1) := by decide +kernel
theorem dX11_reports_85 : decode cX11_reports 85 = .ok (.invokevirtual 161, 3) := by decide +kernel
theorem dX11_reports_88 : decode cX11_reports 88 = .ok (.return_, 1) := by decide +kernel
theorem dX11_takesOne_0 : decode cX11_takesOne 0 = .ok (.aload_n 0, 1) := by decide +kernel
theorem dX11_takesOne_1 : decode cX11_takesOne 1 = .ok (.getfield 7, 3) := by decide +kernel
theorem dX11_takesOne_4 : decode cX11_takesOne 4 = .ok (.bipush 18, 2) := by decide +kernel
theorem dX11_takesOne_6 : decode cX11_takesOne 6 = .ok (.iaload, 1) := by decide +kernel
theorem dX11_takesOne_7 : decode cX11_takesOne 7 = .ok (.ifCond .ne 5, 3) := by decide +kernel
theorem dX11_takesOne_10 : decode cX11_takesOne 10 = .ok (.iconst (-1), 1) := by decide +kernel
theorem dX11_takesOne_11 : decode cX11_takesOne 11 = .ok (.ireturn, 1) := by decide +kernel
theorem dX11_takesOne_12 : decode cX11_takesOne 12 = .ok (.aload_n 0, 1) := by decide +kernel
theorem dX11_takesOne_13 : decode cX11_takesOne 13 = .ok (.getfield 7, 3) := by decide +kernel
theorem dX11_takesOne_16 : decode cX11_takesOne 16 = .ok (.bipush 15, 2) := by decide +kernel
theorem dX11_takesOne_18 : decode cX11_takesOne 18 = .ok (.iconst 0, 1) := by decide +kernel
theorem dX11_takesOne_19 : decode cX11_takesOne 19 = .ok (.iastore, 1) := by decide +kernel
theorem dX11_takesOne_20 : decode cX11_takesOne 20 = .ok (.aload_n 0, 1) := by decide +kernel
theorem dX11_takesOne_21 : decode cX11_takesOne 21 = .ok (.bipush 50, 2) := by decide +kernel
theorem dX11_takesOne_23 : decode cX11_takesOne 23 = .ok (.bipush 18, 2) := by decide +kernel
theorem dX11_takesOne_25 : decode cX11_takesOne 25 = .ok (.invokevirtual 197, 3) := by decide +kernel
theorem dX11_takesOne_28 : decode cX11_takesOne 28 = .ok (.ireturn, 1) := by decide +kernel
theorem dX11_take_0 : decode cX11_take 0 = .ok (.aload_n 0, 1) := by decide +kernel
theorem dX11_take_1 : decode cX11_take 1 = .ok (.iconst 0, 1) := by decide +kernel
theorem dX11_take_2 : decode cX11_take 2 = .ok (.putfield 41, 3) := by decide +kernel
theorem dX11_take_5 : decode cX11_take 5 = .ok (.aload_n 0, 1) := by decide +kernel
theorem dX11_take_6 : decode cX11_take 6 = .ok (.invokevirtual 200, 3) := by decide +kernel
theorem dX11_take_9 : decode cX11_take 9 = .ok (.ireturn, 1) := by decide +kernel
theorem dX11_zone_0 : decode cX11_zone 0 = .ok (.aload_n 0, 1) := by decide +kernel
theorem dX11_zone_1 : decode cX11_zone 1 = .ok (.iconst 0, 1) := by decide +kernel
theorem dX11_zone_2 : decode cX11_zone 2 = .ok (.putfield 41, 3) := by decide +kernel
theorem dX11_zone_5 : decode cX11_zone 5 = .ok (.aload_n 0, 1) := by decide +kernel
theorem dX11_zone_6 : decode cX11_zone 6 = .ok (.iload_n 1, 1) := by decide +kernel
theorem dX11_zone_7 : decode cX11_zone 7 = .ok (.iconst 0, 1) := by decide +kernel
theorem dX11_zone_8 : decode cX11_zone 8 = .ok (.sipush 255, 3) := by decide +kernel
theorem dX11_zone_11 : decode cX11_zone 11 = .ok (.invokevirtual 48, 3) := by decide +kernel
theorem dX11_zone_14 : decode cX11_zone 14 = .ok (.ifCond .eq 15, 3) := by decide +kernel
theorem dX11_zone_17 : decode cX11_zone 17 = .ok (.aload_n 0, 1) := by decide +kernel
theorem dX11_zone_18 : decode cX11_zone 18 = .ok (.aload_n 0, 1) := by decide +kernel
theorem dX11_zone_19 : decode cX11_zone 19 = .ok (.iload_n 1, 1) := by decide +kernel
theorem dX11_zone_20 : decode cX11_zone 20 = .ok (.invokevirtual 173, 3) := by decide +kernel
theorem dX11_zone_23 : decode cX11_zone 23 = .ok (.invokevirtual 176, 3) := by decide +kernel
theorem dX11_zone_26 : decode cX11_zone 26 = .ok (.goto 4, 3) := by decide +kernel
theorem dX11_zone_29 : decode cX11_zone 29 = .ok (.iconst (-1), 1) := by decide +kernel
theorem dX11_zone_30 : decode cX11_zone 30 = .ok (.ireturn, 1) := by decide +kernel
theorem dX11_verdict_0 : decode cX11_verdict 0 = .ok (.iload_n 2, 1) := by decide +kernel
theorem dX11_verdict_1 : decode cX11_verdict 1 = .ok (.ifCond .ne 19, 3) := by decide +kernel
theorem dX11_verdict_4 : decode cX11_verdict 4 = .ok (.iload_n 3, 1) := by decide +kernel
theorem dX11_verdict_5 : decode cX11_verdict 5 = .ok (.ifCond .ne 8, 3) := by decide +kernel
theorem dX11_verdict_8 : decode cX11_verdict 8 = .ok (.iload 4, 2) := by decide +kernel
theorem dX11_verdict_10 : decode cX11_verdict 10 = .ok (.ifCond .eq 8, 3) := by decide +kernel
theorem dX11_verdict_13 : decode cX11_verdict 13 = .ok (.bipush 7, 2) := by decide +kernel
theorem dX11_verdict_15 : decode cX11_verdict 15 = .ok (.goto 4, 3) := by decide +kernel
theorem dX11_verdict_18 : decode cX11_verdict 18 = .ok (.iconst 1, 1) := by decide +kernel
theorem dX11_verdict_19 : decode cX11_verdict 19 = .ok (.ireturn, 1) := by decide +kernel
theorem dX11_verdict_20 : decode cX11_verdict 20 = .ok (.iload_n 3, 1) := by decide +kernel
theorem dX11_verdict_21 : decode cX11_verdict 21 = .ok (.ifCond .ne 34, 3) := by decide +kernel
theorem dX11_verdict_24 : decode cX11_verdict 24 = .ok (.iload 4, 2) := by decide +kernel
theorem dX11_verdict_26 : decode cX11_verdict 26 = .ok (.ifCond .eq 8, 3) := by decide +kernel
theorem dX11_verdict_29 : decode cX11_verdict 29 = .ok (.bipush 7, 2) := by decide +kernel
theorem dX11_verdict_31 : decode cX11_verdict 31 = .ok (.goto 23, 3) := by decide +kernel
theorem dX11_verdict_34 : decode cX11_verdict 34 = .ok (.iload_n 2, 1) := by decide +kernel
theorem dX11_verdict_35 : decode cX11_verdict 35 = .ok (.iconst 2, 1) := by decide +kernel
theorem dX11_verdict_36 : decode cX11_verdict 36 = .ok (.if_icmp .ne 7, 3) := by decide +kernel
theorem dX11_verdict_39 : decode cX11_verdict 39 = .ok (.iconst 2, 1) := by decide +kernel
theorem dX11_verdict_40 : decode cX11_verdict 40 = .ok (.goto 14, 3) := by decide +kernel
theorem dX11_verdict_43 : decode cX11_verdict 43 = .ok (.iload_n 1, 1) := by decide +kernel
theorem dX11_verdict_44 : decode cX11_verdict 44 = .ok (.iconst 1, 1) := by decide +kernel
theorem dX11_verdict_45 : decode cX11_verdict 45 = .ok (.if_icmp .ne 7, 3) := by decide +kernel
theorem dX11_verdict_48 : decode cX11_verdict 48 = .ok (.iconst 0, 1) := by decide +kernel
theorem dX11_verdict_49 : decode cX11_verdict 49 = .ok (.goto 5, 3) := by decide +kernel
theorem dX11_verdict_52 : decode cX11_verdict 52 = .ok (.bipush 8, 2) := by decide +kernel
theorem dX11_verdict_54 : decode cX11_verdict 54 = .ok (.ireturn, 1) := by decide +kernel
theorem dX11_verdict_55 : decode cX11_verdict 55 = .ok (.iload 6, 2) := by decide +kernel
theorem dX11_verdict_57 : decode cX11_verdict 57 = .ok (.iconst 1, 1) := by decide +kernel
theorem dX11_verdict_58 : decode cX11_verdict 58 = .ok (.if_icmp .ne 6, 3) := by decide +kernel
theorem dX11_verdict_61 : decode cX11_verdict 61 = .ok (.bipush 6, 2) := by decide +kernel
theorem dX11_verdict_63 : decode cX11_verdict 63 = .ok (.ireturn, 1) := by decide +kernel
theorem dX11_verdict_64 : decode cX11_verdict 64 = .ok (.iload_n 2, 1) := by decide +kernel
theorem dX11_verdict_65 : decode cX11_verdict 65 = .ok (.iconst 2, 1) := by decide +kernel
theorem dX11_verdict_66 : decode cX11_verdict 66 = .ok (.if_icmp .ne 5, 3) := by decide +kernel
theorem dX11_verdict_69 : decode cX11_verdict 69 = .ok (.iconst 3, 1) := by decide +kernel
theorem dX11_verdict_70 : decode cX11_verdict 70 = .ok (.ireturn, 1) := by decide +kernel
theorem dX11_verdict_71 : decode cX11_verdict 71 = .ok (.iload_n 1, 1) := by decide +kernel
theorem dX11_verdict_72 : decode cX11_verdict 72 = .ok (.iconst 1, 1) := by decide +kernel
theorem dX11_verdict_73 : decode cX11_verdict 73 = .ok (.if_icmp .ne 17, 3) := by decide +kernel
theorem dX11_verdict_76 : decode cX11_verdict 76 = .ok (.iload 5, 2) := by decide +kernel
theorem dX11_verdict_78 : decode cX11_verdict 78 = .ok (.iload 6, 2) := by decide +kernel
theorem dX11_verdict_80 : decode cX11_verdict 80 = .ok (.if_icmp .lt 8, 3) := by decide +kernel
theorem dX11_verdict_83 : decode cX11_verdict 83 = .ok (.bipush 6, 2) := by decide +kernel
theorem dX11_verdict_85 : decode cX11_verdict 85 = .ok (.goto 4, 3) := by decide +kernel
theorem dX11_verdict_88 : decode cX11_verdict 88 = .ok (.iconst 3, 1) := by decide +kernel
theorem dX11_verdict_89 : decode cX11_verdict 89 = .ok (.ireturn, 1) := by decide +kernel
theorem dX11_verdict_90 : decode cX11_verdict 90 = .ok (.iload_n 1, 1) := by decide +kernel
theorem dX11_verdict_91 : decode cX11_verdict 91 = .ok (.iconst 2, 1) := by decide +kernel
theorem dX11_verdict_92 : decode cX11_verdict 92 = .ok (.if_icmp .ne 14, 3) := by decide +kernel
theorem dX11_verdict_95 : decode cX11_verdict 95 = .ok (.iload 4, 2) := by decide +kernel
theorem dX11_verdict_97 : decode cX11_verdict 97 = .ok (.ifCond .eq 7, 3) := by decide +kernel
theorem dX11_verdict_100 : decode cX11_verdict 100 = .ok (.iconst 4, 1) := by decide +kernel
theorem dX11_verdict_101 : decode cX11_verdict 101 = .ok (.goto 4, 3) := by decide +kernel
theorem dX11_verdict_104 : decode cX11_verdict 104 = .ok (.iconst 0, 1) := by decide +kernel
theorem dX11_verdict_105 : decode cX11_verdict 105 = .ok (.ireturn, 1) := by decide +kernel
theorem dX11_verdict_106 : decode cX11_verdict 106 = .ok (.iload 4, 2) := by decide +kernel
theorem dX11_verdict_108 : decode cX11_verdict 108 = .ok (.ifCond .eq 7, 3) := by decide +kernel
theorem dX11_verdict_111 : decode cX11_verdict 111 = .ok (.iconst 0, 1) := by decide +kernel
theorem dX11_verdict_112 : decode cX11_verdict 112 = .ok (.goto 4, 3) := by decide +kernel
theorem dX11_verdict_115 : decode cX11_verdict 115 = .ok (.iconst 5, 1) := by decide +kernel
theorem dX11_verdict_116 : decode cX11_verdict 116 = .ok (.ireturn, 1) := by decide +kernel
theorem dX11_judge_0 : decode cX11_judge 0 = .ok (.aload_n 0, 1) := by decide +kernel
theorem dX11_judge_1 : decode cX11_judge 1 = .ok (.iconst 0, 1) := by decide +kernel
theorem dX11_judge_2 : decode cX11_judge 2 = .ok (.putfield 41, 3) := by decide +kernel
theorem dX11_judge_5 : decode cX11_judge 5 = .ok (.aload_n 0, 1) := by decide +kernel
theorem dX11_judge_6 : decode cX11_judge 6 = .ok (.iload_n 1, 1) := by decide +kernel
theorem dX11_judge_7 : decode cX11_judge 7 = .ok (.iconst 1, 1) := by decide +kernel
theorem dX11_judge_8 : decode cX11_judge 8 = .ok (.iconst 3, 1) := by decide +kernel
theorem dX11_judge_9 : decode cX11_judge 9 = .ok (.invokevirtual 48, 3) := by decide +kernel
theorem dX11_judge_12 : decode cX11_judge 12 = .ok (.ifCond .eq 47, 3) := by decide +kernel
theorem dX11_judge_15 : decode cX11_judge 15 = .ok (.aload_n 0, 1) := by decide +kernel
theorem dX11_judge_16 : decode cX11_judge 16 = .ok (.iload_n 2, 1) := by decide +kernel
theorem dX11_judge_17 : decode cX11_judge 17 = .ok (.iconst 0, 1) := by decide +kernel
theorem dX11_judge_18 : decode cX11_judge 18 = .ok (.iconst 2, 1) := by decide +kernel
theorem dX11_judge_19 : decode cX11_judge 19 = .ok (.invokevirtual 48, 3) := by decide +kernel
theorem dX11_judge_22 : decode cX11_judge 22 = .ok (.ifCond .eq 37, 3) := by decide +kernel
theorem dX11_judge_25 : decode cX11_judge 25 = .ok (.aload_n 0, 1) := by decide +kernel
theorem dX11_judge_26 : decode cX11_judge 26 = .ok (.iload_n 3, 1) := by decide +kernel
theorem dX11_judge_27 : decode cX11_judge 27 = .ok (.iconst 0, 1) := by decide +kernel
theorem dX11_judge_28 : decode cX11_judge 28 = .ok (.iconst 3, 1) := by decide +kernel
theorem dX11_judge_29 : decode cX11_judge 29 = .ok (.invokevirtual 48, 3) := by decide +kernel
theorem dX11_judge_32 : decode cX11_judge 32 = .ok (.ifCond .eq 27, 3) := by decide +kernel
theorem dX11_judge_35 : decode cX11_judge 35 = .ok (.aload_n 0, 1) := by decide +kernel
theorem dX11_judge_36 : decode cX11_judge 36 = .ok (.iload 4, 2) := by decide +kernel
theorem dX11_judge_38 : decode cX11_judge 38 = .ok (.iconst 0, 1) := by decide +kernel
theorem dX11_judge_39 : decode cX11_judge 39 = .ok (.bipush 9, 2) := by decide +kernel
theorem dX11_judge_41 : decode cX11_judge 41 = .ok (.invokevirtual 48, 3) := by decide +kernel
theorem dX11_judge_44 : decode cX11_judge 44 = .ok (.ifCond .eq 15, 3) := by decide +kernel
theorem dX11_judge_47 : decode cX11_judge 47 = .ok (.aload_n 0, 1) := by decide +kernel
theorem dX11_judge_48 : decode cX11_judge 48 = .ok (.iload 5, 2) := by decide +kernel
theorem dX11_judge_50 : decode cX11_judge 50 = .ok (.iconst 1, 1) := by decide +kernel
theorem dX11_judge_51 : decode cX11_judge 51 = .ok (.bipush 9, 2) := by decide +kernel
theorem dX11_judge_53 : decode cX11_judge 53 = .ok (.invokevirtual 48, 3) := by decide +kernel
theorem dX11_judge_56 : decode cX11_judge 56 = .ok (.ifCond .ne 5, 3) := by decide +kernel
theorem dX11_judge_59 : decode cX11_judge 59 = .ok (.iconst (-1), 1) := by decide +kernel
theorem dX11_judge_60 : decode cX11_judge 60 = .ok (.ireturn, 1) := by decide +kernel
theorem dX11_judge_61 : decode cX11_judge 61 = .ok (.aload_n 0, 1) := by decide +kernel
theorem dX11_judge_62 : decode cX11_judge 62 = .ok (.iload_n 1, 1) := by decide +kernel
theorem dX11_judge_63 : decode cX11_judge 63 = .ok (.iload_n 2, 1) := by decide +kernel
theorem dX11_judge_64 : decode cX11_judge 64 = .ok (.iload_n 3, 1) := by decide +kernel
theorem dX11_judge_65 : decode cX11_judge 65 = .ok (.iconst 2, 1) := by decide +kernel
theorem dX11_judge_66 : decode cX11_judge 66 = .ok (.irem, 1) := by decide +kernel
theorem dX11_judge_67 : decode cX11_judge 67 = .ok (.iconst 1, 1) := by decide +kernel
theorem dX11_judge_68 : decode cX11_judge 68 = .ok (.if_icmp .ne 7, 3) := by decide +kernel
theorem dX11_judge_71 : decode cX11_judge 71 = .ok (.iconst 1, 1) := by decide +kernel
theorem dX11_judge_72 : decode cX11_judge 72 = .ok (.goto 4, 3) := by decide +kernel
theorem dX11_judge_75 : decode cX11_judge 75 = .ok (.iconst 0, 1) := by decide +kernel
theorem dX11_judge_76 : decode cX11_judge 76 = .ok (.iload_n 3, 1) := by decide +kernel
theorem dX11_judge_77 : decode cX11_judge 77 = .ok (.iconst 1, 1) := by decide +kernel
theorem dX11_judge_78 : decode cX11_judge 78 = .ok (.if_icmp .le 7, 3) := by decide +kernel
theorem dX11_judge_81 : decode cX11_judge 81 = .ok (.iconst 1, 1) := by decide +kernel
theorem dX11_judge_82 : decode cX11_judge 82 = .ok (.goto 4, 3) := by decide +kernel
theorem dX11_judge_85 : decode cX11_judge 85 = .ok (.iconst 0, 1) := by decide +kernel
theorem dX11_judge_86 : decode cX11_judge 86 = .ok (.iload 4, 2) := by decide +kernel
theorem dX11_judge_88 : decode cX11_judge 88 = .ok (.iload 5, 2) := by decide +kernel
theorem dX11_judge_90 : decode cX11_judge 90 = .ok (.invokevirtual 203, 3) := by decide +kernel
theorem dX11_judge_93 : decode cX11_judge 93 = .ok (.ireturn, 1) := by decide +kernel
theorem dX11_verdicts_0 : decode cX11_verdicts 0 = .ok (.aload_n 0, 1) := by decide +kernel
theorem dX11_verdicts_1 : decode cX11_verdicts 1 = .ok (.iconst 0, 1) := by decide +kernel
theorem dX11_verdicts_2 : decode cX11_verdicts 2 = .ok (.putfield 41, 3) := by decide +kernel
theorem dX11_verdicts_5 : decode cX11_verdicts 5 = .ok (.aload_n 0, 1) := by decide +kernel
theorem dX11_verdicts_6 : decode cX11_verdicts 6 = .ok (.iload_n 1, 1) := by decide +kernel
theorem dX11_verdicts_7 : decode cX11_verdicts 7 = .ok (.iconst 0, 1) := by decide +kernel
theorem dX11_verdicts_8 : decode cX11_verdicts 8 = .ok (.bipush 8, 2) := by decide +kernel
theorem dX11_verdicts_10 : decode cX11_verdicts 10 = .ok (.invokevirtual 48, 3) := by decide +kernel
theorem dX11_verdicts_13 : decode cX11_verdicts 13 = .ok (.ifCond .eq 15, 3) := by decide +kernel
theorem dX11_verdicts_16 : decode cX11_verdicts 16 = .ok (.aload_n 0, 1) := by decide +kernel
theorem dX11_verdicts_17 : decode cX11_verdicts 17 = .ok (.getfield 7, 3) := by decide +kernel
theorem dX11_verdicts_20 : decode cX11_verdicts 20 = .ok (.bipush 110, 2) := by decide +kernel
theorem dX11_verdicts_22 : decode cX11_verdicts 22 = .ok (.iload_n 1, 1) := by decide +kernel
theorem dX11_verdicts_23 : decode cX11_verdicts 23 = .ok (.iadd, 1) := by decide +kernel
theorem dX11_verdicts_24 : decode cX11_verdicts 24 = .ok (.iaload, 1) := by decide +kernel
theorem dX11_verdicts_25 : decode cX11_verdicts 25 = .ok (.goto 4, 3) := by decide +kernel
theorem dX11_verdicts_28 : decode cX11_verdicts 28 = .ok (.iconst (-1), 1) := by decide +kernel
theorem dX11_verdicts_29 : decode cX11_verdicts 29 = .ok (.ireturn, 1) := by decide +kernel
theorem dX11_numberOf_0 : decode cX11_numberOf 0 = .ok (.aload_n 0, 1) := by decide +kernel
theorem dX11_numberOf_1 : decode cX11_numberOf 1 = .ok (.aload_n 0, 1) := by decide +kernel
theorem dX11_numberOf_2 : decode cX11_numberOf 2 = .ok (.getfield 7, 3) := by decide +kernel
theorem dX11_numberOf_5 : decode cX11_numberOf 5 = .ok (.bipush 22, 2) := by decide +kernel
theorem dX11_numberOf_7 : decode cX11_numberOf 7 = .ok (.iaload, 1) := by decide +kernel
theorem dX11_numberOf_8 : decode cX11_numberOf 8 = .ok (.aload_n 0, 1) := by decide +kernel
theorem dX11_numberOf_9 : decode cX11_numberOf 9 = .ok (.getfield 7, 3) := by decide +kernel
theorem dX11_numberOf_12 : decode cX11_numberOf 12 = .ok (.bipush 25, 2) := by decide +kernel
theorem dX11_numberOf_14 : decode cX11_numberOf 14 = .ok (.iaload, 1) := by decide +kernel
theorem dX11_numberOf_15 : decode cX11_numberOf 15 = .ok (.isub, 1) := by decide +kernel
theorem dX11_numberOf_16 : decode cX11_numberOf 16 = .ok (.iload_n 1, 1) := by decide +kernel
theorem dX11_numberOf_17 : decode cX11_numberOf 17 = .ok (.iadd, 1) := by decide +kernel
theorem dX11_numberOf_18 : decode cX11_numberOf 18 = .ok (.invokevirtual 155, 3) := by decide +kernel
theorem dX11_numberOf_21 : decode cX11_numberOf 21 = .ok (.ireturn, 1) := by decide +kernel
theorem dX11_sentGo_0 : decode cX11_sentGo 0 = .ok (.aload_n 0, 1) := by decide +kernel
theorem dX11_sentGo_1 : decode cX11_sentGo 1 = .ok (.getfield 7, 3) := by decide +kernel
theorem dX11_sentGo_4 : decode cX11_sentGo 4 = .ok (.bipush 25, 2) := by decide +kernel
theorem dX11_sentGo_6 : decode cX11_sentGo 6 = .ok (.iaload, 1) := by decide +kernel
theorem dX11_sentGo_7 : decode cX11_sentGo 7 = .ok (.ifCond .le 74, 3) := by decide +kernel
theorem dX11_sentGo_10 : decode cX11_sentGo 10 = .ok (.aload_n 0, 1) := by decide +kernel
theorem dX11_sentGo_11 : decode cX11_sentGo 11 = .ok (.iconst 0, 1) := by decide +kernel
theorem dX11_sentGo_12 : decode cX11_sentGo 12 = .ok (.invokevirtual 207, 3) := by decide +kernel
theorem dX11_sentGo_15 : decode cX11_sentGo 15 = .ok (.iload_n 1, 1) := by decide +kernel
theorem dX11_sentGo_16 : decode cX11_sentGo 16 = .ok (.if_icmp .eq 65, 3) := by decide +kernel
theorem dX11_sentGo_19 : decode cX11_sentGo 19 = .ok (.iconst 0, 1) := by decide +kernel
theorem dX11_sentGo_20 : decode cX11_sentGo 20 = .ok (.istore_n 2, 1) := by decide +kernel
theorem dX11_sentGo_21 : decode cX11_sentGo 21 = .ok (.iload_n 2, 1) := by decide +kernel
theorem dX11_sentGo_22 : decode cX11_sentGo 22 = .ok (.aload_n 0, 1) := by decide +kernel
theorem dX11_sentGo_23 : decode cX11_sentGo 23 = .ok (.getfield 7, 3) := by decide +kernel
theorem dX11_sentGo_26 : decode cX11_sentGo 26 = .ok (.bipush 25, 2) := by decide +kernel
theorem dX11_sentGo_28 : decode cX11_sentGo 28 = .ok (.iaload, 1) := by decide +kernel
theorem dX11_sentGo_29 : decode cX11_sentGo 29 = .ok (.iconst 1, 1) := by decide +kernel
theorem dX11_sentGo_30 : decode cX11_sentGo 30 = .ok (.isub, 1) := by decide +kernel
theorem dX11_sentGo_31 : decode cX11_sentGo 31 = .ok (.if_icmp .ge 29, 3) := by decide +kernel
theorem dX11_sentGo_34 : decode cX11_sentGo 34 = .ok (.aload_n 0, 1) := by decide +kernel
theorem dX11_sentGo_35 : decode cX11_sentGo 35 = .ok (.getfield 7, 3) := by decide +kernel
theorem dX11_sentGo_38 : decode cX11_sentGo 38 = .ok (.bipush 86, 2) := by decide +kernel
theorem dX11_sentGo_40 : decode cX11_sentGo 40 = .ok (.iload_n 2, 1) := by decide +kernel
theorem dX11_sentGo_41 : decode cX11_sentGo 41 = .ok (.iadd, 1) := by decide +kernel
theorem dX11_sentGo_42 : decode cX11_sentGo 42 = .ok (.aload_n 0, 1) := by decide +kernel
theorem dX11_sentGo_43 : decode cX11_sentGo 43 = .ok (.getfield 7, 3) := by decide +kernel
theorem dX11_sentGo_46 : decode cX11_sentGo 46 = .ok (.bipush 86, 2) := by decide +kernel
theorem dX11_sentGo_48 : decode cX11_sentGo 48 = .ok (.iload_n 2, 1) := by decide +kernel
theorem dX11_sentGo_49 : decode cX11_sentGo 49 = .ok (.iadd, 1) := by decide +kernel
theorem dX11_sentGo_50 : decode cX11_sentGo 50 = .ok (.iconst 1, 1) := by decide +kernel
theorem dX11_sentGo_51 : decode cX11_sentGo 51 = .ok (.iadd, 1) := by decide +kernel
theorem dX11_sentGo_52 : decode cX11_sentGo 52 = .ok (.iaload, 1) := by decide +kernel
theorem dX11_sentGo_53 : decode cX11_sentGo 53 = .ok (.iastore, 1) := by decide +kernel
theorem dX11_sentGo_54 : decode cX11_sentGo 54 = .ok (.iinc 2 1, 3) := by decide +kernel
theorem dX11_sentGo_57 : decode cX11_sentGo 57 = .ok (.goto (-36), 3) := by decide +kernel
theorem dX11_sentGo_60 : decode cX11_sentGo 60 = .ok (.aload_n 0, 1) := by decide +kernel
theorem dX11_sentGo_61 : decode cX11_sentGo 61 = .ok (.aload_n 0, 1) := by decide +kernel
theorem dX11_sentGo_62 : decode cX11_sentGo 62 = .ok (.invokevirtual 65, 3) := by decide +kernel
theorem dX11_sentGo_65 : decode cX11_sentGo 65 = .ok (.iconst 2, 1) := by decide +kernel
theorem dX11_sentGo_66 : decode cX11_sentGo 66 = .ok (.invokevirtual 69, 3) := by decide +kernel
theorem dX11_sentGo_69 : decode cX11_sentGo 69 = .ok (.aload_n 0, 1) := by decide +kernel
theorem dX11_sentGo_70 : decode cX11_sentGo 70 = .ok (.bipush 66, 2) := by decide +kernel
theorem dX11_sentGo_72 : decode cX11_sentGo 72 = .ok (.bipush 25, 2) := by decide +kernel
theorem dX11_sentGo_74 : decode cX11_sentGo 74 = .ok (.invokevirtual 197, 3) := by decide +kernel
theorem dX11_sentGo_77 : decode cX11_sentGo 77 = .ok (.pop, 1) := by decide +kernel
theorem dX11_sentGo_78 : decode cX11_sentGo 78 = .ok (.goto (-78), 3) := by decide +kernel
theorem dX11_sentGo_81 : decode cX11_sentGo 81 = .ok (.return_, 1) := by decide +kernel
theorem dX11_isSaid_0 : decode cX11_isSaid 0 = .ok (.iload_n 1, 1) := by decide +kernel
theorem dX11_isSaid_1 : decode cX11_isSaid 1 = .ok (.iconst 1, 1) := by decide +kernel
theorem dX11_isSaid_2 : decode cX11_isSaid 2 = .ok (.if_icmp .eq 14, 3) := by decide +kernel
theorem dX11_isSaid_5 : decode cX11_isSaid 5 = .ok (.iload_n 2, 1) := by decide +kernel
theorem dX11_isSaid_6 : decode cX11_isSaid 6 = .ok (.iconst 2, 1) := by decide +kernel
theorem dX11_isSaid_7 : decode cX11_isSaid 7 = .ok (.if_icmp .ne 14, 3) := by decide +kernel
theorem dX11_isSaid_10 : decode cX11_isSaid 10 = .ok (.iload_n 1, 1) := by decide +kernel
theorem dX11_isSaid_11 : decode cX11_isSaid 11 = .ok (.bipush 7, 2) := by decide +kernel
theorem dX11_isSaid_13 : decode cX11_isSaid 13 = .ok (.if_icmp .eq 8, 3) := by decide +kernel
theorem dX11_isSaid_16 : decode cX11_isSaid 16 = .ok (.aload_n 0, 1) := by decide +kernel
theorem dX11_isSaid_17 : decode cX11_isSaid 17 = .ok (.iload_n 3, 1) := by decide +kernel
theorem dX11_isSaid_18 : decode cX11_isSaid 18 = .ok (.invokevirtual 210, 3) := by decide +kernel
theorem dX11_isSaid_21 : decode cX11_isSaid 21 = .ok (.iload_n 1, 1) := by decide +kernel
theorem dX11_isSaid_22 : decode cX11_isSaid 22 = .ok (.iconst 1, 1) := by decide +kernel
theorem dX11_isSaid_23 : decode cX11_isSaid 23 = .ok (.if_icmp .ne 16, 3) := by decide +kernel
theorem dX11_isSaid_26 : decode cX11_isSaid 26 = .ok (.aload_n 0, 1) := by decide +kernel
theorem dX11_isSaid_27 : decode cX11_isSaid 27 = .ok (.iconst 1, 1) := by decide +kernel
theorem dX11_isSaid_28 : decode cX11_isSaid 28 = .ok (.invokevirtual 90, 3) := by decide +kernel
theorem dX11_isSaid_31 : decode cX11_isSaid 31 = .ok (.aload_n 0, 1) := by decide +kernel
theorem dX11_isSaid_32 : decode cX11_isSaid 32 = .ok (.getfield 7, 3) := by decide +kernel
theorem dX11_isSaid_35 : decode cX11_isSaid 35 = .ok (.bipush 31, 2) := by decide +kernel
theorem dX11_isSaid_37 : decode cX11_isSaid 37 = .ok (.iconst 0, 1) := by decide +kernel
theorem dX11_isSaid_38 : decode cX11_isSaid 38 = .ok (.iastore, 1) := by decide +kernel
theorem dX11_isSaid_39 : decode cX11_isSaid 39 = .ok (.iload_n 1, 1) := by decide +kernel
theorem dX11_isSaid_40 : decode cX11_isSaid 40 = .ok (.iconst 2, 1) := by decide +kernel
theorem dX11_isSaid_41 : decode cX11_isSaid 41 = .ok (.if_icmp .ne 28, 3) := by decide +kernel
theorem dX11_isSaid_44 : decode cX11_isSaid 44 = .ok (.aload_n 0, 1) := by decide +kernel
theorem dX11_isSaid_45 : decode cX11_isSaid 45 = .ok (.iconst 1, 1) := by decide +kernel
theorem dX11_isSaid_46 : decode cX11_isSaid 46 = .ok (.invokevirtual 90, 3) := by decide +kernel
theorem dX11_isSaid_49 : decode cX11_isSaid 49 = .ok (.aload_n 0, 1) := by decide +kernel
theorem dX11_isSaid_50 : decode cX11_isSaid 50 = .ok (.getfield 7, 3) := by decide +kernel
theorem dX11_isSaid_53 : decode cX11_isSaid 53 = .ok (.bipush 30, 2) := by decide +kernel
theorem dX11_isSaid_55 : decode cX11_isSaid 55 = .ok (.iconst 1, 1) := by decide +kernel
theorem dX11_isSaid_56 : decode cX11_isSaid 56 = .ok (.iastore, 1) := by decide +kernel
theorem dX11_isSaid_57 : decode cX11_isSaid 57 = .ok (.aload_n 0, 1) := by decide +kernel
theorem dX11_isSaid_58 : decode cX11_isSaid 58 = .ok (.getfield 7, 3) := by decide +kernel
theorem dX11_isSaid_61 : decode cX11_isSaid 61 = .ok (.bipush 31, 2) := by decide +kernel
theorem dX11_isSaid_63 : decode cX11_isSaid 63 = .ok (.aload_n 0, 1) := by decide +kernel
theorem dX11_isSaid_64 : decode cX11_isSaid 64 = .ok (.iconst 4, 1) := by decide +kernel
theorem dX11_isSaid_65 : decode cX11_isSaid 65 = .ok (.invokevirtual 102, 3) := by decide +kernel
theorem dX11_isSaid_68 : decode cX11_isSaid 68 = .ok (.iastore, 1) := by decide +kernel
theorem dX11_isSaid_69 : decode cX11_isSaid 69 = .ok (.iload_n 1, 1) := by decide +kernel
theorem dX11_isSaid_70 : decode cX11_isSaid 70 = .ok (.iconst 3, 1) := by decide +kernel
theorem dX11_isSaid_71 : decode cX11_isSaid 71 = .ok (.if_icmp .ne 34, 3) := by decide +kernel
theorem dX11_isSaid_74 : decode cX11_isSaid 74 = .ok (.iload_n 2, 1) := by decide +kernel
theorem dX11_isSaid_75 : decode cX11_isSaid 75 = .ok (.iconst 2, 1) := by decide +kernel
theorem dX11_isSaid_76 : decode cX11_isSaid 76 = .ok (.if_icmp .ne 11, 3) := by decide +kernel
theorem dX11_isSaid_79 : decode cX11_isSaid 79 = .ok (.aload_n 0, 1) := by decide +kernel
theorem dX11_isSaid_80 : decode cX11_isSaid 80 = .ok (.getfield 7, 3) := by decide +kernel
theorem dX11_isSaid_83 : decode cX11_isSaid 83 = .ok (.bipush 30, 2) := by decide +kernel
theorem dX11_isSaid_85 : decode cX11_isSaid 85 = .ok (.iconst 0, 1) := by decide +kernel
theorem dX11_isSaid_86 : decode cX11_isSaid 86 = .ok (.iastore, 1) := by decide +kernel
theorem dX11_isSaid_87 : decode cX11_isSaid 87 = .ok (.aload_n 0, 1) := by decide +kernel
theorem dX11_isSaid_88 : decode cX11_isSaid 88 = .ok (.invokevirtual 119, 3) := by decide +kernel
theorem dX11_isSaid_91 : decode cX11_isSaid 91 = .ok (.aload_n 0, 1) := by decide +kernel
theorem dX11_isSaid_92 : decode cX11_isSaid 92 = .ok (.iload 4, 2) := by decide +kernel
theorem dX11_isSaid_94 : decode cX11_isSaid 94 = .ok (.ifCond .eq 7, 3) := by decide +kernel
theorem dX11_isSaid_97 : decode cX11_isSaid 97 = .ok (.iconst 3, 1) := by decide +kernel
theorem dX11_isSaid_98 : decode cX11_isSaid 98 = .ok (.goto 4, 3) := by decide +kernel
theorem dX11_isSaid_101 : decode cX11_isSaid 101 = .ok (.iconst 2, 1) := by decide +kernel
theorem dX11_isSaid_102 : decode cX11_isSaid 102 = .ok (.invokevirtual 90, 3) := by decide +kernel
theorem dX11_isSaid_105 : decode cX11_isSaid 105 = .ok (.iload_n 1, 1) := by decide +kernel
theorem dX11_isSaid_106 : decode cX11_isSaid 106 = .ok (.iconst 4, 1) := by decide +kernel
theorem dX11_isSaid_107 : decode cX11_isSaid 107 = .ok (.if_icmp .ne 8, 3) := by decide +kernel
theorem dX11_isSaid_110 : decode cX11_isSaid 110 = .ok (.aload_n 0, 1) := by decide +kernel
theorem dX11_isSaid_111 : decode cX11_isSaid 111 = .ok (.iconst 3, 1) := by decide +kernel
theorem dX11_isSaid_112 : decode cX11_isSaid 112 = .ok (.invokevirtual 90, 3) := by decide +kernel
theorem dX11_isSaid_115 : decode cX11_isSaid 115 = .ok (.iload_n 1, 1) := by decide +kernel
theorem dX11_isSaid_116 : decode cX11_isSaid 116 = .ok (.iconst 5, 1) := by decide +kernel
theorem dX11_isSaid_117 : decode cX11_isSaid 117 = .ok (.if_icmp .ne 8, 3) := by decide +kernel
theorem dX11_isSaid_120 : decode cX11_isSaid 120 = .ok (.aload_n 0, 1) := by decide +kernel
theorem dX11_isSaid_121 : decode cX11_isSaid 121 = .ok (.iconst 2, 1) := by decide +kernel
theorem dX11_isSaid_122 : decode cX11_isSaid 122 = .ok (.invokevirtual 90, 3) := by decide +kernel
theorem dX11_isSaid_125 : decode cX11_isSaid 125 = .ok (.iload_n 1, 1) := by decide +kernel
theorem dX11_isSaid_126 : decode cX11_isSaid 126 = .ok (.bipush 6, 2) := by decide +kernel
theorem dX11_isSaid_128 : decode cX11_isSaid 128 = .ok (.if_icmp .ne 8, 3) := by decide +kernel
theorem dX11_isSaid_131 : decode cX11_isSaid 131 = .ok (.aload_n 0, 1) := by decide +kernel
theorem dX11_isSaid_132 : decode cX11_isSaid 132 = .ok (.iconst 5, 1) := by decide +kernel
theorem dX11_isSaid_133 : decode cX11_isSaid 133 = .ok (.invokevirtual 96, 3) := by decide +kernel
theorem dX11_isSaid_136 : decode cX11_isSaid 136 = .ok (.iload_n 1, 1) := by decide +kernel
theorem dX11_isSaid_137 : decode cX11_isSaid 137 = .ok (.bipush 7, 2) := by decide +kernel
theorem dX11_isSaid_139 : decode cX11_isSaid 139 = .ok (.if_icmp .ne 8, 3) := by decide +kernel
theorem dX11_isSaid_142 : decode cX11_isSaid 142 = .ok (.aload_n 0, 1) := by decide +kernel
theorem dX11_isSaid_143 : decode cX11_isSaid 143 = .ok (.iconst 4, 1) := by decide +kernel
theorem dX11_isSaid_144 : decode cX11_isSaid 144 = .ok (.invokevirtual 96, 3) := by decide +kernel
theorem dX11_isSaid_147 : decode cX11_isSaid 147 = .ok (.iload_n 1, 1) := by decide +kernel
theorem dX11_isSaid_148 : decode cX11_isSaid 148 = .ok (.bipush 8, 2) := by decide +kernel
theorem dX11_isSaid_150 : decode cX11_isSaid 150 = .ok (.if_icmp .ne 8, 3) := by decide +kernel
theorem dX11_isSaid_153 : decode cX11_isSaid 153 = .ok (.aload_n 0, 1) := by decide +kernel
theorem dX11_isSaid_154 : decode cX11_isSaid 154 = .ok (.iconst 2, 1) := by decide +kernel
theorem dX11_isSaid_155 : decode cX11_isSaid 155 = .ok (.invokevirtual 96, 3) := by decide +kernel
theorem dX11_isSaid_158 : decode cX11_isSaid 158 = .ok (.iload_n 1, 1) := by decide +kernel
theorem dX11_isSaid_159 : decode cX11_isSaid 159 = .ok (.bipush 6, 2) := by decide +kernel
theorem dX11_isSaid_161 : decode cX11_isSaid 161 = .ok (.if_icmp .ge 11, 3) := by decide +kernel
theorem dX11_isSaid_164 : decode cX11_isSaid 164 = .ok (.aload_n 0, 1) := by decide +kernel
theorem dX11_isSaid_165 : decode cX11_isSaid 165 = .ok (.getfield 7, 3) := by decide +kernel
theorem dX11_isSaid_168 : decode cX11_isSaid 168 = .ok (.bipush 23, 2) := by decide +kernel
theorem dX11_isSaid_170 : decode cX11_isSaid 170 = .ok (.iload_n 3, 1) := by decide +kernel
theorem dX11_isSaid_171 : decode cX11_isSaid 171 = .ok (.iastore, 1) := by decide +kernel
theorem dX11_isSaid_172 : decode cX11_isSaid 172 = .ok (.return_, 1) := by decide +kernel
theorem dX11_isChecked_0 : decode cX11_isChecked 0 = .ok (.iload_n 2, 1) := by decide +kernel
theorem dX11_isChecked_1 : decode cX11_isChecked 1 = .ok (.ifCond .ne 18, 3) := by decide +kernel
theorem dX11_isChecked_4 : decode cX11_isChecked 4 = .ok (.iload_n 3, 1) := by decide +kernel
theorem dX11_isChecked_5 : decode cX11_isChecked 5 = .ok (.ifCond .ne 22, 3) := by decide +kernel
theorem dX11_isChecked_8 : decode cX11_isChecked 8 = .ok (.iload_n 1, 1) := by decide +kernel
theorem dX11_isChecked_9 : decode cX11_isChecked 9 = .ok (.aload_n 0, 1) := by decide +kernel
theorem dX11_isChecked_10 : decode cX11_isChecked 10 = .ok (.getfield 7, 3) := by decide +kernel
theorem dX11_isChecked_13 : decode cX11_isChecked 13 = .ok (.bipush 22, 2) := by decide +kernel
theorem dX11_isChecked_15 : decode cX11_isChecked 15 = .ok (.iaload, 1) := by decide +kernel
theorem dX11_isChecked_16 : decode cX11_isChecked 16 = .ok (.if_icmp .eq 11, 3) := by decide +kernel
theorem dX11_isChecked_19 : decode cX11_isChecked 19 = .ok (.aload_n 0, 1) := by decide +kernel
theorem dX11_isChecked_20 : decode cX11_isChecked 20 = .ok (.iconst 2, 1) := by decide +kernel
theorem dX11_isChecked_21 : decode cX11_isChecked 21 = .ok (.invokevirtual 96, 3) := by decide +kernel
theorem dX11_isChecked_24 : decode cX11_isChecked 24 = .ok (.goto 20, 3) := by decide +kernel
theorem dX11_isChecked_27 : decode cX11_isChecked 27 = .ok (.iload_n 3, 1) := by decide +kernel
theorem dX11_isChecked_28 : decode cX11_isChecked 28 = .ok (.ifCond .ne 16, 3) := by decide +kernel
theorem dX11_isChecked_31 : decode cX11_isChecked 31 = .ok (.aload_n 0, 1) := by decide +kernel
theorem dX11_isChecked_32 : decode cX11_isChecked 32 = .ok (.iconst 1, 1) := by decide +kernel
theorem dX11_isChecked_33 : decode cX11_isChecked 33 = .ok (.invokevirtual 90, 3) := by decide +kernel
theorem dX11_isChecked_36 : decode cX11_isChecked 36 = .ok (.aload_n 0, 1) := by decide +kernel
theorem dX11_isChecked_37 : decode cX11_isChecked 37 = .ok (.getfield 7, 3) := by decide +kernel
theorem dX11_isChecked_40 : decode cX11_isChecked 40 = .ok (.bipush 31, 2) := by decide +kernel
theorem dX11_isChecked_42 : decode cX11_isChecked 42 = .ok (.iconst 0, 1) := by decide +kernel
theorem dX11_isChecked_43 : decode cX11_isChecked 43 = .ok (.iastore, 1) := by decide +kernel
theorem dX11_isChecked_44 : decode cX11_isChecked 44 = .ok (.return_, 1) := by decide +kernel
theorem dX11_isAnswered_0 : decode cX11_isAnswered 0 = .ok (.iload_n 2, 1) := by decide +kernel
theorem dX11_isAnswered_1 : decode cX11_isAnswered 1 = .ok (.ifCond .ne 18, 3) := by decide +kernel
theorem dX11_isAnswered_4 : decode cX11_isAnswered 4 = .ok (.iload_n 3, 1) := by decide +kernel
theorem dX11_isAnswered_5 : decode cX11_isAnswered 5 = .ok (.ifCond .ne 14, 3) := by decide +kernel
theorem dX11_isAnswered_8 : decode cX11_isAnswered 8 = .ok (.iload_n 1, 1) := by decide +kernel
theorem dX11_isAnswered_9 : decode cX11_isAnswered 9 = .ok (.aload_n 0, 1) := by decide +kernel
theorem dX11_isAnswered_10 : decode cX11_isAnswered 10 = .ok (.getfield 7, 3) := by decide +kernel
theorem dX11_isAnswered_13 : decode cX11_isAnswered 13 = .ok (.bipush 22, 2) := by decide +kernel
theorem dX11_isAnswered_15 : decode cX11_isAnswered 15 = .ok (.iaload, 1) := by decide +kernel
theorem dX11_isAnswered_16 : decode cX11_isAnswered 16 = .ok (.if_icmp .eq 4, 3) := by decide +kernel
theorem dX11_isAnswered_19 : decode cX11_isAnswered 19 = .ok (.return_, 1) := by decide +kernel
theorem dX11_isAnswered_20 : decode cX11_isAnswered 20 = .ok (.aload_n 0, 1) := by decide +kernel
theorem dX11_isAnswered_21 : decode cX11_isAnswered 21 = .ok (.iconst 1, 1) := by decide +kernel
theorem dX11_isAnswered_22 : decode cX11_isAnswered 22 = .ok (.invokevirtual 90, 3) := by decide +kernel
theorem dX11_isAnswered_25 : decode cX11_isAnswered 25 = .ok (.aload_n 0, 1) := by decide +kernel
theorem dX11_isAnswered_26 : decode cX11_isAnswered 26 = .ok (.getfield 7, 3) := by decide +kernel
theorem dX11_isAnswered_29 : decode cX11_isAnswered 29 = .ok (.bipush 26, 2) := by decide +kernel
theorem dX11_isAnswered_31 : decode cX11_isAnswered 31 = .ok (.iconst 0, 1) := by decide +kernel
theorem dX11_isAnswered_32 : decode cX11_isAnswered 32 = .ok (.iastore, 1) := by decide +kernel
theorem dX11_isAnswered_33 : decode cX11_isAnswered 33 = .ok (.aload_n 0, 1) := by decide +kernel
theorem dX11_isAnswered_34 : decode cX11_isAnswered 34 = .ok (.getfield 7, 3) := by decide +kernel
theorem dX11_isAnswered_37 : decode cX11_isAnswered 37 = .ok (.bipush 31, 2) := by decide +kernel
theorem dX11_isAnswered_39 : decode cX11_isAnswered 39 = .ok (.iconst 0, 1) := by decide +kernel
theorem dX11_isAnswered_40 : decode cX11_isAnswered 40 = .ok (.iastore, 1) := by decide +kernel
theorem dX11_isAnswered_41 : decode cX11_isAnswered 41 = .ok (.return_, 1) := by decide +kernel
theorem dX11_hears_0 : decode cX11_hears 0 = .ok (.iload_n 1, 1) := by decide +kernel
theorem dX11_hears_1 : decode cX11_hears 1 = .ok (.iconst 2, 1) := by decide +kernel
theorem dX11_hears_2 : decode cX11_hears 2 = .ok (.iand, 1) := by decide +kernel
theorem dX11_hears_3 : decode cX11_hears 3 = .ok (.ifCond .le 7, 3) := by decide +kernel
theorem dX11_hears_6 : decode cX11_hears 6 = .ok (.iconst 1, 1) := by decide +kernel
theorem dX11_hears_7 : decode cX11_hears 7 = .ok (.goto 4, 3) := by decide +kernel
theorem dX11_hears_10 : decode cX11_hears 10 = .ok (.iconst 0, 1) := by decide +kernel
theorem dX11_hears_11 : decode cX11_hears 11 = .ok (.istore_n 3, 1) := by decide +kernel
theorem dX11_hears_12 : decode cX11_hears 12 = .ok (.iload_n 1, 1) := by decide +kernel
theorem dX11_hears_13 : decode cX11_hears 13 = .ok (.iconst 4, 1) := by decide +kernel
theorem dX11_hears_14 : decode cX11_hears 14 = .ok (.iand, 1) := by decide +kernel
theorem dX11_hears_15 : decode cX11_hears 15 = .ok (.ifCond .le 7, 3) := by decide +kernel
theorem dX11_hears_18 : decode cX11_hears 18 = .ok (.iconst 1, 1) := by decide +kernel
theorem dX11_hears_19 : decode cX11_hears 19 = .ok (.goto 4, 3) := by decide +kernel
theorem dX11_hears_22 : decode cX11_hears 22 = .ok (.iconst 0, 1) := by decide +kernel
theorem dX11_hears_23 : decode cX11_hears 23 = .ok (.istore 4, 2) := by decide +kernel
theorem dX11_hears_25 : decode cX11_hears 25 = .ok (.aload_n 0, 1) := by decide +kernel
theorem dX11_hears_26 : decode cX11_hears 26 = .ok (.invokevirtual 87, 3) := by decide +kernel
theorem dX11_hears_29 : decode cX11_hears 29 = .ok (.iconst 5, 1) := by decide +kernel
theorem dX11_hears_30 : decode cX11_hears 30 = .ok (.if_icmp .ne 7, 3) := by decide +kernel
theorem dX11_hears_33 : decode cX11_hears 33 = .ok (.iconst 1, 1) := by decide +kernel
theorem dX11_hears_34 : decode cX11_hears 34 = .ok (.goto 4, 3) := by decide +kernel
theorem dX11_hears_37 : decode cX11_hears 37 = .ok (.iconst 0, 1) := by decide +kernel
theorem dX11_hears_38 : decode cX11_hears 38 = .ok (.istore 5, 2) := by decide +kernel
theorem dX11_hears_40 : decode cX11_hears 40 = .ok (.iload_n 1, 1) := by decide +kernel
theorem dX11_hears_41 : decode cX11_hears 41 = .ok (.iconst 1, 1) := by decide +kernel
theorem dX11_hears_42 : decode cX11_hears 42 = .ok (.iand, 1) := by decide +kernel
theorem dX11_hears_43 : decode cX11_hears 43 = .ok (.iconst 1, 1) := by decide +kernel
theorem dX11_hears_44 : decode cX11_hears 44 = .ok (.if_icmp .ne 25, 3) := by decide +kernel
theorem dX11_hears_47 : decode cX11_hears 47 = .ok (.iload 5, 2) := by decide +kernel
theorem dX11_hears_49 : decode cX11_hears 49 = .ok (.ifCond .eq 14, 3) := by decide +kernel
theorem dX11_hears_52 : decode cX11_hears 52 = .ok (.aload_n 0, 1) := by decide +kernel
theorem dX11_hears_53 : decode cX11_hears 53 = .ok (.getfield 7, 3) := by decide +kernel
theorem dX11_hears_56 : decode cX11_hears 56 = .ok (.bipush 26, 2) := by decide +kernel
theorem dX11_hears_58 : decode cX11_hears 58 = .ok (.iaload, 1) := by decide +kernel
theorem dX11_hears_59 : decode cX11_hears 59 = .ok (.iconst 1, 1) := by decide +kernel
theorem dX11_hears_60 : decode cX11_hears 60 = .ok (.if_icmp .eq 8, 3) := by decide +kernel
theorem dX11_hears_63 : decode cX11_hears 63 = .ok (.aload_n 0, 1) := by decide +kernel
theorem dX11_hears_64 : decode cX11_hears 64 = .ok (.iconst 1, 1) := by decide +kernel
theorem dX11_hears_65 : decode cX11_hears 65 = .ok (.invokevirtual 96, 3) := by decide +kernel
theorem dX11_hears_68 : decode cX11_hears 68 = .ok (.return_, 1) := by decide +kernel
theorem dX11_hears_69 : decode cX11_hears 69 = .ok (.aload_n 0, 1) := by decide +kernel
theorem dX11_hears_70 : decode cX11_hears 70 = .ok (.iload_n 2, 1) := by decide +kernel
theorem dX11_hears_71 : decode cX11_hears 71 = .ok (.aload_n 0, 1) := by decide +kernel
theorem dX11_hears_72 : decode cX11_hears 72 = .ok (.getfield 7, 3) := by decide +kernel
theorem dX11_hears_75 : decode cX11_hears 75 = .ok (.bipush 23, 2) := by decide +kernel
theorem dX11_hears_77 : decode cX11_hears 77 = .ok (.iaload, 1) := by decide +kernel
theorem dX11_hears_78 : decode cX11_hears 78 = .ok (.isub, 1) := by decide +kernel
theorem dX11_hears_79 : decode cX11_hears 79 = .ok (.invokevirtual 155, 3) := by decide +kernel
theorem dX11_hears_82 : decode cX11_hears 82 = .ok (.aload_n 0, 1) := by decide +kernel
theorem dX11_hears_83 : decode cX11_hears 83 = .ok (.aload_n 0, 1) := by decide +kernel
theorem dX11_hears_84 : decode cX11_hears 84 = .ok (.getfield 7, 3) := by decide +kernel
theorem dX11_hears_87 : decode cX11_hears 87 = .ok (.bipush 22, 2) := by decide +kernel
theorem dX11_hears_89 : decode cX11_hears 89 = .ok (.iaload, 1) := by decide +kernel
theorem dX11_hears_90 : decode cX11_hears 90 = .ok (.aload_n 0, 1) := by decide +kernel
theorem dX11_hears_91 : decode cX11_hears 91 = .ok (.getfield 7, 3) := by decide +kernel
theorem dX11_hears_94 : decode cX11_hears 94 = .ok (.bipush 23, 2) := by decide +kernel
theorem dX11_hears_96 : decode cX11_hears 96 = .ok (.iaload, 1) := by decide +kernel
theorem dX11_hears_97 : decode cX11_hears 97 = .ok (.isub, 1) := by decide +kernel
theorem dX11_hears_98 : decode cX11_hears 98 = .ok (.invokevirtual 155, 3) := by decide +kernel
theorem dX11_hears_101 : decode cX11_hears 101 = .ok (.if_icmp .le 26, 3) := by decide +kernel
theorem dX11_hears_104 : decode cX11_hears 104 = .ok (.iload 5, 2) := by decide +kernel
theorem dX11_hears_106 : decode cX11_hears 106 = .ok (.ifCond .ne 20, 3) := by decide +kernel
theorem dX11_hears_109 : decode cX11_hears 109 = .ok (.aload_n 0, 1) := by decide +kernel
theorem dX11_hears_110 : decode cX11_hears 110 = .ok (.aload_n 0, 1) := by decide +kernel
theorem dX11_hears_111 : decode cX11_hears 111 = .ok (.invokevirtual 87, 3) := by decide +kernel
theorem dX11_hears_114 : decode cX11_hears 114 = .ok (.iconst 4, 1) := by decide +kernel
theorem dX11_hears_115 : decode cX11_hears 115 = .ok (.if_icmp .ne 7, 3) := by decide +kernel
theorem dX11_hears_118 : decode cX11_hears 118 = .ok (.iconst 2, 1) := by decide +kernel
theorem dX11_hears_119 : decode cX11_hears 119 = .ok (.goto 4, 3) := by decide +kernel
theorem dX11_hears_122 : decode cX11_hears 122 = .ok (.iconst 3, 1) := by decide +kernel
theorem dX11_hears_123 : decode cX11_hears 123 = .ok (.invokevirtual 96, 3) := by decide +kernel
theorem dX11_hears_126 : decode cX11_hears 126 = .ok (.return_, 1) := by decide +kernel
theorem dX11_hears_127 : decode cX11_hears 127 = .ok (.iload 5, 2) := by decide +kernel
theorem dX11_hears_129 : decode cX11_hears 129 = .ok (.ifCond .eq 14, 3) := by decide +kernel
theorem dX11_hears_132 : decode cX11_hears 132 = .ok (.aload_n 0, 1) := by decide +kernel
theorem dX11_hears_133 : decode cX11_hears 133 = .ok (.iload_n 2, 1) := by decide +kernel
theorem dX11_hears_134 : decode cX11_hears 134 = .ok (.iload 4, 2) := by decide +kernel
theorem dX11_hears_136 : decode cX11_hears 136 = .ok (.iload_n 3, 1) := by decide +kernel
theorem dX11_hears_137 : decode cX11_hears 137 = .ok (.invokevirtual 213, 3) := by decide +kernel
theorem dX11_hears_140 : decode cX11_hears 140 = .ok (.goto 101, 3) := by decide +kernel
theorem dX11_hears_143 : decode cX11_hears 143 = .ok (.aload_n 0, 1) := by decide +kernel
theorem dX11_hears_144 : decode cX11_hears 144 = .ok (.invokevirtual 87, 3) := by decide +kernel
theorem dX11_hears_147 : decode cX11_hears 147 = .ok (.iconst 4, 1) := by decide +kernel
theorem dX11_hears_148 : decode cX11_hears 148 = .ok (.if_icmp .ne 14, 3) := by decide +kernel
theorem dX11_hears_151 : decode cX11_hears 151 = .ok (.aload_n 0, 1) := by decide +kernel
theorem dX11_hears_152 : decode cX11_hears 152 = .ok (.iload_n 2, 1) := by decide +kernel
theorem dX11_hears_153 : decode cX11_hears 153 = .ok (.iload 4, 2) := by decide +kernel
theorem dX11_hears_155 : decode cX11_hears 155 = .ok (.iload_n 3, 1) := by decide +kernel
theorem dX11_hears_156 : decode cX11_hears 156 = .ok (.invokevirtual 217, 3) := by decide +kernel
theorem dX11_hears_159 : decode cX11_hears 159 = .ok (.goto 82, 3) := by decide +kernel
theorem dX11_hears_162 : decode cX11_hears 162 = .ok (.iload_n 2, 1) := by decide +kernel
theorem dX11_hears_163 : decode cX11_hears 163 = .ok (.aload_n 0, 1) := by decide +kernel
theorem dX11_hears_164 : decode cX11_hears 164 = .ok (.getfield 7, 3) := by decide +kernel
theorem dX11_hears_167 : decode cX11_hears 167 = .ok (.bipush 22, 2) := by decide +kernel
theorem dX11_hears_169 : decode cX11_hears 169 = .ok (.iaload, 1) := by decide +kernel
theorem dX11_hears_170 : decode cX11_hears 170 = .ok (.if_icmp .ne 7, 3) := by decide +kernel
theorem dX11_hears_173 : decode cX11_hears 173 = .ok (.iconst 0, 1) := by decide +kernel
theorem dX11_hears_174 : decode cX11_hears 174 = .ok (.goto 19, 3) := by decide +kernel
theorem dX11_hears_177 : decode cX11_hears 177 = .ok (.iload_n 2, 1) := by decide +kernel
theorem dX11_hears_178 : decode cX11_hears 178 = .ok (.aload_n 0, 1) := by decide +kernel
theorem dX11_hears_179 : decode cX11_hears 179 = .ok (.getfield 7, 3) := by decide +kernel
theorem dX11_hears_182 : decode cX11_hears 182 = .ok (.bipush 23, 2) := by decide +kernel
theorem dX11_hears_184 : decode cX11_hears 184 = .ok (.iaload, 1) := by decide +kernel
theorem dX11_hears_185 : decode cX11_hears 185 = .ok (.if_icmp .ne 7, 3) := by decide +kernel
theorem dX11_hears_188 : decode cX11_hears 188 = .ok (.iconst 1, 1) := by decide +kernel
theorem dX11_hears_189 : decode cX11_hears 189 = .ok (.goto 4, 3) := by decide +kernel
theorem dX11_hears_192 : decode cX11_hears 192 = .ok (.iconst 2, 1) := by decide +kernel
theorem dX11_hears_193 : decode cX11_hears 193 = .ok (.istore 6, 2) := by decide +kernel
theorem dX11_hears_195 : decode cX11_hears 195 = .ok (.aload_n 0, 1) := by decide +kernel
theorem dX11_hears_196 : decode cX11_hears 196 = .ok (.aload_n 0, 1) := by decide +kernel
theorem dX11_hears_197 : decode cX11_hears 197 = .ok (.invokevirtual 87, 3) := by decide +kernel
theorem dX11_hears_200 : decode cX11_hears 200 = .ok (.iload 6, 2) := by decide +kernel
theorem dX11_hears_202 : decode cX11_hears 202 = .ok (.iload 4, 2) := by decide +kernel
theorem dX11_hears_204 : decode cX11_hears 204 = .ok (.iload_n 3, 1) := by decide +kernel
theorem dX11_hears_205 : decode cX11_hears 205 = .ok (.aload_n 0, 1) := by decide +kernel
theorem dX11_hears_206 : decode cX11_hears 206 = .ok (.getfield 7, 3) := by decide +kernel
theorem dX11_hears_209 : decode cX11_hears 209 = .ok (.bipush 30, 2) := by decide +kernel
theorem dX11_hears_211 : decode cX11_hears 211 = .ok (.iaload, 1) := by decide +kernel
theorem dX11_hears_212 : decode cX11_hears 212 = .ok (.aload_n 0, 1) := by decide +kernel
theorem dX11_hears_213 : decode cX11_hears 213 = .ok (.iconst 3, 1) := by decide +kernel
theorem dX11_hears_214 : decode cX11_hears 214 = .ok (.invokevirtual 102, 3) := by decide +kernel
theorem dX11_hears_217 : decode cX11_hears 217 = .ok (.invokevirtual 203, 3) := by decide +kernel
theorem dX11_hears_220 : decode cX11_hears 220 = .ok (.istore 7, 2) := by decide +kernel
theorem dX11_hears_222 : decode cX11_hears 222 = .ok (.aload_n 0, 1) := by decide +kernel
theorem dX11_hears_223 : decode cX11_hears 223 = .ok (.bipush 110, 2) := by decide +kernel
theorem dX11_hears_225 : decode cX11_hears 225 = .ok (.iload 7, 2) := by decide +kernel
theorem dX11_hears_227 : decode cX11_hears 227 = .ok (.iadd, 1) := by decide +kernel
theorem dX11_hears_228 : decode cX11_hears 228 = .ok (.invokevirtual 58, 3) := by decide +kernel
theorem dX11_hears_231 : decode cX11_hears 231 = .ok (.aload_n 0, 1) := by decide +kernel
theorem dX11_hears_232 : decode cX11_hears 232 = .ok (.iload 7, 2) := by decide +kernel
theorem dX11_hears_234 : decode cX11_hears 234 = .ok (.iload 6, 2) := by decide +kernel
theorem dX11_hears_236 : decode cX11_hears 236 = .ok (.iload_n 2, 1) := by decide +kernel
theorem dX11_hears_237 : decode cX11_hears 237 = .ok (.iload_n 3, 1) := by decide +kernel
theorem dX11_hears_238 : decode cX11_hears 238 = .ok (.invokevirtual 220, 3) := by decide +kernel
theorem dX11_hears_241 : decode cX11_hears 241 = .ok (.return_, 1) := by decide +kernel
theorem dX11_comesReport_0 : decode cX11_comesReport 0 = .ok (.aload_n 0, 1) := by decide +kernel
theorem dX11_comesReport_1 : decode cX11_comesReport 1 = .ok (.getfield 16, 3) := by decide +kernel
theorem dX11_comesReport_4 : decode cX11_comesReport 4 = .ok (.iconst 0, 1) := by decide +kernel
theorem dX11_comesReport_5 : decode cX11_comesReport 5 = .ok (.iaload, 1) := by decide +kernel
theorem dX11_comesReport_6 : decode cX11_comesReport 6 = .ok (.bipush 32, 2) := by decide +kernel
theorem dX11_comesReport_8 : decode cX11_comesReport 8 = .ok (.if_icmp .ge 36, 3) := by decide +kernel
theorem dX11_comesReport_11 : decode cX11_comesReport 11 = .ok (.aload_n 0, 1) := by decide +kernel
theorem dX11_comesReport_12 : decode cX11_comesReport 12 = .ok (.getfield 16, 3) := by decide +kernel
theorem dX11_comesReport_15 : decode cX11_comesReport 15 = .ok (.iconst 2, 1) := by decide +kernel
theorem dX11_comesReport_16 : decode cX11_comesReport 16 = .ok (.iaload, 1) := by decide +kernel
theorem dX11_comesReport_17 : decode cX11_comesReport 17 = .ok (.aload_n 0, 1) := by decide +kernel
theorem dX11_comesReport_18 : decode cX11_comesReport 18 = .ok (.aload_n 0, 1) := by decide +kernel
theorem dX11_comesReport_19 : decode cX11_comesReport 19 = .ok (.getfield 16, 3) := by decide +kernel
theorem dX11_comesReport_22 : decode cX11_comesReport 22 = .ok (.iconst 0, 1) := by decide +kernel
theorem dX11_comesReport_23 : decode cX11_comesReport 23 = .ok (.iaload, 1) := by decide +kernel
theorem dX11_comesReport_24 : decode cX11_comesReport 24 = .ok (.aload_n 0, 1) := by decide +kernel
theorem dX11_comesReport_25 : decode cX11_comesReport 25 = .ok (.getfield 16, 3) := by decide +kernel
theorem dX11_comesReport_28 : decode cX11_comesReport 28 = .ok (.iconst 1, 1) := by decide +kernel
theorem dX11_comesReport_29 : decode cX11_comesReport 29 = .ok (.iaload, 1) := by decide +kernel
theorem dX11_comesReport_30 : decode cX11_comesReport 30 = .ok (.iadd, 1) := by decide +kernel
theorem dX11_comesReport_31 : decode cX11_comesReport 31 = .ok (.bipush 85, 2) := by decide +kernel
theorem dX11_comesReport_33 : decode cX11_comesReport 33 = .ok (.iadd, 1) := by decide +kernel
theorem dX11_comesReport_34 : decode cX11_comesReport 34 = .ok (.invokevirtual 155, 3) := by decide +kernel
theorem dX11_comesReport_37 : decode cX11_comesReport 37 = .ok (.if_icmp .ne 7, 3) := by decide +kernel
theorem dX11_comesReport_40 : decode cX11_comesReport 40 = .ok (.iconst 1, 1) := by decide +kernel
theorem dX11_comesReport_41 : decode cX11_comesReport 41 = .ok (.goto 4, 3) := by decide +kernel
theorem dX11_comesReport_44 : decode cX11_comesReport 44 = .ok (.iconst 0, 1) := by decide +kernel
theorem dX11_comesReport_45 : decode cX11_comesReport 45 = .ok (.istore_n 1, 1) := by decide +kernel
theorem dX11_comesReport_46 : decode cX11_comesReport 46 = .ok (.aload_n 0, 1) := by decide +kernel
theorem dX11_comesReport_47 : decode cX11_comesReport 47 = .ok (.getfield 7, 3) := by decide +kernel
theorem dX11_comesReport_50 : decode cX11_comesReport 50 = .ok (.bipush 45, 2) := by decide +kernel
theorem dX11_comesReport_52 : decode cX11_comesReport 52 = .ok (.iload_n 1, 1) := by decide +kernel
theorem dX11_comesReport_53 : decode cX11_comesReport 53 = .ok (.ifCond .eq 7, 3) := by decide +kernel
theorem dX11_comesReport_56 : decode cX11_comesReport 56 = .ok (.iconst 2, 1) := by decide +kernel
theorem dX11_comesReport_57 : decode cX11_comesReport 57 = .ok (.goto 4, 3) := by decide +kernel
theorem dX11_comesReport_60 : decode cX11_comesReport 60 = .ok (.iconst 1, 1) := by decide +kernel
theorem dX11_comesReport_61 : decode cX11_comesReport 61 = .ok (.iastore, 1) := by decide +kernel
theorem dX11_comesReport_62 : decode cX11_comesReport 62 = .ok (.iload_n 1, 1) := by decide +kernel
theorem dX11_comesReport_63 : decode cX11_comesReport 63 = .ok (.ifCond .ne 4, 3) := by decide +kernel
theorem dX11_comesReport_66 : decode cX11_comesReport 66 = .ok (.return_, 1) := by decide +kernel
theorem dX11_comesReport_67 : decode cX11_comesReport 67 = .ok (.aload_n 0, 1) := by decide +kernel
theorem dX11_comesReport_68 : decode cX11_comesReport 68 = .ok (.getfield 7, 3) := by decide +kernel
theorem dX11_comesReport_71 : decode cX11_comesReport 71 = .ok (.bipush 46, 2) := by decide +kernel
theorem dX11_comesReport_73 : decode cX11_comesReport 73 = .ok (.aload_n 0, 1) := by decide +kernel
theorem dX11_comesReport_74 : decode cX11_comesReport 74 = .ok (.getfield 16, 3) := by decide +kernel
theorem dX11_comesReport_77 : decode cX11_comesReport 77 = .ok (.iconst 0, 1) := by decide +kernel
theorem dX11_comesReport_78 : decode cX11_comesReport 78 = .ok (.iaload, 1) := by decide +kernel
theorem dX11_comesReport_79 : decode cX11_comesReport 79 = .ok (.iastore, 1) := by decide +kernel
theorem dX11_comesReport_80 : decode cX11_comesReport 80 = .ok (.aload_n 0, 1) := by decide +kernel
theorem dX11_comesReport_81 : decode cX11_comesReport 81 = .ok (.getfield 7, 3) := by decide +kernel
theorem dX11_comesReport_84 : decode cX11_comesReport 84 = .ok (.bipush 47, 2) := by decide +kernel
theorem dX11_comesReport_86 : decode cX11_comesReport 86 = .ok (.aload_n 0, 1) := by decide +kernel
theorem dX11_comesReport_87 : decode cX11_comesReport 87 = .ok (.getfield 16, 3) := by decide +kernel
theorem dX11_comesReport_90 : decode cX11_comesReport 90 = .ok (.iconst 1, 1) := by decide +kernel
theorem dX11_comesReport_91 : decode cX11_comesReport 91 = .ok (.iaload, 1) := by decide +kernel
theorem dX11_comesReport_92 : decode cX11_comesReport 92 = .ok (.iastore, 1) := by decide +kernel
theorem dX11_comesReport_93 : decode cX11_comesReport 93 = .ok (.aload_n 0, 1) := by decide +kernel
theorem dX11_comesReport_94 : decode cX11_comesReport 94 = .ok (.bipush 39, 2) := by decide +kernel
theorem dX11_comesReport_96 : decode cX11_comesReport 96 = .ok (.invokevirtual 58, 3) := by decide +kernel
theorem dX11_comesReport_99 : decode cX11_comesReport 99 = .ok (.aload_n 0, 1) := by decide +kernel
theorem dX11_comesReport_100 : decode cX11_comesReport 100 = .ok (.invokevirtual 87, 3) := by decide +kernel
theorem dX11_comesReport_103 : decode cX11_comesReport 103 = .ok (.bipush 6, 2) := by decide +kernel
theorem dX11_comesReport_105 : decode cX11_comesReport 105 = .ok (.if_icmp .eq 19, 3) := by decide +kernel
theorem dX11_comesReport_108 : decode cX11_comesReport 108 = .ok (.aload_n 0, 1) := by decide +kernel
theorem dX11_comesReport_109 : decode cX11_comesReport 109 = .ok (.aload_n 0, 1) := by decide +kernel
theorem dX11_comesReport_110 : decode cX11_comesReport 110 = .ok (.getfield 16, 3) := by decide +kernel
theorem dX11_comesReport_113 : decode cX11_comesReport 113 = .ok (.iconst 0, 1) := by decide +kernel
theorem dX11_comesReport_114 : decode cX11_comesReport 114 = .ok (.iaload, 1) := by decide +kernel
theorem dX11_comesReport_115 : decode cX11_comesReport 115 = .ok (.aload_n 0, 1) := by decide +kernel
theorem dX11_comesReport_116 : decode cX11_comesReport 116 = .ok (.getfield 16, 3) := by decide +kernel
theorem dX11_comesReport_119 : decode cX11_comesReport 119 = .ok (.iconst 1, 1) := by decide +kernel
theorem dX11_comesReport_120 : decode cX11_comesReport 120 = .ok (.iaload, 1) := by decide +kernel
theorem dX11_comesReport_121 : decode cX11_comesReport 121 = .ok (.invokevirtual 224, 3) := by decide +kernel
theorem dX11_comesReport_124 : decode cX11_comesReport 124 = .ok (.return_, 1) := by decide +kernel
theorem dX11_runsOut_0 : decode cX11_runsOut 0 = .ok (.aload_n 0, 1) := by decide +kernel
theorem dX11_runsOut_1 : decode cX11_runsOut 1 = .ok (.invokevirtual 87, 3) := by decide +kernel
theorem dX11_runsOut_4 : decode cX11_runsOut 4 = .ok (.istore_n 1, 1) := by decide +kernel
theorem dX11_runsOut_5 : decode cX11_runsOut 5 = .ok (.aload_n 0, 1) := by decide +kernel
theorem dX11_runsOut_6 : decode cX11_runsOut 6 = .ok (.getfield 7, 3) := by decide +kernel
theorem dX11_runsOut_9 : decode cX11_runsOut 9 = .ok (.bipush 30, 2) := by decide +kernel
theorem dX11_runsOut_11 : decode cX11_runsOut 11 = .ok (.iaload, 1) := by decide +kernel
theorem dX11_runsOut_12 : decode cX11_runsOut 12 = .ok (.aload_n 0, 1) := by decide +kernel
theorem dX11_runsOut_13 : decode cX11_runsOut 13 = .ok (.iconst 3, 1) := by decide +kernel
theorem dX11_runsOut_14 : decode cX11_runsOut 14 = .ok (.invokevirtual 102, 3) := by decide +kernel
theorem dX11_runsOut_17 : decode cX11_runsOut 17 = .ok (.if_icmp .lt 7, 3) := by decide +kernel
theorem dX11_runsOut_20 : decode cX11_runsOut 20 = .ok (.iconst 1, 1) := by decide +kernel
theorem dX11_runsOut_21 : decode cX11_runsOut 21 = .ok (.goto 4, 3) := by decide +kernel
theorem dX11_runsOut_24 : decode cX11_runsOut 24 = .ok (.iconst 0, 1) := by decide +kernel
theorem dX11_runsOut_25 : decode cX11_runsOut 25 = .ok (.istore_n 2, 1) := by decide +kernel
theorem dX11_runsOut_26 : decode cX11_runsOut 26 = .ok (.iload_n 1, 1) := by decide +kernel
theorem dX11_runsOut_27 : decode cX11_runsOut 27 = .ok (.iconst 4, 1) := by decide +kernel
theorem dX11_runsOut_28 : decode cX11_runsOut 28 = .ok (.if_icmp .eq 7, 3) := by decide +kernel
theorem dX11_runsOut_31 : decode cX11_runsOut 31 = .ok (.iload_n 2, 1) := by decide +kernel
theorem dX11_runsOut_32 : decode cX11_runsOut 32 = .ok (.ifCond .eq 10, 3) := by decide +kernel
theorem dX11_runsOut_35 : decode cX11_runsOut 35 = .ok (.aload_n 0, 1) := by decide +kernel
theorem dX11_runsOut_36 : decode cX11_runsOut 36 = .ok (.invokevirtual 227, 3) := by decide +kernel
theorem dX11_runsOut_39 : decode cX11_runsOut 39 = .ok (.goto 27, 3) := by decide +kernel
theorem dX11_runsOut_42 : decode cX11_runsOut 42 = .ok (.iload_n 1, 1) := by decide +kernel
theorem dX11_runsOut_43 : decode cX11_runsOut 43 = .ok (.iconst 3, 1) := by decide +kernel
theorem dX11_runsOut_44 : decode cX11_runsOut 44 = .ok (.if_icmp .ne 18, 3) := by decide +kernel
theorem dX11_runsOut_47 : decode cX11_runsOut 47 = .ok (.aload_n 0, 1) := by decide +kernel
theorem dX11_runsOut_48 : decode cX11_runsOut 48 = .ok (.getfield 7, 3) := by decide +kernel
theorem dX11_runsOut_51 : decode cX11_runsOut 51 = .ok (.bipush 31, 2) := by decide +kernel
theorem dX11_runsOut_53 : decode cX11_runsOut 53 = .ok (.aload_n 0, 1) := by decide +kernel
theorem dX11_runsOut_54 : decode cX11_runsOut 54 = .ok (.iconst 4, 1) := by decide +kernel
theorem dX11_runsOut_55 : decode cX11_runsOut 55 = .ok (.invokevirtual 102, 3) := by decide +kernel
theorem dX11_runsOut_58 : decode cX11_runsOut 58 = .ok (.iastore, 1) := by decide +kernel
theorem dX11_runsOut_59 : decode cX11_runsOut 59 = .ok (.goto 7, 3) := by decide +kernel
theorem dX11_runsOut_62 : decode cX11_runsOut 62 = .ok (.aload_n 0, 1) := by decide +kernel
theorem dX11_runsOut_63 : decode cX11_runsOut 63 = .ok (.invokevirtual 119, 3) := by decide +kernel
theorem dX11_runsOut_66 : decode cX11_runsOut 66 = .ok (.return_, 1) := by decide +kernel
theorem dX11_goesDirective_0 : decode cX11_goesDirective 0 = .ok (.aload_n 0, 1) := by decide +kernel
theorem dX11_goesDirective_1 : decode cX11_goesDirective 1 = .ok (.getfield 7, 3) := by decide +kernel
theorem dX11_goesDirective_4 : decode cX11_goesDirective 4 = .ok (.bipush 28, 2) := by decide +kernel
theorem dX11_goesDirective_6 : decode cX11_goesDirective 6 = .ok (.iconst 0, 1) := by decide +kernel
theorem dX11_goesDirective_7 : decode cX11_goesDirective 7 = .ok (.iastore, 1) := by decide +kernel
theorem dX11_goesDirective_8 : decode cX11_goesDirective 8 = .ok (.aload_n 0, 1) := by decide +kernel
theorem dX11_goesDirective_9 : decode cX11_goesDirective 9 = .ok (.iconst 2, 1) := by decide +kernel
theorem dX11_goesDirective_10 : decode cX11_goesDirective 10 = .ok (.iconst 0, 1) := by decide +kernel
theorem dX11_goesDirective_11 : decode cX11_goesDirective 11 = .ok (.aload_n 0, 1) := by decide +kernel
theorem dX11_goesDirective_12 : decode cX11_goesDirective 12 = .ok (.getfield 7, 3) := by decide +kernel
theorem dX11_goesDirective_15 : decode cX11_goesDirective 15 = .ok (.bipush 26, 2) := by decide +kernel
theorem dX11_goesDirective_17 : decode cX11_goesDirective 17 = .ok (.iaload, 1) := by decide +kernel
theorem dX11_goesDirective_18 : decode cX11_goesDirective 18 = .ok (.iconst 1, 1) := by decide +kernel
theorem dX11_goesDirective_19 : decode cX11_goesDirective 19 = .ok (.isub, 1) := by decide +kernel
theorem dX11_goesDirective_20 : decode cX11_goesDirective 20 = .ok (.aload_n 0, 1) := by decide +kernel
theorem dX11_goesDirective_21 : decode cX11_goesDirective 21 = .ok (.getfield 7, 3) := by decide +kernel
theorem dX11_goesDirective_24 : decode cX11_goesDirective 24 = .ok (.bipush 27, 2) := by decide +kernel
theorem dX11_goesDirective_26 : decode cX11_goesDirective 26 = .ok (.iaload, 1) := by decide +kernel
theorem dX11_goesDirective_27 : decode cX11_goesDirective 27 = .ok (.iconst (-1), 1) := by decide +kernel
theorem dX11_goesDirective_28 : decode cX11_goesDirective 28 = .ok (.invokevirtual 230, 3) := by decide +kernel
theorem dX11_goesDirective_31 : decode cX11_goesDirective 31 = .ok (.return_, 1) := by decide +kernel
theorem dX11_goesSent_0 : decode cX11_goesSent 0 = .ok (.aload_n 0, 1) := by decide +kernel
theorem dX11_goesSent_1 : decode cX11_goesSent 1 = .ok (.getfield 7, 3) := by decide +kernel
theorem dX11_goesSent_4 : decode cX11_goesSent 4 = .ok (.bipush 86, 2) := by decide +kernel
theorem dX11_goesSent_6 : decode cX11_goesSent 6 = .ok (.iload_n 1, 1) := by decide +kernel
theorem dX11_goesSent_7 : decode cX11_goesSent 7 = .ok (.iadd, 1) := by decide +kernel
theorem dX11_goesSent_8 : decode cX11_goesSent 8 = .ok (.iconst 0, 1) := by decide +kernel
theorem dX11_goesSent_9 : decode cX11_goesSent 9 = .ok (.iastore, 1) := by decide +kernel
theorem dX11_goesSent_10 : decode cX11_goesSent 10 = .ok (.aload_n 0, 1) := by decide +kernel
theorem dX11_goesSent_11 : decode cX11_goesSent 11 = .ok (.aload_n 0, 1) := by decide +kernel
theorem dX11_goesSent_12 : decode cX11_goesSent 12 = .ok (.invokevirtual 65, 3) := by decide +kernel
theorem dX11_goesSent_15 : decode cX11_goesSent 15 = .ok (.iload_n 1, 1) := by decide +kernel
theorem dX11_goesSent_16 : decode cX11_goesSent 16 = .ok (.iadd, 1) := by decide +kernel
theorem dX11_goesSent_17 : decode cX11_goesSent 17 = .ok (.invokevirtual 234, 3) := by decide +kernel
theorem dX11_goesSent_20 : decode cX11_goesSent 20 = .ok (.aload_n 0, 1) := by decide +kernel
theorem dX11_goesSent_21 : decode cX11_goesSent 21 = .ok (.iconst 0, 1) := by decide +kernel
theorem dX11_goesSent_22 : decode cX11_goesSent 22 = .ok (.aload_n 0, 1) := by decide +kernel
theorem dX11_goesSent_23 : decode cX11_goesSent 23 = .ok (.iload_n 1, 1) := by decide +kernel
theorem dX11_goesSent_24 : decode cX11_goesSent 24 = .ok (.invokevirtual 207, 3) := by decide +kernel
theorem dX11_goesSent_27 : decode cX11_goesSent 27 = .ok (.aload_n 0, 1) := by decide +kernel
theorem dX11_goesSent_28 : decode cX11_goesSent 28 = .ok (.getfield 7, 3) := by decide +kernel
theorem dX11_goesSent_31 : decode cX11_goesSent 31 = .ok (.bipush 66, 2) := by decide +kernel
theorem dX11_goesSent_33 : decode cX11_goesSent 33 = .ok (.iload_n 1, 1) := by decide +kernel
theorem dX11_goesSent_34 : decode cX11_goesSent 34 = .ok (.iadd, 1) := by decide +kernel
theorem dX11_goesSent_35 : decode cX11_goesSent 35 = .ok (.iaload, 1) := by decide +kernel
theorem dX11_goesSent_36 : decode cX11_goesSent 36 = .ok (.sipush 256, 3) := by decide +kernel
theorem dX11_goesSent_39 : decode cX11_goesSent 39 = .ok (.idiv, 1) := by decide +kernel
theorem dX11_goesSent_40 : decode cX11_goesSent 40 = .ok (.aload_n 0, 1) := by decide +kernel
theorem dX11_goesSent_41 : decode cX11_goesSent 41 = .ok (.getfield 7, 3) := by decide +kernel
theorem dX11_goesSent_44 : decode cX11_goesSent 44 = .ok (.bipush 66, 2) := by decide +kernel
theorem dX11_goesSent_46 : decode cX11_goesSent 46 = .ok (.iload_n 1, 1) := by decide +kernel
theorem dX11_goesSent_47 : decode cX11_goesSent 47 = .ok (.iadd, 1) := by decide +kernel
theorem dX11_goesSent_48 : decode cX11_goesSent 48 = .ok (.iaload, 1) := by decide +kernel
theorem dX11_goesSent_49 : decode cX11_goesSent 49 = .ok (.sipush 256, 3) := by decide +kernel
theorem dX11_goesSent_52 : decode cX11_goesSent 52 = .ok (.irem, 1) := by decide +kernel
theorem dX11_goesSent_53 : decode cX11_goesSent 53 = .ok (.aload_n 0, 1) := by decide +kernel
theorem dX11_goesSent_54 : decode cX11_goesSent 54 = .ok (.invokevirtual 65, 3) := by decide +kernel
theorem dX11_goesSent_57 : decode cX11_goesSent 57 = .ok (.iload_n 1, 1) := by decide +kernel
theorem dX11_goesSent_58 : decode cX11_goesSent 58 = .ok (.iadd, 1) := by decide +kernel
theorem dX11_goesSent_59 : decode cX11_goesSent 59 = .ok (.invokevirtual 230, 3) := by decide +kernel
theorem dX11_goesSent_62 : decode cX11_goesSent 62 = .ok (.return_, 1) := by decide +kernel
theorem dX11_goesNew_0 : decode cX11_goesNew 0 = .ok (.aload_n 0, 1) := by decide +kernel
theorem dX11_goesNew_1 : decode cX11_goesNew 1 = .ok (.getfield 7, 3) := by decide +kernel
theorem dX11_goesNew_4 : decode cX11_goesNew 4 = .ok (.bipush 25, 2) := by decide +kernel
theorem dX11_goesNew_6 : decode cX11_goesNew 6 = .ok (.iaload, 1) := by decide +kernel
theorem dX11_goesNew_7 : decode cX11_goesNew 7 = .ok (.ifCond .ne 11, 3) := by decide +kernel
theorem dX11_goesNew_10 : decode cX11_goesNew 10 = .ok (.aload_n 0, 1) := by decide +kernel
theorem dX11_goesNew_11 : decode cX11_goesNew 11 = .ok (.getfield 7, 3) := by decide +kernel
theorem dX11_goesNew_14 : decode cX11_goesNew 14 = .ok (.bipush 30, 2) := by decide +kernel
theorem dX11_goesNew_16 : decode cX11_goesNew 16 = .ok (.iconst 1, 1) := by decide +kernel
theorem dX11_goesNew_17 : decode cX11_goesNew 17 = .ok (.iastore, 1) := by decide +kernel
theorem dX11_goesNew_18 : decode cX11_goesNew 18 = .ok (.aload_n 0, 1) := by decide +kernel
theorem dX11_goesNew_19 : decode cX11_goesNew 19 = .ok (.getfield 7, 3) := by decide +kernel
theorem dX11_goesNew_22 : decode cX11_goesNew 22 = .ok (.bipush 31, 2) := by decide +kernel
theorem dX11_goesNew_24 : decode cX11_goesNew 24 = .ok (.aload_n 0, 1) := by decide +kernel
theorem dX11_goesNew_25 : decode cX11_goesNew 25 = .ok (.iconst 4, 1) := by decide +kernel
theorem dX11_goesNew_26 : decode cX11_goesNew 26 = .ok (.invokevirtual 102, 3) := by decide +kernel
theorem dX11_goesNew_29 : decode cX11_goesNew 29 = .ok (.iastore, 1) := by decide +kernel
theorem dX11_goesNew_30 : decode cX11_goesNew 30 = .ok (.aload_n 0, 1) := by decide +kernel
theorem dX11_goesNew_31 : decode cX11_goesNew 31 = .ok (.bipush 66, 2) := by decide +kernel
theorem dX11_goesNew_33 : decode cX11_goesNew 33 = .ok (.bipush 25, 2) := by decide +kernel
theorem dX11_goesNew_35 : decode cX11_goesNew 35 = .ok (.aload_n 0, 1) := by decide +kernel
theorem dX11_goesNew_36 : decode cX11_goesNew 36 = .ok (.bipush 58, 2) := by decide +kernel
theorem dX11_goesNew_38 : decode cX11_goesNew 38 = .ok (.bipush 24, 2) := by decide +kernel
theorem dX11_goesNew_40 : decode cX11_goesNew 40 = .ok (.invokevirtual 197, 3) := by decide +kernel
theorem dX11_goesNew_43 : decode cX11_goesNew 43 = .ok (.invokevirtual 109, 3) := by decide +kernel
theorem dX11_goesNew_46 : decode cX11_goesNew 46 = .ok (.aload_n 0, 1) := by decide +kernel
theorem dX11_goesNew_47 : decode cX11_goesNew 47 = .ok (.getfield 7, 3) := by decide +kernel
theorem dX11_goesNew_50 : decode cX11_goesNew 50 = .ok (.bipush 22, 2) := by decide +kernel
theorem dX11_goesNew_52 : decode cX11_goesNew 52 = .ok (.aload_n 0, 1) := by decide +kernel
theorem dX11_goesNew_53 : decode cX11_goesNew 53 = .ok (.aload_n 0, 1) := by decide +kernel
theorem dX11_goesNew_54 : decode cX11_goesNew 54 = .ok (.getfield 7, 3) := by decide +kernel
theorem dX11_goesNew_57 : decode cX11_goesNew 57 = .ok (.bipush 22, 2) := by decide +kernel
theorem dX11_goesNew_59 : decode cX11_goesNew 59 = .ok (.iaload, 1) := by decide +kernel
theorem dX11_goesNew_60 : decode cX11_goesNew 60 = .ok (.iconst 1, 1) := by decide +kernel
theorem dX11_goesNew_61 : decode cX11_goesNew 61 = .ok (.iadd, 1) := by decide +kernel
theorem dX11_goesNew_62 : decode cX11_goesNew 62 = .ok (.invokevirtual 155, 3) := by decide +kernel
theorem dX11_goesNew_65 : decode cX11_goesNew 65 = .ok (.iastore, 1) := by decide +kernel
theorem dX11_goesNew_66 : decode cX11_goesNew 66 = .ok (.aload_n 0, 1) := by decide +kernel
theorem dX11_goesNew_67 : decode cX11_goesNew 67 = .ok (.aload_n 0, 1) := by decide +kernel
theorem dX11_goesNew_68 : decode cX11_goesNew 68 = .ok (.getfield 7, 3) := by decide +kernel
theorem dX11_goesNew_71 : decode cX11_goesNew 71 = .ok (.bipush 25, 2) := by decide +kernel
theorem dX11_goesNew_73 : decode cX11_goesNew 73 = .ok (.iaload, 1) := by decide +kernel
theorem dX11_goesNew_74 : decode cX11_goesNew 74 = .ok (.iconst 1, 1) := by decide +kernel
theorem dX11_goesNew_75 : decode cX11_goesNew 75 = .ok (.isub, 1) := by decide +kernel
theorem dX11_goesNew_76 : decode cX11_goesNew 76 = .ok (.invokevirtual 237, 3) := by decide +kernel
theorem dX11_goesNew_79 : decode cX11_goesNew 79 = .ok (.return_, 1) := by decide +kernel
theorem dX11_firstMarked_0 : decode cX11_firstMarked 0 = .ok (.iconst 0, 1) := by decide +kernel
theorem dX11_firstMarked_1 : decode cX11_firstMarked 1 = .ok (.istore_n 1, 1) := by decide +kernel
theorem dX11_firstMarked_2 : decode cX11_firstMarked 2 = .ok (.iload_n 1, 1) := by decide +kernel
theorem dX11_firstMarked_3 : decode cX11_firstMarked 3 = .ok (.aload_n 0, 1) := by decide +kernel
theorem dX11_firstMarked_4 : decode cX11_firstMarked 4 = .ok (.getfield 7, 3) := by decide +kernel
theorem dX11_firstMarked_7 : decode cX11_firstMarked 7 = .ok (.bipush 25, 2) := by decide +kernel
theorem dX11_firstMarked_9 : decode cX11_firstMarked 9 = .ok (.iaload, 1) := by decide +kernel
theorem dX11_firstMarked_10 : decode cX11_firstMarked 10 = .ok (.if_icmp .ge 22, 3) := by decide +kernel
theorem dX11_firstMarked_13 : decode cX11_firstMarked 13 = .ok (.aload_n 0, 1) := by decide +kernel
theorem dX11_firstMarked_14 : decode cX11_firstMarked 14 = .ok (.getfield 7, 3) := by decide +kernel
theorem dX11_firstMarked_17 : decode cX11_firstMarked 17 = .ok (.bipush 86, 2) := by decide +kernel
theorem dX11_firstMarked_19 : decode cX11_firstMarked 19 = .ok (.iload_n 1, 1) := by decide +kernel
theorem dX11_firstMarked_20 : decode cX11_firstMarked 20 = .ok (.iadd, 1) := by decide +kernel
theorem dX11_firstMarked_21 : decode cX11_firstMarked 21 = .ok (.iaload, 1) := by decide +kernel
theorem dX11_firstMarked_22 : decode cX11_firstMarked 22 = .ok (.ifCond .ne 10, 3) := by decide +kernel
theorem dX11_firstMarked_25 : decode cX11_firstMarked 25 = .ok (.iload_n 1, 1) := by decide +kernel
theorem dX11_firstMarked_26 : decode cX11_firstMarked 26 = .ok (.iconst 1, 1) := by decide +kernel
theorem dX11_firstMarked_27 : decode cX11_firstMarked 27 = .ok (.iadd, 1) := by decide +kernel
theorem dX11_firstMarked_28 : decode cX11_firstMarked 28 = .ok (.istore_n 1, 1) := by decide +kernel
theorem dX11_firstMarked_29 : decode cX11_firstMarked 29 = .ok (.goto (-27), 3) := by decide +kernel
theorem dX11_firstMarked_32 : decode cX11_firstMarked 32 = .ok (.iload_n 1, 1) := by decide +kernel
theorem dX11_firstMarked_33 : decode cX11_firstMarked 33 = .ok (.ireturn, 1) := by decide +kernel
theorem dX11_turns_0 : decode cX11_turns 0 = .ok (.aload_n 0, 1) := by decide +kernel
theorem dX11_turns_1 : decode cX11_turns 1 = .ok (.invokevirtual 87, 3) := by decide +kernel
theorem dX11_turns_4 : decode cX11_turns 4 = .ok (.istore_n 1, 1) := by decide +kernel
theorem dX11_turns_5 : decode cX11_turns 5 = .ok (.aload_n 0, 1) := by decide +kernel
theorem dX11_turns_6 : decode cX11_turns 6 = .ok (.getfield 7, 3) := by decide +kernel
theorem dX11_turns_9 : decode cX11_turns 9 = .ok (.bipush 29, 2) := by decide +kernel
theorem dX11_turns_11 : decode cX11_turns 11 = .ok (.iaload, 1) := by decide +kernel
theorem dX11_turns_12 : decode cX11_turns 12 = .ok (.ifCond .le 32, 3) := by decide +kernel
theorem dX11_turns_15 : decode cX11_turns 15 = .ok (.aload_n 0, 1) := by decide +kernel
theorem dX11_turns_16 : decode cX11_turns 16 = .ok (.bipush 106, 2) := by decide +kernel
theorem dX11_turns_18 : decode cX11_turns 18 = .ok (.bipush 29, 2) := by decide +kernel
theorem dX11_turns_20 : decode cX11_turns 20 = .ok (.invokevirtual 197, 3) := by decide +kernel
theorem dX11_turns_23 : decode cX11_turns 23 = .ok (.istore_n 2, 1) := by decide +kernel
theorem dX11_turns_24 : decode cX11_turns 24 = .ok (.aload_n 0, 1) := by decide +kernel
theorem dX11_turns_25 : decode cX11_turns 25 = .ok (.iconst 1, 1) := by decide +kernel
theorem dX11_turns_26 : decode cX11_turns 26 = .ok (.iconst 0, 1) := by decide +kernel
theorem dX11_turns_27 : decode cX11_turns 27 = .ok (.iload_n 2, 1) := by decide +kernel
theorem dX11_turns_28 : decode cX11_turns 28 = .ok (.sipush 256, 3) := by decide +kernel
theorem dX11_turns_31 : decode cX11_turns 31 = .ok (.idiv, 1) := by decide +kernel
theorem dX11_turns_32 : decode cX11_turns 32 = .ok (.iload_n 2, 1) := by decide +kernel
theorem dX11_turns_33 : decode cX11_turns 33 = .ok (.sipush 256, 3) := by decide +kernel
theorem dX11_turns_36 : decode cX11_turns 36 = .ok (.irem, 1) := by decide +kernel
theorem dX11_turns_37 : decode cX11_turns 37 = .ok (.iconst (-1), 1) := by decide +kernel
theorem dX11_turns_38 : decode cX11_turns 38 = .ok (.invokevirtual 230, 3) := by decide +kernel
theorem dX11_turns_41 : decode cX11_turns 41 = .ok (.goto 89, 3) := by decide +kernel
theorem dX11_turns_44 : decode cX11_turns 44 = .ok (.iload_n 1, 1) := by decide +kernel
theorem dX11_turns_45 : decode cX11_turns 45 = .ok (.iconst 5, 1) := by decide +kernel
theorem dX11_turns_46 : decode cX11_turns 46 = .ok (.if_icmp .ne 21, 3) := by decide +kernel
theorem dX11_turns_49 : decode cX11_turns 49 = .ok (.aload_n 0, 1) := by decide +kernel
theorem dX11_turns_50 : decode cX11_turns 50 = .ok (.getfield 7, 3) := by decide +kernel
theorem dX11_turns_53 : decode cX11_turns 53 = .ok (.bipush 28, 2) := by decide +kernel
theorem dX11_turns_55 : decode cX11_turns 55 = .ok (.iaload, 1) := by decide +kernel
theorem dX11_turns_56 : decode cX11_turns 56 = .ok (.iconst 1, 1) := by decide +kernel
theorem dX11_turns_57 : decode cX11_turns 57 = .ok (.if_icmp .ne 10, 3) := by decide +kernel
theorem dX11_turns_60 : decode cX11_turns 60 = .ok (.aload_n 0, 1) := by decide +kernel
theorem dX11_turns_61 : decode cX11_turns 61 = .ok (.invokevirtual 240, 3) := by decide +kernel
theorem dX11_turns_64 : decode cX11_turns 64 = .ok (.goto 66, 3) := by decide +kernel
theorem dX11_turns_67 : decode cX11_turns 67 = .ok (.iload_n 1, 1) := by decide +kernel
theorem dX11_turns_68 : decode cX11_turns 68 = .ok (.iconst 1, 1) := by decide +kernel
theorem dX11_turns_69 : decode cX11_turns 69 = .ok (.if_icmp .eq 8, 3) := by decide +kernel
theorem dX11_turns_72 : decode cX11_turns 72 = .ok (.iload_n 1, 1) := by decide +kernel
theorem dX11_turns_73 : decode cX11_turns 73 = .ok (.iconst 2, 1) := by decide +kernel
theorem dX11_turns_74 : decode cX11_turns 74 = .ok (.if_icmp .ne 56, 3) := by decide +kernel
theorem dX11_turns_77 : decode cX11_turns 77 = .ok (.aload_n 0, 1) := by decide +kernel
theorem dX11_turns_78 : decode cX11_turns 78 = .ok (.invokevirtual 243, 3) := by decide +kernel
theorem dX11_turns_81 : decode cX11_turns 81 = .ok (.istore_n 2, 1) := by decide +kernel
theorem dX11_turns_82 : decode cX11_turns 82 = .ok (.iload_n 2, 1) := by decide +kernel
theorem dX11_turns_83 : decode cX11_turns 83 = .ok (.aload_n 0, 1) := by decide +kernel
theorem dX11_turns_84 : decode cX11_turns 84 = .ok (.getfield 7, 3) := by decide +kernel
theorem dX11_turns_87 : decode cX11_turns 87 = .ok (.bipush 25, 2) := by decide +kernel
theorem dX11_turns_89 : decode cX11_turns 89 = .ok (.iaload, 1) := by decide +kernel
theorem dX11_turns_90 : decode cX11_turns 90 = .ok (.if_icmp .ge 11, 3) := by decide +kernel
theorem dX11_turns_93 : decode cX11_turns 93 = .ok (.aload_n 0, 1) := by decide +kernel
theorem dX11_turns_94 : decode cX11_turns 94 = .ok (.iload_n 2, 1) := by decide +kernel
theorem dX11_turns_95 : decode cX11_turns 95 = .ok (.invokevirtual 237, 3) := by decide +kernel
theorem dX11_turns_98 : decode cX11_turns 98 = .ok (.goto 32, 3) := by decide +kernel
theorem dX11_turns_101 : decode cX11_turns 101 = .ok (.aload_n 0, 1) := by decide +kernel
theorem dX11_turns_102 : decode cX11_turns 102 = .ok (.getfield 7, 3) := by decide +kernel
theorem dX11_turns_105 : decode cX11_turns 105 = .ok (.bipush 24, 2) := by decide +kernel
theorem dX11_turns_107 : decode cX11_turns 107 = .ok (.iaload, 1) := by decide +kernel
theorem dX11_turns_108 : decode cX11_turns 108 = .ok (.ifCond .le 22, 3) := by decide +kernel
theorem dX11_turns_111 : decode cX11_turns 111 = .ok (.aload_n 0, 1) := by decide +kernel
theorem dX11_turns_112 : decode cX11_turns 112 = .ok (.getfield 7, 3) := by decide +kernel
theorem dX11_turns_115 : decode cX11_turns 115 = .ok (.bipush 25, 2) := by decide +kernel
theorem dX11_turns_117 : decode cX11_turns 117 = .ok (.iaload, 1) := by decide +kernel
theorem dX11_turns_118 : decode cX11_turns 118 = .ok (.aload_n 0, 1) := by decide +kernel
theorem dX11_turns_119 : decode cX11_turns 119 = .ok (.iconst 2, 1) := by decide +kernel
theorem dX11_turns_120 : decode cX11_turns 120 = .ok (.invokevirtual 102, 3) := by decide +kernel
theorem dX11_turns_123 : decode cX11_turns 123 = .ok (.if_icmp .ge 7, 3) := by decide +kernel
theorem dX11_turns_126 : decode cX11_turns 126 = .ok (.aload_n 0, 1) := by decide +kernel
theorem dX11_turns_127 : decode cX11_turns 127 = .ok (.invokevirtual 246, 3) := by decide +kernel
theorem dX11_turns_130 : decode cX11_turns 130 = .ok (.return_, 1) := by decide +kernel
theorem dX11_ticks_0 : decode cX11_ticks 0 = .ok (.aload_n 0, 1) := by decide +kernel
theorem dX11_ticks_1 : decode cX11_ticks 1 = .ok (.bipush 11, 2) := by decide +kernel
theorem dX11_ticks_3 : decode cX11_ticks 3 = .ok (.invokevirtual 58, 3) := by decide +kernel
theorem dX11_ticks_6 : decode cX11_ticks 6 = .ok (.aload_n 0, 1) := by decide +kernel
theorem dX11_ticks_7 : decode cX11_ticks 7 = .ok (.iconst 1, 1) := by decide +kernel
theorem dX11_ticks_8 : decode cX11_ticks 8 = .ok (.invokevirtual 249, 3) := by decide +kernel
theorem dX11_ticks_11 : decode cX11_ticks 11 = .ok (.ifCond .eq 10, 3) := by decide +kernel
theorem dX11_ticks_14 : decode cX11_ticks 14 = .ok (.aload_n 0, 1) := by decide +kernel
theorem dX11_ticks_15 : decode cX11_ticks 15 = .ok (.invokevirtual 252, 3) := by decide +kernel
theorem dX11_ticks_18 : decode cX11_ticks 18 = .ok (.goto (-12), 3) := by decide +kernel
theorem dX11_ticks_21 : decode cX11_ticks 21 = .ok (.aload_n 0, 1) := by decide +kernel
theorem dX11_ticks_22 : decode cX11_ticks 22 = .ok (.getfield 7, 3) := by decide +kernel
theorem dX11_ticks_25 : decode cX11_ticks 25 = .ok (.bipush 11, 2) := by decide +kernel
theorem dX11_ticks_27 : decode cX11_ticks 27 = .ok (.iaload, 1) := by decide +kernel
theorem dX11_ticks_28 : decode cX11_ticks 28 = .ok (.aload_n 0, 1) := by decide +kernel
theorem dX11_ticks_29 : decode cX11_ticks 29 = .ok (.bipush 10, 2) := by decide +kernel
theorem dX11_ticks_31 : decode cX11_ticks 31 = .ok (.invokevirtual 102, 3) := by decide +kernel
theorem dX11_ticks_34 : decode cX11_ticks 34 = .ok (.irem, 1) := by decide +kernel
theorem dX11_ticks_35 : decode cX11_ticks 35 = .ok (.ifCond .ne 7, 3) := by decide +kernel
theorem dX11_ticks_38 : decode cX11_ticks 38 = .ok (.aload_n 0, 1) := by decide +kernel
theorem dX11_ticks_39 : decode cX11_ticks 39 = .ok (.invokevirtual 255, 3) := by decide +kernel
theorem dX11_ticks_42 : decode cX11_ticks 42 = .ok (.aload_n 0, 1) := by decide +kernel
theorem dX11_ticks_43 : decode cX11_ticks 43 = .ok (.iconst 0, 1) := by decide +kernel
theorem dX11_ticks_44 : decode cX11_ticks 44 = .ok (.invokevirtual 249, 3) := by decide +kernel
theorem dX11_ticks_47 : decode cX11_ticks 47 = .ok (.ifCond .eq 10, 3) := by decide +kernel
theorem dX11_ticks_50 : decode cX11_ticks 50 = .ok (.aload_n 0, 1) := by decide +kernel
theorem dX11_ticks_51 : decode cX11_ticks 51 = .ok (.invokevirtual 258, 3) := by decide +kernel
theorem dX11_ticks_54 : decode cX11_ticks 54 = .ok (.goto (-12), 3) := by decide +kernel
theorem dX11_ticks_57 : decode cX11_ticks 57 = .ok (.aload_n 0, 1) := by decide +kernel
theorem dX11_ticks_58 : decode cX11_ticks 58 = .ok (.getfield 7, 3) := by decide +kernel
theorem dX11_ticks_61 : decode cX11_ticks 61 = .ok (.bipush 31, 2) := by decide +kernel
theorem dX11_ticks_63 : decode cX11_ticks 63 = .ok (.iaload, 1) := by decide +kernel
theorem dX11_ticks_64 : decode cX11_ticks 64 = .ok (.ifCond .le 33, 3) := by decide +kernel
theorem dX11_ticks_67 : decode cX11_ticks 67 = .ok (.aload_n 0, 1) := by decide +kernel
theorem dX11_ticks_68 : decode cX11_ticks 68 = .ok (.getfield 7, 3) := by decide +kernel
theorem dX11_ticks_71 : decode cX11_ticks 71 = .ok (.bipush 31, 2) := by decide +kernel
theorem dX11_ticks_73 : decode cX11_ticks 73 = .ok (.aload_n 0, 1) := by decide +kernel
theorem dX11_ticks_74 : decode cX11_ticks 74 = .ok (.getfield 7, 3) := by decide +kernel
theorem dX11_ticks_77 : decode cX11_ticks 77 = .ok (.bipush 31, 2) := by decide +kernel
theorem dX11_ticks_79 : decode cX11_ticks 79 = .ok (.iaload, 1) := by decide +kernel
theorem dX11_ticks_80 : decode cX11_ticks 80 = .ok (.iconst 1, 1) := by decide +kernel
theorem dX11_ticks_81 : decode cX11_ticks 81 = .ok (.isub, 1) := by decide +kernel
theorem dX11_ticks_82 : decode cX11_ticks 82 = .ok (.iastore, 1) := by decide +kernel
theorem dX11_ticks_83 : decode cX11_ticks 83 = .ok (.aload_n 0, 1) := by decide +kernel
theorem dX11_ticks_84 : decode cX11_ticks 84 = .ok (.getfield 7, 3) := by decide +kernel
theorem dX11_ticks_87 : decode cX11_ticks 87 = .ok (.bipush 31, 2) := by decide +kernel
theorem dX11_ticks_89 : decode cX11_ticks 89 = .ok (.iaload, 1) := by decide +kernel
theorem dX11_ticks_90 : decode cX11_ticks 90 = .ok (.ifCond .ne 7, 3) := by decide +kernel
theorem dX11_ticks_93 : decode cX11_ticks 93 = .ok (.aload_n 0, 1) := by decide +kernel
theorem dX11_ticks_94 : decode cX11_ticks 94 = .ok (.invokevirtual 261, 3) := by decide +kernel
theorem dX11_ticks_97 : decode cX11_ticks 97 = .ok (.aload_n 0, 1) := by decide +kernel
theorem dX11_ticks_98 : decode cX11_ticks 98 = .ok (.invokevirtual 264, 3) := by decide +kernel
theorem dX11_ticks_101 : decode cX11_ticks 101 = .ok (.return_, 1) := by decide +kernel
theorem dX11_ticksOn_0 : decode cX11_ticksOn 0 = .ok (.aload_n 0, 1) := by decide +kernel
theorem dX11_ticksOn_1 : decode cX11_ticksOn 1 = .ok (.iload_n 1, 1) := by decide +kernel
theorem dX11_ticksOn_2 : decode cX11_ticksOn 2 = .ok (.iconst 1, 1) := by decide +kernel
theorem dX11_ticksOn_3 : decode cX11_ticksOn 3 = .ok (.bipush 60, 2) := by decide +kernel
theorem dX11_ticksOn_5 : decode cX11_ticksOn 5 = .ok (.invokevirtual 48, 3) := by decide +kernel
theorem dX11_ticksOn_8 : decode cX11_ticksOn 8 = .ok (.ifCond .eq 18, 3) := by decide +kernel
theorem dX11_ticksOn_11 : decode cX11_ticksOn 11 = .ok (.aload_n 0, 1) := by decide +kernel
theorem dX11_ticksOn_12 : decode cX11_ticksOn 12 = .ok (.getfield 7, 3) := by decide +kernel
theorem dX11_ticksOn_15 : decode cX11_ticksOn 15 = .ok (.bipush 11, 2) := by decide +kernel
theorem dX11_ticksOn_17 : decode cX11_ticksOn 17 = .ok (.iaload, 1) := by decide +kernel
theorem dX11_ticksOn_18 : decode cX11_ticksOn 18 = .ok (.iload_n 1, 1) := by decide +kernel
theorem dX11_ticksOn_19 : decode cX11_ticksOn 19 = .ok (.iadd, 1) := by decide +kernel
theorem dX11_ticksOn_20 : decode cX11_ticksOn 20 = .ok (.sipush 9999, 3) := by decide +kernel
theorem dX11_ticksOn_23 : decode cX11_ticksOn 23 = .ok (.if_icmp .le 5, 3) := by decide +kernel
theorem dX11_ticksOn_26 : decode cX11_ticksOn 26 = .ok (.iconst (-1), 1) := by decide +kernel
theorem dX11_ticksOn_27 : decode cX11_ticksOn 27 = .ok (.ireturn, 1) := by decide +kernel
theorem dX11_ticksOn_28 : decode cX11_ticksOn 28 = .ok (.iconst 0, 1) := by decide +kernel
theorem dX11_ticksOn_29 : decode cX11_ticksOn 29 = .ok (.istore_n 2, 1) := by decide +kernel
theorem dX11_ticksOn_30 : decode cX11_ticksOn 30 = .ok (.iload_n 2, 1) := by decide +kernel
theorem dX11_ticksOn_31 : decode cX11_ticksOn 31 = .ok (.iload_n 1, 1) := by decide +kernel
theorem dX11_ticksOn_32 : decode cX11_ticksOn 32 = .ok (.if_icmp .ge 13, 3) := by decide +kernel
theorem dX11_ticksOn_35 : decode cX11_ticksOn 35 = .ok (.aload_n 0, 1) := by decide +kernel
theorem dX11_ticksOn_36 : decode cX11_ticksOn 36 = .ok (.invokevirtual 267, 3) := by decide +kernel
theorem dX11_ticksOn_39 : decode cX11_ticksOn 39 = .ok (.iinc 2 1, 3) := by decide +kernel
theorem dX11_ticksOn_42 : decode cX11_ticksOn 42 = .ok (.goto (-12), 3) := by decide +kernel
theorem dX11_ticksOn_45 : decode cX11_ticksOn 45 = .ok (.aload_n 0, 1) := by decide +kernel
theorem dX11_ticksOn_46 : decode cX11_ticksOn 46 = .ok (.getfield 7, 3) := by decide +kernel
theorem dX11_ticksOn_49 : decode cX11_ticksOn 49 = .ok (.bipush 11, 2) := by decide +kernel
theorem dX11_ticksOn_51 : decode cX11_ticksOn 51 = .ok (.iaload, 1) := by decide +kernel
theorem dX11_ticksOn_52 : decode cX11_ticksOn 52 = .ok (.ireturn, 1) := by decide +kernel
theorem dX11_tick_0 : decode cX11_tick 0 = .ok (.aload_n 0, 1) := by decide +kernel
theorem dX11_tick_1 : decode cX11_tick 1 = .ok (.iconst 0, 1) := by decide +kernel
theorem dX11_tick_2 : decode cX11_tick 2 = .ok (.putfield 41, 3) := by decide +kernel
theorem dX11_tick_5 : decode cX11_tick 5 = .ok (.aload_n 0, 1) := by decide +kernel
theorem dX11_tick_6 : decode cX11_tick 6 = .ok (.iload_n 1, 1) := by decide +kernel
theorem dX11_tick_7 : decode cX11_tick 7 = .ok (.invokevirtual 270, 3) := by decide +kernel
theorem dX11_tick_10 : decode cX11_tick 10 = .ok (.ireturn, 1) := by decide +kernel
theorem dX11_thinks_0 : decode cX11_thinks 0 = .ok (.iconst 0, 1) := by decide +kernel
theorem dX11_thinks_1 : decode cX11_thinks 1 = .ok (.istore_n 1, 1) := by decide +kernel
theorem dX11_thinks_2 : decode cX11_thinks 2 = .ok (.iload_n 1, 1) := by decide +kernel
theorem dX11_thinks_3 : decode cX11_thinks 3 = .ok (.sipush 1897, 3) := by decide +kernel
theorem dX11_thinks_6 : decode cX11_thinks 6 = .ok (.if_icmp .ge 21, 3) := by decide +kernel
theorem dX11_thinks_9 : decode cX11_thinks 9 = .ok (.aload_n 0, 1) := by decide +kernel
theorem dX11_thinks_10 : decode cX11_thinks 10 = .ok (.getfield 13, 3) := by decide +kernel
theorem dX11_thinks_13 : decode cX11_thinks 13 = .ok (.iload_n 1, 1) := by decide +kernel
theorem dX11_thinks_14 : decode cX11_thinks 14 = .ok (.aload_n 0, 1) := by decide +kernel
theorem dX11_thinks_15 : decode cX11_thinks 15 = .ok (.getfield 7, 3) := by decide +kernel
theorem dX11_thinks_18 : decode cX11_thinks 18 = .ok (.iload_n 1, 1) := by decide +kernel
theorem dX11_thinks_19 : decode cX11_thinks 19 = .ok (.iaload, 1) := by decide +kernel
theorem dX11_thinks_20 : decode cX11_thinks 20 = .ok (.iastore, 1) := by decide +kernel
theorem dX11_thinks_21 : decode cX11_thinks 21 = .ok (.iinc 1 1, 3) := by decide +kernel
theorem dX11_thinks_24 : decode cX11_thinks 24 = .ok (.goto (-22), 3) := by decide +kernel
theorem dX11_thinks_27 : decode cX11_thinks 27 = .ok (.aload_n 0, 1) := by decide +kernel
theorem dX11_thinks_28 : decode cX11_thinks 28 = .ok (.getfield 7, 3) := by decide +kernel
theorem dX11_thinks_31 : decode cX11_thinks 31 = .ok (.bipush 8, 2) := by decide +kernel
theorem dX11_thinks_33 : decode cX11_thinks 33 = .ok (.iconst 0, 1) := by decide +kernel
theorem dX11_thinks_34 : decode cX11_thinks 34 = .ok (.iastore, 1) := by decide +kernel
theorem dX11_thinks_35 : decode cX11_thinks 35 = .ok (.aload_n 0, 1) := by decide +kernel
theorem dX11_thinks_36 : decode cX11_thinks 36 = .ok (.getfield 7, 3) := by decide +kernel
theorem dX11_thinks_39 : decode cX11_thinks 39 = .ok (.bipush 9, 2) := by decide +kernel
theorem dX11_thinks_41 : decode cX11_thinks 41 = .ok (.iconst 0, 1) := by decide +kernel
theorem dX11_thinks_42 : decode cX11_thinks 42 = .ok (.iastore, 1) := by decide +kernel
theorem dX11_thinks_43 : decode cX11_thinks 43 = .ok (.return_, 1) := by decide +kernel
theorem dX11_forgets_0 : decode cX11_forgets 0 = .ok (.iconst 0, 1) := by decide +kernel
theorem dX11_forgets_1 : decode cX11_forgets 1 = .ok (.istore_n 1, 1) := by decide +kernel
theorem dX11_forgets_2 : decode cX11_forgets 2 = .ok (.iload_n 1, 1) := by decide +kernel
theorem dX11_forgets_3 : decode cX11_forgets 3 = .ok (.sipush 1897, 3) := by decide +kernel
theorem dX11_forgets_6 : decode cX11_forgets 6 = .ok (.if_icmp .ge 21, 3) := by decide +kernel
theorem dX11_forgets_9 : decode cX11_forgets 9 = .ok (.aload_n 0, 1) := by decide +kernel
theorem dX11_forgets_10 : decode cX11_forgets 10 = .ok (.getfield 7, 3) := by decide +kernel
theorem dX11_forgets_13 : decode cX11_forgets 13 = .ok (.iload_n 1, 1) := by decide +kernel
theorem dX11_forgets_14 : decode cX11_forgets 14 = .ok (.aload_n 0, 1) := by decide +kernel
theorem dX11_forgets_15 : decode cX11_forgets 15 = .ok (.getfield 13, 3) := by decide +kernel
theorem dX11_forgets_18 : decode cX11_forgets 18 = .ok (.iload_n 1, 1) := by decide +kernel
theorem dX11_forgets_19 : decode cX11_forgets 19 = .ok (.iaload, 1) := by decide +kernel
theorem dX11_forgets_20 : decode cX11_forgets 20 = .ok (.iastore, 1) := by decide +kernel
theorem dX11_forgets_21 : decode cX11_forgets 21 = .ok (.iinc 1 1, 3) := by decide +kernel
theorem dX11_forgets_24 : decode cX11_forgets 24 = .ok (.goto (-22), 3) := by decide +kernel
theorem dX11_forgets_27 : decode cX11_forgets 27 = .ok (.return_, 1) := by decide +kernel
theorem dX11_ticksTaking_0 : decode cX11_ticksTaking 0 = .ok (.aload_n 0, 1) := by decide +kernel
theorem dX11_ticksTaking_1 : decode cX11_ticksTaking 1 = .ok (.invokevirtual 267, 3) := by decide +kernel
theorem dX11_ticksTaking_4 : decode cX11_ticksTaking 4 = .ok (.aload_n 0, 1) := by decide +kernel
theorem dX11_ticksTaking_5 : decode cX11_ticksTaking 5 = .ok (.getfield 7, 3) := by decide +kernel
theorem dX11_ticksTaking_8 : decode cX11_ticksTaking 8 = .ok (.bipush 18, 2) := by decide +kernel
theorem dX11_ticksTaking_10 : decode cX11_ticksTaking 10 = .ok (.iaload, 1) := by decide +kernel
theorem dX11_ticksTaking_11 : decode cX11_ticksTaking 11 = .ok (.ifCond .le 11, 3) := by decide +kernel
theorem dX11_ticksTaking_14 : decode cX11_ticksTaking 14 = .ok (.aload_n 0, 1) := by decide +kernel
theorem dX11_ticksTaking_15 : decode cX11_ticksTaking 15 = .ok (.invokevirtual 200, 3) := by decide +kernel
theorem dX11_ticksTaking_18 : decode cX11_ticksTaking 18 = .ok (.pop, 1) := by decide +kernel
theorem dX11_ticksTaking_19 : decode cX11_ticksTaking 19 = .ok (.goto (-15), 3) := by decide +kernel
theorem dX11_ticksTaking_22 : decode cX11_ticksTaking 22 = .ok (.return_, 1) := by decide +kernel
theorem dX11_isThrough_0 : decode cX11_isThrough 0 = .ok (.aload_n 0, 1) := by decide +kernel
theorem dX11_isThrough_1 : decode cX11_isThrough 1 = .ok (.getfield 7, 3) := by decide +kernel
theorem dX11_isThrough_4 : decode cX11_isThrough 4 = .ok (.bipush 24, 2) := by decide +kernel
theorem dX11_isThrough_6 : decode cX11_isThrough 6 = .ok (.iaload, 1) := by decide +kernel
theorem dX11_isThrough_7 : decode cX11_isThrough 7 = .ok (.ifCond .ne 25, 3) := by decide +kernel
theorem dX11_isThrough_10 : decode cX11_isThrough 10 = .ok (.aload_n 0, 1) := by decide +kernel
theorem dX11_isThrough_11 : decode cX11_isThrough 11 = .ok (.getfield 7, 3) := by decide +kernel
theorem dX11_isThrough_14 : decode cX11_isThrough 14 = .ok (.bipush 25, 2) := by decide +kernel
theorem dX11_isThrough_16 : decode cX11_isThrough 16 = .ok (.iaload, 1) := by decide +kernel
theorem dX11_isThrough_17 : decode cX11_isThrough 17 = .ok (.ifCond .ne 15, 3) := by decide +kernel
theorem dX11_isThrough_20 : decode cX11_isThrough 20 = .ok (.aload_n 0, 1) := by decide +kernel
theorem dX11_isThrough_21 : decode cX11_isThrough 21 = .ok (.invokevirtual 87, 3) := by decide +kernel
theorem dX11_isThrough_24 : decode cX11_isThrough 24 = .ok (.iconst 1, 1) := by decide +kernel
theorem dX11_isThrough_25 : decode cX11_isThrough 25 = .ok (.if_icmp .ne 7, 3) := by decide +kernel
theorem dX11_isThrough_28 : decode cX11_isThrough 28 = .ok (.iconst 1, 1) := by decide +kernel
theorem dX11_isThrough_29 : decode cX11_isThrough 29 = .ok (.goto 4, 3) := by decide +kernel
theorem dX11_isThrough_32 : decode cX11_isThrough 32 = .ok (.iconst 0, 1) := by decide +kernel
theorem dX11_isThrough_33 : decode cX11_isThrough 33 = .ok (.ireturn, 1) := by decide +kernel
theorem dX11_soon_0 : decode cX11_soon 0 = .ok (.aload_n 0, 1) := by decide +kernel
theorem dX11_soon_1 : decode cX11_soon 1 = .ok (.iconst 0, 1) := by decide +kernel
theorem dX11_soon_2 : decode cX11_soon 2 = .ok (.putfield 41, 3) := by decide +kernel
theorem dX11_soon_5 : decode cX11_soon 5 = .ok (.aload_n 0, 1) := by decide +kernel
theorem dX11_soon_6 : decode cX11_soon 6 = .ok (.invokevirtual 273, 3) := by decide +kernel
theorem dX11_soon_9 : decode cX11_soon 9 = .ok (.iconst 0, 1) := by decide +kernel
theorem dX11_soon_10 : decode cX11_soon 10 = .ok (.istore_n 1, 1) := by decide +kernel
theorem dX11_soon_11 : decode cX11_soon 11 = .ok (.iload_n 1, 1) := by decide +kernel
theorem dX11_soon_12 : decode cX11_soon 12 = .ok (.sipush 400, 3) := by decide +kernel
theorem dX11_soon_15 : decode cX11_soon 15 = .ok (.if_icmp .ge 21, 3) := by decide +kernel
theorem dX11_soon_18 : decode cX11_soon 18 = .ok (.aload_n 0, 1) := by decide +kernel
theorem dX11_soon_19 : decode cX11_soon 19 = .ok (.invokevirtual 276, 3) := by decide +kernel
theorem dX11_soon_22 : decode cX11_soon 22 = .ok (.ifCond .ne 14, 3) := by decide +kernel
theorem dX11_soon_25 : decode cX11_soon 25 = .ok (.aload_n 0, 1) := by decide +kernel
theorem dX11_soon_26 : decode cX11_soon 26 = .ok (.invokevirtual 279, 3) := by decide +kernel
theorem dX11_soon_29 : decode cX11_soon 29 = .ok (.iload_n 1, 1) := by decide +kernel
theorem dX11_soon_30 : decode cX11_soon 30 = .ok (.iconst 1, 1) := by decide +kernel
theorem dX11_soon_31 : decode cX11_soon 31 = .ok (.iadd, 1) := by decide +kernel
theorem dX11_soon_32 : decode cX11_soon 32 = .ok (.istore_n 1, 1) := by decide +kernel
theorem dX11_soon_33 : decode cX11_soon 33 = .ok (.goto (-22), 3) := by decide +kernel
theorem dX11_soon_36 : decode cX11_soon 36 = .ok (.aload_n 0, 1) := by decide +kernel
theorem dX11_soon_37 : decode cX11_soon 37 = .ok (.invokevirtual 276, 3) := by decide +kernel
theorem dX11_soon_40 : decode cX11_soon 40 = .ok (.ifCond .eq 7, 3) := by decide +kernel
theorem dX11_soon_43 : decode cX11_soon 43 = .ok (.iload_n 1, 1) := by decide +kernel
theorem dX11_soon_44 : decode cX11_soon 44 = .ok (.goto 4, 3) := by decide +kernel
theorem dX11_soon_47 : decode cX11_soon 47 = .ok (.iconst (-1), 1) := by decide +kernel
theorem dX11_soon_48 : decode cX11_soon 48 = .ok (.istore_n 2, 1) := by decide +kernel
theorem dX11_soon_49 : decode cX11_soon 49 = .ok (.aload_n 0, 1) := by decide +kernel
theorem dX11_soon_50 : decode cX11_soon 50 = .ok (.invokevirtual 282, 3) := by decide +kernel
theorem dX11_soon_53 : decode cX11_soon 53 = .ok (.iload_n 2, 1) := by decide +kernel
theorem dX11_soon_54 : decode cX11_soon 54 = .ok (.ireturn, 1) := by decide +kernel
theorem dX11_leads_0 : decode cX11_leads 0 = .ok (.iload_n 1, 1) := by decide +kernel
theorem dX11_leads_1 : decode cX11_leads 1 = .ok (.iconst 4, 1) := by decide +kernel
theorem dX11_leads_2 : decode cX11_leads 2 = .ok (.if_icmp .ge 34, 3) := by decide +kernel
theorem dX11_leads_5 : decode cX11_leads 5 = .ok (.aload_n 0, 1) := by decide +kernel
theorem dX11_leads_6 : decode cX11_leads 6 = .ok (.invokevirtual 87, 3) := by decide +kernel
theorem dX11_leads_9 : decode cX11_leads 9 = .ok (.bipush 6, 2) := by decide +kernel
theorem dX11_leads_11 : decode cX11_leads 11 = .ok (.if_icmp .eq 9, 3) := by decide +kernel
theorem dX11_leads_14 : decode cX11_leads 14 = .ok (.aload_n 0, 1) := by decide +kernel
theorem dX11_leads_15 : decode cX11_leads 15 = .ok (.bipush 6, 2) := by decide +kernel
theorem dX11_leads_17 : decode cX11_leads 17 = .ok (.invokevirtual 96, 3) := by decide +kernel
theorem dX11_leads_20 : decode cX11_leads 20 = .ok (.aload_n 0, 1) := by decide +kernel
theorem dX11_leads_21 : decode cX11_leads 21 = .ok (.iload_n 1, 1) := by decide +kernel
theorem dX11_leads_22 : decode cX11_leads 22 = .ok (.aload_n 0, 1) := by decide +kernel
theorem dX11_leads_23 : decode cX11_leads 23 = .ok (.getfield 7, 3) := by decide +kernel
theorem dX11_leads_26 : decode cX11_leads 26 = .ok (.bipush 13, 2) := by decide +kernel
theorem dX11_leads_28 : decode cX11_leads 28 = .ok (.iaload, 1) := by decide +kernel
theorem dX11_leads_29 : decode cX11_leads 29 = .ok (.invokevirtual 285, 3) := by decide +kernel
theorem dX11_leads_32 : decode cX11_leads 32 = .ok (.pop, 1) := by decide +kernel
theorem dX11_leads_33 : decode cX11_leads 33 = .ok (.goto 22, 3) := by decide +kernel
theorem dX11_leads_36 : decode cX11_leads 36 = .ok (.aload_n 0, 1) := by decide +kernel
theorem dX11_leads_37 : decode cX11_leads 37 = .ok (.getfield 7, 3) := by decide +kernel
theorem dX11_leads_40 : decode cX11_leads 40 = .ok (.bipush 32, 2) := by decide +kernel
theorem dX11_leads_42 : decode cX11_leads 42 = .ok (.iaload, 1) := by decide +kernel
theorem dX11_leads_43 : decode cX11_leads 43 = .ok (.ifCond .le 10, 3) := by decide +kernel
theorem dX11_leads_46 : decode cX11_leads 46 = .ok (.aload_n 0, 1) := by decide +kernel
theorem dX11_leads_47 : decode cX11_leads 47 = .ok (.invokevirtual 122, 3) := by decide +kernel
theorem dX11_leads_50 : decode cX11_leads 50 = .ok (.goto 5, 3) := by decide +kernel
theorem dX11_leads_53 : decode cX11_leads 53 = .ok (.iconst 0, 1) := by decide +kernel
theorem dX11_leads_54 : decode cX11_leads 54 = .ok (.ireturn, 1) := by decide +kernel
theorem dX11_leads_55 : decode cX11_leads 55 = .ok (.iconst 0, 1) := by decide +kernel
theorem dX11_leads_56 : decode cX11_leads 56 = .ok (.istore_n 2, 1) := by decide +kernel
theorem dX11_leads_57 : decode cX11_leads 57 = .ok (.iload_n 2, 1) := by decide +kernel
theorem dX11_leads_58 : decode cX11_leads 58 = .ok (.bipush 100, 2) := by decide +kernel
theorem dX11_leads_60 : decode cX11_leads 60 = .ok (.if_icmp .ge 13, 3) := by decide +kernel
theorem dX11_leads_63 : decode cX11_leads 63 = .ok (.aload_n 0, 1) := by decide +kernel
theorem dX11_leads_64 : decode cX11_leads 64 = .ok (.invokevirtual 279, 3) := by decide +kernel
theorem dX11_leads_67 : decode cX11_leads 67 = .ok (.iinc 2 1, 3) := by decide +kernel
theorem dX11_leads_70 : decode cX11_leads 70 = .ok (.goto (-13), 3) := by decide +kernel
theorem dX11_leads_73 : decode cX11_leads 73 = .ok (.aload_n 0, 1) := by decide +kernel
theorem dX11_leads_74 : decode cX11_leads 74 = .ok (.invokevirtual 87, 3) := by decide +kernel
theorem dX11_leads_77 : decode cX11_leads 77 = .ok (.iconst 1, 1) := by decide +kernel
theorem dX11_leads_78 : decode cX11_leads 78 = .ok (.if_icmp .ne 44, 3) := by decide +kernel
theorem dX11_leads_81 : decode cX11_leads 81 = .ok (.aload_n 0, 1) := by decide +kernel
theorem dX11_leads_82 : decode cX11_leads 82 = .ok (.getfield 7, 3) := by decide +kernel
theorem dX11_leads_85 : decode cX11_leads 85 = .ok (.bipush 14, 2) := by decide +kernel
theorem dX11_leads_87 : decode cX11_leads 87 = .ok (.iaload, 1) := by decide +kernel
theorem dX11_leads_88 : decode cX11_leads 88 = .ok (.ifCond .ne 34, 3) := by decide +kernel
theorem dX11_leads_91 : decode cX11_leads 91 = .ok (.aload_n 0, 1) := by decide +kernel
theorem dX11_leads_92 : decode cX11_leads 92 = .ok (.getfield 7, 3) := by decide +kernel
theorem dX11_leads_95 : decode cX11_leads 95 = .ok (.bipush 25, 2) := by decide +kernel
theorem dX11_leads_97 : decode cX11_leads 97 = .ok (.iaload, 1) := by decide +kernel
theorem dX11_leads_98 : decode cX11_leads 98 = .ok (.ifCond .ne 24, 3) := by decide +kernel
theorem dX11_leads_101 : decode cX11_leads 101 = .ok (.aload_n 0, 1) := by decide +kernel
theorem dX11_leads_102 : decode cX11_leads 102 = .ok (.getfield 7, 3) := by decide +kernel
theorem dX11_leads_105 : decode cX11_leads 105 = .ok (.bipush 22, 2) := by decide +kernel
theorem dX11_leads_107 : decode cX11_leads 107 = .ok (.iaload, 1) := by decide +kernel
theorem dX11_leads_108 : decode cX11_leads 108 = .ok (.aload_n 0, 1) := by decide +kernel
theorem dX11_leads_109 : decode cX11_leads 109 = .ok (.getfield 7, 3) := by decide +kernel
theorem dX11_leads_112 : decode cX11_leads 112 = .ok (.bipush 13, 2) := by decide +kernel
theorem dX11_leads_114 : decode cX11_leads 114 = .ok (.iaload, 1) := by decide +kernel
theorem dX11_leads_115 : decode cX11_leads 115 = .ok (.if_icmp .ne 7, 3) := by decide +kernel
theorem dX11_leads_118 : decode cX11_leads 118 = .ok (.iconst 1, 1) := by decide +kernel
theorem dX11_leads_119 : decode cX11_leads 119 = .ok (.goto 4, 3) := by decide +kernel
theorem dX11_leads_122 : decode cX11_leads 122 = .ok (.iconst 0, 1) := by decide +kernel
theorem dX11_leads_123 : decode cX11_leads 123 = .ok (.ireturn, 1) := by decide +kernel
theorem dX11_ways_0 : decode cX11_ways 0 = .ok (.aload_n 0, 1) := by decide +kernel
theorem dX11_ways_1 : decode cX11_ways 1 = .ok (.iconst 0, 1) := by decide +kernel
theorem dX11_ways_2 : decode cX11_ways 2 = .ok (.putfield 41, 3) := by decide +kernel
theorem dX11_ways_5 : decode cX11_ways 5 = .ok (.iconst 0, 1) := by decide +kernel
theorem dX11_ways_6 : decode cX11_ways 6 = .ok (.istore_n 1, 1) := by decide +kernel
theorem dX11_ways_7 : decode cX11_ways 7 = .ok (.iconst 0, 1) := by decide +kernel
theorem dX11_ways_8 : decode cX11_ways 8 = .ok (.istore_n 2, 1) := by decide +kernel
theorem dX11_ways_9 : decode cX11_ways 9 = .ok (.iload_n 2, 1) := by decide +kernel
theorem dX11_ways_10 : decode cX11_ways 10 = .ok (.iconst 5, 1) := by decide +kernel
theorem dX11_ways_11 : decode cX11_ways 11 = .ok (.if_icmp .ge 31, 3) := by decide +kernel
theorem dX11_ways_14 : decode cX11_ways 14 = .ok (.aload_n 0, 1) := by decide +kernel
theorem dX11_ways_15 : decode cX11_ways 15 = .ok (.invokevirtual 273, 3) := by decide +kernel
theorem dX11_ways_18 : decode cX11_ways 18 = .ok (.aload_n 0, 1) := by decide +kernel
theorem dX11_ways_19 : decode cX11_ways 19 = .ok (.iload_n 2, 1) := by decide +kernel
theorem dX11_ways_20 : decode cX11_ways 20 = .ok (.invokevirtual 288, 3) := by decide +kernel
theorem dX11_ways_23 : decode cX11_ways 23 = .ok (.ifCond .eq 9, 3) := by decide +kernel
theorem dX11_ways_26 : decode cX11_ways 26 = .ok (.iload_n 1, 1) := by decide +kernel
theorem dX11_ways_27 : decode cX11_ways 27 = .ok (.iconst 1, 1) := by decide +kernel
theorem dX11_ways_28 : decode cX11_ways 28 = .ok (.iload_n 2, 1) := by decide +kernel
theorem dX11_ways_29 : decode cX11_ways 29 = .ok (.ishl, 1) := by decide +kernel
theorem dX11_ways_30 : decode cX11_ways 30 = .ok (.ior, 1) := by decide +kernel
theorem dX11_ways_31 : decode cX11_ways 31 = .ok (.istore_n 1, 1) := by decide +kernel
theorem dX11_ways_32 : decode cX11_ways 32 = .ok (.aload_n 0, 1) := by decide +kernel
theorem dX11_ways_33 : decode cX11_ways 33 = .ok (.invokevirtual 282, 3) := by decide +kernel
theorem dX11_ways_36 : decode cX11_ways 36 = .ok (.iinc 2 1, 3) := by decide +kernel
theorem dX11_ways_39 : decode cX11_ways 39 = .ok (.goto (-30), 3) := by decide +kernel
theorem dX11_ways_42 : decode cX11_ways 42 = .ok (.iload_n 1, 1) := by decide +kernel
theorem dX11_ways_43 : decode cX11_ways 43 = .ok (.ireturn, 1) := by decide +kernel
theorem dX11_says_0 : decode cX11_says 0 = .ok (.aload_n 0, 1) := by decide +kernel
theorem dX11_says_1 : decode cX11_says 1 = .ok (.getfield 22, 3) := by decide +kernel
theorem dX11_says_4 : decode cX11_says 4 = .ok (.aload_n 0, 1) := by decide +kernel
theorem dX11_says_5 : decode cX11_says 5 = .ok (.getfield 291, 3) := by decide +kernel
theorem dX11_says_8 : decode cX11_says 8 = .ok (.iload_n 1, 1) := by decide +kernel
theorem dX11_says_9 : decode cX11_says 9 = .ok (.iastore, 1) := by decide +kernel
theorem dX11_says_10 : decode cX11_says 10 = .ok (.aload_n 0, 1) := by decide +kernel
theorem dX11_says_11 : decode cX11_says 11 = .ok (.aload_n 0, 1) := by decide +kernel
theorem dX11_says_12 : decode cX11_says 12 = .ok (.getfield 291, 3) := by decide +kernel
theorem dX11_says_15 : decode cX11_says 15 = .ok (.iconst 1, 1) := by decide +kernel
theorem dX11_says_16 : decode cX11_says 16 = .ok (.iadd, 1) := by decide +kernel
theorem dX11_says_17 : decode cX11_says 17 = .ok (.putfield 291, 3) := by decide +kernel
theorem dX11_says_20 : decode cX11_says 20 = .ok (.return_, 1) := by decide +kernel
theorem dX11_saysName_0 : decode cX11_saysName 0 = .ok (.iconst 0, 1) := by decide +kernel
theorem dX11_saysName_1 : decode cX11_saysName 1 = .ok (.istore_n 2, 1) := by decide +kernel
theorem dX11_saysName_2 : decode cX11_saysName 2 = .ok (.iconst 0, 1) := by decide +kernel
theorem dX11_saysName_3 : decode cX11_saysName 3 = .ok (.istore_n 3, 1) := by decide +kernel
theorem dX11_saysName_4 : decode cX11_saysName 4 = .ok (.iload_n 3, 1) := by decide +kernel
theorem dX11_saysName_5 : decode cX11_saysName 5 = .ok (.iload_n 1, 1) := by decide +kernel
theorem dX11_saysName_6 : decode cX11_saysName 6 = .ok (.if_icmp .ge 26, 3) := by decide +kernel
theorem dX11_saysName_9 : decode cX11_saysName 9 = .ok (.aload_n 0, 1) := by decide +kernel
theorem dX11_saysName_10 : decode cX11_saysName 10 = .ok (.getfield 19, 3) := by decide +kernel
theorem dX11_saysName_13 : decode cX11_saysName 13 = .ok (.iload_n 2, 1) := by decide +kernel
theorem dX11_saysName_14 : decode cX11_saysName 14 = .ok (.iconst 1, 1) := by decide +kernel
theorem dX11_saysName_15 : decode cX11_saysName 15 = .ok (.iadd, 1) := by decide +kernel
theorem dX11_saysName_16 : decode cX11_saysName 16 = .ok (.iaload, 1) := by decide +kernel
theorem dX11_saysName_17 : decode cX11_saysName 17 = .ok (.bipush 32, 2) := by decide +kernel
theorem dX11_saysName_19 : decode cX11_saysName 19 = .ok (.if_icmp .ne 7, 3) := by decide +kernel
theorem dX11_saysName_22 : decode cX11_saysName 22 = .ok (.iload_n 3, 1) := by decide +kernel
theorem dX11_saysName_23 : decode cX11_saysName 23 = .ok (.iconst 1, 1) := by decide +kernel
theorem dX11_saysName_24 : decode cX11_saysName 24 = .ok (.iadd, 1) := by decide +kernel
theorem dX11_saysName_25 : decode cX11_saysName 25 = .ok (.istore_n 3, 1) := by decide +kernel
theorem dX11_saysName_26 : decode cX11_saysName 26 = .ok (.iinc 2 1, 3) := by decide +kernel
theorem dX11_saysName_29 : decode cX11_saysName 29 = .ok (.goto (-25), 3) := by decide +kernel
theorem dX11_saysName_32 : decode cX11_saysName 32 = .ok (.iload_n 2, 1) := by decide +kernel
theorem dX11_saysName_33 : decode cX11_saysName 33 = .ok (.iconst 1, 1) := by decide +kernel
theorem dX11_saysName_34 : decode cX11_saysName 34 = .ok (.iadd, 1) := by decide +kernel
theorem dX11_saysName_35 : decode cX11_saysName 35 = .ok (.istore_n 3, 1) := by decide +kernel
theorem dX11_saysName_36 : decode cX11_saysName 36 = .ok (.aload_n 0, 1) := by decide +kernel
theorem dX11_saysName_37 : decode cX11_saysName 37 = .ok (.getfield 19, 3) := by decide +kernel
theorem dX11_saysName_40 : decode cX11_saysName 40 = .ok (.iload_n 3, 1) := by decide +kernel
theorem dX11_saysName_41 : decode cX11_saysName 41 = .ok (.iaload, 1) := by decide +kernel
theorem dX11_saysName_42 : decode cX11_saysName 42 = .ok (.bipush 32, 2) := by decide +kernel
theorem dX11_saysName_44 : decode cX11_saysName 44 = .ok (.if_icmp .eq 19, 3) := by decide +kernel
theorem dX11_saysName_47 : decode cX11_saysName 47 = .ok (.aload_n 0, 1) := by decide +kernel
theorem dX11_saysName_48 : decode cX11_saysName 48 = .ok (.aload_n 0, 1) := by decide +kernel
theorem dX11_saysName_49 : decode cX11_saysName 49 = .ok (.getfield 19, 3) := by decide +kernel
theorem dX11_saysName_52 : decode cX11_saysName 52 = .ok (.iload_n 3, 1) := by decide +kernel
theorem dX11_saysName_53 : decode cX11_saysName 53 = .ok (.iaload, 1) := by decide +kernel
theorem dX11_saysName_54 : decode cX11_saysName 54 = .ok (.invokevirtual 294, 3) := by decide +kernel
theorem dX11_saysName_57 : decode cX11_saysName 57 = .ok (.iinc 3 1, 3) := by decide +kernel
theorem dX11_saysName_60 : decode cX11_saysName 60 = .ok (.goto (-24), 3) := by decide +kernel
theorem dX11_saysName_63 : decode cX11_saysName 63 = .ok (.return_, 1) := by decide +kernel
theorem dX11_saysNumber_0 : decode cX11_saysNumber 0 = .ok (.iload_n 1, 1) := by decide +kernel
theorem dX11_saysNumber_1 : decode cX11_saysNumber 1 = .ok (.bipush 99, 2) := by decide +kernel
theorem dX11_saysNumber_3 : decode cX11_saysNumber 3 = .ok (.if_icmp .le 14, 3) := by decide +kernel
theorem dX11_saysNumber_6 : decode cX11_saysNumber 6 = .ok (.aload_n 0, 1) := by decide +kernel
theorem dX11_saysNumber_7 : decode cX11_saysNumber 7 = .ok (.bipush 48, 2) := by decide +kernel
theorem dX11_saysNumber_9 : decode cX11_saysNumber 9 = .ok (.iload_n 1, 1) := by decide +kernel
theorem dX11_saysNumber_10 : decode cX11_saysNumber 10 = .ok (.bipush 100, 2) := by decide +kernel
theorem dX11_saysNumber_12 : decode cX11_saysNumber 12 = .ok (.idiv, 1) := by decide +kernel
theorem dX11_saysNumber_13 : decode cX11_saysNumber 13 = .ok (.iadd, 1) := by decide +kernel
theorem dX11_saysNumber_14 : decode cX11_saysNumber 14 = .ok (.invokevirtual 294, 3) := by decide +kernel
theorem dX11_saysNumber_17 : decode cX11_saysNumber 17 = .ok (.iload_n 1, 1) := by decide +kernel
theorem dX11_saysNumber_18 : decode cX11_saysNumber 18 = .ok (.bipush 9, 2) := by decide +kernel
theorem dX11_saysNumber_20 : decode cX11_saysNumber 20 = .ok (.if_icmp .le 17, 3) := by decide +kernel
theorem dX11_saysNumber_23 : decode cX11_saysNumber 23 = .ok (.aload_n 0, 1) := by decide +kernel
theorem dX11_saysNumber_24 : decode cX11_saysNumber 24 = .ok (.bipush 48, 2) := by decide +kernel
theorem dX11_saysNumber_26 : decode cX11_saysNumber 26 = .ok (.iload_n 1, 1) := by decide +kernel
theorem dX11_saysNumber_27 : decode cX11_saysNumber 27 = .ok (.bipush 10, 2) := by decide +kernel
theorem dX11_saysNumber_29 : decode cX11_saysNumber 29 = .ok (.idiv, 1) := by decide +kernel
theorem dX11_saysNumber_30 : decode cX11_saysNumber 30 = .ok (.bipush 10, 2) := by decide +kernel
theorem dX11_saysNumber_32 : decode cX11_saysNumber 32 = .ok (.irem, 1) := by decide +kernel
theorem dX11_saysNumber_33 : decode cX11_saysNumber 33 = .ok (.iadd, 1) := by decide +kernel
theorem dX11_saysNumber_34 : decode cX11_saysNumber 34 = .ok (.invokevirtual 294, 3) := by decide +kernel
theorem dX11_saysNumber_37 : decode cX11_saysNumber 37 = .ok (.aload_n 0, 1) := by decide +kernel
theorem dX11_saysNumber_38 : decode cX11_saysNumber 38 = .ok (.bipush 48, 2) := by decide +kernel
theorem dX11_saysNumber_40 : decode cX11_saysNumber 40 = .ok (.iload_n 1, 1) := by decide +kernel
theorem dX11_saysNumber_41 : decode cX11_saysNumber 41 = .ok (.bipush 10, 2) := by decide +kernel
theorem dX11_saysNumber_43 : decode cX11_saysNumber 43 = .ok (.irem, 1) := by decide +kernel
theorem dX11_saysNumber_44 : decode cX11_saysNumber 44 = .ok (.iadd, 1) := by decide +kernel
theorem dX11_saysNumber_45 : decode cX11_saysNumber 45 = .ok (.invokevirtual 294, 3) := by decide +kernel
theorem dX11_saysNumber_48 : decode cX11_saysNumber 48 = .ok (.return_, 1) := by decide +kernel
theorem dX11_saysReport_0 : decode cX11_saysReport 0 = .ok (.aload_n 0, 1) := by decide +kernel
theorem dX11_saysReport_1 : decode cX11_saysReport 1 = .ok (.getfield 7, 3) := by decide +kernel
theorem dX11_saysReport_4 : decode cX11_saysReport 4 = .ok (.bipush 45, 2) := by decide +kernel
theorem dX11_saysReport_6 : decode cX11_saysReport 6 = .ok (.iaload, 1) := by decide +kernel
theorem dX11_saysReport_7 : decode cX11_saysReport 7 = .ok (.iconst 1, 1) := by decide +kernel
theorem dX11_saysReport_8 : decode cX11_saysReport 8 = .ok (.if_icmp .ne 9, 3) := by decide +kernel
theorem dX11_saysReport_11 : decode cX11_saysReport 11 = .ok (.aload_n 0, 1) := by decide +kernel
theorem dX11_saysReport_12 : decode cX11_saysReport 12 = .ok (.bipush 63, 2) := by decide +kernel
theorem dX11_saysReport_14 : decode cX11_saysReport 14 = .ok (.invokevirtual 294, 3) := by decide +kernel
theorem dX11_saysReport_17 : decode cX11_saysReport 17 = .ok (.aload_n 0, 1) := by decide +kernel
theorem dX11_saysReport_18 : decode cX11_saysReport 18 = .ok (.getfield 7, 3) := by decide +kernel
theorem dX11_saysReport_21 : decode cX11_saysReport 21 = .ok (.bipush 45, 2) := by decide +kernel
theorem dX11_saysReport_23 : decode cX11_saysReport 23 = .ok (.iaload, 1) := by decide +kernel
theorem dX11_saysReport_24 : decode cX11_saysReport 24 = .ok (.iconst 2, 1) := by decide +kernel
theorem dX11_saysReport_25 : decode cX11_saysReport 25 = .ok (.if_icmp .eq 4, 3) := by decide +kernel
theorem dX11_saysReport_28 : decode cX11_saysReport 28 = .ok (.return_, 1) := by decide +kernel
theorem dX11_saysReport_29 : decode cX11_saysReport 29 = .ok (.aload_n 0, 1) := by decide +kernel
theorem dX11_saysReport_30 : decode cX11_saysReport 30 = .ok (.getfield 7, 3) := by decide +kernel
theorem dX11_saysReport_33 : decode cX11_saysReport 33 = .ok (.bipush 46, 2) := by decide +kernel
theorem dX11_saysReport_35 : decode cX11_saysReport 35 = .ok (.iaload, 1) := by decide +kernel
theorem dX11_saysReport_36 : decode cX11_saysReport 36 = .ok (.istore_n 1, 1) := by decide +kernel
theorem dX11_saysReport_37 : decode cX11_saysReport 37 = .ok (.aload_n 0, 1) := by decide +kernel
theorem dX11_saysReport_38 : decode cX11_saysReport 38 = .ok (.iload_n 1, 1) := by decide +kernel
theorem dX11_saysReport_39 : decode cX11_saysReport 39 = .ok (.iconst 1, 1) := by decide +kernel
theorem dX11_saysReport_40 : decode cX11_saysReport 40 = .ok (.iand, 1) := by decide +kernel
theorem dX11_saysReport_41 : decode cX11_saysReport 41 = .ok (.ifCond .le 8, 3) := by decide +kernel
theorem dX11_saysReport_44 : decode cX11_saysReport 44 = .ok (.bipush 76, 2) := by decide +kernel
theorem dX11_saysReport_46 : decode cX11_saysReport 46 = .ok (.goto 5, 3) := by decide +kernel
theorem dX11_saysReport_49 : decode cX11_saysReport 49 = .ok (.bipush 45, 2) := by decide +kernel
theorem dX11_saysReport_51 : decode cX11_saysReport 51 = .ok (.invokevirtual 294, 3) := by decide +kernel
theorem dX11_saysReport_54 : decode cX11_saysReport 54 = .ok (.aload_n 0, 1) := by decide +kernel
theorem dX11_saysReport_55 : decode cX11_saysReport 55 = .ok (.iload_n 1, 1) := by decide +kernel
theorem dX11_saysReport_56 : decode cX11_saysReport 56 = .ok (.iconst 2, 1) := by decide +kernel
theorem dX11_saysReport_57 : decode cX11_saysReport 57 = .ok (.iand, 1) := by decide +kernel
theorem dX11_saysReport_58 : decode cX11_saysReport 58 = .ok (.ifCond .le 8, 3) := by decide +kernel
theorem dX11_saysReport_61 : decode cX11_saysReport 61 = .ok (.bipush 87, 2) := by decide +kernel
theorem dX11_saysReport_63 : decode cX11_saysReport 63 = .ok (.goto 5, 3) := by decide +kernel
theorem dX11_saysReport_66 : decode cX11_saysReport 66 = .ok (.bipush 45, 2) := by decide +kernel
theorem dX11_saysReport_68 : decode cX11_saysReport 68 = .ok (.invokevirtual 294, 3) := by decide +kernel
theorem dX11_saysReport_71 : decode cX11_saysReport 71 = .ok (.aload_n 0, 1) := by decide +kernel
theorem dX11_saysReport_72 : decode cX11_saysReport 72 = .ok (.iload_n 1, 1) := by decide +kernel
theorem dX11_saysReport_73 : decode cX11_saysReport 73 = .ok (.iconst 4, 1) := by decide +kernel
theorem dX11_saysReport_74 : decode cX11_saysReport 74 = .ok (.iand, 1) := by decide +kernel
theorem dX11_saysReport_75 : decode cX11_saysReport 75 = .ok (.ifCond .le 8, 3) := by decide +kernel
theorem dX11_saysReport_78 : decode cX11_saysReport 78 = .ok (.bipush 82, 2) := by decide +kernel
theorem dX11_saysReport_80 : decode cX11_saysReport 80 = .ok (.goto 5, 3) := by decide +kernel
theorem dX11_saysReport_83 : decode cX11_saysReport 83 = .ok (.bipush 45, 2) := by decide +kernel
theorem dX11_saysReport_85 : decode cX11_saysReport 85 = .ok (.invokevirtual 294, 3) := by decide +kernel
theorem dX11_saysReport_88 : decode cX11_saysReport 88 = .ok (.aload_n 0, 1) := by decide +kernel
theorem dX11_saysReport_89 : decode cX11_saysReport 89 = .ok (.iload_n 1, 1) := by decide +kernel
theorem dX11_saysReport_90 : decode cX11_saysReport 90 = .ok (.bipush 8, 2) := by decide +kernel
theorem dX11_saysReport_92 : decode cX11_saysReport 92 = .ok (.idiv, 1) := by decide +kernel
theorem dX11_saysReport_93 : decode cX11_saysReport 93 = .ok (.invokevirtual 297, 3) := by decide +kernel
theorem dX11_saysReport_96 : decode cX11_saysReport 96 = .ok (.aload_n 0, 1) := by decide +kernel
theorem dX11_saysReport_97 : decode cX11_saysReport 97 = .ok (.bipush 32, 2) := by decide +kernel
theorem dX11_saysReport_99 : decode cX11_saysReport 99 = .ok (.invokevirtual 294, 3) := by decide +kernel
theorem dX11_saysReport_102 : decode cX11_saysReport 102 = .ok (.aload_n 0, 1) := by decide +kernel
theorem dX11_saysReport_103 : decode cX11_saysReport 103 = .ok (.aload_n 0, 1) := by decide +kernel
theorem dX11_saysReport_104 : decode cX11_saysReport 104 = .ok (.getfield 7, 3) := by decide +kernel
theorem dX11_saysReport_107 : decode cX11_saysReport 107 = .ok (.bipush 47, 2) := by decide +kernel
theorem dX11_saysReport_109 : decode cX11_saysReport 109 = .ok (.iaload, 1) := by decide +kernel
theorem dX11_saysReport_110 : decode cX11_saysReport 110 = .ok (.invokevirtual 297, 3) := by decide +kernel
theorem dX11_saysReport_113 : decode cX11_saysReport 113 = .ok (.return_, 1) := by decide +kernel
theorem dX11_saysSender_0 : decode cX11_saysSender 0 = .ok (.aload_n 0, 1) := by decide +kernel
theorem dX11_saysSender_1 : decode cX11_saysSender 1 = .ok (.aload_n 0, 1) := by decide +kernel
theorem dX11_saysSender_2 : decode cX11_saysSender 2 = .ok (.invokevirtual 87, 3) := by decide +kernel
theorem dX11_saysSender_5 : decode cX11_saysSender 5 = .ok (.iconst 1, 1) := by decide +kernel
theorem dX11_saysSender_6 : decode cX11_saysSender 6 = .ok (.isub, 1) := by decide +kernel
theorem dX11_saysSender_7 : decode cX11_saysSender 7 = .ok (.invokevirtual 300, 3) := by decide +kernel
theorem dX11_saysSender_10 : decode cX11_saysSender 10 = .ok (.aload_n 0, 1) := by decide +kernel
theorem dX11_saysSender_11 : decode cX11_saysSender 11 = .ok (.bipush 32, 2) := by decide +kernel
theorem dX11_saysSender_13 : decode cX11_saysSender 13 = .ok (.invokevirtual 294, 3) := by decide +kernel
theorem dX11_saysSender_16 : decode cX11_saysSender 16 = .ok (.aload_n 0, 1) := by decide +kernel
theorem dX11_saysSender_17 : decode cX11_saysSender 17 = .ok (.aload_n 0, 1) := by decide +kernel
theorem dX11_saysSender_18 : decode cX11_saysSender 18 = .ok (.getfield 7, 3) := by decide +kernel
theorem dX11_saysSender_21 : decode cX11_saysSender 21 = .ok (.bipush 25, 2) := by decide +kernel
theorem dX11_saysSender_23 : decode cX11_saysSender 23 = .ok (.iaload, 1) := by decide +kernel
theorem dX11_saysSender_24 : decode cX11_saysSender 24 = .ok (.invokevirtual 297, 3) := by decide +kernel
theorem dX11_saysSender_27 : decode cX11_saysSender 27 = .ok (.aload_n 0, 1) := by decide +kernel
theorem dX11_saysSender_28 : decode cX11_saysSender 28 = .ok (.bipush 47, 2) := by decide +kernel
theorem dX11_saysSender_30 : decode cX11_saysSender 30 = .ok (.invokevirtual 294, 3) := by decide +kernel
theorem dX11_saysSender_33 : decode cX11_saysSender 33 = .ok (.aload_n 0, 1) := by decide +kernel
theorem dX11_saysSender_34 : decode cX11_saysSender 34 = .ok (.aload_n 0, 1) := by decide +kernel
theorem dX11_saysSender_35 : decode cX11_saysSender 35 = .ok (.iconst 2, 1) := by decide +kernel
theorem dX11_saysSender_36 : decode cX11_saysSender 36 = .ok (.invokevirtual 102, 3) := by decide +kernel
theorem dX11_saysSender_39 : decode cX11_saysSender 39 = .ok (.invokevirtual 297, 3) := by decide +kernel
theorem dX11_saysSender_42 : decode cX11_saysSender 42 = .ok (.aload_n 0, 1) := by decide +kernel
theorem dX11_saysSender_43 : decode cX11_saysSender 43 = .ok (.bipush 32, 2) := by decide +kernel
theorem dX11_saysSender_45 : decode cX11_saysSender 45 = .ok (.invokevirtual 294, 3) := by decide +kernel
theorem dX11_saysSender_48 : decode cX11_saysSender 48 = .ok (.aload_n 0, 1) := by decide +kernel
theorem dX11_saysSender_49 : decode cX11_saysSender 49 = .ok (.bipush 35, 2) := by decide +kernel
theorem dX11_saysSender_51 : decode cX11_saysSender 51 = .ok (.invokevirtual 294, 3) := by decide +kernel
theorem dX11_saysSender_54 : decode cX11_saysSender 54 = .ok (.aload_n 0, 1) := by decide +kernel
theorem dX11_saysSender_55 : decode cX11_saysSender 55 = .ok (.aload_n 0, 1) := by decide +kernel
theorem dX11_saysSender_56 : decode cX11_saysSender 56 = .ok (.getfield 7, 3) := by decide +kernel
theorem dX11_saysSender_59 : decode cX11_saysSender 59 = .ok (.bipush 22, 2) := by decide +kernel
theorem dX11_saysSender_61 : decode cX11_saysSender 61 = .ok (.iaload, 1) := by decide +kernel
theorem dX11_saysSender_62 : decode cX11_saysSender 62 = .ok (.invokevirtual 297, 3) := by decide +kernel
theorem dX11_saysSender_65 : decode cX11_saysSender 65 = .ok (.aload_n 0, 1) := by decide +kernel
theorem dX11_saysSender_66 : decode cX11_saysSender 66 = .ok (.getfield 7, 3) := by decide +kernel
theorem dX11_saysSender_69 : decode cX11_saysSender 69 = .ok (.bipush 32, 2) := by decide +kernel
theorem dX11_saysSender_71 : decode cX11_saysSender 71 = .ok (.iaload, 1) := by decide +kernel
theorem dX11_saysSender_72 : decode cX11_saysSender 72 = .ok (.ifCond .ne 4, 3) := by decide +kernel
theorem dX11_saysSender_75 : decode cX11_saysSender 75 = .ok (.return_, 1) := by decide +kernel
theorem dX11_saysSender_76 : decode cX11_saysSender 76 = .ok (.aload_n 0, 1) := by decide +kernel
theorem dX11_saysSender_77 : decode cX11_saysSender 77 = .ok (.bipush 32, 2) := by decide +kernel
theorem dX11_saysSender_79 : decode cX11_saysSender 79 = .ok (.invokevirtual 294, 3) := by decide +kernel
theorem dX11_saysSender_82 : decode cX11_saysSender 82 = .ok (.aload_n 0, 1) := by decide +kernel
theorem dX11_saysSender_83 : decode cX11_saysSender 83 = .ok (.bipush 14, 2) := by decide +kernel
theorem dX11_saysSender_85 : decode cX11_saysSender 85 = .ok (.invokevirtual 300, 3) := by decide +kernel
theorem dX11_saysSender_88 : decode cX11_saysSender 88 = .ok (.aload_n 0, 1) := by decide +kernel
theorem dX11_saysSender_89 : decode cX11_saysSender 89 = .ok (.bipush 32, 2) := by decide +kernel
theorem dX11_saysSender_91 : decode cX11_saysSender 91 = .ok (.invokevirtual 294, 3) := by decide +kernel
theorem dX11_saysSender_94 : decode cX11_saysSender 94 = .ok (.aload_n 0, 1) := by decide +kernel
theorem dX11_saysSender_95 : decode cX11_saysSender 95 = .ok (.aload_n 0, 1) := by decide +kernel
theorem dX11_saysSender_96 : decode cX11_saysSender 96 = .ok (.getfield 7, 3) := by decide +kernel
theorem dX11_saysSender_99 : decode cX11_saysSender 99 = .ok (.bipush 32, 2) := by decide +kernel
theorem dX11_saysSender_101 : decode cX11_saysSender 101 = .ok (.iaload, 1) := by decide +kernel
theorem dX11_saysSender_102 : decode cX11_saysSender 102 = .ok (.iconst 1, 1) := by decide +kernel
theorem dX11_saysSender_103 : decode cX11_saysSender 103 = .ok (.isub, 1) := by decide +kernel
theorem dX11_saysSender_104 : decode cX11_saysSender 104 = .ok (.invokevirtual 300, 3) := by decide +kernel
theorem dX11_saysSender_107 : decode cX11_saysSender 107 = .ok (.return_, 1) := by decide +kernel
theorem dX11_saysReceiver_0 : decode cX11_saysReceiver 0 = .ok (.aload_n 0, 1) := by decide +kernel
theorem dX11_saysReceiver_1 : decode cX11_saysReceiver 1 = .ok (.aload_n 0, 1) := by decide +kernel
theorem dX11_saysReceiver_2 : decode cX11_saysReceiver 2 = .ok (.getfield 7, 3) := by decide +kernel
theorem dX11_saysReceiver_5 : decode cX11_saysReceiver 5 = .ok (.bipush 14, 2) := by decide +kernel
theorem dX11_saysReceiver_7 : decode cX11_saysReceiver 7 = .ok (.iaload, 1) := by decide +kernel
theorem dX11_saysReceiver_8 : decode cX11_saysReceiver 8 = .ok (.iconst 1, 1) := by decide +kernel
theorem dX11_saysReceiver_9 : decode cX11_saysReceiver 9 = .ok (.if_icmp .ne 8, 3) := by decide +kernel
theorem dX11_saysReceiver_12 : decode cX11_saysReceiver 12 = .ok (.bipush 8, 2) := by decide +kernel
theorem dX11_saysReceiver_14 : decode cX11_saysReceiver 14 = .ok (.goto 21, 3) := by decide +kernel
theorem dX11_saysReceiver_17 : decode cX11_saysReceiver 17 = .ok (.aload_n 0, 1) := by decide +kernel
theorem dX11_saysReceiver_18 : decode cX11_saysReceiver 18 = .ok (.getfield 7, 3) := by decide +kernel
theorem dX11_saysReceiver_21 : decode cX11_saysReceiver 21 = .ok (.bipush 15, 2) := by decide +kernel
theorem dX11_saysReceiver_23 : decode cX11_saysReceiver 23 = .ok (.iaload, 1) := by decide +kernel
theorem dX11_saysReceiver_24 : decode cX11_saysReceiver 24 = .ok (.iconst 1, 1) := by decide +kernel
theorem dX11_saysReceiver_25 : decode cX11_saysReceiver 25 = .ok (.if_icmp .ne 8, 3) := by decide +kernel
theorem dX11_saysReceiver_28 : decode cX11_saysReceiver 28 = .ok (.bipush 7, 2) := by decide +kernel
theorem dX11_saysReceiver_30 : decode cX11_saysReceiver 30 = .ok (.goto 5, 3) := by decide +kernel
theorem dX11_saysReceiver_33 : decode cX11_saysReceiver 33 = .ok (.bipush 6, 2) := by decide +kernel
theorem dX11_saysReceiver_35 : decode cX11_saysReceiver 35 = .ok (.invokevirtual 300, 3) := by decide +kernel
theorem dX11_saysReceiver_38 : decode cX11_saysReceiver 38 = .ok (.aload_n 0, 1) := by decide +kernel
theorem dX11_saysReceiver_39 : decode cX11_saysReceiver 39 = .ok (.bipush 32, 2) := by decide +kernel
theorem dX11_saysReceiver_41 : decode cX11_saysReceiver 41 = .ok (.invokevirtual 294, 3) := by decide +kernel
theorem dX11_saysReceiver_44 : decode cX11_saysReceiver 44 = .ok (.aload_n 0, 1) := by decide +kernel
theorem dX11_saysReceiver_45 : decode cX11_saysReceiver 45 = .ok (.aload_n 0, 1) := by decide +kernel
theorem dX11_saysReceiver_46 : decode cX11_saysReceiver 46 = .ok (.getfield 7, 3) := by decide +kernel
theorem dX11_saysReceiver_49 : decode cX11_saysReceiver 49 = .ok (.bipush 13, 2) := by decide +kernel
theorem dX11_saysReceiver_51 : decode cX11_saysReceiver 51 = .ok (.iaload, 1) := by decide +kernel
theorem dX11_saysReceiver_52 : decode cX11_saysReceiver 52 = .ok (.invokevirtual 297, 3) := by decide +kernel
theorem dX11_saysReceiver_55 : decode cX11_saysReceiver 55 = .ok (.aload_n 0, 1) := by decide +kernel
theorem dX11_saysReceiver_56 : decode cX11_saysReceiver 56 = .ok (.getfield 7, 3) := by decide +kernel
theorem dX11_saysReceiver_59 : decode cX11_saysReceiver 59 = .ok (.bipush 16, 2) := by decide +kernel
theorem dX11_saysReceiver_61 : decode cX11_saysReceiver 61 = .ok (.iaload, 1) := by decide +kernel
theorem dX11_saysReceiver_62 : decode cX11_saysReceiver 62 = .ok (.iconst 1, 1) := by decide +kernel
theorem dX11_saysReceiver_63 : decode cX11_saysReceiver 63 = .ok (.if_icmp .ne 9, 3) := by decide +kernel
theorem dX11_saysReceiver_66 : decode cX11_saysReceiver 66 = .ok (.aload_n 0, 1) := by decide +kernel
theorem dX11_saysReceiver_67 : decode cX11_saysReceiver 67 = .ok (.bipush 82, 2) := by decide +kernel
theorem dX11_saysReceiver_69 : decode cX11_saysReceiver 69 = .ok (.invokevirtual 294, 3) := by decide +kernel
theorem dX11_saysReceiver_72 : decode cX11_saysReceiver 72 = .ok (.return_, 1) := by decide +kernel
theorem dX11_told_0 : decode cX11_told 0 = .ok (.aload_n 0, 1) := by decide +kernel
theorem dX11_told_1 : decode cX11_told 1 = .ok (.iconst 0, 1) := by decide +kernel
theorem dX11_told_2 : decode cX11_told 2 = .ok (.putfield 41, 3) := by decide +kernel
theorem dX11_told_5 : decode cX11_told 5 = .ok (.aload_n 0, 1) := by decide +kernel
theorem dX11_told_6 : decode cX11_told 6 = .ok (.iload_n 1, 1) := by decide +kernel
theorem dX11_told_7 : decode cX11_told 7 = .ok (.iconst 0, 1) := by decide +kernel
theorem dX11_told_8 : decode cX11_told 8 = .ok (.iconst 3, 1) := by decide +kernel
theorem dX11_told_9 : decode cX11_told 9 = .ok (.invokevirtual 48, 3) := by decide +kernel
theorem dX11_told_12 : decode cX11_told 12 = .ok (.ifCond .ne 5, 3) := by decide +kernel
theorem dX11_told_15 : decode cX11_told 15 = .ok (.iconst (-1), 1) := by decide +kernel
theorem dX11_told_16 : decode cX11_told 16 = .ok (.ireturn, 1) := by decide +kernel
theorem dX11_told_17 : decode cX11_told 17 = .ok (.aload_n 0, 1) := by decide +kernel
theorem dX11_told_18 : decode cX11_told 18 = .ok (.iconst 0, 1) := by decide +kernel
theorem dX11_told_19 : decode cX11_told 19 = .ok (.putfield 291, 3) := by decide +kernel
theorem dX11_told_22 : decode cX11_told 22 = .ok (.iload_n 1, 1) := by decide +kernel
theorem dX11_told_23 : decode cX11_told 23 = .ok (.ifCond .ne 7, 3) := by decide +kernel
theorem dX11_told_26 : decode cX11_told 26 = .ok (.aload_n 0, 1) := by decide +kernel
theorem dX11_told_27 : decode cX11_told 27 = .ok (.invokevirtual 303, 3) := by decide +kernel
theorem dX11_told_30 : decode cX11_told 30 = .ok (.iload_n 1, 1) := by decide +kernel
theorem dX11_told_31 : decode cX11_told 31 = .ok (.iconst 1, 1) := by decide +kernel
theorem dX11_told_32 : decode cX11_told 32 = .ok (.if_icmp .ne 7, 3) := by decide +kernel
theorem dX11_told_35 : decode cX11_told 35 = .ok (.aload_n 0, 1) := by decide +kernel
theorem dX11_told_36 : decode cX11_told 36 = .ok (.invokevirtual 306, 3) := by decide +kernel
theorem dX11_told_39 : decode cX11_told 39 = .ok (.iload_n 1, 1) := by decide +kernel
theorem dX11_told_40 : decode cX11_told 40 = .ok (.iconst 2, 1) := by decide +kernel
theorem dX11_told_41 : decode cX11_told 41 = .ok (.if_icmp .ne 7, 3) := by decide +kernel
theorem dX11_told_44 : decode cX11_told 44 = .ok (.aload_n 0, 1) := by decide +kernel
theorem dX11_told_45 : decode cX11_told 45 = .ok (.invokevirtual 309, 3) := by decide +kernel
theorem dX11_told_48 : decode cX11_told 48 = .ok (.iload_n 1, 1) := by decide +kernel
theorem dX11_told_49 : decode cX11_told 49 = .ok (.iconst 3, 1) := by decide +kernel
theorem dX11_told_50 : decode cX11_told 50 = .ok (.if_icmp .ne 29, 3) := by decide +kernel
theorem dX11_told_53 : decode cX11_told 53 = .ok (.aload_n 0, 1) := by decide +kernel
theorem dX11_told_54 : decode cX11_told 54 = .ok (.getfield 7, 3) := by decide +kernel
theorem dX11_told_57 : decode cX11_told 57 = .ok (.bipush 48, 2) := by decide +kernel
theorem dX11_told_59 : decode cX11_told 59 = .ok (.iaload, 1) := by decide +kernel
theorem dX11_told_60 : decode cX11_told 60 = .ok (.ifCond .le 19, 3) := by decide +kernel
theorem dX11_told_63 : decode cX11_told 63 = .ok (.aload_n 0, 1) := by decide +kernel
theorem dX11_told_64 : decode cX11_told 64 = .ok (.bipush 8, 2) := by decide +kernel
theorem dX11_told_66 : decode cX11_told 66 = .ok (.aload_n 0, 1) := by decide +kernel
theorem dX11_told_67 : decode cX11_told 67 = .ok (.getfield 7, 3) := by decide +kernel
theorem dX11_told_70 : decode cX11_told 70 = .ok (.bipush 48, 2) := by decide +kernel
theorem dX11_told_72 : decode cX11_told 72 = .ok (.iaload, 1) := by decide +kernel
theorem dX11_told_73 : decode cX11_told 73 = .ok (.iadd, 1) := by decide +kernel
theorem dX11_told_74 : decode cX11_told 74 = .ok (.iconst 1, 1) := by decide +kernel
theorem dX11_told_75 : decode cX11_told 75 = .ok (.isub, 1) := by decide +kernel
theorem dX11_told_76 : decode cX11_told 76 = .ok (.invokevirtual 300, 3) := by decide +kernel
theorem dX11_told_79 : decode cX11_told 79 = .ok (.iload_n 2, 1) := by decide +kernel
theorem dX11_told_80 : decode cX11_told 80 = .ok (.iconst (-1), 1) := by decide +kernel
theorem dX11_told_81 : decode cX11_told 81 = .ok (.if_icmp .ne 8, 3) := by decide +kernel
theorem dX11_told_84 : decode cX11_told 84 = .ok (.aload_n 0, 1) := by decide +kernel
theorem dX11_told_85 : decode cX11_told 85 = .ok (.getfield 291, 3) := by decide +kernel
theorem dX11_told_88 : decode cX11_told 88 = .ok (.ireturn, 1) := by decide +kernel
theorem dX11_told_89 : decode cX11_told 89 = .ok (.iload_n 2, 1) := by decide +kernel
theorem dX11_told_90 : decode cX11_told 90 = .ok (.ifCond .lt 20, 3) := by decide +kernel
theorem dX11_told_93 : decode cX11_told 93 = .ok (.iload_n 2, 1) := by decide +kernel
theorem dX11_told_94 : decode cX11_told 94 = .ok (.aload_n 0, 1) := by decide +kernel
theorem dX11_told_95 : decode cX11_told 95 = .ok (.getfield 291, 3) := by decide +kernel
theorem dX11_told_98 : decode cX11_told 98 = .ok (.if_icmp .ge 12, 3) := by decide +kernel
theorem dX11_told_101 : decode cX11_told 101 = .ok (.aload_n 0, 1) := by decide +kernel
theorem dX11_told_102 : decode cX11_told 102 = .ok (.getfield 22, 3) := by decide +kernel
theorem dX11_told_105 : decode cX11_told 105 = .ok (.iload_n 2, 1) := by decide +kernel
theorem dX11_told_106 : decode cX11_told 106 = .ok (.iaload, 1) := by decide +kernel
theorem dX11_told_107 : decode cX11_told 107 = .ok (.goto 4, 3) := by decide +kernel
theorem dX11_told_110 : decode cX11_told 110 = .ok (.iconst (-1), 1) := by decide +kernel
theorem dX11_told_111 : decode cX11_told 111 = .ok (.ireturn, 1) := by decide +kernel
theorem dX11_sender_0 : decode cX11_sender 0 = .ok (.aload_n 0, 1) := by decide +kernel
theorem dX11_sender_1 : decode cX11_sender 1 = .ok (.iconst 0, 1) := by decide +kernel
theorem dX11_sender_2 : decode cX11_sender 2 = .ok (.putfield 41, 3) := by decide +kernel
theorem dX11_sender_5 : decode cX11_sender 5 = .ok (.iload_n 1, 1) := by decide +kernel
theorem dX11_sender_6 : decode cX11_sender 6 = .ok (.ifCond .ne 8, 3) := by decide +kernel
theorem dX11_sender_9 : decode cX11_sender 9 = .ok (.aload_n 0, 1) := by decide +kernel
theorem dX11_sender_10 : decode cX11_sender 10 = .ok (.invokevirtual 87, 3) := by decide +kernel
theorem dX11_sender_13 : decode cX11_sender 13 = .ok (.ireturn, 1) := by decide +kernel
theorem dX11_sender_14 : decode cX11_sender 14 = .ok (.iload_n 1, 1) := by decide +kernel
theorem dX11_sender_15 : decode cX11_sender 15 = .ok (.iconst 1, 1) := by decide +kernel
theorem dX11_sender_16 : decode cX11_sender 16 = .ok (.if_icmp .ne 11, 3) := by decide +kernel
theorem dX11_sender_19 : decode cX11_sender 19 = .ok (.aload_n 0, 1) := by decide +kernel
theorem dX11_sender_20 : decode cX11_sender 20 = .ok (.getfield 7, 3) := by decide +kernel
theorem dX11_sender_23 : decode cX11_sender 23 = .ok (.bipush 22, 2) := by decide +kernel
theorem dX11_sender_25 : decode cX11_sender 25 = .ok (.iaload, 1) := by decide +kernel
theorem dX11_sender_26 : decode cX11_sender 26 = .ok (.ireturn, 1) := by decide +kernel
theorem dX11_sender_27 : decode cX11_sender 27 = .ok (.iload_n 1, 1) := by decide +kernel
theorem dX11_sender_28 : decode cX11_sender 28 = .ok (.iconst 2, 1) := by decide +kernel
theorem dX11_sender_29 : decode cX11_sender 29 = .ok (.if_icmp .ne 11, 3) := by decide +kernel
theorem dX11_sender_32 : decode cX11_sender 32 = .ok (.aload_n 0, 1) := by decide +kernel
theorem dX11_sender_33 : decode cX11_sender 33 = .ok (.getfield 7, 3) := by decide +kernel
theorem dX11_sender_36 : decode cX11_sender 36 = .ok (.bipush 23, 2) := by decide +kernel
theorem dX11_sender_38 : decode cX11_sender 38 = .ok (.iaload, 1) := by decide +kernel
theorem dX11_sender_39 : decode cX11_sender 39 = .ok (.ireturn, 1) := by decide +kernel
theorem dX11_sender_40 : decode cX11_sender 40 = .ok (.iload_n 1, 1) := by decide +kernel
theorem dX11_sender_41 : decode cX11_sender 41 = .ok (.iconst 3, 1) := by decide +kernel
theorem dX11_sender_42 : decode cX11_sender 42 = .ok (.if_icmp .ne 11, 3) := by decide +kernel
theorem dX11_sender_45 : decode cX11_sender 45 = .ok (.aload_n 0, 1) := by decide +kernel
theorem dX11_sender_46 : decode cX11_sender 46 = .ok (.getfield 7, 3) := by decide +kernel
theorem dX11_sender_49 : decode cX11_sender 49 = .ok (.bipush 24, 2) := by decide +kernel
theorem dX11_sender_51 : decode cX11_sender 51 = .ok (.iaload, 1) := by decide +kernel
theorem dX11_sender_52 : decode cX11_sender 52 = .ok (.ireturn, 1) := by decide +kernel
theorem dX11_sender_53 : decode cX11_sender 53 = .ok (.iload_n 1, 1) := by decide +kernel
theorem dX11_sender_54 : decode cX11_sender 54 = .ok (.iconst 4, 1) := by decide +kernel
theorem dX11_sender_55 : decode cX11_sender 55 = .ok (.if_icmp .ne 11, 3) := by decide +kernel
theorem dX11_sender_58 : decode cX11_sender 58 = .ok (.aload_n 0, 1) := by decide +kernel
theorem dX11_sender_59 : decode cX11_sender 59 = .ok (.getfield 7, 3) := by decide +kernel
theorem dX11_sender_62 : decode cX11_sender 62 = .ok (.bipush 25, 2) := by decide +kernel
theorem dX11_sender_64 : decode cX11_sender 64 = .ok (.iaload, 1) := by decide +kernel
theorem dX11_sender_65 : decode cX11_sender 65 = .ok (.ireturn, 1) := by decide +kernel
theorem dX11_sender_66 : decode cX11_sender 66 = .ok (.iload_n 1, 1) := by decide +kernel
theorem dX11_sender_67 : decode cX11_sender 67 = .ok (.iconst 5, 1) := by decide +kernel
theorem dX11_sender_68 : decode cX11_sender 68 = .ok (.if_icmp .ne 8, 3) := by decide +kernel
theorem dX11_sender_71 : decode cX11_sender 71 = .ok (.aload_n 0, 1) := by decide +kernel
theorem dX11_sender_72 : decode cX11_sender 72 = .ok (.invokevirtual 312, 3) := by decide +kernel
theorem dX11_sender_75 : decode cX11_sender 75 = .ok (.ireturn, 1) := by decide +kernel
theorem dX11_sender_76 : decode cX11_sender 76 = .ok (.iload_n 1, 1) := by decide +kernel
theorem dX11_sender_77 : decode cX11_sender 77 = .ok (.bipush 6, 2) := by decide +kernel
theorem dX11_sender_79 : decode cX11_sender 79 = .ok (.if_icmp .ne 11, 3) := by decide +kernel
theorem dX11_sender_82 : decode cX11_sender 82 = .ok (.aload_n 0, 1) := by decide +kernel
theorem dX11_sender_83 : decode cX11_sender 83 = .ok (.getfield 7, 3) := by decide +kernel
theorem dX11_sender_86 : decode cX11_sender 86 = .ok (.bipush 29, 2) := by decide +kernel
theorem dX11_sender_88 : decode cX11_sender 88 = .ok (.iaload, 1) := by decide +kernel
theorem dX11_sender_89 : decode cX11_sender 89 = .ok (.ireturn, 1) := by decide +kernel
theorem dX11_sender_90 : decode cX11_sender 90 = .ok (.iload_n 1, 1) := by decide +kernel
theorem dX11_sender_91 : decode cX11_sender 91 = .ok (.bipush 7, 2) := by decide +kernel
theorem dX11_sender_93 : decode cX11_sender 93 = .ok (.if_icmp .ne 11, 3) := by decide +kernel
theorem dX11_sender_96 : decode cX11_sender 96 = .ok (.aload_n 0, 1) := by decide +kernel
theorem dX11_sender_97 : decode cX11_sender 97 = .ok (.getfield 7, 3) := by decide +kernel
theorem dX11_sender_100 : decode cX11_sender 100 = .ok (.bipush 30, 2) := by decide +kernel
theorem dX11_sender_102 : decode cX11_sender 102 = .ok (.iaload, 1) := by decide +kernel
theorem dX11_sender_103 : decode cX11_sender 103 = .ok (.ireturn, 1) := by decide +kernel
theorem dX11_sender_104 : decode cX11_sender 104 = .ok (.iload_n 1, 1) := by decide +kernel
theorem dX11_sender_105 : decode cX11_sender 105 = .ok (.bipush 8, 2) := by decide +kernel
theorem dX11_sender_107 : decode cX11_sender 107 = .ok (.if_icmp .ne 11, 3) := by decide +kernel
theorem dX11_sender_110 : decode cX11_sender 110 = .ok (.aload_n 0, 1) := by decide +kernel
theorem dX11_sender_111 : decode cX11_sender 111 = .ok (.getfield 7, 3) := by decide +kernel
theorem dX11_sender_114 : decode cX11_sender 114 = .ok (.bipush 31, 2) := by decide +kernel
theorem dX11_sender_116 : decode cX11_sender 116 = .ok (.iaload, 1) := by decide +kernel
theorem dX11_sender_117 : decode cX11_sender 117 = .ok (.ireturn, 1) := by decide +kernel
theorem dX11_sender_118 : decode cX11_sender 118 = .ok (.iload_n 1, 1) := by decide +kernel
theorem dX11_sender_119 : decode cX11_sender 119 = .ok (.bipush 9, 2) := by decide +kernel
theorem dX11_sender_121 : decode cX11_sender 121 = .ok (.if_icmp .ne 11, 3) := by decide +kernel
theorem dX11_sender_124 : decode cX11_sender 124 = .ok (.aload_n 0, 1) := by decide +kernel
theorem dX11_sender_125 : decode cX11_sender 125 = .ok (.getfield 7, 3) := by decide +kernel
theorem dX11_sender_128 : decode cX11_sender 128 = .ok (.bipush 32, 2) := by decide +kernel
theorem dX11_sender_130 : decode cX11_sender 130 = .ok (.iaload, 1) := by decide +kernel
theorem dX11_sender_131 : decode cX11_sender 131 = .ok (.ireturn, 1) := by decide +kernel
theorem dX11_sender_132 : decode cX11_sender 132 = .ok (.iload_n 1, 1) := by decide +kernel
theorem dX11_sender_133 : decode cX11_sender 133 = .ok (.bipush 10, 2) := by decide +kernel
theorem dX11_sender_135 : decode cX11_sender 135 = .ok (.if_icmp .ne 13, 3) := by decide +kernel
theorem dX11_sender_138 : decode cX11_sender 138 = .ok (.aload_n 0, 1) := by decide +kernel
theorem dX11_sender_139 : decode cX11_sender 139 = .ok (.getfield 7, 3) := by decide +kernel
theorem dX11_sender_142 : decode cX11_sender 142 = .ok (.bipush 26, 2) := by decide +kernel
theorem dX11_sender_144 : decode cX11_sender 144 = .ok (.iaload, 1) := by decide +kernel
theorem dX11_sender_145 : decode cX11_sender 145 = .ok (.iconst 1, 1) := by decide +kernel
theorem dX11_sender_146 : decode cX11_sender 146 = .ok (.isub, 1) := by decide +kernel
theorem dX11_sender_147 : decode cX11_sender 147 = .ok (.ireturn, 1) := by decide +kernel
theorem dX11_sender_148 : decode cX11_sender 148 = .ok (.aload_n 0, 1) := by decide +kernel
theorem dX11_sender_149 : decode cX11_sender 149 = .ok (.iload_n 1, 1) := by decide +kernel
theorem dX11_sender_150 : decode cX11_sender 150 = .ok (.bipush 100, 2) := by decide +kernel
theorem dX11_sender_152 : decode cX11_sender 152 = .ok (.bipush 99, 2) := by decide +kernel
theorem dX11_sender_154 : decode cX11_sender 154 = .ok (.aload_n 0, 1) := by decide +kernel
theorem dX11_sender_155 : decode cX11_sender 155 = .ok (.getfield 7, 3) := by decide +kernel
theorem dX11_sender_158 : decode cX11_sender 158 = .ok (.bipush 25, 2) := by decide +kernel
theorem dX11_sender_160 : decode cX11_sender 160 = .ok (.iaload, 1) := by decide +kernel
theorem dX11_sender_161 : decode cX11_sender 161 = .ok (.iadd, 1) := by decide +kernel
theorem dX11_sender_162 : decode cX11_sender 162 = .ok (.invokevirtual 48, 3) := by decide +kernel
theorem dX11_sender_165 : decode cX11_sender 165 = .ok (.ifCond .eq 16, 3) := by decide +kernel
theorem dX11_sender_168 : decode cX11_sender 168 = .ok (.aload_n 0, 1) := by decide +kernel
theorem dX11_sender_169 : decode cX11_sender 169 = .ok (.getfield 7, 3) := by decide +kernel
theorem dX11_sender_172 : decode cX11_sender 172 = .ok (.bipush 66, 2) := by decide +kernel
theorem dX11_sender_174 : decode cX11_sender 174 = .ok (.iload_n 1, 1) := by decide +kernel
theorem dX11_sender_175 : decode cX11_sender 175 = .ok (.iadd, 1) := by decide +kernel
theorem dX11_sender_176 : decode cX11_sender 176 = .ok (.bipush 100, 2) := by decide +kernel
theorem dX11_sender_178 : decode cX11_sender 178 = .ok (.isub, 1) := by decide +kernel
theorem dX11_sender_179 : decode cX11_sender 179 = .ok (.iaload, 1) := by decide +kernel
theorem dX11_sender_180 : decode cX11_sender 180 = .ok (.ireturn, 1) := by decide +kernel
theorem dX11_sender_181 : decode cX11_sender 181 = .ok (.aload_n 0, 1) := by decide +kernel
theorem dX11_sender_182 : decode cX11_sender 182 = .ok (.iload_n 1, 1) := by decide +kernel
theorem dX11_sender_183 : decode cX11_sender 183 = .ok (.sipush 200, 3) := by decide +kernel
theorem dX11_sender_186 : decode cX11_sender 186 = .ok (.sipush 199, 3) := by decide +kernel
theorem dX11_sender_189 : decode cX11_sender 189 = .ok (.aload_n 0, 1) := by decide +kernel
theorem dX11_sender_190 : decode cX11_sender 190 = .ok (.getfield 7, 3) := by decide +kernel
theorem dX11_sender_193 : decode cX11_sender 193 = .ok (.bipush 25, 2) := by decide +kernel
theorem dX11_sender_195 : decode cX11_sender 195 = .ok (.iaload, 1) := by decide +kernel
theorem dX11_sender_196 : decode cX11_sender 196 = .ok (.iadd, 1) := by decide +kernel
theorem dX11_sender_197 : decode cX11_sender 197 = .ok (.invokevirtual 48, 3) := by decide +kernel
theorem dX11_sender_200 : decode cX11_sender 200 = .ok (.ifCond .eq 15, 3) := by decide +kernel
theorem dX11_sender_203 : decode cX11_sender 203 = .ok (.aload_n 0, 1) := by decide +kernel
theorem dX11_sender_204 : decode cX11_sender 204 = .ok (.iload_n 1, 1) := by decide +kernel
theorem dX11_sender_205 : decode cX11_sender 205 = .ok (.sipush 200, 3) := by decide +kernel
theorem dX11_sender_208 : decode cX11_sender 208 = .ok (.isub, 1) := by decide +kernel
theorem dX11_sender_209 : decode cX11_sender 209 = .ok (.invokevirtual 207, 3) := by decide +kernel
theorem dX11_sender_212 : decode cX11_sender 212 = .ok (.goto 5, 3) := by decide +kernel
theorem dX11_sender_215 : decode cX11_sender 215 = .ok (.bipush (-2), 2) := by decide +kernel
theorem dX11_sender_217 : decode cX11_sender 217 = .ok (.ireturn, 1) := by decide +kernel
theorem dX11_markedMany_0 : decode cX11_markedMany 0 = .ok (.iconst 0, 1) := by decide +kernel
theorem dX11_markedMany_1 : decode cX11_markedMany 1 = .ok (.istore_n 1, 1) := by decide +kernel
theorem dX11_markedMany_2 : decode cX11_markedMany 2 = .ok (.iconst 0, 1) := by decide +kernel
theorem dX11_markedMany_3 : decode cX11_markedMany 3 = .ok (.istore_n 2, 1) := by decide +kernel
theorem dX11_markedMany_4 : decode cX11_markedMany 4 = .ok (.iload_n 2, 1) := by decide +kernel
theorem dX11_markedMany_5 : decode cX11_markedMany 5 = .ok (.aload_n 0, 1) := by decide +kernel
theorem dX11_markedMany_6 : decode cX11_markedMany 6 = .ok (.getfield 7, 3) := by decide +kernel
theorem dX11_markedMany_9 : decode cX11_markedMany 9 = .ok (.bipush 25, 2) := by decide +kernel
theorem dX11_markedMany_11 : decode cX11_markedMany 11 = .ok (.iaload, 1) := by decide +kernel
theorem dX11_markedMany_12 : decode cX11_markedMany 12 = .ok (.if_icmp .ge 21, 3) := by decide +kernel
theorem dX11_markedMany_15 : decode cX11_markedMany 15 = .ok (.iload_n 1, 1) := by decide +kernel
theorem dX11_markedMany_16 : decode cX11_markedMany 16 = .ok (.aload_n 0, 1) := by decide +kernel
theorem dX11_markedMany_17 : decode cX11_markedMany 17 = .ok (.getfield 7, 3) := by decide +kernel
theorem dX11_markedMany_20 : decode cX11_markedMany 20 = .ok (.bipush 86, 2) := by decide +kernel
theorem dX11_markedMany_22 : decode cX11_markedMany 22 = .ok (.iload_n 2, 1) := by decide +kernel
theorem dX11_markedMany_23 : decode cX11_markedMany 23 = .ok (.iadd, 1) := by decide +kernel
theorem dX11_markedMany_24 : decode cX11_markedMany 24 = .ok (.iaload, 1) := by decide +kernel
theorem dX11_markedMany_25 : decode cX11_markedMany 25 = .ok (.iadd, 1) := by decide +kernel
theorem dX11_markedMany_26 : decode cX11_markedMany 26 = .ok (.istore_n 1, 1) := by decide +kernel
theorem dX11_markedMany_27 : decode cX11_markedMany 27 = .ok (.iinc 2 1, 3) := by decide +kernel
theorem dX11_markedMany_30 : decode cX11_markedMany 30 = .ok (.goto (-26), 3) := by decide +kernel
theorem dX11_markedMany_33 : decode cX11_markedMany 33 = .ok (.iload_n 1, 1) := by decide +kernel
theorem dX11_markedMany_34 : decode cX11_markedMany 34 = .ok (.ireturn, 1) := by decide +kernel
theorem dX11_keptOf_0 : decode cX11_keptOf 0 = .ok (.aload_n 0, 1) := by decide +kernel
theorem dX11_keptOf_1 : decode cX11_keptOf 1 = .ok (.getfield 7, 3) := by decide +kernel
theorem dX11_keptOf_4 : decode cX11_keptOf 4 = .ok (.iload_n 1, 1) := by decide +kernel
theorem dX11_keptOf_5 : decode cX11_keptOf 5 = .ok (.iaload, 1) := by decide +kernel
theorem dX11_keptOf_6 : decode cX11_keptOf 6 = .ok (.bipush 100, 2) := by decide +kernel
theorem dX11_keptOf_8 : decode cX11_keptOf 8 = .ok (.if_icmp .ge 12, 3) := by decide +kernel
theorem dX11_keptOf_11 : decode cX11_keptOf 11 = .ok (.aload_n 0, 1) := by decide +kernel
theorem dX11_keptOf_12 : decode cX11_keptOf 12 = .ok (.getfield 7, 3) := by decide +kernel
theorem dX11_keptOf_15 : decode cX11_keptOf 15 = .ok (.iload_n 1, 1) := by decide +kernel
theorem dX11_keptOf_16 : decode cX11_keptOf 16 = .ok (.iaload, 1) := by decide +kernel
theorem dX11_keptOf_17 : decode cX11_keptOf 17 = .ok (.goto 5, 3) := by decide +kernel
theorem dX11_keptOf_20 : decode cX11_keptOf 20 = .ok (.bipush 100, 2) := by decide +kernel
theorem dX11_keptOf_22 : decode cX11_keptOf 22 = .ok (.ireturn, 1) := by decide +kernel
theorem dX11_receiver_0 : decode cX11_receiver 0 = .ok (.aload_n 0, 1) := by decide +kernel
theorem dX11_receiver_1 : decode cX11_receiver 1 = .ok (.iconst 0, 1) := by decide +kernel
theorem dX11_receiver_2 : decode cX11_receiver 2 = .ok (.putfield 41, 3) := by decide +kernel
theorem dX11_receiver_5 : decode cX11_receiver 5 = .ok (.aload_n 0, 1) := by decide +kernel
theorem dX11_receiver_6 : decode cX11_receiver 6 = .ok (.iload_n 1, 1) := by decide +kernel
theorem dX11_receiver_7 : decode cX11_receiver 7 = .ok (.iconst 0, 1) := by decide +kernel
theorem dX11_receiver_8 : decode cX11_receiver 8 = .ok (.bipush 7, 2) := by decide +kernel
theorem dX11_receiver_10 : decode cX11_receiver 10 = .ok (.invokevirtual 48, 3) := by decide +kernel
theorem dX11_receiver_13 : decode cX11_receiver 13 = .ok (.ifCond .eq 13, 3) := by decide +kernel
theorem dX11_receiver_16 : decode cX11_receiver 16 = .ok (.aload_n 0, 1) := by decide +kernel
theorem dX11_receiver_17 : decode cX11_receiver 17 = .ok (.getfield 7, 3) := by decide +kernel
theorem dX11_receiver_20 : decode cX11_receiver 20 = .ok (.bipush 13, 2) := by decide +kernel
theorem dX11_receiver_22 : decode cX11_receiver 22 = .ok (.iload_n 1, 1) := by decide +kernel
theorem dX11_receiver_23 : decode cX11_receiver 23 = .ok (.iadd, 1) := by decide +kernel
theorem dX11_receiver_24 : decode cX11_receiver 24 = .ok (.iaload, 1) := by decide +kernel
theorem dX11_receiver_25 : decode cX11_receiver 25 = .ok (.ireturn, 1) := by decide +kernel
theorem dX11_receiver_26 : decode cX11_receiver 26 = .ok (.aload_n 0, 1) := by decide +kernel
theorem dX11_receiver_27 : decode cX11_receiver 27 = .ok (.iload_n 1, 1) := by decide +kernel
theorem dX11_receiver_28 : decode cX11_receiver 28 = .ok (.bipush 100, 2) := by decide +kernel
theorem dX11_receiver_30 : decode cX11_receiver 30 = .ok (.bipush 99, 2) := by decide +kernel
theorem dX11_receiver_32 : decode cX11_receiver 32 = .ok (.aload_n 0, 1) := by decide +kernel
theorem dX11_receiver_33 : decode cX11_receiver 33 = .ok (.bipush 19, 2) := by decide +kernel
theorem dX11_receiver_35 : decode cX11_receiver 35 = .ok (.invokevirtual 315, 3) := by decide +kernel
theorem dX11_receiver_38 : decode cX11_receiver 38 = .ok (.iadd, 1) := by decide +kernel
theorem dX11_receiver_39 : decode cX11_receiver 39 = .ok (.invokevirtual 48, 3) := by decide +kernel
theorem dX11_receiver_42 : decode cX11_receiver 42 = .ok (.ifCond .eq 17, 3) := by decide +kernel
theorem dX11_receiver_45 : decode cX11_receiver 45 = .ok (.aload_n 0, 1) := by decide +kernel
theorem dX11_receiver_46 : decode cX11_receiver 46 = .ok (.getfield 7, 3) := by decide +kernel
theorem dX11_receiver_49 : decode cX11_receiver 49 = .ok (.sipush 419, 3) := by decide +kernel
theorem dX11_receiver_52 : decode cX11_receiver 52 = .ok (.iload_n 1, 1) := by decide +kernel
theorem dX11_receiver_53 : decode cX11_receiver 53 = .ok (.iadd, 1) := by decide +kernel
theorem dX11_receiver_54 : decode cX11_receiver 54 = .ok (.bipush 100, 2) := by decide +kernel
theorem dX11_receiver_56 : decode cX11_receiver 56 = .ok (.isub, 1) := by decide +kernel
theorem dX11_receiver_57 : decode cX11_receiver 57 = .ok (.iaload, 1) := by decide +kernel
theorem dX11_receiver_58 : decode cX11_receiver 58 = .ok (.ireturn, 1) := by decide +kernel
theorem dX11_receiver_59 : decode cX11_receiver 59 = .ok (.aload_n 0, 1) := by decide +kernel
theorem dX11_receiver_60 : decode cX11_receiver 60 = .ok (.iload_n 1, 1) := by decide +kernel
theorem dX11_receiver_61 : decode cX11_receiver 61 = .ok (.sipush 200, 3) := by decide +kernel
theorem dX11_receiver_64 : decode cX11_receiver 64 = .ok (.sipush 199, 3) := by decide +kernel
theorem dX11_receiver_67 : decode cX11_receiver 67 = .ok (.aload_n 0, 1) := by decide +kernel
theorem dX11_receiver_68 : decode cX11_receiver 68 = .ok (.bipush 20, 2) := by decide +kernel
theorem dX11_receiver_70 : decode cX11_receiver 70 = .ok (.invokevirtual 315, 3) := by decide +kernel
theorem dX11_receiver_73 : decode cX11_receiver 73 = .ok (.iadd, 1) := by decide +kernel
theorem dX11_receiver_74 : decode cX11_receiver 74 = .ok (.invokevirtual 48, 3) := by decide +kernel
theorem dX11_receiver_77 : decode cX11_receiver 77 = .ok (.ifCond .eq 20, 3) := by decide +kernel
theorem dX11_receiver_80 : decode cX11_receiver 80 = .ok (.aload_n 0, 1) := by decide +kernel
theorem dX11_receiver_81 : decode cX11_receiver 81 = .ok (.getfield 7, 3) := by decide +kernel
theorem dX11_receiver_84 : decode cX11_receiver 84 = .ok (.sipush 519, 3) := by decide +kernel
theorem dX11_receiver_87 : decode cX11_receiver 87 = .ok (.iload_n 1, 1) := by decide +kernel
theorem dX11_receiver_88 : decode cX11_receiver 88 = .ok (.iadd, 1) := by decide +kernel
theorem dX11_receiver_89 : decode cX11_receiver 89 = .ok (.sipush 200, 3) := by decide +kernel
theorem dX11_receiver_92 : decode cX11_receiver 92 = .ok (.isub, 1) := by decide +kernel
theorem dX11_receiver_93 : decode cX11_receiver 93 = .ok (.iaload, 1) := by decide +kernel
theorem dX11_receiver_94 : decode cX11_receiver 94 = .ok (.goto 5, 3) := by decide +kernel
theorem dX11_receiver_97 : decode cX11_receiver 97 = .ok (.bipush (-2), 2) := by decide +kernel
theorem dX11_receiver_99 : decode cX11_receiver 99 = .ok (.ireturn, 1) := by decide +kernel
theorem dX11_alarm_0 : decode cX11_alarm 0 = .ok (.aload_n 0, 1) := by decide +kernel
theorem dX11_alarm_1 : decode cX11_alarm 1 = .ok (.iconst 0, 1) := by decide +kernel
theorem dX11_alarm_2 : decode cX11_alarm 2 = .ok (.putfield 41, 3) := by decide +kernel
theorem dX11_alarm_5 : decode cX11_alarm 5 = .ok (.iload_n 1, 1) := by decide +kernel
theorem dX11_alarm_6 : decode cX11_alarm 6 = .ok (.iconst (-1), 1) := by decide +kernel
theorem dX11_alarm_7 : decode cX11_alarm 7 = .ok (.if_icmp .ne 11, 3) := by decide +kernel
theorem dX11_alarm_10 : decode cX11_alarm 10 = .ok (.aload_n 0, 1) := by decide +kernel
theorem dX11_alarm_11 : decode cX11_alarm 11 = .ok (.getfield 7, 3) := by decide +kernel
theorem dX11_alarm_14 : decode cX11_alarm 14 = .ok (.bipush 33, 2) := by decide +kernel
theorem dX11_alarm_16 : decode cX11_alarm 16 = .ok (.iaload, 1) := by decide +kernel
theorem dX11_alarm_17 : decode cX11_alarm 17 = .ok (.ireturn, 1) := by decide +kernel
theorem dX11_alarm_18 : decode cX11_alarm 18 = .ok (.iload_n 1, 1) := by decide +kernel
theorem dX11_alarm_19 : decode cX11_alarm 19 = .ok (.ifCond .lt 32, 3) := by decide +kernel
theorem dX11_alarm_22 : decode cX11_alarm 22 = .ok (.iload_n 1, 1) := by decide +kernel
theorem dX11_alarm_23 : decode cX11_alarm 23 = .ok (.aload_n 0, 1) := by decide +kernel
theorem dX11_alarm_24 : decode cX11_alarm 24 = .ok (.getfield 7, 3) := by decide +kernel
theorem dX11_alarm_27 : decode cX11_alarm 27 = .ok (.bipush 33, 2) := by decide +kernel
theorem dX11_alarm_29 : decode cX11_alarm 29 = .ok (.iaload, 1) := by decide +kernel
theorem dX11_alarm_30 : decode cX11_alarm 30 = .ok (.if_icmp .ge 21, 3) := by decide +kernel
theorem dX11_alarm_33 : decode cX11_alarm 33 = .ok (.iload_n 1, 1) := by decide +kernel
theorem dX11_alarm_34 : decode cX11_alarm 34 = .ok (.bipush 60, 2) := by decide +kernel
theorem dX11_alarm_36 : decode cX11_alarm 36 = .ok (.if_icmp .ge 15, 3) := by decide +kernel
theorem dX11_alarm_39 : decode cX11_alarm 39 = .ok (.aload_n 0, 1) := by decide +kernel
theorem dX11_alarm_40 : decode cX11_alarm 40 = .ok (.getfield 7, 3) := by decide +kernel
theorem dX11_alarm_43 : decode cX11_alarm 43 = .ok (.bipush 119, 2) := by decide +kernel
theorem dX11_alarm_45 : decode cX11_alarm 45 = .ok (.iload_n 1, 1) := by decide +kernel
theorem dX11_alarm_46 : decode cX11_alarm 46 = .ok (.iadd, 1) := by decide +kernel
theorem dX11_alarm_47 : decode cX11_alarm 47 = .ok (.iaload, 1) := by decide +kernel
theorem dX11_alarm_48 : decode cX11_alarm 48 = .ok (.goto 4, 3) := by decide +kernel
theorem dX11_alarm_51 : decode cX11_alarm 51 = .ok (.iconst (-1), 1) := by decide +kernel
theorem dX11_alarm_52 : decode cX11_alarm 52 = .ok (.ireturn, 1) := by decide +kernel
theorem dX11_diary_0 : decode cX11_diary 0 = .ok (.aload_n 0, 1) := by decide +kernel
theorem dX11_diary_1 : decode cX11_diary 1 = .ok (.iconst 0, 1) := by decide +kernel
theorem dX11_diary_2 : decode cX11_diary 2 = .ok (.putfield 41, 3) := by decide +kernel
theorem dX11_diary_5 : decode cX11_diary 5 = .ok (.iload_n 1, 1) := by decide +kernel
theorem dX11_diary_6 : decode cX11_diary 6 = .ok (.iconst (-1), 1) := by decide +kernel
theorem dX11_diary_7 : decode cX11_diary 7 = .ok (.if_icmp .ne 11, 3) := by decide +kernel
theorem dX11_diary_10 : decode cX11_diary 10 = .ok (.aload_n 0, 1) := by decide +kernel
theorem dX11_diary_11 : decode cX11_diary 11 = .ok (.getfield 7, 3) := by decide +kernel
theorem dX11_diary_14 : decode cX11_diary 14 = .ok (.bipush 34, 2) := by decide +kernel
theorem dX11_diary_16 : decode cX11_diary 16 = .ok (.iaload, 1) := by decide +kernel
theorem dX11_diary_17 : decode cX11_diary 17 = .ok (.ireturn, 1) := by decide +kernel
theorem dX11_diary_18 : decode cX11_diary 18 = .ok (.iload_n 1, 1) := by decide +kernel
theorem dX11_diary_19 : decode cX11_diary 19 = .ok (.ifCond .lt 41, 3) := by decide +kernel
theorem dX11_diary_22 : decode cX11_diary 22 = .ok (.iload_n 1, 1) := by decide +kernel
theorem dX11_diary_23 : decode cX11_diary 23 = .ok (.aload_n 0, 1) := by decide +kernel
theorem dX11_diary_24 : decode cX11_diary 24 = .ok (.getfield 7, 3) := by decide +kernel
theorem dX11_diary_27 : decode cX11_diary 27 = .ok (.bipush 34, 2) := by decide +kernel
theorem dX11_diary_29 : decode cX11_diary 29 = .ok (.iaload, 1) := by decide +kernel
theorem dX11_diary_30 : decode cX11_diary 30 = .ok (.if_icmp .ge 30, 3) := by decide +kernel
theorem dX11_diary_33 : decode cX11_diary 33 = .ok (.aload_n 0, 1) := by decide +kernel
theorem dX11_diary_34 : decode cX11_diary 34 = .ok (.iload_n 2, 1) := by decide +kernel
theorem dX11_diary_35 : decode cX11_diary 35 = .ok (.iconst 0, 1) := by decide +kernel
theorem dX11_diary_36 : decode cX11_diary 36 = .ok (.iconst 2, 1) := by decide +kernel
theorem dX11_diary_37 : decode cX11_diary 37 = .ok (.invokevirtual 48, 3) := by decide +kernel
theorem dX11_diary_40 : decode cX11_diary 40 = .ok (.ifCond .eq 20, 3) := by decide +kernel
theorem dX11_diary_43 : decode cX11_diary 43 = .ok (.aload_n 0, 1) := by decide +kernel
theorem dX11_diary_44 : decode cX11_diary 44 = .ok (.getfield 7, 3) := by decide +kernel
theorem dX11_diary_47 : decode cX11_diary 47 = .ok (.sipush 179, 3) := by decide +kernel
theorem dX11_diary_50 : decode cX11_diary 50 = .ok (.iconst 3, 1) := by decide +kernel
theorem dX11_diary_51 : decode cX11_diary 51 = .ok (.iload_n 1, 1) := by decide +kernel
theorem dX11_diary_52 : decode cX11_diary 52 = .ok (.imul, 1) := by decide +kernel
theorem dX11_diary_53 : decode cX11_diary 53 = .ok (.iadd, 1) := by decide +kernel
theorem dX11_diary_54 : decode cX11_diary 54 = .ok (.iload_n 2, 1) := by decide +kernel
theorem dX11_diary_55 : decode cX11_diary 55 = .ok (.iadd, 1) := by decide +kernel
theorem dX11_diary_56 : decode cX11_diary 56 = .ok (.iaload, 1) := by decide +kernel
theorem dX11_diary_57 : decode cX11_diary 57 = .ok (.goto 4, 3) := by decide +kernel
theorem dX11_diary_60 : decode cX11_diary 60 = .ok (.iconst (-1), 1) := by decide +kernel
theorem dX11_diary_61 : decode cX11_diary 61 = .ok (.ireturn, 1) := by decide +kernel
theorem dX11_takenMany_0 : decode cX11_takenMany 0 = .ok (.iconst 0, 1) := by decide +kernel
theorem dX11_takenMany_1 : decode cX11_takenMany 1 = .ok (.istore_n 1, 1) := by decide +kernel
theorem dX11_takenMany_2 : decode cX11_takenMany 2 = .ok (.iconst 0, 1) := by decide +kernel
theorem dX11_takenMany_3 : decode cX11_takenMany 3 = .ok (.istore_n 2, 1) := by decide +kernel
theorem dX11_takenMany_4 : decode cX11_takenMany 4 = .ok (.iload_n 2, 1) := by decide +kernel
theorem dX11_takenMany_5 : decode cX11_takenMany 5 = .ok (.aload_n 0, 1) := by decide +kernel
theorem dX11_takenMany_6 : decode cX11_takenMany 6 = .ok (.getfield 7, 3) := by decide +kernel
theorem dX11_takenMany_9 : decode cX11_takenMany 9 = .ok (.bipush 25, 2) := by decide +kernel
theorem dX11_takenMany_11 : decode cX11_takenMany 11 = .ok (.iaload, 1) := by decide +kernel
theorem dX11_takenMany_12 : decode cX11_takenMany 12 = .ok (.if_icmp .ge 52, 3) := by decide +kernel
theorem dX11_takenMany_15 : decode cX11_takenMany 15 = .ok (.aload_n 0, 1) := by decide +kernel
theorem dX11_takenMany_16 : decode cX11_takenMany 16 = .ok (.aload_n 0, 1) := by decide +kernel
theorem dX11_takenMany_17 : decode cX11_takenMany 17 = .ok (.iload_n 2, 1) := by decide +kernel
theorem dX11_takenMany_18 : decode cX11_takenMany 18 = .ok (.invokevirtual 207, 3) := by decide +kernel
theorem dX11_takenMany_21 : decode cX11_takenMany 21 = .ok (.aload_n 0, 1) := by decide +kernel
theorem dX11_takenMany_22 : decode cX11_takenMany 22 = .ok (.getfield 7, 3) := by decide +kernel
theorem dX11_takenMany_25 : decode cX11_takenMany 25 = .ok (.bipush 23, 2) := by decide +kernel
theorem dX11_takenMany_27 : decode cX11_takenMany 27 = .ok (.iaload, 1) := by decide +kernel
theorem dX11_takenMany_28 : decode cX11_takenMany 28 = .ok (.isub, 1) := by decide +kernel
theorem dX11_takenMany_29 : decode cX11_takenMany 29 = .ok (.invokevirtual 155, 3) := by decide +kernel
theorem dX11_takenMany_32 : decode cX11_takenMany 32 = .ok (.aload_n 0, 1) := by decide +kernel
theorem dX11_takenMany_33 : decode cX11_takenMany 33 = .ok (.aload_n 0, 1) := by decide +kernel
theorem dX11_takenMany_34 : decode cX11_takenMany 34 = .ok (.getfield 7, 3) := by decide +kernel
theorem dX11_takenMany_37 : decode cX11_takenMany 37 = .ok (.bipush 13, 2) := by decide +kernel
theorem dX11_takenMany_39 : decode cX11_takenMany 39 = .ok (.iaload, 1) := by decide +kernel
theorem dX11_takenMany_40 : decode cX11_takenMany 40 = .ok (.aload_n 0, 1) := by decide +kernel
theorem dX11_takenMany_41 : decode cX11_takenMany 41 = .ok (.getfield 7, 3) := by decide +kernel
theorem dX11_takenMany_44 : decode cX11_takenMany 44 = .ok (.bipush 23, 2) := by decide +kernel
theorem dX11_takenMany_46 : decode cX11_takenMany 46 = .ok (.iaload, 1) := by decide +kernel
theorem dX11_takenMany_47 : decode cX11_takenMany 47 = .ok (.isub, 1) := by decide +kernel
theorem dX11_takenMany_48 : decode cX11_takenMany 48 = .ok (.invokevirtual 155, 3) := by decide +kernel
theorem dX11_takenMany_51 : decode cX11_takenMany 51 = .ok (.if_icmp .ge 7, 3) := by decide +kernel
theorem dX11_takenMany_54 : decode cX11_takenMany 54 = .ok (.iload_n 1, 1) := by decide +kernel
theorem dX11_takenMany_55 : decode cX11_takenMany 55 = .ok (.iconst 1, 1) := by decide +kernel
theorem dX11_takenMany_56 : decode cX11_takenMany 56 = .ok (.iadd, 1) := by decide +kernel
theorem dX11_takenMany_57 : decode cX11_takenMany 57 = .ok (.istore_n 1, 1) := by decide +kernel
theorem dX11_takenMany_58 : decode cX11_takenMany 58 = .ok (.iinc 2 1, 3) := by decide +kernel
theorem dX11_takenMany_61 : decode cX11_takenMany 61 = .ok (.goto (-57), 3) := by decide +kernel
theorem dX11_takenMany_64 : decode cX11_takenMany 64 = .ok (.iload_n 1, 1) := by decide +kernel
theorem dX11_takenMany_65 : decode cX11_takenMany 65 = .ok (.ireturn, 1) := by decide +kernel
theorem dX11_truth_0 : decode cX11_truth 0 = .ok (.aload_n 0, 1) := by decide +kernel
theorem dX11_truth_1 : decode cX11_truth 1 = .ok (.iconst 0, 1) := by decide +kernel
theorem dX11_truth_2 : decode cX11_truth 2 = .ok (.putfield 41, 3) := by decide +kernel
theorem dX11_truth_5 : decode cX11_truth 5 = .ok (.iload_n 1, 1) := by decide +kernel
theorem dX11_truth_6 : decode cX11_truth 6 = .ok (.ifCond .ne 8, 3) := by decide +kernel
theorem dX11_truth_9 : decode cX11_truth 9 = .ok (.aload_n 0, 1) := by decide +kernel
theorem dX11_truth_10 : decode cX11_truth 10 = .ok (.invokevirtual 318, 3) := by decide +kernel
theorem dX11_truth_13 : decode cX11_truth 13 = .ok (.ireturn, 1) := by decide +kernel
theorem dX11_truth_14 : decode cX11_truth 14 = .ok (.iload_n 1, 1) := by decide +kernel
theorem dX11_truth_15 : decode cX11_truth 15 = .ok (.iconst 1, 1) := by decide +kernel
theorem dX11_truth_16 : decode cX11_truth 16 = .ok (.if_icmp .ne 23, 3) := by decide +kernel
theorem dX11_truth_19 : decode cX11_truth 19 = .ok (.aload_n 0, 1) := by decide +kernel
theorem dX11_truth_20 : decode cX11_truth 20 = .ok (.aload_n 0, 1) := by decide +kernel
theorem dX11_truth_21 : decode cX11_truth 21 = .ok (.getfield 7, 3) := by decide +kernel
theorem dX11_truth_24 : decode cX11_truth 24 = .ok (.bipush 13, 2) := by decide +kernel
theorem dX11_truth_26 : decode cX11_truth 26 = .ok (.iaload, 1) := by decide +kernel
theorem dX11_truth_27 : decode cX11_truth 27 = .ok (.aload_n 0, 1) := by decide +kernel
theorem dX11_truth_28 : decode cX11_truth 28 = .ok (.getfield 7, 3) := by decide +kernel
theorem dX11_truth_31 : decode cX11_truth 31 = .ok (.bipush 23, 2) := by decide +kernel
theorem dX11_truth_33 : decode cX11_truth 33 = .ok (.iaload, 1) := by decide +kernel
theorem dX11_truth_34 : decode cX11_truth 34 = .ok (.isub, 1) := by decide +kernel
theorem dX11_truth_35 : decode cX11_truth 35 = .ok (.invokevirtual 155, 3) := by decide +kernel
theorem dX11_truth_38 : decode cX11_truth 38 = .ok (.ireturn, 1) := by decide +kernel
theorem dX11_truth_39 : decode cX11_truth 39 = .ok (.iload_n 1, 1) := by decide +kernel
theorem dX11_truth_40 : decode cX11_truth 40 = .ok (.iconst 2, 1) := by decide +kernel
theorem dX11_truth_41 : decode cX11_truth 41 = .ok (.if_icmp .ne 23, 3) := by decide +kernel
theorem dX11_truth_44 : decode cX11_truth 44 = .ok (.aload_n 0, 1) := by decide +kernel
theorem dX11_truth_45 : decode cX11_truth 45 = .ok (.aload_n 0, 1) := by decide +kernel
theorem dX11_truth_46 : decode cX11_truth 46 = .ok (.getfield 7, 3) := by decide +kernel
theorem dX11_truth_49 : decode cX11_truth 49 = .ok (.bipush 22, 2) := by decide +kernel
theorem dX11_truth_51 : decode cX11_truth 51 = .ok (.iaload, 1) := by decide +kernel
theorem dX11_truth_52 : decode cX11_truth 52 = .ok (.aload_n 0, 1) := by decide +kernel
theorem dX11_truth_53 : decode cX11_truth 53 = .ok (.getfield 7, 3) := by decide +kernel
theorem dX11_truth_56 : decode cX11_truth 56 = .ok (.bipush 13, 2) := by decide +kernel
theorem dX11_truth_58 : decode cX11_truth 58 = .ok (.iaload, 1) := by decide +kernel
theorem dX11_truth_59 : decode cX11_truth 59 = .ok (.isub, 1) := by decide +kernel
theorem dX11_truth_60 : decode cX11_truth 60 = .ok (.invokevirtual 155, 3) := by decide +kernel
theorem dX11_truth_63 : decode cX11_truth 63 = .ok (.ireturn, 1) := by decide +kernel
theorem dX11_truth_64 : decode cX11_truth 64 = .ok (.iload_n 1, 1) := by decide +kernel
theorem dX11_truth_65 : decode cX11_truth 65 = .ok (.iconst 3, 1) := by decide +kernel
theorem dX11_truth_66 : decode cX11_truth 66 = .ok (.if_icmp .ne 27, 3) := by decide +kernel
theorem dX11_truth_69 : decode cX11_truth 69 = .ok (.aload_n 0, 1) := by decide +kernel
theorem dX11_truth_70 : decode cX11_truth 70 = .ok (.getfield 7, 3) := by decide +kernel
theorem dX11_truth_73 : decode cX11_truth 73 = .ok (.bipush 40, 2) := by decide +kernel
theorem dX11_truth_75 : decode cX11_truth 75 = .ok (.iaload, 1) := by decide +kernel
theorem dX11_truth_76 : decode cX11_truth 76 = .ok (.aload_n 0, 1) := by decide +kernel
theorem dX11_truth_77 : decode cX11_truth 77 = .ok (.getfield 7, 3) := by decide +kernel
theorem dX11_truth_80 : decode cX11_truth 80 = .ok (.bipush 24, 2) := by decide +kernel
theorem dX11_truth_82 : decode cX11_truth 82 = .ok (.iaload, 1) := by decide +kernel
theorem dX11_truth_83 : decode cX11_truth 83 = .ok (.isub, 1) := by decide +kernel
theorem dX11_truth_84 : decode cX11_truth 84 = .ok (.aload_n 0, 1) := by decide +kernel
theorem dX11_truth_85 : decode cX11_truth 85 = .ok (.getfield 7, 3) := by decide +kernel
theorem dX11_truth_88 : decode cX11_truth 88 = .ok (.bipush 25, 2) := by decide +kernel
theorem dX11_truth_90 : decode cX11_truth 90 = .ok (.iaload, 1) := by decide +kernel
theorem dX11_truth_91 : decode cX11_truth 91 = .ok (.isub, 1) := by decide +kernel
theorem dX11_truth_92 : decode cX11_truth 92 = .ok (.ireturn, 1) := by decide +kernel
theorem dX11_truth_93 : decode cX11_truth 93 = .ok (.iload_n 1, 1) := by decide +kernel
theorem dX11_truth_94 : decode cX11_truth 94 = .ok (.iconst 4, 1) := by decide +kernel
theorem dX11_truth_95 : decode cX11_truth 95 = .ok (.if_icmp .ne 13, 3) := by decide +kernel
theorem dX11_truth_98 : decode cX11_truth 98 = .ok (.aload_n 0, 1) := by decide +kernel
theorem dX11_truth_99 : decode cX11_truth 99 = .ok (.getfield 7, 3) := by decide +kernel
theorem dX11_truth_102 : decode cX11_truth 102 = .ok (.bipush 40, 2) := by decide +kernel
theorem dX11_truth_104 : decode cX11_truth 104 = .ok (.iaload, 1) := by decide +kernel
theorem dX11_truth_105 : decode cX11_truth 105 = .ok (.goto 4, 3) := by decide +kernel
theorem dX11_truth_108 : decode cX11_truth 108 = .ok (.iconst (-1), 1) := by decide +kernel
theorem dX11_truth_109 : decode cX11_truth 109 = .ok (.ireturn, 1) := by decide +kernel
theorem dX11_look_0 : decode cX11_look 0 = .ok (.aload_n 0, 1) := by decide +kernel
theorem dX11_look_1 : decode cX11_look 1 = .ok (.iconst 0, 1) := by decide +kernel
theorem dX11_look_2 : decode cX11_look 2 = .ok (.putfield 41, 3) := by decide +kernel
theorem dX11_look_5 : decode cX11_look 5 = .ok (.iload_n 1, 1) := by decide +kernel
theorem dX11_look_6 : decode cX11_look 6 = .ok (.ifCond .ne 11, 3) := by decide +kernel
theorem dX11_look_9 : decode cX11_look 9 = .ok (.aload_n 0, 1) := by decide +kernel
theorem dX11_look_10 : decode cX11_look 10 = .ok (.getfield 7, 3) := by decide +kernel
theorem dX11_look_13 : decode cX11_look 13 = .ok (.bipush 11, 2) := by decide +kernel
theorem dX11_look_15 : decode cX11_look 15 = .ok (.iaload, 1) := by decide +kernel
theorem dX11_look_16 : decode cX11_look 16 = .ok (.ireturn, 1) := by decide +kernel
theorem dX11_look_17 : decode cX11_look 17 = .ok (.aload_n 0, 1) := by decide +kernel
theorem dX11_look_18 : decode cX11_look 18 = .ok (.iload_n 1, 1) := by decide +kernel
theorem dX11_look_19 : decode cX11_look 19 = .ok (.iconst 1, 1) := by decide +kernel
theorem dX11_look_20 : decode cX11_look 20 = .ok (.bipush 11, 2) := by decide +kernel
theorem dX11_look_22 : decode cX11_look 22 = .ok (.invokevirtual 48, 3) := by decide +kernel
theorem dX11_look_25 : decode cX11_look 25 = .ok (.ifCond .eq 11, 3) := by decide +kernel
theorem dX11_look_28 : decode cX11_look 28 = .ok (.aload_n 0, 1) := by decide +kernel
theorem dX11_look_29 : decode cX11_look 29 = .ok (.iload_n 1, 1) := by decide +kernel
theorem dX11_look_30 : decode cX11_look 30 = .ok (.iconst 1, 1) := by decide +kernel
theorem dX11_look_31 : decode cX11_look 31 = .ok (.isub, 1) := by decide +kernel
theorem dX11_look_32 : decode cX11_look 32 = .ok (.invokevirtual 102, 3) := by decide +kernel
theorem dX11_look_35 : decode cX11_look 35 = .ok (.ireturn, 1) := by decide +kernel
theorem dX11_look_36 : decode cX11_look 36 = .ok (.iload_n 1, 1) := by decide +kernel
theorem dX11_look_37 : decode cX11_look 37 = .ok (.bipush 12, 2) := by decide +kernel
theorem dX11_look_39 : decode cX11_look 39 = .ok (.if_icmp .ne 11, 3) := by decide +kernel
theorem dX11_look_42 : decode cX11_look 42 = .ok (.aload_n 0, 1) := by decide +kernel
theorem dX11_look_43 : decode cX11_look 43 = .ok (.getfield 7, 3) := by decide +kernel
theorem dX11_look_46 : decode cX11_look 46 = .ok (.bipush 12, 2) := by decide +kernel
theorem dX11_look_48 : decode cX11_look 48 = .ok (.iaload, 1) := by decide +kernel
theorem dX11_look_49 : decode cX11_look 49 = .ok (.ireturn, 1) := by decide +kernel
theorem dX11_look_50 : decode cX11_look 50 = .ok (.aload_n 0, 1) := by decide +kernel
theorem dX11_look_51 : decode cX11_look 51 = .ok (.iload_n 1, 1) := by decide +kernel
theorem dX11_look_52 : decode cX11_look 52 = .ok (.bipush 13, 2) := by decide +kernel
theorem dX11_look_54 : decode cX11_look 54 = .ok (.bipush 17, 2) := by decide +kernel
theorem dX11_look_56 : decode cX11_look 56 = .ok (.invokevirtual 48, 3) := by decide +kernel
theorem dX11_look_59 : decode cX11_look 59 = .ok (.ifCond .eq 16, 3) := by decide +kernel
theorem dX11_look_62 : decode cX11_look 62 = .ok (.aload_n 0, 1) := by decide +kernel
theorem dX11_look_63 : decode cX11_look 63 = .ok (.getfield 7, 3) := by decide +kernel
theorem dX11_look_66 : decode cX11_look 66 = .ok (.bipush 35, 2) := by decide +kernel
theorem dX11_look_68 : decode cX11_look 68 = .ok (.iload_n 1, 1) := by decide +kernel
theorem dX11_look_69 : decode cX11_look 69 = .ok (.iadd, 1) := by decide +kernel
theorem dX11_look_70 : decode cX11_look 70 = .ok (.bipush 13, 2) := by decide +kernel
theorem dX11_look_72 : decode cX11_look 72 = .ok (.isub, 1) := by decide +kernel
theorem dX11_look_73 : decode cX11_look 73 = .ok (.iaload, 1) := by decide +kernel
theorem dX11_look_74 : decode cX11_look 74 = .ok (.ireturn, 1) := by decide +kernel
theorem dX11_look_75 : decode cX11_look 75 = .ok (.iload_n 1, 1) := by decide +kernel
theorem dX11_look_76 : decode cX11_look 76 = .ok (.bipush 18, 2) := by decide +kernel
theorem dX11_look_78 : decode cX11_look 78 = .ok (.if_icmp .ne 8, 3) := by decide +kernel
theorem dX11_look_81 : decode cX11_look 81 = .ok (.aload_n 0, 1) := by decide +kernel
theorem dX11_look_82 : decode cX11_look 82 = .ok (.getfield 321, 3) := by decide +kernel
theorem dX11_look_85 : decode cX11_look 85 = .ok (.ireturn, 1) := by decide +kernel
theorem dX11_look_86 : decode cX11_look 86 = .ok (.iload_n 1, 1) := by decide +kernel
theorem dX11_look_87 : decode cX11_look 87 = .ok (.bipush 19, 2) := by decide +kernel
theorem dX11_look_89 : decode cX11_look 89 = .ok (.if_icmp .ne 13, 3) := by decide +kernel
theorem dX11_look_92 : decode cX11_look 92 = .ok (.aload_n 0, 1) := by decide +kernel
theorem dX11_look_93 : decode cX11_look 93 = .ok (.getfield 7, 3) := by decide +kernel
theorem dX11_look_96 : decode cX11_look 96 = .ok (.bipush 49, 2) := by decide +kernel
theorem dX11_look_98 : decode cX11_look 98 = .ok (.iaload, 1) := by decide +kernel
theorem dX11_look_99 : decode cX11_look 99 = .ok (.goto 6, 3) := by decide +kernel
theorem dX11_look_102 : decode cX11_look 102 = .ok (.ldc_w 324, 3) := by decide +kernel
theorem dX11_look_105 : decode cX11_look 105 = .ok (.ireturn, 1) := by decide +kernel
theorem dX11_types_0 : decode cX11_types 0 = .ok (.bipush 24, 2) := by decide +kernel
theorem dX11_types_2 : decode cX11_types 2 = .ok (.istore_n 2, 1) := by decide +kernel
theorem dX11_types_3 : decode cX11_types 3 = .ok (.iload_n 2, 1) := by decide +kernel
theorem dX11_types_4 : decode cX11_types 4 = .ok (.ifCond .lt 35, 3) := by decide +kernel
theorem dX11_types_7 : decode cX11_types 7 = .ok (.aload_n 0, 1) := by decide +kernel
theorem dX11_types_8 : decode cX11_types 8 = .ok (.getfield 25, 3) := by decide +kernel
theorem dX11_types_11 : decode cX11_types 11 = .ok (.aload_n 0, 1) := by decide +kernel
theorem dX11_types_12 : decode cX11_types 12 = .ok (.getfield 325, 3) := by decide +kernel
theorem dX11_types_15 : decode cX11_types 15 = .ok (.iload_n 1, 1) := by decide +kernel
theorem dX11_types_16 : decode cX11_types 16 = .ok (.iload_n 2, 1) := by decide +kernel
theorem dX11_types_17 : decode cX11_types 17 = .ok (.ishr, 1) := by decide +kernel
theorem dX11_types_18 : decode cX11_types 18 = .ok (.sipush 255, 3) := by decide +kernel
theorem dX11_types_21 : decode cX11_types 21 = .ok (.iand, 1) := by decide +kernel
theorem dX11_types_22 : decode cX11_types 22 = .ok (.iastore, 1) := by decide +kernel
theorem dX11_types_23 : decode cX11_types 23 = .ok (.aload_n 0, 1) := by decide +kernel
theorem dX11_types_24 : decode cX11_types 24 = .ok (.aload_n 0, 1) := by decide +kernel
theorem dX11_types_25 : decode cX11_types 25 = .ok (.getfield 325, 3) := by decide +kernel
theorem dX11_types_28 : decode cX11_types 28 = .ok (.iconst 1, 1) := by decide +kernel
theorem dX11_types_29 : decode cX11_types 29 = .ok (.iadd, 1) := by decide +kernel
theorem dX11_types_30 : decode cX11_types 30 = .ok (.putfield 325, 3) := by decide +kernel
theorem dX11_types_33 : decode cX11_types 33 = .ok (.iinc 2 (-8), 3) := by decide +kernel
theorem dX11_types_36 : decode cX11_types 36 = .ok (.goto (-33), 3) := by decide +kernel
theorem dX11_types_39 : decode cX11_types 39 = .ok (.return_, 1) := by decide +kernel
theorem dX11_feed_0 : decode cX11_feed 0 = .ok (.aload_n 0, 1) := by decide +kernel
theorem dX11_feed_1 : decode cX11_feed 1 = .ok (.iconst 0, 1) := by decide +kernel
theorem dX11_feed_2 : decode cX11_feed 2 = .ok (.putfield 41, 3) := by decide +kernel
theorem dX11_feed_5 : decode cX11_feed 5 = .ok (.aload_n 0, 1) := by decide +kernel
theorem dX11_feed_6 : decode cX11_feed 6 = .ok (.getfield 325, 3) := by decide +kernel
theorem dX11_feed_9 : decode cX11_feed 9 = .ok (.sipush 380, 3) := by decide +kernel
theorem dX11_feed_12 : decode cX11_feed 12 = .ok (.if_icmp .le 5, 3) := by decide +kernel
theorem dX11_feed_15 : decode cX11_feed 15 = .ok (.iconst (-1), 1) := by decide +kernel
theorem dX11_feed_16 : decode cX11_feed 16 = .ok (.ireturn, 1) := by decide +kernel
theorem dX11_feed_17 : decode cX11_feed 17 = .ok (.aload_n 0, 1) := by decide +kernel
theorem dX11_feed_18 : decode cX11_feed 18 = .ok (.iload_n 1, 1) := by decide +kernel
theorem dX11_feed_19 : decode cX11_feed 19 = .ok (.invokevirtual 328, 3) := by decide +kernel
theorem dX11_feed_22 : decode cX11_feed 22 = .ok (.aload_n 0, 1) := by decide +kernel
theorem dX11_feed_23 : decode cX11_feed 23 = .ok (.iload_n 2, 1) := by decide +kernel
theorem dX11_feed_24 : decode cX11_feed 24 = .ok (.invokevirtual 328, 3) := by decide +kernel
theorem dX11_feed_27 : decode cX11_feed 27 = .ok (.aload_n 0, 1) := by decide +kernel
theorem dX11_feed_28 : decode cX11_feed 28 = .ok (.iload_n 3, 1) := by decide +kernel
theorem dX11_feed_29 : decode cX11_feed 29 = .ok (.invokevirtual 328, 3) := by decide +kernel
theorem dX11_feed_32 : decode cX11_feed 32 = .ok (.aload_n 0, 1) := by decide +kernel
theorem dX11_feed_33 : decode cX11_feed 33 = .ok (.iload 4, 2) := by decide +kernel
theorem dX11_feed_35 : decode cX11_feed 35 = .ok (.invokevirtual 328, 3) := by decide +kernel
theorem dX11_feed_38 : decode cX11_feed 38 = .ok (.aload_n 0, 1) := by decide +kernel
theorem dX11_feed_39 : decode cX11_feed 39 = .ok (.iload 5, 2) := by decide +kernel
theorem dX11_feed_41 : decode cX11_feed 41 = .ok (.invokevirtual 328, 3) := by decide +kernel
theorem dX11_feed_44 : decode cX11_feed 44 = .ok (.aload_n 0, 1) := by decide +kernel
theorem dX11_feed_45 : decode cX11_feed 45 = .ok (.getfield 325, 3) := by decide +kernel
theorem dX11_feed_48 : decode cX11_feed 48 = .ok (.ireturn, 1) := by decide +kernel
theorem dX11_end_0 : decode cX11_end 0 = .ok (.aload_n 0, 1) := by decide +kernel
theorem dX11_end_1 : decode cX11_end 1 = .ok (.iconst 0, 1) := by decide +kernel
theorem dX11_end_2 : decode cX11_end 2 = .ok (.putfield 41, 3) := by decide +kernel
theorem dX11_end_5 : decode cX11_end 5 = .ok (.aload_n 0, 1) := by decide +kernel
theorem dX11_end_6 : decode cX11_end 6 = .ok (.iload_n 1, 1) := by decide +kernel
theorem dX11_end_7 : decode cX11_end 7 = .ok (.iconst 0, 1) := by decide +kernel
theorem dX11_end_8 : decode cX11_end 8 = .ok (.aload_n 0, 1) := by decide +kernel
theorem dX11_end_9 : decode cX11_end 9 = .ok (.getfield 325, 3) := by decide +kernel
theorem dX11_end_12 : decode cX11_end 12 = .ok (.invokevirtual 48, 3) := by decide +kernel
theorem dX11_end_15 : decode cX11_end 15 = .ok (.ifCond .ne 5, 3) := by decide +kernel
theorem dX11_end_18 : decode cX11_end 18 = .ok (.iconst 0, 1) := by decide +kernel
theorem dX11_end_19 : decode cX11_end 19 = .ok (.ireturn, 1) := by decide +kernel
theorem dX11_end_20 : decode cX11_end 20 = .ok (.aload_n 0, 1) := by decide +kernel
theorem dX11_end_21 : decode cX11_end 21 = .ok (.iload_n 1, 1) := by decide +kernel
theorem dX11_end_22 : decode cX11_end 22 = .ok (.putfield 325, 3) := by decide +kernel
theorem dX11_end_25 : decode cX11_end 25 = .ok (.iconst 1, 1) := by decide +kernel
theorem dX11_end_26 : decode cX11_end 26 = .ok (.ireturn, 1) := by decide +kernel
theorem dX11_raw_0 : decode cX11_raw 0 = .ok (.iload_n 1, 1) := by decide +kernel
theorem dX11_raw_1 : decode cX11_raw 1 = .ok (.aload_n 0, 1) := by decide +kernel
theorem dX11_raw_2 : decode cX11_raw 2 = .ok (.getfield 325, 3) := by decide +kernel
theorem dX11_raw_5 : decode cX11_raw 5 = .ok (.if_icmp .ge 12, 3) := by decide +kernel
theorem dX11_raw_8 : decode cX11_raw 8 = .ok (.aload_n 0, 1) := by decide +kernel
theorem dX11_raw_9 : decode cX11_raw 9 = .ok (.getfield 25, 3) := by decide +kernel
theorem dX11_raw_12 : decode cX11_raw 12 = .ok (.iload_n 1, 1) := by decide +kernel
theorem dX11_raw_13 : decode cX11_raw 13 = .ok (.iaload, 1) := by decide +kernel
theorem dX11_raw_14 : decode cX11_raw 14 = .ok (.goto 4, 3) := by decide +kernel
theorem dX11_raw_17 : decode cX11_raw 17 = .ok (.iconst (-1), 1) := by decide +kernel
theorem dX11_raw_18 : decode cX11_raw 18 = .ok (.ireturn, 1) := by decide +kernel
theorem dX11_isLetter_0 : decode cX11_isLetter 0 = .ok (.aload_n 0, 1) := by decide +kernel
theorem dX11_isLetter_1 : decode cX11_isLetter 1 = .ok (.iload_n 1, 1) := by decide +kernel
theorem dX11_isLetter_2 : decode cX11_isLetter 2 = .ok (.bipush 97, 2) := by decide +kernel
theorem dX11_isLetter_4 : decode cX11_isLetter 4 = .ok (.bipush 122, 2) := by decide +kernel
theorem dX11_isLetter_6 : decode cX11_isLetter 6 = .ok (.invokevirtual 48, 3) := by decide +kernel
theorem dX11_isLetter_9 : decode cX11_isLetter 9 = .ok (.ifCond .ne 15, 3) := by decide +kernel
theorem dX11_isLetter_12 : decode cX11_isLetter 12 = .ok (.aload_n 0, 1) := by decide +kernel
theorem dX11_isLetter_13 : decode cX11_isLetter 13 = .ok (.iload_n 1, 1) := by decide +kernel
theorem dX11_isLetter_14 : decode cX11_isLetter 14 = .ok (.bipush 65, 2) := by decide +kernel
theorem dX11_isLetter_16 : decode cX11_isLetter 16 = .ok (.bipush 90, 2) := by decide +kernel
theorem dX11_isLetter_18 : decode cX11_isLetter 18 = .ok (.invokevirtual 48, 3) := by decide +kernel
theorem dX11_isLetter_21 : decode cX11_isLetter 21 = .ok (.ifCond .eq 7, 3) := by decide +kernel
theorem dX11_isLetter_24 : decode cX11_isLetter 24 = .ok (.iconst 1, 1) := by decide +kernel
theorem dX11_isLetter_25 : decode cX11_isLetter 25 = .ok (.goto 4, 3) := by decide +kernel
theorem dX11_isLetter_28 : decode cX11_isLetter 28 = .ok (.iconst 0, 1) := by decide +kernel
theorem dX11_isLetter_29 : decode cX11_isLetter 29 = .ok (.ireturn, 1) := by decide +kernel
theorem dX11_isDigit_0 : decode cX11_isDigit 0 = .ok (.aload_n 0, 1) := by decide +kernel
theorem dX11_isDigit_1 : decode cX11_isDigit 1 = .ok (.iload_n 1, 1) := by decide +kernel
theorem dX11_isDigit_2 : decode cX11_isDigit 2 = .ok (.bipush 48, 2) := by decide +kernel
theorem dX11_isDigit_4 : decode cX11_isDigit 4 = .ok (.bipush 57, 2) := by decide +kernel
theorem dX11_isDigit_6 : decode cX11_isDigit 6 = .ok (.invokevirtual 48, 3) := by decide +kernel
theorem dX11_isDigit_9 : decode cX11_isDigit 9 = .ok (.ireturn, 1) := by decide +kernel
theorem dX11_wordAt_0 : decode cX11_wordAt 0 = .ok (.iconst (-1), 1) := by decide +kernel
theorem dX11_wordAt_1 : decode cX11_wordAt 1 = .ok (.istore_n 3, 1) := by decide +kernel
theorem dX11_wordAt_2 : decode cX11_wordAt 2 = .ok (.iconst 0, 1) := by decide +kernel
theorem dX11_wordAt_3 : decode cX11_wordAt 3 = .ok (.istore 4, 2) := by decide +kernel
theorem dX11_wordAt_5 : decode cX11_wordAt 5 = .ok (.iload 4, 2) := by decide +kernel
theorem dX11_wordAt_7 : decode cX11_wordAt 7 = .ok (.bipush 70, 2) := by decide +kernel
theorem dX11_wordAt_9 : decode cX11_wordAt 9 = .ok (.if_icmp .ge 108, 3) := by decide +kernel
theorem dX11_wordAt_12 : decode cX11_wordAt 12 = .ok (.iconst 0, 1) := by decide +kernel
theorem dX11_wordAt_13 : decode cX11_wordAt 13 = .ok (.istore 5, 2) := by decide +kernel
theorem dX11_wordAt_15 : decode cX11_wordAt 15 = .ok (.iload_n 3, 1) := by decide +kernel
theorem dX11_wordAt_16 : decode cX11_wordAt 16 = .ok (.iconst 1, 1) := by decide +kernel
theorem dX11_wordAt_17 : decode cX11_wordAt 17 = .ok (.iadd, 1) := by decide +kernel
theorem dX11_wordAt_18 : decode cX11_wordAt 18 = .ok (.istore_n 3, 1) := by decide +kernel
theorem dX11_wordAt_19 : decode cX11_wordAt 19 = .ok (.iload_n 1, 1) := by decide +kernel
theorem dX11_wordAt_20 : decode cX11_wordAt 20 = .ok (.iload 5, 2) := by decide +kernel
theorem dX11_wordAt_22 : decode cX11_wordAt 22 = .ok (.iadd, 1) := by decide +kernel
theorem dX11_wordAt_23 : decode cX11_wordAt 23 = .ok (.iload_n 2, 1) := by decide +kernel
theorem dX11_wordAt_24 : decode cX11_wordAt 24 = .ok (.if_icmp .ge 36, 3) := by decide +kernel
theorem dX11_wordAt_27 : decode cX11_wordAt 27 = .ok (.aload_n 0, 1) := by decide +kernel
theorem dX11_wordAt_28 : decode cX11_wordAt 28 = .ok (.getfield 28, 3) := by decide +kernel
theorem dX11_wordAt_31 : decode cX11_wordAt 31 = .ok (.iload 4, 2) := by decide +kernel
theorem dX11_wordAt_33 : decode cX11_wordAt 33 = .ok (.iconst 1, 1) := by decide +kernel
theorem dX11_wordAt_34 : decode cX11_wordAt 34 = .ok (.iadd, 1) := by decide +kernel
theorem dX11_wordAt_35 : decode cX11_wordAt 35 = .ok (.iload 5, 2) := by decide +kernel
theorem dX11_wordAt_37 : decode cX11_wordAt 37 = .ok (.iadd, 1) := by decide +kernel
theorem dX11_wordAt_38 : decode cX11_wordAt 38 = .ok (.iaload, 1) := by decide +kernel
theorem dX11_wordAt_39 : decode cX11_wordAt 39 = .ok (.aload_n 0, 1) := by decide +kernel
theorem dX11_wordAt_40 : decode cX11_wordAt 40 = .ok (.getfield 25, 3) := by decide +kernel
theorem dX11_wordAt_43 : decode cX11_wordAt 43 = .ok (.iload_n 1, 1) := by decide +kernel
theorem dX11_wordAt_44 : decode cX11_wordAt 44 = .ok (.iload 5, 2) := by decide +kernel
theorem dX11_wordAt_46 : decode cX11_wordAt 46 = .ok (.iadd, 1) := by decide +kernel
theorem dX11_wordAt_47 : decode cX11_wordAt 47 = .ok (.iaload, 1) := by decide +kernel
theorem dX11_wordAt_48 : decode cX11_wordAt 48 = .ok (.if_icmp .ne 12, 3) := by decide +kernel
theorem dX11_wordAt_51 : decode cX11_wordAt 51 = .ok (.iload 5, 2) := by decide +kernel
theorem dX11_wordAt_53 : decode cX11_wordAt 53 = .ok (.iconst 1, 1) := by decide +kernel
theorem dX11_wordAt_54 : decode cX11_wordAt 54 = .ok (.iadd, 1) := by decide +kernel
theorem dX11_wordAt_55 : decode cX11_wordAt 55 = .ok (.istore 5, 2) := by decide +kernel
theorem dX11_wordAt_57 : decode cX11_wordAt 57 = .ok (.goto (-38), 3) := by decide +kernel
theorem dX11_wordAt_60 : decode cX11_wordAt 60 = .ok (.iload_n 1, 1) := by decide +kernel
theorem dX11_wordAt_61 : decode cX11_wordAt 61 = .ok (.iload 5, 2) := by decide +kernel
theorem dX11_wordAt_63 : decode cX11_wordAt 63 = .ok (.iadd, 1) := by decide +kernel
theorem dX11_wordAt_64 : decode cX11_wordAt 64 = .ok (.iload_n 2, 1) := by decide +kernel
theorem dX11_wordAt_65 : decode cX11_wordAt 65 = .ok (.if_icmp .ne 22, 3) := by decide +kernel
theorem dX11_wordAt_68 : decode cX11_wordAt 68 = .ok (.aload_n 0, 1) := by decide +kernel
theorem dX11_wordAt_69 : decode cX11_wordAt 69 = .ok (.getfield 28, 3) := by decide +kernel
theorem dX11_wordAt_72 : decode cX11_wordAt 72 = .ok (.iload 4, 2) := by decide +kernel
theorem dX11_wordAt_74 : decode cX11_wordAt 74 = .ok (.iconst 1, 1) := by decide +kernel
theorem dX11_wordAt_75 : decode cX11_wordAt 75 = .ok (.iadd, 1) := by decide +kernel
theorem dX11_wordAt_76 : decode cX11_wordAt 76 = .ok (.iload 5, 2) := by decide +kernel
theorem dX11_wordAt_78 : decode cX11_wordAt 78 = .ok (.iadd, 1) := by decide +kernel
theorem dX11_wordAt_79 : decode cX11_wordAt 79 = .ok (.iaload, 1) := by decide +kernel
theorem dX11_wordAt_80 : decode cX11_wordAt 80 = .ok (.bipush 32, 2) := by decide +kernel
theorem dX11_wordAt_82 : decode cX11_wordAt 82 = .ok (.if_icmp .ne 5, 3) := by decide +kernel
theorem dX11_wordAt_85 : decode cX11_wordAt 85 = .ok (.iload_n 3, 1) := by decide +kernel
theorem dX11_wordAt_86 : decode cX11_wordAt 86 = .ok (.ireturn, 1) := by decide +kernel
theorem dX11_wordAt_87 : decode cX11_wordAt 87 = .ok (.iload 4, 2) := by decide +kernel
theorem dX11_wordAt_89 : decode cX11_wordAt 89 = .ok (.iconst 1, 1) := by decide +kernel
theorem dX11_wordAt_90 : decode cX11_wordAt 90 = .ok (.iadd, 1) := by decide +kernel
theorem dX11_wordAt_91 : decode cX11_wordAt 91 = .ok (.istore 4, 2) := by decide +kernel
theorem dX11_wordAt_93 : decode cX11_wordAt 93 = .ok (.aload_n 0, 1) := by decide +kernel
theorem dX11_wordAt_94 : decode cX11_wordAt 94 = .ok (.getfield 28, 3) := by decide +kernel
theorem dX11_wordAt_97 : decode cX11_wordAt 97 = .ok (.iload 4, 2) := by decide +kernel
theorem dX11_wordAt_99 : decode cX11_wordAt 99 = .ok (.iaload, 1) := by decide +kernel
theorem dX11_wordAt_100 : decode cX11_wordAt 100 = .ok (.bipush 32, 2) := by decide +kernel
theorem dX11_wordAt_102 : decode cX11_wordAt 102 = .ok (.if_icmp .eq 12, 3) := by decide +kernel
theorem dX11_wordAt_105 : decode cX11_wordAt 105 = .ok (.iload 4, 2) := by decide +kernel
theorem dX11_wordAt_107 : decode cX11_wordAt 107 = .ok (.iconst 1, 1) := by decide +kernel
theorem dX11_wordAt_108 : decode cX11_wordAt 108 = .ok (.iadd, 1) := by decide +kernel
theorem dX11_wordAt_109 : decode cX11_wordAt 109 = .ok (.istore 4, 2) := by decide +kernel
theorem dX11_wordAt_111 : decode cX11_wordAt 111 = .ok (.goto (-18), 3) := by decide +kernel
theorem dX11_wordAt_114 : decode cX11_wordAt 114 = .ok (.goto (-109), 3) := by decide +kernel
theorem dX11_wordAt_117 : decode cX11_wordAt 117 = .ok (.iconst (-1), 1) := by decide +kernel
theorem dX11_wordAt_118 : decode cX11_wordAt 118 = .ok (.ireturn, 1) := by decide +kernel
theorem dX11_reads_0 : decode cX11_reads 0 = .ok (.aload_n 0, 1) := by decide +kernel
theorem dX11_reads_1 : decode cX11_reads 1 = .ok (.aload_n 0, 1) := by decide +kernel
theorem dX11_reads_2 : decode cX11_reads 2 = .ok (.getfield 331, 3) := by decide +kernel
theorem dX11_reads_5 : decode cX11_reads 5 = .ok (.invokevirtual 334, 3) := by decide +kernel
theorem dX11_reads_8 : decode cX11_reads 8 = .ok (.bipush 32, 2) := by decide +kernel
theorem dX11_reads_10 : decode cX11_reads 10 = .ok (.if_icmp .eq 16, 3) := by decide +kernel
theorem dX11_reads_13 : decode cX11_reads 13 = .ok (.aload_n 0, 1) := by decide +kernel
theorem dX11_reads_14 : decode cX11_reads 14 = .ok (.aload_n 0, 1) := by decide +kernel
theorem dX11_reads_15 : decode cX11_reads 15 = .ok (.getfield 331, 3) := by decide +kernel
theorem dX11_reads_18 : decode cX11_reads 18 = .ok (.invokevirtual 334, 3) := by decide +kernel
theorem dX11_reads_21 : decode cX11_reads 21 = .ok (.bipush 10, 2) := by decide +kernel
theorem dX11_reads_23 : decode cX11_reads 23 = .ok (.if_icmp .ne 16, 3) := by decide +kernel
theorem dX11_reads_26 : decode cX11_reads 26 = .ok (.aload_n 0, 1) := by decide +kernel
theorem dX11_reads_27 : decode cX11_reads 27 = .ok (.aload_n 0, 1) := by decide +kernel
theorem dX11_reads_28 : decode cX11_reads 28 = .ok (.getfield 331, 3) := by decide +kernel
theorem dX11_reads_31 : decode cX11_reads 31 = .ok (.iconst 1, 1) := by decide +kernel
theorem dX11_reads_32 : decode cX11_reads 32 = .ok (.iadd, 1) := by decide +kernel
theorem dX11_reads_33 : decode cX11_reads 33 = .ok (.putfield 331, 3) := by decide +kernel
theorem dX11_reads_36 : decode cX11_reads 36 = .ok (.goto (-36), 3) := by decide +kernel
theorem dX11_reads_39 : decode cX11_reads 39 = .ok (.aload_n 0, 1) := by decide +kernel
theorem dX11_reads_40 : decode cX11_reads 40 = .ok (.aload_n 0, 1) := by decide +kernel
theorem dX11_reads_41 : decode cX11_reads 41 = .ok (.getfield 331, 3) := by decide +kernel
theorem dX11_reads_44 : decode cX11_reads 44 = .ok (.putfield 337, 3) := by decide +kernel
theorem dX11_reads_47 : decode cX11_reads 47 = .ok (.aload_n 0, 1) := by decide +kernel
theorem dX11_reads_48 : decode cX11_reads 48 = .ok (.iconst 1, 1) := by decide +kernel
theorem dX11_reads_49 : decode cX11_reads 49 = .ok (.putfield 340, 3) := by decide +kernel
theorem dX11_reads_52 : decode cX11_reads 52 = .ok (.aload_n 0, 1) := by decide +kernel
theorem dX11_reads_53 : decode cX11_reads 53 = .ok (.aload_n 0, 1) := by decide +kernel
theorem dX11_reads_54 : decode cX11_reads 54 = .ok (.getfield 331, 3) := by decide +kernel
theorem dX11_reads_57 : decode cX11_reads 57 = .ok (.invokevirtual 334, 3) := by decide +kernel
theorem dX11_reads_60 : decode cX11_reads 60 = .ok (.istore_n 1, 1) := by decide +kernel
theorem dX11_reads_61 : decode cX11_reads 61 = .ok (.iload_n 1, 1) := by decide +kernel
theorem dX11_reads_62 : decode cX11_reads 62 = .ok (.iconst (-1), 1) := by decide +kernel
theorem dX11_reads_63 : decode cX11_reads 63 = .ok (.if_icmp .ne 9, 3) := by decide +kernel
theorem dX11_reads_66 : decode cX11_reads 66 = .ok (.aload_n 0, 1) := by decide +kernel
theorem dX11_reads_67 : decode cX11_reads 67 = .ok (.iconst 0, 1) := by decide +kernel
theorem dX11_reads_68 : decode cX11_reads 68 = .ok (.putfield 340, 3) := by decide +kernel
theorem dX11_reads_71 : decode cX11_reads 71 = .ok (.return_, 1) := by decide +kernel
theorem dX11_reads_72 : decode cX11_reads 72 = .ok (.aload_n 0, 1) := by decide +kernel
theorem dX11_reads_73 : decode cX11_reads 73 = .ok (.aload_n 0, 1) := by decide +kernel
theorem dX11_reads_74 : decode cX11_reads 74 = .ok (.getfield 331, 3) := by decide +kernel
theorem dX11_reads_77 : decode cX11_reads 77 = .ok (.iconst 1, 1) := by decide +kernel
theorem dX11_reads_78 : decode cX11_reads 78 = .ok (.iadd, 1) := by decide +kernel
theorem dX11_reads_79 : decode cX11_reads 79 = .ok (.putfield 331, 3) := by decide +kernel
theorem dX11_reads_82 : decode cX11_reads 82 = .ok (.aload_n 0, 1) := by decide +kernel
theorem dX11_reads_83 : decode cX11_reads 83 = .ok (.iload_n 1, 1) := by decide +kernel
theorem dX11_reads_84 : decode cX11_reads 84 = .ok (.invokevirtual 343, 3) := by decide +kernel
theorem dX11_reads_87 : decode cX11_reads 87 = .ok (.ifCond .eq 63, 3) := by decide +kernel
theorem dX11_reads_90 : decode cX11_reads 90 = .ok (.aload_n 0, 1) := by decide +kernel
theorem dX11_reads_91 : decode cX11_reads 91 = .ok (.aload_n 0, 1) := by decide +kernel
theorem dX11_reads_92 : decode cX11_reads 92 = .ok (.aload_n 0, 1) := by decide +kernel
theorem dX11_reads_93 : decode cX11_reads 93 = .ok (.getfield 331, 3) := by decide +kernel
theorem dX11_reads_96 : decode cX11_reads 96 = .ok (.invokevirtual 334, 3) := by decide +kernel
theorem dX11_reads_99 : decode cX11_reads 99 = .ok (.invokevirtual 343, 3) := by decide +kernel
theorem dX11_reads_102 : decode cX11_reads 102 = .ok (.ifCond .eq 16, 3) := by decide +kernel
theorem dX11_reads_105 : decode cX11_reads 105 = .ok (.aload_n 0, 1) := by decide +kernel
theorem dX11_reads_106 : decode cX11_reads 106 = .ok (.aload_n 0, 1) := by decide +kernel
theorem dX11_reads_107 : decode cX11_reads 107 = .ok (.getfield 331, 3) := by decide +kernel
theorem dX11_reads_110 : decode cX11_reads 110 = .ok (.iconst 1, 1) := by decide +kernel
theorem dX11_reads_111 : decode cX11_reads 111 = .ok (.iadd, 1) := by decide +kernel
theorem dX11_reads_112 : decode cX11_reads 112 = .ok (.putfield 331, 3) := by decide +kernel
theorem dX11_reads_115 : decode cX11_reads 115 = .ok (.goto (-25), 3) := by decide +kernel
theorem dX11_reads_118 : decode cX11_reads 118 = .ok (.aload_n 0, 1) := by decide +kernel
theorem dX11_reads_119 : decode cX11_reads 119 = .ok (.aload_n 0, 1) := by decide +kernel
theorem dX11_reads_120 : decode cX11_reads 120 = .ok (.aload_n 0, 1) := by decide +kernel
theorem dX11_reads_121 : decode cX11_reads 121 = .ok (.getfield 337, 3) := by decide +kernel
theorem dX11_reads_124 : decode cX11_reads 124 = .ok (.aload_n 0, 1) := by decide +kernel
theorem dX11_reads_125 : decode cX11_reads 125 = .ok (.getfield 331, 3) := by decide +kernel
theorem dX11_reads_128 : decode cX11_reads 128 = .ok (.invokevirtual 346, 3) := by decide +kernel
theorem dX11_reads_131 : decode cX11_reads 131 = .ok (.putfield 349, 3) := by decide +kernel
theorem dX11_reads_134 : decode cX11_reads 134 = .ok (.aload_n 0, 1) := by decide +kernel
theorem dX11_reads_135 : decode cX11_reads 135 = .ok (.getfield 349, 3) := by decide +kernel
theorem dX11_reads_138 : decode cX11_reads 138 = .ok (.iconst (-1), 1) := by decide +kernel
theorem dX11_reads_139 : decode cX11_reads 139 = .ok (.if_icmp .eq 127, 3) := by decide +kernel
theorem dX11_reads_142 : decode cX11_reads 142 = .ok (.aload_n 0, 1) := by decide +kernel
theorem dX11_reads_143 : decode cX11_reads 143 = .ok (.iconst 2, 1) := by decide +kernel
theorem dX11_reads_144 : decode cX11_reads 144 = .ok (.putfield 340, 3) := by decide +kernel
theorem dX11_reads_147 : decode cX11_reads 147 = .ok (.goto 119, 3) := by decide +kernel
theorem dX11_reads_150 : decode cX11_reads 150 = .ok (.aload_n 0, 1) := by decide +kernel
theorem dX11_reads_151 : decode cX11_reads 151 = .ok (.iload_n 1, 1) := by decide +kernel
theorem dX11_reads_152 : decode cX11_reads 152 = .ok (.invokevirtual 352, 3) := by decide +kernel
theorem dX11_reads_155 : decode cX11_reads 155 = .ok (.ifCond .eq 100, 3) := by decide +kernel
theorem dX11_reads_158 : decode cX11_reads 158 = .ok (.aload_n 0, 1) := by decide +kernel
theorem dX11_reads_159 : decode cX11_reads 159 = .ok (.iload_n 1, 1) := by decide +kernel
theorem dX11_reads_160 : decode cX11_reads 160 = .ok (.bipush 48, 2) := by decide +kernel
theorem dX11_reads_162 : decode cX11_reads 162 = .ok (.isub, 1) := by decide +kernel
theorem dX11_reads_163 : decode cX11_reads 163 = .ok (.putfield 349, 3) := by decide +kernel
theorem dX11_reads_166 : decode cX11_reads 166 = .ok (.aload_n 0, 1) := by decide +kernel
theorem dX11_reads_167 : decode cX11_reads 167 = .ok (.aload_n 0, 1) := by decide +kernel
theorem dX11_reads_168 : decode cX11_reads 168 = .ok (.aload_n 0, 1) := by decide +kernel
theorem dX11_reads_169 : decode cX11_reads 169 = .ok (.getfield 331, 3) := by decide +kernel
theorem dX11_reads_172 : decode cX11_reads 172 = .ok (.invokevirtual 334, 3) := by decide +kernel
theorem dX11_reads_175 : decode cX11_reads 175 = .ok (.invokevirtual 352, 3) := by decide +kernel
theorem dX11_reads_178 : decode cX11_reads 178 = .ok (.ifCond .eq 56, 3) := by decide +kernel
theorem dX11_reads_181 : decode cX11_reads 181 = .ok (.aload_n 0, 1) := by decide +kernel
theorem dX11_reads_182 : decode cX11_reads 182 = .ok (.aload_n 0, 1) := by decide +kernel
theorem dX11_reads_183 : decode cX11_reads 183 = .ok (.getfield 349, 3) := by decide +kernel
theorem dX11_reads_186 : decode cX11_reads 186 = .ok (.sipush 10000, 3) := by decide +kernel
theorem dX11_reads_189 : decode cX11_reads 189 = .ok (.if_icmp .ge 25, 3) := by decide +kernel
theorem dX11_reads_192 : decode cX11_reads 192 = .ok (.bipush 10, 2) := by decide +kernel
theorem dX11_reads_194 : decode cX11_reads 194 = .ok (.aload_n 0, 1) := by decide +kernel
theorem dX11_reads_195 : decode cX11_reads 195 = .ok (.getfield 349, 3) := by decide +kernel
theorem dX11_reads_198 : decode cX11_reads 198 = .ok (.imul, 1) := by decide +kernel
theorem dX11_reads_199 : decode cX11_reads 199 = .ok (.aload_n 0, 1) := by decide +kernel
theorem dX11_reads_200 : decode cX11_reads 200 = .ok (.aload_n 0, 1) := by decide +kernel
theorem dX11_reads_201 : decode cX11_reads 201 = .ok (.getfield 331, 3) := by decide +kernel
theorem dX11_reads_204 : decode cX11_reads 204 = .ok (.invokevirtual 334, 3) := by decide +kernel
theorem dX11_reads_207 : decode cX11_reads 207 = .ok (.iadd, 1) := by decide +kernel
theorem dX11_reads_208 : decode cX11_reads 208 = .ok (.bipush 48, 2) := by decide +kernel
theorem dX11_reads_210 : decode cX11_reads 210 = .ok (.isub, 1) := by decide +kernel
theorem dX11_reads_211 : decode cX11_reads 211 = .ok (.goto 7, 3) := by decide +kernel
theorem dX11_reads_214 : decode cX11_reads 214 = .ok (.aload_n 0, 1) := by decide +kernel
theorem dX11_reads_215 : decode cX11_reads 215 = .ok (.getfield 349, 3) := by decide +kernel
theorem dX11_reads_218 : decode cX11_reads 218 = .ok (.putfield 349, 3) := by decide +kernel
theorem dX11_reads_221 : decode cX11_reads 221 = .ok (.aload_n 0, 1) := by decide +kernel
theorem dX11_reads_222 : decode cX11_reads 222 = .ok (.aload_n 0, 1) := by decide +kernel
theorem dX11_reads_223 : decode cX11_reads 223 = .ok (.getfield 331, 3) := by decide +kernel
theorem dX11_reads_226 : decode cX11_reads 226 = .ok (.iconst 1, 1) := by decide +kernel
theorem dX11_reads_227 : decode cX11_reads 227 = .ok (.iadd, 1) := by decide +kernel
theorem dX11_reads_228 : decode cX11_reads 228 = .ok (.putfield 331, 3) := by decide +kernel
theorem dX11_reads_231 : decode cX11_reads 231 = .ok (.goto (-65), 3) := by decide +kernel
theorem dX11_reads_234 : decode cX11_reads 234 = .ok (.aload_n 0, 1) := by decide +kernel
theorem dX11_reads_235 : decode cX11_reads 235 = .ok (.getfield 331, 3) := by decide +kernel
theorem dX11_reads_238 : decode cX11_reads 238 = .ok (.aload_n 0, 1) := by decide +kernel
theorem dX11_reads_239 : decode cX11_reads 239 = .ok (.getfield 337, 3) := by decide +kernel
theorem dX11_reads_242 : decode cX11_reads 242 = .ok (.isub, 1) := by decide +kernel
theorem dX11_reads_243 : decode cX11_reads 243 = .ok (.iconst 5, 1) := by decide +kernel
theorem dX11_reads_244 : decode cX11_reads 244 = .ok (.if_icmp .ge 22, 3) := by decide +kernel
theorem dX11_reads_247 : decode cX11_reads 247 = .ok (.aload_n 0, 1) := by decide +kernel
theorem dX11_reads_248 : decode cX11_reads 248 = .ok (.iconst 3, 1) := by decide +kernel
theorem dX11_reads_249 : decode cX11_reads 249 = .ok (.putfield 340, 3) := by decide +kernel
theorem dX11_reads_252 : decode cX11_reads 252 = .ok (.goto 14, 3) := by decide +kernel
theorem dX11_reads_255 : decode cX11_reads 255 = .ok (.iload_n 1, 1) := by decide +kernel
theorem dX11_reads_256 : decode cX11_reads 256 = .ok (.bipush 59, 2) := by decide +kernel
theorem dX11_reads_258 : decode cX11_reads 258 = .ok (.if_icmp .ne 8, 3) := by decide +kernel
theorem dX11_reads_261 : decode cX11_reads 261 = .ok (.aload_n 0, 1) := by decide +kernel
theorem dX11_reads_262 : decode cX11_reads 262 = .ok (.iconst 4, 1) := by decide +kernel
theorem dX11_reads_263 : decode cX11_reads 263 = .ok (.putfield 340, 3) := by decide +kernel
theorem dX11_reads_266 : decode cX11_reads 266 = .ok (.return_, 1) := by decide +kernel
theorem dX11_errs_0 : decode cX11_errs 0 = .ok (.aload_n 0, 1) := by decide +kernel
theorem dX11_errs_1 : decode cX11_errs 1 = .ok (.iload_n 1, 1) := by decide +kernel
theorem dX11_errs_2 : decode cX11_errs 2 = .ok (.putfield 355, 3) := by decide +kernel
theorem dX11_errs_5 : decode cX11_errs 5 = .ok (.aload_n 0, 1) := by decide +kernel
theorem dX11_errs_6 : decode cX11_errs 6 = .ok (.aload_n 0, 1) := by decide +kernel
theorem dX11_errs_7 : decode cX11_errs 7 = .ok (.getfield 337, 3) := by decide +kernel
theorem dX11_errs_10 : decode cX11_errs 10 = .ok (.putfield 358, 3) := by decide +kernel
theorem dX11_errs_13 : decode cX11_errs 13 = .ok (.iconst (-1), 1) := by decide +kernel
theorem dX11_errs_14 : decode cX11_errs 14 = .ok (.ireturn, 1) := by decide +kernel
theorem dX11_lowOf_0 : decode cX11_lowOf 0 = .ok (.iload_n 1, 1) := by decide +kernel
theorem dX11_lowOf_1 : decode cX11_lowOf 1 = .ok (.iconst 4, 1) := by decide +kernel
theorem dX11_lowOf_2 : decode cX11_lowOf 2 = .ok (.if_icmp .eq 8, 3) := by decide +kernel
theorem dX11_lowOf_5 : decode cX11_lowOf 5 = .ok (.iload_n 1, 1) := by decide +kernel
theorem dX11_lowOf_6 : decode cX11_lowOf 6 = .ok (.iconst 5, 1) := by decide +kernel
theorem dX11_lowOf_7 : decode cX11_lowOf 7 = .ok (.if_icmp .ne 7, 3) := by decide +kernel
theorem dX11_lowOf_10 : decode cX11_lowOf 10 = .ok (.iconst 1, 1) := by decide +kernel
theorem dX11_lowOf_11 : decode cX11_lowOf 11 = .ok (.goto 4, 3) := by decide +kernel
theorem dX11_lowOf_14 : decode cX11_lowOf 14 = .ok (.iconst 0, 1) := by decide +kernel
theorem dX11_lowOf_15 : decode cX11_lowOf 15 = .ok (.ireturn, 1) := by decide +kernel
theorem dX11_highOf_0 : decode cX11_highOf 0 = .ok (.iload_n 1, 1) := by decide +kernel
theorem dX11_highOf_1 : decode cX11_highOf 1 = .ok (.iconst 1, 1) := by decide +kernel
theorem dX11_highOf_2 : decode cX11_highOf 2 = .ok (.if_icmp .gt 9, 3) := by decide +kernel
theorem dX11_highOf_5 : decode cX11_highOf 5 = .ok (.sipush 9999, 3) := by decide +kernel
theorem dX11_highOf_8 : decode cX11_highOf 8 = .ok (.goto 16, 3) := by decide +kernel
theorem dX11_highOf_11 : decode cX11_highOf 11 = .ok (.iload_n 1, 1) := by decide +kernel
theorem dX11_highOf_12 : decode cX11_highOf 12 = .ok (.iconst 3, 1) := by decide +kernel
theorem dX11_highOf_13 : decode cX11_highOf 13 = .ok (.if_icmp .gt 9, 3) := by decide +kernel
theorem dX11_highOf_16 : decode cX11_highOf 16 = .ok (.sipush 255, 3) := by decide +kernel
theorem dX11_highOf_19 : decode cX11_highOf 19 = .ok (.goto 5, 3) := by decide +kernel
theorem dX11_highOf_22 : decode cX11_highOf 22 = .ok (.bipush 60, 2) := by decide +kernel
theorem dX11_highOf_24 : decode cX11_highOf 24 = .ok (.ireturn, 1) := by decide +kernel
theorem dX11_readLine_0 : decode cX11_readLine 0 = .ok (.aload_n 0, 1) := by decide +kernel
theorem dX11_readLine_1 : decode cX11_readLine 1 = .ok (.getfield 340, 3) := by decide +kernel
theorem dX11_readLine_4 : decode cX11_readLine 4 = .ok (.iconst 2, 1) := by decide +kernel
theorem dX11_readLine_5 : decode cX11_readLine 5 = .ok (.if_icmp .eq 9, 3) := by decide +kernel
theorem dX11_readLine_8 : decode cX11_readLine 8 = .ok (.aload_n 0, 1) := by decide +kernel
theorem dX11_readLine_9 : decode cX11_readLine 9 = .ok (.iconst 1, 1) := by decide +kernel
theorem dX11_readLine_10 : decode cX11_readLine 10 = .ok (.invokevirtual 361, 3) := by decide +kernel
theorem dX11_readLine_13 : decode cX11_readLine 13 = .ok (.ireturn, 1) := by decide +kernel
theorem dX11_readLine_14 : decode cX11_readLine 14 = .ok (.iload_n 1, 1) := by decide +kernel
theorem dX11_readLine_15 : decode cX11_readLine 15 = .ok (.bipush 24, 2) := by decide +kernel
theorem dX11_readLine_17 : decode cX11_readLine 17 = .ok (.if_icmp .ne 9, 3) := by decide +kernel
theorem dX11_readLine_20 : decode cX11_readLine 20 = .ok (.aload_n 0, 1) := by decide +kernel
theorem dX11_readLine_21 : decode cX11_readLine 21 = .ok (.iconst 3, 1) := by decide +kernel
theorem dX11_readLine_22 : decode cX11_readLine 22 = .ok (.invokevirtual 361, 3) := by decide +kernel
theorem dX11_readLine_25 : decode cX11_readLine 25 = .ok (.ireturn, 1) := by decide +kernel
theorem dX11_readLine_26 : decode cX11_readLine 26 = .ok (.aload_n 0, 1) := by decide +kernel
theorem dX11_readLine_27 : decode cX11_readLine 27 = .ok (.getfield 349, 3) := by decide +kernel
theorem dX11_readLine_30 : decode cX11_readLine 30 = .ok (.istore_n 2, 1) := by decide +kernel
theorem dX11_readLine_31 : decode cX11_readLine 31 = .ok (.aload_n 0, 1) := by decide +kernel
theorem dX11_readLine_32 : decode cX11_readLine 32 = .ok (.getfield 35, 3) := by decide +kernel
theorem dX11_readLine_35 : decode cX11_readLine 35 = .ok (.bipush 48, 2) := by decide +kernel
theorem dX11_readLine_37 : decode cX11_readLine 37 = .ok (.iconst 2, 1) := by decide +kernel
theorem dX11_readLine_38 : decode cX11_readLine 38 = .ok (.iload_n 1, 1) := by decide +kernel
theorem dX11_readLine_39 : decode cX11_readLine 39 = .ok (.imul, 1) := by decide +kernel
theorem dX11_readLine_40 : decode cX11_readLine 40 = .ok (.iadd, 1) := by decide +kernel
theorem dX11_readLine_41 : decode cX11_readLine 41 = .ok (.iload_n 2, 1) := by decide +kernel
theorem dX11_readLine_42 : decode cX11_readLine 42 = .ok (.iastore, 1) := by decide +kernel
theorem dX11_readLine_43 : decode cX11_readLine 43 = .ok (.aload_n 0, 1) := by decide +kernel
theorem dX11_readLine_44 : decode cX11_readLine 44 = .ok (.invokevirtual 364, 3) := by decide +kernel
theorem dX11_readLine_47 : decode cX11_readLine 47 = .ok (.iload_n 2, 1) := by decide +kernel
theorem dX11_readLine_48 : decode cX11_readLine 48 = .ok (.iconst 5, 1) := by decide +kernel
theorem dX11_readLine_49 : decode cX11_readLine 49 = .ok (.if_icmp .gt 65, 3) := by decide +kernel
theorem dX11_readLine_52 : decode cX11_readLine 52 = .ok (.aload_n 0, 1) := by decide +kernel
theorem dX11_readLine_53 : decode cX11_readLine 53 = .ok (.getfield 340, 3) := by decide +kernel
theorem dX11_readLine_56 : decode cX11_readLine 56 = .ok (.iconst 3, 1) := by decide +kernel
theorem dX11_readLine_57 : decode cX11_readLine 57 = .ok (.if_icmp .eq 9, 3) := by decide +kernel
theorem dX11_readLine_60 : decode cX11_readLine 60 = .ok (.aload_n 0, 1) := by decide +kernel
theorem dX11_readLine_61 : decode cX11_readLine 61 = .ok (.iconst 1, 1) := by decide +kernel
theorem dX11_readLine_62 : decode cX11_readLine 62 = .ok (.invokevirtual 361, 3) := by decide +kernel
theorem dX11_readLine_65 : decode cX11_readLine 65 = .ok (.ireturn, 1) := by decide +kernel
theorem dX11_readLine_66 : decode cX11_readLine 66 = .ok (.aload_n 0, 1) := by decide +kernel
theorem dX11_readLine_67 : decode cX11_readLine 67 = .ok (.aload_n 0, 1) := by decide +kernel
theorem dX11_readLine_68 : decode cX11_readLine 68 = .ok (.getfield 349, 3) := by decide +kernel
theorem dX11_readLine_71 : decode cX11_readLine 71 = .ok (.aload_n 0, 1) := by decide +kernel
theorem dX11_readLine_72 : decode cX11_readLine 72 = .ok (.iload_n 2, 1) := by decide +kernel
theorem dX11_readLine_73 : decode cX11_readLine 73 = .ok (.invokevirtual 367, 3) := by decide +kernel
theorem dX11_readLine_76 : decode cX11_readLine 76 = .ok (.aload_n 0, 1) := by decide +kernel
theorem dX11_readLine_77 : decode cX11_readLine 77 = .ok (.iload_n 2, 1) := by decide +kernel
theorem dX11_readLine_78 : decode cX11_readLine 78 = .ok (.invokevirtual 370, 3) := by decide +kernel
theorem dX11_readLine_81 : decode cX11_readLine 81 = .ok (.invokevirtual 48, 3) := by decide +kernel
theorem dX11_readLine_84 : decode cX11_readLine 84 = .ok (.ifCond .ne 9, 3) := by decide +kernel
theorem dX11_readLine_87 : decode cX11_readLine 87 = .ok (.aload_n 0, 1) := by decide +kernel
theorem dX11_readLine_88 : decode cX11_readLine 88 = .ok (.iconst 2, 1) := by decide +kernel
theorem dX11_readLine_89 : decode cX11_readLine 89 = .ok (.invokevirtual 361, 3) := by decide +kernel
theorem dX11_readLine_92 : decode cX11_readLine 92 = .ok (.ireturn, 1) := by decide +kernel
theorem dX11_readLine_93 : decode cX11_readLine 93 = .ok (.aload_n 0, 1) := by decide +kernel
theorem dX11_readLine_94 : decode cX11_readLine 94 = .ok (.getfield 35, 3) := by decide +kernel
theorem dX11_readLine_97 : decode cX11_readLine 97 = .ok (.bipush 48, 2) := by decide +kernel
theorem dX11_readLine_99 : decode cX11_readLine 99 = .ok (.iconst 2, 1) := by decide +kernel
theorem dX11_readLine_100 : decode cX11_readLine 100 = .ok (.iload_n 1, 1) := by decide +kernel
theorem dX11_readLine_101 : decode cX11_readLine 101 = .ok (.imul, 1) := by decide +kernel
theorem dX11_readLine_102 : decode cX11_readLine 102 = .ok (.iadd, 1) := by decide +kernel
theorem dX11_readLine_103 : decode cX11_readLine 103 = .ok (.iconst 1, 1) := by decide +kernel
theorem dX11_readLine_104 : decode cX11_readLine 104 = .ok (.iadd, 1) := by decide +kernel
theorem dX11_readLine_105 : decode cX11_readLine 105 = .ok (.aload_n 0, 1) := by decide +kernel
theorem dX11_readLine_106 : decode cX11_readLine 106 = .ok (.getfield 349, 3) := by decide +kernel
theorem dX11_readLine_109 : decode cX11_readLine 109 = .ok (.iastore, 1) := by decide +kernel
theorem dX11_readLine_110 : decode cX11_readLine 110 = .ok (.aload_n 0, 1) := by decide +kernel
theorem dX11_readLine_111 : decode cX11_readLine 111 = .ok (.invokevirtual 364, 3) := by decide +kernel
theorem dX11_readLine_114 : decode cX11_readLine 114 = .ok (.aload_n 0, 1) := by decide +kernel
theorem dX11_readLine_115 : decode cX11_readLine 115 = .ok (.getfield 340, 3) := by decide +kernel
theorem dX11_readLine_118 : decode cX11_readLine 118 = .ok (.iconst 4, 1) := by decide +kernel
theorem dX11_readLine_119 : decode cX11_readLine 119 = .ok (.if_icmp .eq 9, 3) := by decide +kernel
theorem dX11_readLine_122 : decode cX11_readLine 122 = .ok (.aload_n 0, 1) := by decide +kernel
theorem dX11_readLine_123 : decode cX11_readLine 123 = .ok (.iconst 1, 1) := by decide +kernel
theorem dX11_readLine_124 : decode cX11_readLine 124 = .ok (.invokevirtual 361, 3) := by decide +kernel
theorem dX11_readLine_127 : decode cX11_readLine 127 = .ok (.ireturn, 1) := by decide +kernel
theorem dX11_readLine_128 : decode cX11_readLine 128 = .ok (.aload_n 0, 1) := by decide +kernel
theorem dX11_readLine_129 : decode cX11_readLine 129 = .ok (.invokevirtual 364, 3) := by decide +kernel
theorem dX11_readLine_132 : decode cX11_readLine 132 = .ok (.iconst 0, 1) := by decide +kernel
theorem dX11_readLine_133 : decode cX11_readLine 133 = .ok (.ireturn, 1) := by decide +kernel
theorem dX11_readPlan_0 : decode cX11_readPlan 0 = .ok (.iconst 0, 1) := by decide +kernel
theorem dX11_readPlan_1 : decode cX11_readPlan 1 = .ok (.istore_n 1, 1) := by decide +kernel
theorem dX11_readPlan_2 : decode cX11_readPlan 2 = .ok (.aload_n 0, 1) := by decide +kernel
theorem dX11_readPlan_3 : decode cX11_readPlan 3 = .ok (.iconst 0, 1) := by decide +kernel
theorem dX11_readPlan_4 : decode cX11_readPlan 4 = .ok (.putfield 331, 3) := by decide +kernel
theorem dX11_readPlan_7 : decode cX11_readPlan 7 = .ok (.aload_n 0, 1) := by decide +kernel
theorem dX11_readPlan_8 : decode cX11_readPlan 8 = .ok (.invokevirtual 364, 3) := by decide +kernel
theorem dX11_readPlan_11 : decode cX11_readPlan 11 = .ok (.aload_n 0, 1) := by decide +kernel
theorem dX11_readPlan_12 : decode cX11_readPlan 12 = .ok (.getfield 340, 3) := by decide +kernel
theorem dX11_readPlan_15 : decode cX11_readPlan 15 = .ok (.ifCond .eq 21, 3) := by decide +kernel
theorem dX11_readPlan_18 : decode cX11_readPlan 18 = .ok (.aload_n 0, 1) := by decide +kernel
theorem dX11_readPlan_19 : decode cX11_readPlan 19 = .ok (.iload_n 1, 1) := by decide +kernel
theorem dX11_readPlan_20 : decode cX11_readPlan 20 = .ok (.invokevirtual 373, 3) := by decide +kernel
theorem dX11_readPlan_23 : decode cX11_readPlan 23 = .ok (.iconst (-1), 1) := by decide +kernel
theorem dX11_readPlan_24 : decode cX11_readPlan 24 = .ok (.if_icmp .ne 5, 3) := by decide +kernel
theorem dX11_readPlan_27 : decode cX11_readPlan 27 = .ok (.iconst (-1), 1) := by decide +kernel
theorem dX11_readPlan_28 : decode cX11_readPlan 28 = .ok (.ireturn, 1) := by decide +kernel
theorem dX11_readPlan_29 : decode cX11_readPlan 29 = .ok (.iload_n 1, 1) := by decide +kernel
theorem dX11_readPlan_30 : decode cX11_readPlan 30 = .ok (.iconst 1, 1) := by decide +kernel
theorem dX11_readPlan_31 : decode cX11_readPlan 31 = .ok (.iadd, 1) := by decide +kernel
theorem dX11_readPlan_32 : decode cX11_readPlan 32 = .ok (.istore_n 1, 1) := by decide +kernel
theorem dX11_readPlan_33 : decode cX11_readPlan 33 = .ok (.goto (-22), 3) := by decide +kernel
theorem dX11_readPlan_36 : decode cX11_readPlan 36 = .ok (.iload_n 1, 1) := by decide +kernel
theorem dX11_readPlan_37 : decode cX11_readPlan 37 = .ok (.ireturn, 1) := by decide +kernel
theorem dX11_plan_0 : decode cX11_plan 0 = .ok (.aload_n 0, 1) := by decide +kernel
theorem dX11_plan_1 : decode cX11_plan 1 = .ok (.iconst 0, 1) := by decide +kernel
theorem dX11_plan_2 : decode cX11_plan 2 = .ok (.putfield 41, 3) := by decide +kernel
theorem dX11_plan_5 : decode cX11_plan 5 = .ok (.aload_n 0, 1) := by decide +kernel
theorem dX11_plan_6 : decode cX11_plan 6 = .ok (.iconst 0, 1) := by decide +kernel
theorem dX11_plan_7 : decode cX11_plan 7 = .ok (.putfield 376, 3) := by decide +kernel
theorem dX11_plan_10 : decode cX11_plan 10 = .ok (.aload_n 0, 1) := by decide +kernel
theorem dX11_plan_11 : decode cX11_plan 11 = .ok (.iconst (-1), 1) := by decide +kernel
theorem dX11_plan_12 : decode cX11_plan 12 = .ok (.putfield 31, 3) := by decide +kernel
theorem dX11_plan_15 : decode cX11_plan 15 = .ok (.aload_n 0, 1) := by decide +kernel
theorem dX11_plan_16 : decode cX11_plan 16 = .ok (.invokevirtual 379, 3) := by decide +kernel
theorem dX11_plan_19 : decode cX11_plan 19 = .ok (.istore_n 1, 1) := by decide +kernel
theorem dX11_plan_20 : decode cX11_plan 20 = .ok (.aload_n 0, 1) := by decide +kernel
theorem dX11_plan_21 : decode cX11_plan 21 = .ok (.iconst 0, 1) := by decide +kernel
theorem dX11_plan_22 : decode cX11_plan 22 = .ok (.putfield 325, 3) := by decide +kernel
theorem dX11_plan_25 : decode cX11_plan 25 = .ok (.iload_n 1, 1) := by decide +kernel
theorem dX11_plan_26 : decode cX11_plan 26 = .ok (.iconst (-1), 1) := by decide +kernel
theorem dX11_plan_27 : decode cX11_plan 27 = .ok (.if_icmp .ne 21, 3) := by decide +kernel
theorem dX11_plan_30 : decode cX11_plan 30 = .ok (.aload_n 0, 1) := by decide +kernel
theorem dX11_plan_31 : decode cX11_plan 31 = .ok (.aload_n 0, 1) := by decide +kernel
theorem dX11_plan_32 : decode cX11_plan 32 = .ok (.getfield 355, 3) := by decide +kernel
theorem dX11_plan_35 : decode cX11_plan 35 = .ok (.putfield 376, 3) := by decide +kernel
theorem dX11_plan_38 : decode cX11_plan 38 = .ok (.aload_n 0, 1) := by decide +kernel
theorem dX11_plan_39 : decode cX11_plan 39 = .ok (.aload_n 0, 1) := by decide +kernel
theorem dX11_plan_40 : decode cX11_plan 40 = .ok (.getfield 358, 3) := by decide +kernel
theorem dX11_plan_43 : decode cX11_plan 43 = .ok (.putfield 31, 3) := by decide +kernel
theorem dX11_plan_46 : decode cX11_plan 46 = .ok (.iconst (-1), 1) := by decide +kernel
theorem dX11_plan_47 : decode cX11_plan 47 = .ok (.ireturn, 1) := by decide +kernel
theorem dX11_plan_48 : decode cX11_plan 48 = .ok (.iconst 0, 1) := by decide +kernel
theorem dX11_plan_49 : decode cX11_plan 49 = .ok (.istore_n 2, 1) := by decide +kernel
theorem dX11_plan_50 : decode cX11_plan 50 = .ok (.iload_n 2, 1) := by decide +kernel
theorem dX11_plan_51 : decode cX11_plan 51 = .ok (.iconst 2, 1) := by decide +kernel
theorem dX11_plan_52 : decode cX11_plan 52 = .ok (.iload_n 1, 1) := by decide +kernel
theorem dX11_plan_53 : decode cX11_plan 53 = .ok (.imul, 1) := by decide +kernel
theorem dX11_plan_54 : decode cX11_plan 54 = .ok (.if_icmp .ge 24, 3) := by decide +kernel
theorem dX11_plan_57 : decode cX11_plan 57 = .ok (.aload_n 0, 1) := by decide +kernel
theorem dX11_plan_58 : decode cX11_plan 58 = .ok (.getfield 35, 3) := by decide +kernel
theorem dX11_plan_61 : decode cX11_plan 61 = .ok (.iload_n 2, 1) := by decide +kernel
theorem dX11_plan_62 : decode cX11_plan 62 = .ok (.aload_n 0, 1) := by decide +kernel
theorem dX11_plan_63 : decode cX11_plan 63 = .ok (.getfield 35, 3) := by decide +kernel
theorem dX11_plan_66 : decode cX11_plan 66 = .ok (.bipush 48, 2) := by decide +kernel
theorem dX11_plan_68 : decode cX11_plan 68 = .ok (.iload_n 2, 1) := by decide +kernel
theorem dX11_plan_69 : decode cX11_plan 69 = .ok (.iadd, 1) := by decide +kernel
theorem dX11_plan_70 : decode cX11_plan 70 = .ok (.iaload, 1) := by decide +kernel
theorem dX11_plan_71 : decode cX11_plan 71 = .ok (.iastore, 1) := by decide +kernel
theorem dX11_plan_72 : decode cX11_plan 72 = .ok (.iinc 2 1, 3) := by decide +kernel
theorem dX11_plan_75 : decode cX11_plan 75 = .ok (.goto (-25), 3) := by decide +kernel
theorem dX11_plan_78 : decode cX11_plan 78 = .ok (.aload_n 0, 1) := by decide +kernel
theorem dX11_plan_79 : decode cX11_plan 79 = .ok (.iload_n 1, 1) := by decide +kernel
theorem dX11_plan_80 : decode cX11_plan 80 = .ok (.putfield 321, 3) := by decide +kernel
theorem dX11_plan_83 : decode cX11_plan 83 = .ok (.aload_n 0, 1) := by decide +kernel
theorem dX11_plan_84 : decode cX11_plan 84 = .ok (.getfield 7, 3) := by decide +kernel
theorem dX11_plan_87 : decode cX11_plan 87 = .ok (.bipush 49, 2) := by decide +kernel
theorem dX11_plan_89 : decode cX11_plan 89 = .ok (.iconst 0, 1) := by decide +kernel
theorem dX11_plan_90 : decode cX11_plan 90 = .ok (.iastore, 1) := by decide +kernel
theorem dX11_plan_91 : decode cX11_plan 91 = .ok (.iload_n 1, 1) := by decide +kernel
theorem dX11_plan_92 : decode cX11_plan 92 = .ok (.ireturn, 1) := by decide +kernel
theorem dX11_fault_0 : decode cX11_fault 0 = .ok (.aload_n 0, 1) := by decide +kernel
theorem dX11_fault_1 : decode cX11_fault 1 = .ok (.iconst 0, 1) := by decide +kernel
theorem dX11_fault_2 : decode cX11_fault 2 = .ok (.putfield 41, 3) := by decide +kernel
theorem dX11_fault_5 : decode cX11_fault 5 = .ok (.iload_n 1, 1) := by decide +kernel
theorem dX11_fault_6 : decode cX11_fault 6 = .ok (.ifCond .ne 10, 3) := by decide +kernel
theorem dX11_fault_9 : decode cX11_fault 9 = .ok (.aload_n 0, 1) := by decide +kernel
theorem dX11_fault_10 : decode cX11_fault 10 = .ok (.getfield 376, 3) := by decide +kernel
theorem dX11_fault_13 : decode cX11_fault 13 = .ok (.goto 16, 3) := by decide +kernel
theorem dX11_fault_16 : decode cX11_fault 16 = .ok (.iload_n 1, 1) := by decide +kernel
theorem dX11_fault_17 : decode cX11_fault 17 = .ok (.iconst 1, 1) := by decide +kernel
theorem dX11_fault_18 : decode cX11_fault 18 = .ok (.if_icmp .ne 10, 3) := by decide +kernel
theorem dX11_fault_21 : decode cX11_fault 21 = .ok (.aload_n 0, 1) := by decide +kernel
theorem dX11_fault_22 : decode cX11_fault 22 = .ok (.getfield 31, 3) := by decide +kernel
theorem dX11_fault_25 : decode cX11_fault 25 = .ok (.goto 4, 3) := by decide +kernel
theorem dX11_fault_28 : decode cX11_fault 28 = .ok (.iconst (-1), 1) := by decide +kernel
theorem dX11_fault_29 : decode cX11_fault 29 = .ok (.ireturn, 1) := by decide +kernel
theorem dX11_runsLine_0 : decode cX11_runsLine 0 = .ok (.iload_n 1, 1) := by decide +kernel
theorem dX11_runsLine_1 : decode cX11_runsLine 1 = .ok (.ifCond .ne 18, 3) := by decide +kernel
theorem dX11_runsLine_4 : decode cX11_runsLine 4 = .ok (.aload_n 0, 1) := by decide +kernel
theorem dX11_runsLine_5 : decode cX11_runsLine 5 = .ok (.iload_n 2, 1) := by decide +kernel
theorem dX11_runsLine_6 : decode cX11_runsLine 6 = .ok (.invokevirtual 382, 3) := by decide +kernel
theorem dX11_runsLine_9 : decode cX11_runsLine 9 = .ok (.iconst (-1), 1) := by decide +kernel
theorem dX11_runsLine_10 : decode cX11_runsLine 10 = .ok (.if_icmp .eq 7, 3) := by decide +kernel
theorem dX11_runsLine_13 : decode cX11_runsLine 13 = .ok (.iconst 1, 1) := by decide +kernel
theorem dX11_runsLine_14 : decode cX11_runsLine 14 = .ok (.goto 4, 3) := by decide +kernel
theorem dX11_runsLine_17 : decode cX11_runsLine 17 = .ok (.iconst 0, 1) := by decide +kernel
theorem dX11_runsLine_18 : decode cX11_runsLine 18 = .ok (.ireturn, 1) := by decide +kernel
theorem dX11_runsLine_19 : decode cX11_runsLine 19 = .ok (.iload_n 1, 1) := by decide +kernel
theorem dX11_runsLine_20 : decode cX11_runsLine 20 = .ok (.iconst 1, 1) := by decide +kernel
theorem dX11_runsLine_21 : decode cX11_runsLine 21 = .ok (.if_icmp .ne 18, 3) := by decide +kernel
theorem dX11_runsLine_24 : decode cX11_runsLine 24 = .ok (.aload_n 0, 1) := by decide +kernel
theorem dX11_runsLine_25 : decode cX11_runsLine 25 = .ok (.iload_n 2, 1) := by decide +kernel
theorem dX11_runsLine_26 : decode cX11_runsLine 26 = .ok (.invokevirtual 385, 3) := by decide +kernel
theorem dX11_runsLine_29 : decode cX11_runsLine 29 = .ok (.iconst (-1), 1) := by decide +kernel
theorem dX11_runsLine_30 : decode cX11_runsLine 30 = .ok (.if_icmp .eq 7, 3) := by decide +kernel
theorem dX11_runsLine_33 : decode cX11_runsLine 33 = .ok (.iconst 1, 1) := by decide +kernel
theorem dX11_runsLine_34 : decode cX11_runsLine 34 = .ok (.goto 4, 3) := by decide +kernel
theorem dX11_runsLine_37 : decode cX11_runsLine 37 = .ok (.iconst 0, 1) := by decide +kernel
theorem dX11_runsLine_38 : decode cX11_runsLine 38 = .ok (.ireturn, 1) := by decide +kernel
theorem dX11_runsLine_39 : decode cX11_runsLine 39 = .ok (.iload_n 1, 1) := by decide +kernel
theorem dX11_runsLine_40 : decode cX11_runsLine 40 = .ok (.iconst 2, 1) := by decide +kernel
theorem dX11_runsLine_41 : decode cX11_runsLine 41 = .ok (.if_icmp .ne 10, 3) := by decide +kernel
theorem dX11_runsLine_44 : decode cX11_runsLine 44 = .ok (.aload_n 0, 1) := by decide +kernel
theorem dX11_runsLine_45 : decode cX11_runsLine 45 = .ok (.iconst 3, 1) := by decide +kernel
theorem dX11_runsLine_46 : decode cX11_runsLine 46 = .ok (.iload_n 2, 1) := by decide +kernel
theorem dX11_runsLine_47 : decode cX11_runsLine 47 = .ok (.invokevirtual 285, 3) := by decide +kernel
theorem dX11_runsLine_50 : decode cX11_runsLine 50 = .ok (.ireturn, 1) := by decide +kernel
theorem dX11_runsLine_51 : decode cX11_runsLine 51 = .ok (.iload_n 1, 1) := by decide +kernel
theorem dX11_runsLine_52 : decode cX11_runsLine 52 = .ok (.iconst 3, 1) := by decide +kernel
theorem dX11_runsLine_53 : decode cX11_runsLine 53 = .ok (.if_icmp .ne 9, 3) := by decide +kernel
theorem dX11_runsLine_56 : decode cX11_runsLine 56 = .ok (.aload_n 0, 1) := by decide +kernel
theorem dX11_runsLine_57 : decode cX11_runsLine 57 = .ok (.iload_n 2, 1) := by decide +kernel
theorem dX11_runsLine_58 : decode cX11_runsLine 58 = .ok (.invokevirtual 388, 3) := by decide +kernel
theorem dX11_runsLine_61 : decode cX11_runsLine 61 = .ok (.ireturn, 1) := by decide +kernel
theorem dX11_runsLine_62 : decode cX11_runsLine 62 = .ok (.iload_n 1, 1) := by decide +kernel
theorem dX11_runsLine_63 : decode cX11_runsLine 63 = .ok (.iconst 4, 1) := by decide +kernel
theorem dX11_runsLine_64 : decode cX11_runsLine 64 = .ok (.if_icmp .ne 18, 3) := by decide +kernel
theorem dX11_runsLine_67 : decode cX11_runsLine 67 = .ok (.aload_n 0, 1) := by decide +kernel
theorem dX11_runsLine_68 : decode cX11_runsLine 68 = .ok (.iload_n 2, 1) := by decide +kernel
theorem dX11_runsLine_69 : decode cX11_runsLine 69 = .ok (.invokevirtual 270, 3) := by decide +kernel
theorem dX11_runsLine_72 : decode cX11_runsLine 72 = .ok (.iconst (-1), 1) := by decide +kernel
theorem dX11_runsLine_73 : decode cX11_runsLine 73 = .ok (.if_icmp .eq 7, 3) := by decide +kernel
theorem dX11_runsLine_76 : decode cX11_runsLine 76 = .ok (.iconst 1, 1) := by decide +kernel
theorem dX11_runsLine_77 : decode cX11_runsLine 77 = .ok (.goto 4, 3) := by decide +kernel
theorem dX11_runsLine_80 : decode cX11_runsLine 80 = .ok (.iconst 0, 1) := by decide +kernel
theorem dX11_runsLine_81 : decode cX11_runsLine 81 = .ok (.ireturn, 1) := by decide +kernel
theorem dX11_runsLine_82 : decode cX11_runsLine 82 = .ok (.iload_n 1, 1) := by decide +kernel
theorem dX11_runsLine_83 : decode cX11_runsLine 83 = .ok (.iconst 5, 1) := by decide +kernel
theorem dX11_runsLine_84 : decode cX11_runsLine 84 = .ok (.if_icmp .ne 12, 3) := by decide +kernel
theorem dX11_runsLine_87 : decode cX11_runsLine 87 = .ok (.aload_n 0, 1) := by decide +kernel
theorem dX11_runsLine_88 : decode cX11_runsLine 88 = .ok (.iconst 0, 1) := by decide +kernel
theorem dX11_runsLine_89 : decode cX11_runsLine 89 = .ok (.iload_n 2, 1) := by decide +kernel
theorem dX11_runsLine_90 : decode cX11_runsLine 90 = .ok (.iconst 1, 1) := by decide +kernel
theorem dX11_runsLine_91 : decode cX11_runsLine 91 = .ok (.isub, 1) := by decide +kernel
theorem dX11_runsLine_92 : decode cX11_runsLine 92 = .ok (.invokevirtual 391, 3) := by decide +kernel
theorem dX11_runsLine_95 : decode cX11_runsLine 95 = .ok (.ireturn, 1) := by decide +kernel
theorem dX11_runsLine_96 : decode cX11_runsLine 96 = .ok (.iload_n 1, 1) := by decide +kernel
theorem dX11_runsLine_97 : decode cX11_runsLine 97 = .ok (.bipush 8, 2) := by decide +kernel
theorem dX11_runsLine_99 : decode cX11_runsLine 99 = .ok (.if_icmp .gt 13, 3) := by decide +kernel
theorem dX11_runsLine_102 : decode cX11_runsLine 102 = .ok (.aload_n 0, 1) := by decide +kernel
theorem dX11_runsLine_103 : decode cX11_runsLine 103 = .ok (.iload_n 1, 1) := by decide +kernel
theorem dX11_runsLine_104 : decode cX11_runsLine 104 = .ok (.bipush 6, 2) := by decide +kernel
theorem dX11_runsLine_106 : decode cX11_runsLine 106 = .ok (.isub, 1) := by decide +kernel
theorem dX11_runsLine_107 : decode cX11_runsLine 107 = .ok (.iconst 0, 1) := by decide +kernel
theorem dX11_runsLine_108 : decode cX11_runsLine 108 = .ok (.invokevirtual 285, 3) := by decide +kernel
theorem dX11_runsLine_111 : decode cX11_runsLine 111 = .ok (.ireturn, 1) := by decide +kernel
theorem dX11_runsLine_112 : decode cX11_runsLine 112 = .ok (.iload_n 1, 1) := by decide +kernel
theorem dX11_runsLine_113 : decode cX11_runsLine 113 = .ok (.bipush 9, 2) := by decide +kernel
theorem dX11_runsLine_115 : decode cX11_runsLine 115 = .ok (.if_icmp .eq 9, 3) := by decide +kernel
theorem dX11_runsLine_118 : decode cX11_runsLine 118 = .ok (.iload_n 1, 1) := by decide +kernel
theorem dX11_runsLine_119 : decode cX11_runsLine 119 = .ok (.bipush 10, 2) := by decide +kernel
theorem dX11_runsLine_121 : decode cX11_runsLine 121 = .ok (.if_icmp .ne 12, 3) := by decide +kernel
theorem dX11_runsLine_124 : decode cX11_runsLine 124 = .ok (.aload_n 0, 1) := by decide +kernel
theorem dX11_runsLine_125 : decode cX11_runsLine 125 = .ok (.iload_n 1, 1) := by decide +kernel
theorem dX11_runsLine_126 : decode cX11_runsLine 126 = .ok (.bipush 9, 2) := by decide +kernel
theorem dX11_runsLine_128 : decode cX11_runsLine 128 = .ok (.isub, 1) := by decide +kernel
theorem dX11_runsLine_129 : decode cX11_runsLine 129 = .ok (.invokevirtual 394, 3) := by decide +kernel
theorem dX11_runsLine_132 : decode cX11_runsLine 132 = .ok (.ireturn, 1) := by decide +kernel
theorem dX11_runsLine_133 : decode cX11_runsLine 133 = .ok (.iload_n 1, 1) := by decide +kernel
theorem dX11_runsLine_134 : decode cX11_runsLine 134 = .ok (.bipush 11, 2) := by decide +kernel
theorem dX11_runsLine_136 : decode cX11_runsLine 136 = .ok (.if_icmp .ne 19, 3) := by decide +kernel
theorem dX11_runsLine_139 : decode cX11_runsLine 139 = .ok (.aload_n 0, 1) := by decide +kernel
theorem dX11_runsLine_140 : decode cX11_runsLine 140 = .ok (.invokevirtual 200, 3) := by decide +kernel
theorem dX11_runsLine_143 : decode cX11_runsLine 143 = .ok (.iconst (-1), 1) := by decide +kernel
theorem dX11_runsLine_144 : decode cX11_runsLine 144 = .ok (.if_icmp .eq 7, 3) := by decide +kernel
theorem dX11_runsLine_147 : decode cX11_runsLine 147 = .ok (.iconst 1, 1) := by decide +kernel
theorem dX11_runsLine_148 : decode cX11_runsLine 148 = .ok (.goto 19, 3) := by decide +kernel
theorem dX11_runsLine_151 : decode cX11_runsLine 151 = .ok (.iconst 0, 1) := by decide +kernel
theorem dX11_runsLine_152 : decode cX11_runsLine 152 = .ok (.goto 15, 3) := by decide +kernel
theorem dX11_runsLine_155 : decode cX11_runsLine 155 = .ok (.aload_n 0, 1) := by decide +kernel
theorem dX11_runsLine_156 : decode cX11_runsLine 156 = .ok (.iconst 1, 1) := by decide +kernel
theorem dX11_runsLine_157 : decode cX11_runsLine 157 = .ok (.aload_n 0, 1) := by decide +kernel
theorem dX11_runsLine_158 : decode cX11_runsLine 158 = .ok (.iconst 1, 1) := by decide +kernel
theorem dX11_runsLine_159 : decode cX11_runsLine 159 = .ok (.invokevirtual 125, 3) := by decide +kernel
theorem dX11_runsLine_162 : decode cX11_runsLine 162 = .ok (.iconst 1, 1) := by decide +kernel
theorem dX11_runsLine_163 : decode cX11_runsLine 163 = .ok (.isub, 1) := by decide +kernel
theorem dX11_runsLine_164 : decode cX11_runsLine 164 = .ok (.invokevirtual 391, 3) := by decide +kernel
theorem dX11_runsLine_167 : decode cX11_runsLine 167 = .ok (.ireturn, 1) := by decide +kernel
theorem dX11_run_0 : decode cX11_run 0 = .ok (.aload_n 0, 1) := by decide +kernel
theorem dX11_run_1 : decode cX11_run 1 = .ok (.iconst 0, 1) := by decide +kernel
theorem dX11_run_2 : decode cX11_run 2 = .ok (.putfield 41, 3) := by decide +kernel
theorem dX11_run_5 : decode cX11_run 5 = .ok (.aload_n 0, 1) := by decide +kernel
theorem dX11_run_6 : decode cX11_run 6 = .ok (.iload_n 1, 1) := by decide +kernel
theorem dX11_run_7 : decode cX11_run 7 = .ok (.iconst 1, 1) := by decide +kernel
theorem dX11_run_8 : decode cX11_run 8 = .ok (.bipush 24, 2) := by decide +kernel
theorem dX11_run_10 : decode cX11_run 10 = .ok (.invokevirtual 48, 3) := by decide +kernel
theorem dX11_run_13 : decode cX11_run 13 = .ok (.ifCond .ne 5, 3) := by decide +kernel
theorem dX11_run_16 : decode cX11_run 16 = .ok (.iconst (-1), 1) := by decide +kernel
theorem dX11_run_17 : decode cX11_run 17 = .ok (.ireturn, 1) := by decide +kernel
theorem dX11_run_18 : decode cX11_run 18 = .ok (.iconst 0, 1) := by decide +kernel
theorem dX11_run_19 : decode cX11_run 19 = .ok (.istore_n 2, 1) := by decide +kernel
theorem dX11_run_20 : decode cX11_run 20 = .ok (.iconst 0, 1) := by decide +kernel
theorem dX11_run_21 : decode cX11_run 21 = .ok (.istore_n 3, 1) := by decide +kernel
theorem dX11_run_22 : decode cX11_run 22 = .ok (.iload_n 3, 1) := by decide +kernel
theorem dX11_run_23 : decode cX11_run 23 = .ok (.iload_n 1, 1) := by decide +kernel
theorem dX11_run_24 : decode cX11_run 24 = .ok (.if_icmp .ge 67, 3) := by decide +kernel
theorem dX11_run_27 : decode cX11_run 27 = .ok (.aload_n 0, 1) := by decide +kernel
theorem dX11_run_28 : decode cX11_run 28 = .ok (.getfield 7, 3) := by decide +kernel
theorem dX11_run_31 : decode cX11_run 31 = .ok (.bipush 49, 2) := by decide +kernel
theorem dX11_run_33 : decode cX11_run 33 = .ok (.iaload, 1) := by decide +kernel
theorem dX11_run_34 : decode cX11_run 34 = .ok (.aload_n 0, 1) := by decide +kernel
theorem dX11_run_35 : decode cX11_run 35 = .ok (.getfield 321, 3) := by decide +kernel
theorem dX11_run_38 : decode cX11_run 38 = .ok (.if_icmp .ge 53, 3) := by decide +kernel
theorem dX11_run_41 : decode cX11_run 41 = .ok (.iconst 2, 1) := by decide +kernel
theorem dX11_run_42 : decode cX11_run 42 = .ok (.aload_n 0, 1) := by decide +kernel
theorem dX11_run_43 : decode cX11_run 43 = .ok (.getfield 7, 3) := by decide +kernel
theorem dX11_run_46 : decode cX11_run 46 = .ok (.bipush 49, 2) := by decide +kernel
theorem dX11_run_48 : decode cX11_run 48 = .ok (.iaload, 1) := by decide +kernel
theorem dX11_run_49 : decode cX11_run 49 = .ok (.imul, 1) := by decide +kernel
theorem dX11_run_50 : decode cX11_run 50 = .ok (.istore 4, 2) := by decide +kernel
theorem dX11_run_52 : decode cX11_run 52 = .ok (.aload_n 0, 1) := by decide +kernel
theorem dX11_run_53 : decode cX11_run 53 = .ok (.aload_n 0, 1) := by decide +kernel
theorem dX11_run_54 : decode cX11_run 54 = .ok (.getfield 35, 3) := by decide +kernel
theorem dX11_run_57 : decode cX11_run 57 = .ok (.iload 4, 2) := by decide +kernel
theorem dX11_run_59 : decode cX11_run 59 = .ok (.iaload, 1) := by decide +kernel
theorem dX11_run_60 : decode cX11_run 60 = .ok (.aload_n 0, 1) := by decide +kernel
theorem dX11_run_61 : decode cX11_run 61 = .ok (.getfield 35, 3) := by decide +kernel
theorem dX11_run_64 : decode cX11_run 64 = .ok (.iload 4, 2) := by decide +kernel
theorem dX11_run_66 : decode cX11_run 66 = .ok (.iconst 1, 1) := by decide +kernel
theorem dX11_run_67 : decode cX11_run 67 = .ok (.iadd, 1) := by decide +kernel
theorem dX11_run_68 : decode cX11_run 68 = .ok (.iaload, 1) := by decide +kernel
theorem dX11_run_69 : decode cX11_run 69 = .ok (.invokevirtual 397, 3) := by decide +kernel
theorem dX11_run_72 : decode cX11_run 72 = .ok (.ifCond .eq 7, 3) := by decide +kernel
theorem dX11_run_75 : decode cX11_run 75 = .ok (.iload_n 2, 1) := by decide +kernel
theorem dX11_run_76 : decode cX11_run 76 = .ok (.iconst 1, 1) := by decide +kernel
theorem dX11_run_77 : decode cX11_run 77 = .ok (.iadd, 1) := by decide +kernel
theorem dX11_run_78 : decode cX11_run 78 = .ok (.istore_n 2, 1) := by decide +kernel
theorem dX11_run_79 : decode cX11_run 79 = .ok (.aload_n 0, 1) := by decide +kernel
theorem dX11_run_80 : decode cX11_run 80 = .ok (.bipush 49, 2) := by decide +kernel
theorem dX11_run_82 : decode cX11_run 82 = .ok (.invokevirtual 58, 3) := by decide +kernel
theorem dX11_run_85 : decode cX11_run 85 = .ok (.iinc 3 1, 3) := by decide +kernel
theorem dX11_run_88 : decode cX11_run 88 = .ok (.goto (-66), 3) := by decide +kernel
theorem dX11_run_91 : decode cX11_run 91 = .ok (.iload_n 2, 1) := by decide +kernel
theorem dX11_run_92 : decode cX11_run 92 = .ok (.ireturn, 1) := by decide +kernel
theorem dX11_image_0 : decode cX11_image 0 = .ok (.aload_n 0, 1) := by decide +kernel
theorem dX11_image_1 : decode cX11_image 1 = .ok (.iconst 0, 1) := by decide +kernel
theorem dX11_image_2 : decode cX11_image 2 = .ok (.putfield 41, 3) := by decide +kernel
theorem dX11_image_5 : decode cX11_image 5 = .ok (.iload_n 1, 1) := by decide +kernel
theorem dX11_image_6 : decode cX11_image 6 = .ok (.ifCond .ne 12, 3) := by decide +kernel
theorem dX11_image_9 : decode cX11_image 9 = .ok (.aload_n 0, 1) := by decide +kernel
theorem dX11_image_10 : decode cX11_image 10 = .ok (.getfield 400, 3) := by decide +kernel
theorem dX11_image_13 : decode cX11_image 13 = .ok (.ifCond .ne 5, 3) := by decide +kernel
theorem dX11_image_16 : decode cX11_image 16 = .ok (.iconst 0, 1) := by decide +kernel
theorem dX11_image_17 : decode cX11_image 17 = .ok (.ireturn, 1) := by decide +kernel
theorem dX11_image_18 : decode cX11_image 18 = .ok (.aload_n 0, 1) := by decide +kernel
theorem dX11_image_19 : decode cX11_image 19 = .ok (.iconst 1, 1) := by decide +kernel
theorem dX11_image_20 : decode cX11_image 20 = .ok (.putfield 400, 3) := by decide +kernel
theorem dX11_image_23 : decode cX11_image 23 = .ok (.iconst 0, 1) := by decide +kernel
theorem dX11_image_24 : decode cX11_image 24 = .ok (.istore_n 2, 1) := by decide +kernel
theorem dX11_image_25 : decode cX11_image 25 = .ok (.iload_n 2, 1) := by decide +kernel
theorem dX11_image_26 : decode cX11_image 26 = .ok (.sipush 1897, 3) := by decide +kernel
theorem dX11_image_29 : decode cX11_image 29 = .ok (.if_icmp .ge 40, 3) := by decide +kernel
theorem dX11_image_32 : decode cX11_image 32 = .ok (.iload_n 1, 1) := by decide +kernel
theorem dX11_image_33 : decode cX11_image 33 = .ok (.ifCond .eq 18, 3) := by decide +kernel
theorem dX11_image_36 : decode cX11_image 36 = .ok (.aload_n 0, 1) := by decide +kernel
theorem dX11_image_37 : decode cX11_image 37 = .ok (.getfield 38, 3) := by decide +kernel
theorem dX11_image_40 : decode cX11_image 40 = .ok (.iload_n 2, 1) := by decide +kernel
theorem dX11_image_41 : decode cX11_image 41 = .ok (.aload_n 0, 1) := by decide +kernel
theorem dX11_image_42 : decode cX11_image 42 = .ok (.getfield 7, 3) := by decide +kernel
theorem dX11_image_45 : decode cX11_image 45 = .ok (.iload_n 2, 1) := by decide +kernel
theorem dX11_image_46 : decode cX11_image 46 = .ok (.iaload, 1) := by decide +kernel
theorem dX11_image_47 : decode cX11_image 47 = .ok (.iastore, 1) := by decide +kernel
theorem dX11_image_48 : decode cX11_image 48 = .ok (.goto 15, 3) := by decide +kernel
theorem dX11_image_51 : decode cX11_image 51 = .ok (.aload_n 0, 1) := by decide +kernel
theorem dX11_image_52 : decode cX11_image 52 = .ok (.getfield 7, 3) := by decide +kernel
theorem dX11_image_55 : decode cX11_image 55 = .ok (.iload_n 2, 1) := by decide +kernel
theorem dX11_image_56 : decode cX11_image 56 = .ok (.aload_n 0, 1) := by decide +kernel
theorem dX11_image_57 : decode cX11_image 57 = .ok (.getfield 38, 3) := by decide +kernel
theorem dX11_image_60 : decode cX11_image 60 = .ok (.iload_n 2, 1) := by decide +kernel
theorem dX11_image_61 : decode cX11_image 61 = .ok (.iaload, 1) := by decide +kernel
theorem dX11_image_62 : decode cX11_image 62 = .ok (.iastore, 1) := by decide +kernel
theorem dX11_image_63 : decode cX11_image 63 = .ok (.iinc 2 1, 3) := by decide +kernel
theorem dX11_image_66 : decode cX11_image 66 = .ok (.goto (-41), 3) := by decide +kernel
theorem dX11_image_69 : decode cX11_image 69 = .ok (.iconst 0, 1) := by decide +kernel
theorem dX11_image_70 : decode cX11_image 70 = .ok (.istore_n 2, 1) := by decide +kernel
theorem dX11_image_71 : decode cX11_image 71 = .ok (.iload_n 2, 1) := by decide +kernel
theorem dX11_image_72 : decode cX11_image 72 = .ok (.bipush 48, 2) := by decide +kernel
theorem dX11_image_74 : decode cX11_image 74 = .ok (.if_icmp .ge 48, 3) := by decide +kernel
theorem dX11_image_77 : decode cX11_image 77 = .ok (.iload_n 1, 1) := by decide +kernel
theorem dX11_image_78 : decode cX11_image 78 = .ok (.ifCond .eq 22, 3) := by decide +kernel
theorem dX11_image_81 : decode cX11_image 81 = .ok (.aload_n 0, 1) := by decide +kernel
theorem dX11_image_82 : decode cX11_image 82 = .ok (.getfield 38, 3) := by decide +kernel
theorem dX11_image_85 : decode cX11_image 85 = .ok (.sipush 1897, 3) := by decide +kernel
theorem dX11_image_88 : decode cX11_image 88 = .ok (.iload_n 2, 1) := by decide +kernel
theorem dX11_image_89 : decode cX11_image 89 = .ok (.iadd, 1) := by decide +kernel
theorem dX11_image_90 : decode cX11_image 90 = .ok (.aload_n 0, 1) := by decide +kernel
theorem dX11_image_91 : decode cX11_image 91 = .ok (.getfield 35, 3) := by decide +kernel
theorem dX11_image_94 : decode cX11_image 94 = .ok (.iload_n 2, 1) := by decide +kernel
theorem dX11_image_95 : decode cX11_image 95 = .ok (.iaload, 1) := by decide +kernel
theorem dX11_image_96 : decode cX11_image 96 = .ok (.iastore, 1) := by decide +kernel
theorem dX11_image_97 : decode cX11_image 97 = .ok (.goto 19, 3) := by decide +kernel
theorem dX11_image_100 : decode cX11_image 100 = .ok (.aload_n 0, 1) := by decide +kernel
theorem dX11_image_101 : decode cX11_image 101 = .ok (.getfield 35, 3) := by decide +kernel
theorem dX11_image_104 : decode cX11_image 104 = .ok (.iload_n 2, 1) := by decide +kernel
theorem dX11_image_105 : decode cX11_image 105 = .ok (.aload_n 0, 1) := by decide +kernel
theorem dX11_image_106 : decode cX11_image 106 = .ok (.getfield 38, 3) := by decide +kernel
theorem dX11_image_109 : decode cX11_image 109 = .ok (.sipush 1897, 3) := by decide +kernel
theorem dX11_image_112 : decode cX11_image 112 = .ok (.iload_n 2, 1) := by decide +kernel
theorem dX11_image_113 : decode cX11_image 113 = .ok (.iadd, 1) := by decide +kernel
theorem dX11_image_114 : decode cX11_image 114 = .ok (.iaload, 1) := by decide +kernel
theorem dX11_image_115 : decode cX11_image 115 = .ok (.iastore, 1) := by decide +kernel
theorem dX11_image_116 : decode cX11_image 116 = .ok (.iinc 2 1, 3) := by decide +kernel
theorem dX11_image_119 : decode cX11_image 119 = .ok (.goto (-48), 3) := by decide +kernel
theorem dX11_image_122 : decode cX11_image 122 = .ok (.iload_n 1, 1) := by decide +kernel
theorem dX11_image_123 : decode cX11_image 123 = .ok (.ifCond .eq 18, 3) := by decide +kernel
theorem dX11_image_126 : decode cX11_image 126 = .ok (.aload_n 0, 1) := by decide +kernel
theorem dX11_image_127 : decode cX11_image 127 = .ok (.getfield 38, 3) := by decide +kernel
theorem dX11_image_130 : decode cX11_image 130 = .ok (.sipush 1945, 3) := by decide +kernel
theorem dX11_image_133 : decode cX11_image 133 = .ok (.aload_n 0, 1) := by decide +kernel
theorem dX11_image_134 : decode cX11_image 134 = .ok (.getfield 321, 3) := by decide +kernel
theorem dX11_image_137 : decode cX11_image 137 = .ok (.iastore, 1) := by decide +kernel
theorem dX11_image_138 : decode cX11_image 138 = .ok (.goto 15, 3) := by decide +kernel
theorem dX11_image_141 : decode cX11_image 141 = .ok (.aload_n 0, 1) := by decide +kernel
theorem dX11_image_142 : decode cX11_image 142 = .ok (.aload_n 0, 1) := by decide +kernel
theorem dX11_image_143 : decode cX11_image 143 = .ok (.getfield 38, 3) := by decide +kernel
theorem dX11_image_146 : decode cX11_image 146 = .ok (.sipush 1945, 3) := by decide +kernel
theorem dX11_image_149 : decode cX11_image 149 = .ok (.iaload, 1) := by decide +kernel
theorem dX11_image_150 : decode cX11_image 150 = .ok (.putfield 321, 3) := by decide +kernel
theorem dX11_image_153 : decode cX11_image 153 = .ok (.iconst 1, 1) := by decide +kernel
theorem dX11_image_154 : decode cX11_image 154 = .ok (.ireturn, 1) := by decide +kernel
