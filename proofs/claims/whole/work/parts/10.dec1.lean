theorem dX10_far_0 : decode cX10_far 0 = .ok (.iload_n 0, 1) := by decide +kernel
theorem dX10_far_1 : decode cX10_far 1 = .ok (.iload_n 1, 1) := by decide +kernel
theorem dX10_far_2 : decode cX10_far 2 = .ok (.isub, 1) := by decide +kernel
theorem dX10_far_3 : decode cX10_far 3 = .ok (.sipush 255, 3) := by decide +kernel
theorem dX10_far_6 : decode cX10_far 6 = .ok (.iand, 1) := by decide +kernel
theorem dX10_far_7 : decode cX10_far 7 = .ok (.ireturn, 1) := by decide +kernel
theorem dX10_isWithin_0 : decode cX10_isWithin 0 = .ok (.iload_n 0, 1) := by decide +kernel
theorem dX10_isWithin_1 : decode cX10_isWithin 1 = .ok (.iload_n 1, 1) := by decide +kernel
theorem dX10_isWithin_2 : decode cX10_isWithin 2 = .ok (.if_icmp .lt 12, 3) := by decide +kernel
theorem dX10_isWithin_5 : decode cX10_isWithin 5 = .ok (.iload_n 0, 1) := by decide +kernel
theorem dX10_isWithin_6 : decode cX10_isWithin 6 = .ok (.iload_n 2, 1) := by decide +kernel
theorem dX10_isWithin_7 : decode cX10_isWithin 7 = .ok (.if_icmp .gt 7, 3) := by decide +kernel
theorem dX10_isWithin_10 : decode cX10_isWithin 10 = .ok (.iconst 1, 1) := by decide +kernel
theorem dX10_isWithin_11 : decode cX10_isWithin 11 = .ok (.goto 4, 3) := by decide +kernel
theorem dX10_isWithin_14 : decode cX10_isWithin 14 = .ok (.iconst 0, 1) := by decide +kernel
theorem dX10_isWithin_15 : decode cX10_isWithin 15 = .ok (.ireturn, 1) := by decide +kernel
theorem dX10_isNumber_0 : decode cX10_isNumber 0 = .ok (.iload_n 0, 1) := by decide +kernel
theorem dX10_isNumber_1 : decode cX10_isNumber 1 = .ok (.iconst 0, 1) := by decide +kernel
theorem dX10_isNumber_2 : decode cX10_isNumber 2 = .ok (.sipush 255, 3) := by decide +kernel
theorem dX10_isNumber_5 : decode cX10_isNumber 5 = .ok (.invokestatic 289, 3) := by decide +kernel
theorem dX10_isNumber_8 : decode cX10_isNumber 8 = .ok (.ireturn, 1) := by decide +kernel
theorem dX10_isCommand_0 : decode cX10_isCommand 0 = .ok (.iload_n 0, 1) := by decide +kernel
theorem dX10_isCommand_1 : decode cX10_isCommand 1 = .ok (.iconst 0, 1) := by decide +kernel
theorem dX10_isCommand_2 : decode cX10_isCommand 2 = .ok (.sipush 9999, 3) := by decide +kernel
theorem dX10_isCommand_5 : decode cX10_isCommand 5 = .ok (.invokestatic 289, 3) := by decide +kernel
theorem dX10_isCommand_8 : decode cX10_isCommand 8 = .ok (.ireturn, 1) := by decide +kernel
theorem dX7_add_0 : decode cX7_add 0 = .ok (.aload_n 0, 1) := by decide +kernel
theorem dX7_add_1 : decode cX7_add 1 = .ok (.getfield 24, 3) := by decide +kernel
theorem dX7_add_4 : decode cX7_add 4 = .ok (.bipush 20, 2) := by decide +kernel
theorem dX7_add_6 : decode cX7_add 6 = .ok (.if_icmp .lt 4, 3) := by decide +kernel
theorem dX7_add_9 : decode cX7_add 9 = .ok (.return_, 1) := by decide +kernel
theorem dX7_add_10 : decode cX7_add 10 = .ok (.aload_n 0, 1) := by decide +kernel
theorem dX7_add_11 : decode cX7_add 11 = .ok (.getfield 11, 3) := by decide +kernel
theorem dX7_add_14 : decode cX7_add 14 = .ok (.aload_n 0, 1) := by decide +kernel
theorem dX7_add_15 : decode cX7_add 15 = .ok (.getfield 24, 3) := by decide +kernel
theorem dX7_add_18 : decode cX7_add 18 = .ok (.iload_n 1, 1) := by decide +kernel
theorem dX7_add_19 : decode cX7_add 19 = .ok (.iastore, 1) := by decide +kernel
theorem dX7_add_20 : decode cX7_add 20 = .ok (.aload_n 0, 1) := by decide +kernel
theorem dX7_add_21 : decode cX7_add 21 = .ok (.getfield 15, 3) := by decide +kernel
theorem dX7_add_24 : decode cX7_add 24 = .ok (.aload_n 0, 1) := by decide +kernel
theorem dX7_add_25 : decode cX7_add 25 = .ok (.getfield 24, 3) := by decide +kernel
theorem dX7_add_28 : decode cX7_add 28 = .ok (.iload_n 2, 1) := by decide +kernel
theorem dX7_add_29 : decode cX7_add 29 = .ok (.iastore, 1) := by decide +kernel
theorem dX7_add_30 : decode cX7_add 30 = .ok (.aload_n 0, 1) := by decide +kernel
theorem dX7_add_31 : decode cX7_add 31 = .ok (.getfield 18, 3) := by decide +kernel
theorem dX7_add_34 : decode cX7_add 34 = .ok (.aload_n 0, 1) := by decide +kernel
theorem dX7_add_35 : decode cX7_add 35 = .ok (.getfield 24, 3) := by decide +kernel
theorem dX7_add_38 : decode cX7_add 38 = .ok (.iload_n 3, 1) := by decide +kernel
theorem dX7_add_39 : decode cX7_add 39 = .ok (.iastore, 1) := by decide +kernel
theorem dX7_add_40 : decode cX7_add 40 = .ok (.aload_n 0, 1) := by decide +kernel
theorem dX7_add_41 : decode cX7_add 41 = .ok (.getfield 21, 3) := by decide +kernel
theorem dX7_add_44 : decode cX7_add 44 = .ok (.aload_n 0, 1) := by decide +kernel
theorem dX7_add_45 : decode cX7_add 45 = .ok (.getfield 24, 3) := by decide +kernel
theorem dX7_add_48 : decode cX7_add 48 = .ok (.iconst 0, 1) := by decide +kernel
theorem dX7_add_49 : decode cX7_add 49 = .ok (.iastore, 1) := by decide +kernel
theorem dX7_add_50 : decode cX7_add 50 = .ok (.aload_n 0, 1) := by decide +kernel
theorem dX7_add_51 : decode cX7_add 51 = .ok (.dup, 1) := by decide +kernel
theorem dX7_add_52 : decode cX7_add 52 = .ok (.getfield 24, 3) := by decide +kernel
theorem dX7_add_55 : decode cX7_add 55 = .ok (.iconst 1, 1) := by decide +kernel
theorem dX7_add_56 : decode cX7_add 56 = .ok (.iadd, 1) := by decide +kernel
theorem dX7_add_57 : decode cX7_add 57 = .ok (.putfield 24, 3) := by decide +kernel
theorem dX7_add_60 : decode cX7_add 60 = .ok (.return_, 1) := by decide +kernel
theorem dX7_removeFirst_0 : decode cX7_removeFirst 0 = .ok (.iload_n 1, 1) := by decide +kernel
theorem dX7_removeFirst_1 : decode cX7_removeFirst 1 = .ok (.ifCond .le 11, 3) := by decide +kernel
theorem dX7_removeFirst_4 : decode cX7_removeFirst 4 = .ok (.iload_n 1, 1) := by decide +kernel
theorem dX7_removeFirst_5 : decode cX7_removeFirst 5 = .ok (.aload_n 0, 1) := by decide +kernel
theorem dX7_removeFirst_6 : decode cX7_removeFirst 6 = .ok (.getfield 24, 3) := by decide +kernel
theorem dX7_removeFirst_9 : decode cX7_removeFirst 9 = .ok (.if_icmp .le 4, 3) := by decide +kernel
theorem dX7_removeFirst_12 : decode cX7_removeFirst 12 = .ok (.return_, 1) := by decide +kernel
theorem dX7_removeFirst_13 : decode cX7_removeFirst 13 = .ok (.aload_n 0, 1) := by decide +kernel
theorem dX7_removeFirst_14 : decode cX7_removeFirst 14 = .ok (.dup, 1) := by decide +kernel
theorem dX7_removeFirst_15 : decode cX7_removeFirst 15 = .ok (.getfield 24, 3) := by decide +kernel
theorem dX7_removeFirst_18 : decode cX7_removeFirst 18 = .ok (.iload_n 1, 1) := by decide +kernel
theorem dX7_removeFirst_19 : decode cX7_removeFirst 19 = .ok (.isub, 1) := by decide +kernel
theorem dX7_removeFirst_20 : decode cX7_removeFirst 20 = .ok (.putfield 24, 3) := by decide +kernel
theorem dX7_removeFirst_23 : decode cX7_removeFirst 23 = .ok (.aload_n 0, 1) := by decide +kernel
theorem dX7_removeFirst_24 : decode cX7_removeFirst 24 = .ok (.getfield 11, 3) := by decide +kernel
theorem dX7_removeFirst_27 : decode cX7_removeFirst 27 = .ok (.iload_n 1, 1) := by decide +kernel
theorem dX7_removeFirst_28 : decode cX7_removeFirst 28 = .ok (.aload_n 0, 1) := by decide +kernel
theorem dX7_removeFirst_29 : decode cX7_removeFirst 29 = .ok (.getfield 11, 3) := by decide +kernel
theorem dX7_removeFirst_32 : decode cX7_removeFirst 32 = .ok (.iconst 0, 1) := by decide +kernel
theorem dX7_removeFirst_33 : decode cX7_removeFirst 33 = .ok (.aload_n 0, 1) := by decide +kernel
theorem dX7_removeFirst_34 : decode cX7_removeFirst 34 = .ok (.getfield 24, 3) := by decide +kernel
theorem dX7_removeFirst_37 : decode cX7_removeFirst 37 = .ok (.invokestatic 28, 3) := by decide +kernel
theorem dX7_removeFirst_40 : decode cX7_removeFirst 40 = .ok (.aload_n 0, 1) := by decide +kernel
theorem dX7_removeFirst_41 : decode cX7_removeFirst 41 = .ok (.getfield 15, 3) := by decide +kernel
theorem dX7_removeFirst_44 : decode cX7_removeFirst 44 = .ok (.iload_n 1, 1) := by decide +kernel
theorem dX7_removeFirst_45 : decode cX7_removeFirst 45 = .ok (.aload_n 0, 1) := by decide +kernel
theorem dX7_removeFirst_46 : decode cX7_removeFirst 46 = .ok (.getfield 15, 3) := by decide +kernel
theorem dX7_removeFirst_49 : decode cX7_removeFirst 49 = .ok (.iconst 0, 1) := by decide +kernel
theorem dX7_removeFirst_50 : decode cX7_removeFirst 50 = .ok (.aload_n 0, 1) := by decide +kernel
theorem dX7_removeFirst_51 : decode cX7_removeFirst 51 = .ok (.getfield 24, 3) := by decide +kernel
theorem dX7_removeFirst_54 : decode cX7_removeFirst 54 = .ok (.invokestatic 28, 3) := by decide +kernel
theorem dX7_removeFirst_57 : decode cX7_removeFirst 57 = .ok (.aload_n 0, 1) := by decide +kernel
theorem dX7_removeFirst_58 : decode cX7_removeFirst 58 = .ok (.getfield 18, 3) := by decide +kernel
theorem dX7_removeFirst_61 : decode cX7_removeFirst 61 = .ok (.iload_n 1, 1) := by decide +kernel
theorem dX7_removeFirst_62 : decode cX7_removeFirst 62 = .ok (.aload_n 0, 1) := by decide +kernel
theorem dX7_removeFirst_63 : decode cX7_removeFirst 63 = .ok (.getfield 18, 3) := by decide +kernel
theorem dX7_removeFirst_66 : decode cX7_removeFirst 66 = .ok (.iconst 0, 1) := by decide +kernel
theorem dX7_removeFirst_67 : decode cX7_removeFirst 67 = .ok (.aload_n 0, 1) := by decide +kernel
theorem dX7_removeFirst_68 : decode cX7_removeFirst 68 = .ok (.getfield 24, 3) := by decide +kernel
theorem dX7_removeFirst_71 : decode cX7_removeFirst 71 = .ok (.invokestatic 28, 3) := by decide +kernel
theorem dX7_removeFirst_74 : decode cX7_removeFirst 74 = .ok (.aload_n 0, 1) := by decide +kernel
theorem dX7_removeFirst_75 : decode cX7_removeFirst 75 = .ok (.getfield 21, 3) := by decide +kernel
theorem dX7_removeFirst_78 : decode cX7_removeFirst 78 = .ok (.iload_n 1, 1) := by decide +kernel
theorem dX7_removeFirst_79 : decode cX7_removeFirst 79 = .ok (.aload_n 0, 1) := by decide +kernel
theorem dX7_removeFirst_80 : decode cX7_removeFirst 80 = .ok (.getfield 21, 3) := by decide +kernel
theorem dX7_removeFirst_83 : decode cX7_removeFirst 83 = .ok (.iconst 0, 1) := by decide +kernel
theorem dX7_removeFirst_84 : decode cX7_removeFirst 84 = .ok (.aload_n 0, 1) := by decide +kernel
theorem dX7_removeFirst_85 : decode cX7_removeFirst 85 = .ok (.getfield 24, 3) := by decide +kernel
theorem dX7_removeFirst_88 : decode cX7_removeFirst 88 = .ok (.invokestatic 28, 3) := by decide +kernel
theorem dX7_removeFirst_91 : decode cX7_removeFirst 91 = .ok (.return_, 1) := by decide +kernel
theorem dX7_markAll_0 : decode cX7_markAll 0 = .ok (.iconst 0, 1) := by decide +kernel
theorem dX7_markAll_1 : decode cX7_markAll 1 = .ok (.istore_n 1, 1) := by decide +kernel
theorem dX7_markAll_2 : decode cX7_markAll 2 = .ok (.iload_n 1, 1) := by decide +kernel
theorem dX7_markAll_3 : decode cX7_markAll 3 = .ok (.aload_n 0, 1) := by decide +kernel
theorem dX7_markAll_4 : decode cX7_markAll 4 = .ok (.getfield 24, 3) := by decide +kernel
theorem dX7_markAll_7 : decode cX7_markAll 7 = .ok (.if_icmp .ge 16, 3) := by decide +kernel
theorem dX7_markAll_10 : decode cX7_markAll 10 = .ok (.aload_n 0, 1) := by decide +kernel
theorem dX7_markAll_11 : decode cX7_markAll 11 = .ok (.getfield 21, 3) := by decide +kernel
theorem dX7_markAll_14 : decode cX7_markAll 14 = .ok (.iload_n 1, 1) := by decide +kernel
theorem dX7_markAll_15 : decode cX7_markAll 15 = .ok (.iconst 1, 1) := by decide +kernel
theorem dX7_markAll_16 : decode cX7_markAll 16 = .ok (.iastore, 1) := by decide +kernel
theorem dX7_markAll_17 : decode cX7_markAll 17 = .ok (.iinc 1 1, 3) := by decide +kernel
theorem dX7_markAll_20 : decode cX7_markAll 20 = .ok (.goto (-18), 3) := by decide +kernel
theorem dX7_markAll_23 : decode cX7_markAll 23 = .ok (.return_, 1) := by decide +kernel
theorem dX7_marked_0 : decode cX7_marked 0 = .ok (.iconst 0, 1) := by decide +kernel
theorem dX7_marked_1 : decode cX7_marked 1 = .ok (.istore_n 1, 1) := by decide +kernel
theorem dX7_marked_2 : decode cX7_marked 2 = .ok (.iconst 0, 1) := by decide +kernel
theorem dX7_marked_3 : decode cX7_marked 3 = .ok (.istore_n 2, 1) := by decide +kernel
theorem dX7_marked_4 : decode cX7_marked 4 = .ok (.iload_n 2, 1) := by decide +kernel
theorem dX7_marked_5 : decode cX7_marked 5 = .ok (.aload_n 0, 1) := by decide +kernel
theorem dX7_marked_6 : decode cX7_marked 6 = .ok (.getfield 24, 3) := by decide +kernel
theorem dX7_marked_9 : decode cX7_marked 9 = .ok (.if_icmp .ge 18, 3) := by decide +kernel
theorem dX7_marked_12 : decode cX7_marked 12 = .ok (.iload_n 1, 1) := by decide +kernel
theorem dX7_marked_13 : decode cX7_marked 13 = .ok (.aload_n 0, 1) := by decide +kernel
theorem dX7_marked_14 : decode cX7_marked 14 = .ok (.getfield 21, 3) := by decide +kernel
theorem dX7_marked_17 : decode cX7_marked 17 = .ok (.iload_n 2, 1) := by decide +kernel
theorem dX7_marked_18 : decode cX7_marked 18 = .ok (.iaload, 1) := by decide +kernel
theorem dX7_marked_19 : decode cX7_marked 19 = .ok (.iadd, 1) := by decide +kernel
theorem dX7_marked_20 : decode cX7_marked 20 = .ok (.istore_n 1, 1) := by decide +kernel
theorem dX7_marked_21 : decode cX7_marked 21 = .ok (.iinc 2 1, 3) := by decide +kernel
theorem dX7_marked_24 : decode cX7_marked 24 = .ok (.goto (-20), 3) := by decide +kernel
theorem dX7_marked_27 : decode cX7_marked 27 = .ok (.iload_n 1, 1) := by decide +kernel
theorem dX7_marked_28 : decode cX7_marked 28 = .ok (.ireturn, 1) := by decide +kernel
theorem dX7_firstMarked_0 : decode cX7_firstMarked 0 = .ok (.iconst 0, 1) := by decide +kernel
theorem dX7_firstMarked_1 : decode cX7_firstMarked 1 = .ok (.istore_n 1, 1) := by decide +kernel
theorem dX7_firstMarked_2 : decode cX7_firstMarked 2 = .ok (.iload_n 1, 1) := by decide +kernel
theorem dX7_firstMarked_3 : decode cX7_firstMarked 3 = .ok (.aload_n 0, 1) := by decide +kernel
theorem dX7_firstMarked_4 : decode cX7_firstMarked 4 = .ok (.getfield 24, 3) := by decide +kernel
theorem dX7_firstMarked_7 : decode cX7_firstMarked 7 = .ok (.if_icmp .ge 21, 3) := by decide +kernel
theorem dX7_firstMarked_10 : decode cX7_firstMarked 10 = .ok (.aload_n 0, 1) := by decide +kernel
theorem dX7_firstMarked_11 : decode cX7_firstMarked 11 = .ok (.getfield 21, 3) := by decide +kernel
theorem dX7_firstMarked_14 : decode cX7_firstMarked 14 = .ok (.iload_n 1, 1) := by decide +kernel
theorem dX7_firstMarked_15 : decode cX7_firstMarked 15 = .ok (.iaload, 1) := by decide +kernel
theorem dX7_firstMarked_16 : decode cX7_firstMarked 16 = .ok (.iconst 1, 1) := by decide +kernel
theorem dX7_firstMarked_17 : decode cX7_firstMarked 17 = .ok (.if_icmp .ne 5, 3) := by decide +kernel
theorem dX7_firstMarked_20 : decode cX7_firstMarked 20 = .ok (.iload_n 1, 1) := by decide +kernel
theorem dX7_firstMarked_21 : decode cX7_firstMarked 21 = .ok (.ireturn, 1) := by decide +kernel
theorem dX7_firstMarked_22 : decode cX7_firstMarked 22 = .ok (.iinc 1 1, 3) := by decide +kernel
theorem dX7_firstMarked_25 : decode cX7_firstMarked 25 = .ok (.goto (-23), 3) := by decide +kernel
theorem dX7_firstMarked_28 : decode cX7_firstMarked 28 = .ok (.iconst (-1), 1) := by decide +kernel
theorem dX7_firstMarked_29 : decode cX7_firstMarked 29 = .ok (.ireturn, 1) := by decide +kernel
theorem dX7_nearer_0 : decode cX7_nearer 0 = .ok (.iconst 0, 1) := by decide +kernel
theorem dX7_nearer_1 : decode cX7_nearer 1 = .ok (.istore_n 3, 1) := by decide +kernel
theorem dX7_nearer_2 : decode cX7_nearer 2 = .ok (.iconst 0, 1) := by decide +kernel
theorem dX7_nearer_3 : decode cX7_nearer 3 = .ok (.istore 4, 2) := by decide +kernel
theorem dX7_nearer_5 : decode cX7_nearer 5 = .ok (.iload 4, 2) := by decide +kernel
theorem dX7_nearer_7 : decode cX7_nearer 7 = .ok (.aload_n 0, 1) := by decide +kernel
theorem dX7_nearer_8 : decode cX7_nearer 8 = .ok (.getfield 24, 3) := by decide +kernel
theorem dX7_nearer_11 : decode cX7_nearer 11 = .ok (.if_icmp .ge 27, 3) := by decide +kernel
theorem dX7_nearer_14 : decode cX7_nearer 14 = .ok (.aload_n 0, 1) := by decide +kernel
theorem dX7_nearer_15 : decode cX7_nearer 15 = .ok (.getfield 15, 3) := by decide +kernel
theorem dX7_nearer_18 : decode cX7_nearer 18 = .ok (.iload 4, 2) := by decide +kernel
theorem dX7_nearer_20 : decode cX7_nearer 20 = .ok (.iaload, 1) := by decide +kernel
theorem dX7_nearer_21 : decode cX7_nearer 21 = .ok (.iload_n 1, 1) := by decide +kernel
theorem dX7_nearer_22 : decode cX7_nearer 22 = .ok (.invokestatic 34, 3) := by decide +kernel
theorem dX7_nearer_25 : decode cX7_nearer 25 = .ok (.iload_n 2, 1) := by decide +kernel
theorem dX7_nearer_26 : decode cX7_nearer 26 = .ok (.if_icmp .ge 6, 3) := by decide +kernel
theorem dX7_nearer_29 : decode cX7_nearer 29 = .ok (.iinc 3 1, 3) := by decide +kernel
theorem dX7_nearer_32 : decode cX7_nearer 32 = .ok (.iinc 4 1, 3) := by decide +kernel
theorem dX7_nearer_35 : decode cX7_nearer 35 = .ok (.goto (-30), 3) := by decide +kernel
theorem dX7_nearer_38 : decode cX7_nearer 38 = .ok (.iload_n 3, 1) := by decide +kernel
theorem dX7_nearer_39 : decode cX7_nearer 39 = .ok (.ireturn, 1) := by decide +kernel
theorem dX7_copyFrom_0 : decode cX7_copyFrom 0 = .ok (.aload_n 0, 1) := by decide +kernel
theorem dX7_copyFrom_1 : decode cX7_copyFrom 1 = .ok (.aload_n 1, 1) := by decide +kernel
theorem dX7_copyFrom_2 : decode cX7_copyFrom 2 = .ok (.getfield 24, 3) := by decide +kernel
theorem dX7_copyFrom_5 : decode cX7_copyFrom 5 = .ok (.putfield 24, 3) := by decide +kernel
theorem dX7_copyFrom_8 : decode cX7_copyFrom 8 = .ok (.aload_n 1, 1) := by decide +kernel
theorem dX7_copyFrom_9 : decode cX7_copyFrom 9 = .ok (.getfield 11, 3) := by decide +kernel
theorem dX7_copyFrom_12 : decode cX7_copyFrom 12 = .ok (.iconst 0, 1) := by decide +kernel
theorem dX7_copyFrom_13 : decode cX7_copyFrom 13 = .ok (.aload_n 0, 1) := by decide +kernel
theorem dX7_copyFrom_14 : decode cX7_copyFrom 14 = .ok (.getfield 11, 3) := by decide +kernel
theorem dX7_copyFrom_17 : decode cX7_copyFrom 17 = .ok (.iconst 0, 1) := by decide +kernel
theorem dX7_copyFrom_18 : decode cX7_copyFrom 18 = .ok (.bipush 20, 2) := by decide +kernel
theorem dX7_copyFrom_20 : decode cX7_copyFrom 20 = .ok (.invokestatic 28, 3) := by decide +kernel
theorem dX7_copyFrom_23 : decode cX7_copyFrom 23 = .ok (.aload_n 1, 1) := by decide +kernel
theorem dX7_copyFrom_24 : decode cX7_copyFrom 24 = .ok (.getfield 15, 3) := by decide +kernel
theorem dX7_copyFrom_27 : decode cX7_copyFrom 27 = .ok (.iconst 0, 1) := by decide +kernel
theorem dX7_copyFrom_28 : decode cX7_copyFrom 28 = .ok (.aload_n 0, 1) := by decide +kernel
theorem dX7_copyFrom_29 : decode cX7_copyFrom 29 = .ok (.getfield 15, 3) := by decide +kernel
theorem dX7_copyFrom_32 : decode cX7_copyFrom 32 = .ok (.iconst 0, 1) := by decide +kernel
theorem dX7_copyFrom_33 : decode cX7_copyFrom 33 = .ok (.bipush 20, 2) := by decide +kernel
theorem dX7_copyFrom_35 : decode cX7_copyFrom 35 = .ok (.invokestatic 28, 3) := by decide +kernel
theorem dX7_copyFrom_38 : decode cX7_copyFrom 38 = .ok (.aload_n 1, 1) := by decide +kernel
theorem dX7_copyFrom_39 : decode cX7_copyFrom 39 = .ok (.getfield 18, 3) := by decide +kernel
theorem dX7_copyFrom_42 : decode cX7_copyFrom 42 = .ok (.iconst 0, 1) := by decide +kernel
theorem dX7_copyFrom_43 : decode cX7_copyFrom 43 = .ok (.aload_n 0, 1) := by decide +kernel
theorem dX7_copyFrom_44 : decode cX7_copyFrom 44 = .ok (.getfield 18, 3) := by decide +kernel
theorem dX7_copyFrom_47 : decode cX7_copyFrom 47 = .ok (.iconst 0, 1) := by decide +kernel
theorem dX7_copyFrom_48 : decode cX7_copyFrom 48 = .ok (.bipush 20, 2) := by decide +kernel
theorem dX7_copyFrom_50 : decode cX7_copyFrom 50 = .ok (.invokestatic 28, 3) := by decide +kernel
theorem dX7_copyFrom_53 : decode cX7_copyFrom 53 = .ok (.aload_n 1, 1) := by decide +kernel
theorem dX7_copyFrom_54 : decode cX7_copyFrom 54 = .ok (.getfield 21, 3) := by decide +kernel
theorem dX7_copyFrom_57 : decode cX7_copyFrom 57 = .ok (.iconst 0, 1) := by decide +kernel
theorem dX7_copyFrom_58 : decode cX7_copyFrom 58 = .ok (.aload_n 0, 1) := by decide +kernel
theorem dX7_copyFrom_59 : decode cX7_copyFrom 59 = .ok (.getfield 21, 3) := by decide +kernel
theorem dX7_copyFrom_62 : decode cX7_copyFrom 62 = .ok (.iconst 0, 1) := by decide +kernel
theorem dX7_copyFrom_63 : decode cX7_copyFrom 63 = .ok (.bipush 20, 2) := by decide +kernel
theorem dX7_copyFrom_65 : decode cX7_copyFrom 65 = .ok (.invokestatic 28, 3) := by decide +kernel
theorem dX7_copyFrom_68 : decode cX7_copyFrom 68 = .ok (.return_, 1) := by decide +kernel
