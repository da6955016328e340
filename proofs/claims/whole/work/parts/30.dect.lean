theorem dX10_state_0 : decode cX10_state 0 = .ok (.aload_n 0, 1) := by decide +kernel
theorem dX10_state_1 : decode cX10_state 1 = .ok (.getfield 12, 3) := by decide +kernel
theorem dX10_state_4 : decode cX10_state 4 = .ok (.getfield 40, 3) := by decide +kernel
theorem dX10_state_7 : decode cX10_state 7 = .ok (.getfield 44, 3) := by decide +kernel
theorem dX10_state_10 : decode cX10_state 10 = .ok (.istore_n 2, 1) := by decide +kernel
theorem dX10_state_11 : decode cX10_state 11 = .ok (.aload_n 0, 1) := by decide +kernel
theorem dX10_state_12 : decode cX10_state 12 = .ok (.getfield 12, 3) := by decide +kernel
theorem dX10_state_15 : decode cX10_state 15 = .ok (.getfield 40, 3) := by decide +kernel
theorem dX10_state_18 : decode cX10_state 18 = .ok (.iload_n 1, 1) := by decide +kernel
theorem dX10_state_19 : decode cX10_state 19 = .ok (.putfield 44, 3) := by decide +kernel
theorem dX10_state_22 : decode cX10_state 22 = .ok (.iload_n 2, 1) := by decide +kernel
theorem dX10_state_23 : decode cX10_state 23 = .ok (.ireturn, 1) := by decide +kernel
theorem dX10_set_0 : decode cX10_set 0 = .ok (.aload_n 0, 1) := by decide +kernel
theorem dX10_set_1 : decode cX10_set 1 = .ok (.getfield 12, 3) := by decide +kernel
theorem dX10_set_4 : decode cX10_set 4 = .ok (.getfield 40, 3) := by decide +kernel
theorem dX10_set_7 : decode cX10_set 7 = .ok (.iload_n 1, 1) := by decide +kernel
theorem dX10_set_8 : decode cX10_set 8 = .ok (.iload_n 2, 1) := by decide +kernel
theorem dX10_set_9 : decode cX10_set 9 = .ok (.invokevirtual 50, 3) := by decide +kernel
theorem dX10_set_12 : decode cX10_set 12 = .ok (.ireturn, 1) := by decide +kernel
theorem dX10_send_0 : decode cX10_send 0 = .ok (.aload_n 0, 1) := by decide +kernel
theorem dX10_send_1 : decode cX10_send 1 = .ok (.getfield 12, 3) := by decide +kernel
theorem dX10_send_4 : decode cX10_send 4 = .ok (.getfield 54, 3) := by decide +kernel
theorem dX10_send_7 : decode cX10_send 7 = .ok (.iload_n 1, 1) := by decide +kernel
theorem dX10_send_8 : decode cX10_send 8 = .ok (.invokevirtual 58, 3) := by decide +kernel
theorem dX10_send_11 : decode cX10_send 11 = .ok (.ireturn, 1) := by decide +kernel
theorem dX10_past_0 : decode cX10_past 0 = .ok (.aload_n 0, 1) := by decide +kernel
theorem dX10_past_1 : decode cX10_past 1 = .ok (.getfield 12, 3) := by decide +kernel
theorem dX10_past_4 : decode cX10_past 4 = .ok (.getfield 54, 3) := by decide +kernel
theorem dX10_past_7 : decode cX10_past 7 = .ok (.iload_n 1, 1) := by decide +kernel
theorem dX10_past_8 : decode cX10_past 8 = .ok (.invokevirtual 64, 3) := by decide +kernel
theorem dX10_past_11 : decode cX10_past 11 = .ok (.ireturn, 1) := by decide +kernel
theorem dX10_start_0 : decode cX10_start 0 = .ok (.aload_n 0, 1) := by decide +kernel
theorem dX10_start_1 : decode cX10_start 1 = .ok (.getfield 12, 3) := by decide +kernel
theorem dX10_start_4 : decode cX10_start 4 = .ok (.getfield 54, 3) := by decide +kernel
theorem dX10_start_7 : decode cX10_start 7 = .ok (.iload_n 1, 1) := by decide +kernel
theorem dX10_start_8 : decode cX10_start 8 = .ok (.iload_n 2, 1) := by decide +kernel
theorem dX10_start_9 : decode cX10_start 9 = .ok (.invokevirtual 67, 3) := by decide +kernel
theorem dX10_start_12 : decode cX10_start 12 = .ok (.ireturn, 1) := by decide +kernel
theorem dX10_direct_0 : decode cX10_direct 0 = .ok (.iload_n 1, 1) := by decide +kernel
theorem dX10_direct_1 : decode cX10_direct 1 = .ok (.ifCond .ne 14, 3) := by decide +kernel
theorem dX10_direct_4 : decode cX10_direct 4 = .ok (.aload_n 0, 1) := by decide +kernel
theorem dX10_direct_5 : decode cX10_direct 5 = .ok (.getfield 12, 3) := by decide +kernel
theorem dX10_direct_8 : decode cX10_direct 8 = .ok (.getfield 54, 3) := by decide +kernel
theorem dX10_direct_11 : decode cX10_direct 11 = .ok (.invokevirtual 70, 3) := by decide +kernel
theorem dX10_direct_14 : decode cX10_direct 14 = .ok (.ireturn, 1) := by decide +kernel
theorem dX10_direct_15 : decode cX10_direct 15 = .ok (.iload_n 1, 1) := by decide +kernel
theorem dX10_direct_16 : decode cX10_direct 16 = .ok (.iconst 1, 1) := by decide +kernel
theorem dX10_direct_17 : decode cX10_direct 17 = .ok (.if_icmp .ne 20, 3) := by decide +kernel
theorem dX10_direct_20 : decode cX10_direct 20 = .ok (.aload_n 0, 1) := by decide +kernel
theorem dX10_direct_21 : decode cX10_direct 21 = .ok (.getfield 12, 3) := by decide +kernel
theorem dX10_direct_24 : decode cX10_direct 24 = .ok (.getfield 54, 3) := by decide +kernel
theorem dX10_direct_27 : decode cX10_direct 27 = .ok (.invokevirtual 74, 3) := by decide +kernel
theorem dX10_direct_30 : decode cX10_direct 30 = .ok (.ifCond .eq 7, 3) := by decide +kernel
theorem dX10_direct_33 : decode cX10_direct 33 = .ok (.iconst 1, 1) := by decide +kernel
theorem dX10_direct_34 : decode cX10_direct 34 = .ok (.goto 4, 3) := by decide +kernel
theorem dX10_direct_37 : decode cX10_direct 37 = .ok (.iconst 0, 1) := by decide +kernel
theorem dX10_direct_38 : decode cX10_direct 38 = .ok (.ireturn, 1) := by decide +kernel
theorem dX10_renumber_0 : decode cX10_renumber 0 = .ok (.aload_n 0, 1) := by decide +kernel
theorem dX10_renumber_1 : decode cX10_renumber 1 = .ok (.getfield 12, 3) := by decide +kernel
theorem dX10_renumber_4 : decode cX10_renumber 4 = .ok (.getfield 54, 3) := by decide +kernel
theorem dX10_renumber_7 : decode cX10_renumber 7 = .ok (.iload_n 1, 1) := by decide +kernel
theorem dX10_renumber_8 : decode cX10_renumber 8 = .ok (.invokevirtual 77, 3) := by decide +kernel
theorem dX10_renumber_11 : decode cX10_renumber 11 = .ok (.ireturn, 1) := by decide +kernel
theorem dX10_take_0 : decode cX10_take 0 = .ok (.aload_n 0, 1) := by decide +kernel
theorem dX10_take_1 : decode cX10_take 1 = .ok (.getfield 12, 3) := by decide +kernel
theorem dX10_take_4 : decode cX10_take 4 = .ok (.getfield 81, 3) := by decide +kernel
theorem dX10_take_7 : decode cX10_take 7 = .ok (.invokevirtual 85, 3) := by decide +kernel
theorem dX10_take_10 : decode cX10_take 10 = .ok (.ireturn, 1) := by decide +kernel
theorem dX10_tick_0 : decode cX10_tick 0 = .ok (.aload_n 0, 1) := by decide +kernel
theorem dX10_tick_1 : decode cX10_tick 1 = .ok (.getfield 12, 3) := by decide +kernel
theorem dX10_tick_4 : decode cX10_tick 4 = .ok (.iload_n 1, 1) := by decide +kernel
theorem dX10_tick_5 : decode cX10_tick 5 = .ok (.invokevirtual 91, 3) := by decide +kernel
theorem dX10_tick_8 : decode cX10_tick 8 = .ok (.ifCond .ne 5, 3) := by decide +kernel
theorem dX10_tick_11 : decode cX10_tick 11 = .ok (.iconst (-1), 1) := by decide +kernel
theorem dX10_tick_12 : decode cX10_tick 12 = .ok (.ireturn, 1) := by decide +kernel
theorem dX10_tick_13 : decode cX10_tick 13 = .ok (.aload_n 0, 1) := by decide +kernel
theorem dX10_tick_14 : decode cX10_tick 14 = .ok (.getfield 12, 3) := by decide +kernel
theorem dX10_tick_17 : decode cX10_tick 17 = .ok (.iload_n 1, 1) := by decide +kernel
theorem dX10_tick_18 : decode cX10_tick 18 = .ok (.iconst 0, 1) := by decide +kernel
theorem dX10_tick_19 : decode cX10_tick 19 = .ok (.invokevirtual 94, 3) := by decide +kernel
theorem dX10_tick_22 : decode cX10_tick 22 = .ok (.aload_n 0, 1) := by decide +kernel
theorem dX10_tick_23 : decode cX10_tick 23 = .ok (.getfield 12, 3) := by decide +kernel
theorem dX10_tick_26 : decode cX10_tick 26 = .ok (.getfield 40, 3) := by decide +kernel
theorem dX10_tick_29 : decode cX10_tick 29 = .ok (.getfield 98, 3) := by decide +kernel
theorem dX10_tick_32 : decode cX10_tick 32 = .ok (.ireturn, 1) := by decide +kernel
theorem dX10_drop_0 : decode cX10_drop 0 = .ok (.aload_n 0, 1) := by decide +kernel
theorem dX10_drop_1 : decode cX10_drop 1 = .ok (.getfield 12, 3) := by decide +kernel
theorem dX10_drop_4 : decode cX10_drop 4 = .ok (.iload_n 1, 1) := by decide +kernel
theorem dX10_drop_5 : decode cX10_drop 5 = .ok (.invokevirtual 101, 3) := by decide +kernel
theorem dX10_drop_8 : decode cX10_drop 8 = .ok (.iload_n 2, 1) := by decide +kernel
theorem dX10_drop_9 : decode cX10_drop 9 = .ok (.invokevirtual 105, 3) := by decide +kernel
theorem dX10_drop_12 : decode cX10_drop 12 = .ok (.ireturn, 1) := by decide +kernel
theorem dX10_spoil_0 : decode cX10_spoil 0 = .ok (.aload_n 0, 1) := by decide +kernel
theorem dX10_spoil_1 : decode cX10_spoil 1 = .ok (.getfield 12, 3) := by decide +kernel
theorem dX10_spoil_4 : decode cX10_spoil 4 = .ok (.iload_n 1, 1) := by decide +kernel
theorem dX10_spoil_5 : decode cX10_spoil 5 = .ok (.invokevirtual 101, 3) := by decide +kernel
theorem dX10_spoil_8 : decode cX10_spoil 8 = .ok (.iload_n 2, 1) := by decide +kernel
theorem dX10_spoil_9 : decode cX10_spoil 9 = .ok (.iload_n 3, 1) := by decide +kernel
theorem dX10_spoil_10 : decode cX10_spoil 10 = .ok (.iload 4, 2) := by decide +kernel
theorem dX10_spoil_12 : decode cX10_spoil 12 = .ok (.invokevirtual 110, 3) := by decide +kernel
theorem dX10_spoil_15 : decode cX10_spoil 15 = .ok (.ireturn, 1) := by decide +kernel
theorem dX10_feed_0 : decode cX10_feed 0 = .ok (.aload_n 0, 1) := by decide +kernel
theorem dX10_feed_1 : decode cX10_feed 1 = .ok (.getfield 29, 3) := by decide +kernel
theorem dX10_feed_4 : decode cX10_feed 4 = .ok (.invokevirtual 114, 3) := by decide +kernel
theorem dX10_feed_7 : decode cX10_feed 7 = .ok (.ifCond .ne 5, 3) := by decide +kernel
theorem dX10_feed_10 : decode cX10_feed 10 = .ok (.iconst (-1), 1) := by decide +kernel
theorem dX10_feed_11 : decode cX10_feed 11 = .ok (.ireturn, 1) := by decide +kernel
theorem dX10_feed_12 : decode cX10_feed 12 = .ok (.aload_n 0, 1) := by decide +kernel
theorem dX10_feed_13 : decode cX10_feed 13 = .ok (.getfield 29, 3) := by decide +kernel
theorem dX10_feed_16 : decode cX10_feed 16 = .ok (.iload_n 1, 1) := by decide +kernel
theorem dX10_feed_17 : decode cX10_feed 17 = .ok (.invokevirtual 117, 3) := by decide +kernel
theorem dX10_feed_20 : decode cX10_feed 20 = .ok (.aload_n 0, 1) := by decide +kernel
theorem dX10_feed_21 : decode cX10_feed 21 = .ok (.getfield 29, 3) := by decide +kernel
theorem dX10_feed_24 : decode cX10_feed 24 = .ok (.iload_n 2, 1) := by decide +kernel
theorem dX10_feed_25 : decode cX10_feed 25 = .ok (.invokevirtual 117, 3) := by decide +kernel
theorem dX10_feed_28 : decode cX10_feed 28 = .ok (.aload_n 0, 1) := by decide +kernel
theorem dX10_feed_29 : decode cX10_feed 29 = .ok (.getfield 29, 3) := by decide +kernel
theorem dX10_feed_32 : decode cX10_feed 32 = .ok (.iload_n 3, 1) := by decide +kernel
theorem dX10_feed_33 : decode cX10_feed 33 = .ok (.invokevirtual 117, 3) := by decide +kernel
theorem dX10_feed_36 : decode cX10_feed 36 = .ok (.aload_n 0, 1) := by decide +kernel
theorem dX10_feed_37 : decode cX10_feed 37 = .ok (.getfield 29, 3) := by decide +kernel
theorem dX10_feed_40 : decode cX10_feed 40 = .ok (.iload 4, 2) := by decide +kernel
theorem dX10_feed_42 : decode cX10_feed 42 = .ok (.invokevirtual 117, 3) := by decide +kernel
theorem dX10_feed_45 : decode cX10_feed 45 = .ok (.aload_n 0, 1) := by decide +kernel
theorem dX10_feed_46 : decode cX10_feed 46 = .ok (.getfield 29, 3) := by decide +kernel
theorem dX10_feed_49 : decode cX10_feed 49 = .ok (.iload 5, 2) := by decide +kernel
theorem dX10_feed_51 : decode cX10_feed 51 = .ok (.invokevirtual 117, 3) := by decide +kernel
theorem dX10_feed_54 : decode cX10_feed 54 = .ok (.aload_n 0, 1) := by decide +kernel
theorem dX10_feed_55 : decode cX10_feed 55 = .ok (.getfield 29, 3) := by decide +kernel
theorem dX10_feed_58 : decode cX10_feed 58 = .ok (.getfield 121, 3) := by decide +kernel
theorem dX10_feed_61 : decode cX10_feed 61 = .ok (.ireturn, 1) := by decide +kernel
theorem dX10_end_0 : decode cX10_end 0 = .ok (.iload_n 1, 1) := by decide +kernel
theorem dX10_end_1 : decode cX10_end 1 = .ok (.ifCond .lt 14, 3) := by decide +kernel
theorem dX10_end_4 : decode cX10_end 4 = .ok (.iload_n 1, 1) := by decide +kernel
theorem dX10_end_5 : decode cX10_end 5 = .ok (.aload_n 0, 1) := by decide +kernel
theorem dX10_end_6 : decode cX10_end 6 = .ok (.getfield 29, 3) := by decide +kernel
theorem dX10_end_9 : decode cX10_end 9 = .ok (.getfield 121, 3) := by decide +kernel
theorem dX10_end_12 : decode cX10_end 12 = .ok (.if_icmp .le 5, 3) := by decide +kernel
theorem dX10_end_15 : decode cX10_end 15 = .ok (.iconst 0, 1) := by decide +kernel
theorem dX10_end_16 : decode cX10_end 16 = .ok (.ireturn, 1) := by decide +kernel
theorem dX10_end_17 : decode cX10_end 17 = .ok (.aload_n 0, 1) := by decide +kernel
theorem dX10_end_18 : decode cX10_end 18 = .ok (.getfield 29, 3) := by decide +kernel
theorem dX10_end_21 : decode cX10_end 21 = .ok (.iload_n 1, 1) := by decide +kernel
theorem dX10_end_22 : decode cX10_end 22 = .ok (.putfield 121, 3) := by decide +kernel
theorem dX10_end_25 : decode cX10_end 25 = .ok (.iconst 1, 1) := by decide +kernel
theorem dX10_end_26 : decode cX10_end 26 = .ok (.ireturn, 1) := by decide +kernel
theorem dX10_fault_0 : decode cX10_fault 0 = .ok (.iload_n 1, 1) := by decide +kernel
theorem dX10_fault_1 : decode cX10_fault 1 = .ok (.lookupswitch 43 #[(0, 27), (1, 35)], 27) := by decide +kernel
theorem dX10_fault_28 : decode cX10_fault 28 = .ok (.aload_n 0, 1) := by decide +kernel
theorem dX10_fault_29 : decode cX10_fault 29 = .ok (.getfield 29, 3) := by decide +kernel
theorem dX10_fault_32 : decode cX10_fault 32 = .ok (.getfield 143, 3) := by decide +kernel
theorem dX10_fault_35 : decode cX10_fault 35 = .ok (.ireturn, 1) := by decide +kernel
theorem dX10_fault_36 : decode cX10_fault 36 = .ok (.aload_n 0, 1) := by decide +kernel
theorem dX10_fault_37 : decode cX10_fault 37 = .ok (.getfield 29, 3) := by decide +kernel
theorem dX10_fault_40 : decode cX10_fault 40 = .ok (.getfield 146, 3) := by decide +kernel
theorem dX10_fault_43 : decode cX10_fault 43 = .ok (.ireturn, 1) := by decide +kernel
theorem dX10_fault_44 : decode cX10_fault 44 = .ok (.iconst (-1), 1) := by decide +kernel
theorem dX10_fault_45 : decode cX10_fault 45 = .ok (.ireturn, 1) := by decide +kernel
theorem dX10_run_0 : decode cX10_run 0 = .ok (.iload_n 1, 1) := by decide +kernel
theorem dX10_run_1 : decode cX10_run 1 = .ok (.iconst 1, 1) := by decide +kernel
theorem dX10_run_2 : decode cX10_run 2 = .ok (.if_icmp .lt 9, 3) := by decide +kernel
theorem dX10_run_5 : decode cX10_run 5 = .ok (.iload_n 1, 1) := by decide +kernel
theorem dX10_run_6 : decode cX10_run 6 = .ok (.bipush 24, 2) := by decide +kernel
theorem dX10_run_8 : decode cX10_run 8 = .ok (.if_icmp .le 5, 3) := by decide +kernel
theorem dX10_run_11 : decode cX10_run 11 = .ok (.iconst (-1), 1) := by decide +kernel
theorem dX10_run_12 : decode cX10_run 12 = .ok (.ireturn, 1) := by decide +kernel
theorem dX10_run_13 : decode cX10_run 13 = .ok (.iconst 0, 1) := by decide +kernel
theorem dX10_run_14 : decode cX10_run 14 = .ok (.istore_n 2, 1) := by decide +kernel
theorem dX10_run_15 : decode cX10_run 15 = .ok (.iconst 0, 1) := by decide +kernel
theorem dX10_run_16 : decode cX10_run 16 = .ok (.istore_n 3, 1) := by decide +kernel
theorem dX10_run_17 : decode cX10_run 17 = .ok (.iload_n 3, 1) := by decide +kernel
theorem dX10_run_18 : decode cX10_run 18 = .ok (.iload_n 1, 1) := by decide +kernel
theorem dX10_run_19 : decode cX10_run 19 = .ok (.if_icmp .ge 45, 3) := by decide +kernel
theorem dX10_run_22 : decode cX10_run 22 = .ok (.aload_n 0, 1) := by decide +kernel
theorem dX10_run_23 : decode cX10_run 23 = .ok (.getfield 12, 3) := by decide +kernel
theorem dX10_run_26 : decode cX10_run 26 = .ok (.getfield 127, 3) := by decide +kernel
theorem dX10_run_29 : decode cX10_run 29 = .ok (.getfield 149, 3) := by decide +kernel
theorem dX10_run_32 : decode cX10_run 32 = .ok (.aload_n 0, 1) := by decide +kernel
theorem dX10_run_33 : decode cX10_run 33 = .ok (.getfield 12, 3) := by decide +kernel
theorem dX10_run_36 : decode cX10_run 36 = .ok (.getfield 127, 3) := by decide +kernel
theorem dX10_run_39 : decode cX10_run 39 = .ok (.getfield 140, 3) := by decide +kernel
theorem dX10_run_42 : decode cX10_run 42 = .ok (.if_icmp .ge 22, 3) := by decide +kernel
theorem dX10_run_45 : decode cX10_run 45 = .ok (.aload_n 0, 1) := by decide +kernel
theorem dX10_run_46 : decode cX10_run 46 = .ok (.getfield 12, 3) := by decide +kernel
theorem dX10_run_49 : decode cX10_run 49 = .ok (.invokevirtual 152, 3) := by decide +kernel
theorem dX10_run_52 : decode cX10_run 52 = .ok (.ifCond .eq 6, 3) := by decide +kernel
theorem dX10_run_55 : decode cX10_run 55 = .ok (.iinc 2 1, 3) := by decide +kernel
theorem dX10_run_58 : decode cX10_run 58 = .ok (.iinc 3 1, 3) := by decide +kernel
theorem dX10_run_61 : decode cX10_run 61 = .ok (.goto (-44), 3) := by decide +kernel
theorem dX10_run_64 : decode cX10_run 64 = .ok (.iload_n 2, 1) := by decide +kernel
theorem dX10_run_65 : decode cX10_run 65 = .ok (.ireturn, 1) := by decide +kernel
theorem dX10_sender_0 : decode cX10_sender 0 = .ok (.aload_n 0, 1) := by decide +kernel
theorem dX10_sender_1 : decode cX10_sender 1 = .ok (.getfield 12, 3) := by decide +kernel
theorem dX10_sender_4 : decode cX10_sender 4 = .ok (.getfield 54, 3) := by decide +kernel
theorem dX10_sender_7 : decode cX10_sender 7 = .ok (.astore_n 2, 1) := by decide +kernel
theorem dX10_sender_8 : decode cX10_sender 8 = .ok (.iload_n 1, 1) := by decide +kernel
theorem dX10_sender_9 : decode cX10_sender 9 = .ok (.tableswitch 126 0 10 #[59, 64, 69, 74, 82, 90, 98, 106, 111, 116, 121], 59) := by decide +kernel
theorem dX10_sender_68 : decode cX10_sender 68 = .ok (.aload_n 2, 1) := by decide +kernel
theorem dX10_sender_69 : decode cX10_sender 69 = .ok (.getfield 155, 3) := by decide +kernel
theorem dX10_sender_72 : decode cX10_sender 72 = .ok (.ireturn, 1) := by decide +kernel
theorem dX10_sender_73 : decode cX10_sender 73 = .ok (.aload_n 2, 1) := by decide +kernel
theorem dX10_sender_74 : decode cX10_sender 74 = .ok (.getfield 158, 3) := by decide +kernel
theorem dX10_sender_77 : decode cX10_sender 77 = .ok (.ireturn, 1) := by decide +kernel
theorem dX10_sender_78 : decode cX10_sender 78 = .ok (.aload_n 2, 1) := by decide +kernel
theorem dX10_sender_79 : decode cX10_sender 79 = .ok (.getfield 161, 3) := by decide +kernel
theorem dX10_sender_82 : decode cX10_sender 82 = .ok (.ireturn, 1) := by decide +kernel
theorem dX10_sender_83 : decode cX10_sender 83 = .ok (.aload_n 2, 1) := by decide +kernel
theorem dX10_sender_84 : decode cX10_sender 84 = .ok (.getfield 164, 3) := by decide +kernel
theorem dX10_sender_87 : decode cX10_sender 87 = .ok (.getfield 168, 3) := by decide +kernel
theorem dX10_sender_90 : decode cX10_sender 90 = .ok (.ireturn, 1) := by decide +kernel
theorem dX10_sender_91 : decode cX10_sender 91 = .ok (.aload_n 2, 1) := by decide +kernel
theorem dX10_sender_92 : decode cX10_sender 92 = .ok (.getfield 171, 3) := by decide +kernel
theorem dX10_sender_95 : decode cX10_sender 95 = .ok (.getfield 168, 3) := by decide +kernel
theorem dX10_sender_98 : decode cX10_sender 98 = .ok (.ireturn, 1) := by decide +kernel
theorem dX10_sender_99 : decode cX10_sender 99 = .ok (.aload_n 2, 1) := by decide +kernel
theorem dX10_sender_100 : decode cX10_sender 100 = .ok (.getfield 171, 3) := by decide +kernel
theorem dX10_sender_103 : decode cX10_sender 103 = .ok (.invokevirtual 174, 3) := by decide +kernel
theorem dX10_sender_106 : decode cX10_sender 106 = .ok (.ireturn, 1) := by decide +kernel
theorem dX10_sender_107 : decode cX10_sender 107 = .ok (.aload_n 2, 1) := by decide +kernel
theorem dX10_sender_108 : decode cX10_sender 108 = .ok (.getfield 177, 3) := by decide +kernel
theorem dX10_sender_111 : decode cX10_sender 111 = .ok (.getfield 168, 3) := by decide +kernel
theorem dX10_sender_114 : decode cX10_sender 114 = .ok (.ireturn, 1) := by decide +kernel
theorem dX10_sender_115 : decode cX10_sender 115 = .ok (.aload_n 2, 1) := by decide +kernel
theorem dX10_sender_116 : decode cX10_sender 116 = .ok (.getfield 180, 3) := by decide +kernel
theorem dX10_sender_119 : decode cX10_sender 119 = .ok (.ireturn, 1) := by decide +kernel
theorem dX10_sender_120 : decode cX10_sender 120 = .ok (.aload_n 2, 1) := by decide +kernel
theorem dX10_sender_121 : decode cX10_sender 121 = .ok (.getfield 183, 3) := by decide +kernel
theorem dX10_sender_124 : decode cX10_sender 124 = .ok (.ireturn, 1) := by decide +kernel
theorem dX10_sender_125 : decode cX10_sender 125 = .ok (.aload_n 2, 1) := by decide +kernel
theorem dX10_sender_126 : decode cX10_sender 126 = .ok (.getfield 186, 3) := by decide +kernel
theorem dX10_sender_129 : decode cX10_sender 129 = .ok (.ireturn, 1) := by decide +kernel
theorem dX10_sender_130 : decode cX10_sender 130 = .ok (.aload_n 2, 1) := by decide +kernel
theorem dX10_sender_131 : decode cX10_sender 131 = .ok (.invokevirtual 189, 3) := by decide +kernel
theorem dX10_sender_134 : decode cX10_sender 134 = .ok (.ireturn, 1) := by decide +kernel
theorem dX10_sender_135 : decode cX10_sender 135 = .ok (.aload_n 2, 1) := by decide +kernel
theorem dX10_sender_136 : decode cX10_sender 136 = .ok (.getfield 171, 3) := by decide +kernel
theorem dX10_sender_139 : decode cX10_sender 139 = .ok (.iload_n 1, 1) := by decide +kernel
theorem dX10_sender_140 : decode cX10_sender 140 = .ok (.invokestatic 192, 3) := by decide +kernel
theorem dX10_sender_143 : decode cX10_sender 143 = .ok (.ireturn, 1) := by decide +kernel
theorem dX10_sentFrame_0 : decode cX10_sentFrame 0 = .ok (.iload_n 1, 1) := by decide +kernel
theorem dX10_sentFrame_1 : decode cX10_sentFrame 1 = .ok (.bipush 100, 2) := by decide +kernel
theorem dX10_sentFrame_3 : decode cX10_sentFrame 3 = .ok (.if_icmp .lt 24, 3) := by decide +kernel
theorem dX10_sentFrame_6 : decode cX10_sentFrame 6 = .ok (.iload_n 1, 1) := by decide +kernel
theorem dX10_sentFrame_7 : decode cX10_sentFrame 7 = .ok (.bipush 100, 2) := by decide +kernel
theorem dX10_sentFrame_9 : decode cX10_sentFrame 9 = .ok (.aload_n 0, 1) := by decide +kernel
theorem dX10_sentFrame_10 : decode cX10_sentFrame 10 = .ok (.getfield 168, 3) := by decide +kernel
theorem dX10_sentFrame_13 : decode cX10_sentFrame 13 = .ok (.iadd, 1) := by decide +kernel
theorem dX10_sentFrame_14 : decode cX10_sentFrame 14 = .ok (.if_icmp .ge 13, 3) := by decide +kernel
theorem dX10_sentFrame_17 : decode cX10_sentFrame 17 = .ok (.aload_n 0, 1) := by decide +kernel
theorem dX10_sentFrame_18 : decode cX10_sentFrame 18 = .ok (.getfield 196, 3) := by decide +kernel
theorem dX10_sentFrame_21 : decode cX10_sentFrame 21 = .ok (.iload_n 1, 1) := by decide +kernel
theorem dX10_sentFrame_22 : decode cX10_sentFrame 22 = .ok (.bipush 100, 2) := by decide +kernel
theorem dX10_sentFrame_24 : decode cX10_sentFrame 24 = .ok (.isub, 1) := by decide +kernel
theorem dX10_sentFrame_25 : decode cX10_sentFrame 25 = .ok (.iaload, 1) := by decide +kernel
theorem dX10_sentFrame_26 : decode cX10_sentFrame 26 = .ok (.ireturn, 1) := by decide +kernel
theorem dX10_sentFrame_27 : decode cX10_sentFrame 27 = .ok (.iload_n 1, 1) := by decide +kernel
theorem dX10_sentFrame_28 : decode cX10_sentFrame 28 = .ok (.sipush 200, 3) := by decide +kernel
theorem dX10_sentFrame_31 : decode cX10_sentFrame 31 = .ok (.if_icmp .lt 26, 3) := by decide +kernel
theorem dX10_sentFrame_34 : decode cX10_sentFrame 34 = .ok (.iload_n 1, 1) := by decide +kernel
theorem dX10_sentFrame_35 : decode cX10_sentFrame 35 = .ok (.sipush 200, 3) := by decide +kernel
theorem dX10_sentFrame_38 : decode cX10_sentFrame 38 = .ok (.aload_n 0, 1) := by decide +kernel
theorem dX10_sentFrame_39 : decode cX10_sentFrame 39 = .ok (.getfield 168, 3) := by decide +kernel
theorem dX10_sentFrame_42 : decode cX10_sentFrame 42 = .ok (.iadd, 1) := by decide +kernel
theorem dX10_sentFrame_43 : decode cX10_sentFrame 43 = .ok (.if_icmp .ge 14, 3) := by decide +kernel
theorem dX10_sentFrame_46 : decode cX10_sentFrame 46 = .ok (.aload_n 0, 1) := by decide +kernel
theorem dX10_sentFrame_47 : decode cX10_sentFrame 47 = .ok (.getfield 200, 3) := by decide +kernel
theorem dX10_sentFrame_50 : decode cX10_sentFrame 50 = .ok (.iload_n 1, 1) := by decide +kernel
theorem dX10_sentFrame_51 : decode cX10_sentFrame 51 = .ok (.sipush 200, 3) := by decide +kernel
theorem dX10_sentFrame_54 : decode cX10_sentFrame 54 = .ok (.isub, 1) := by decide +kernel
theorem dX10_sentFrame_55 : decode cX10_sentFrame 55 = .ok (.iaload, 1) := by decide +kernel
theorem dX10_sentFrame_56 : decode cX10_sentFrame 56 = .ok (.ireturn, 1) := by decide +kernel
theorem dX10_sentFrame_57 : decode cX10_sentFrame 57 = .ok (.bipush (-2), 2) := by decide +kernel
theorem dX10_sentFrame_59 : decode cX10_sentFrame 59 = .ok (.ireturn, 1) := by decide +kernel
theorem dX10_receiver_0 : decode cX10_receiver 0 = .ok (.aload_n 0, 1) := by decide +kernel
theorem dX10_receiver_1 : decode cX10_receiver 1 = .ok (.getfield 12, 3) := by decide +kernel
theorem dX10_receiver_4 : decode cX10_receiver 4 = .ok (.getfield 81, 3) := by decide +kernel
theorem dX10_receiver_7 : decode cX10_receiver 7 = .ok (.astore_n 2, 1) := by decide +kernel
theorem dX10_receiver_8 : decode cX10_receiver 8 = .ok (.iload_n 1, 1) := by decide +kernel
theorem dX10_receiver_9 : decode cX10_receiver 9 = .ok (.tableswitch 114 0 7 #[47, 52, 65, 78, 91, 96, 104, 109], 47) := by decide +kernel
theorem dX10_receiver_56 : decode cX10_receiver 56 = .ok (.aload_n 2, 1) := by decide +kernel
theorem dX10_receiver_57 : decode cX10_receiver 57 = .ok (.getfield 203, 3) := by decide +kernel
theorem dX10_receiver_60 : decode cX10_receiver 60 = .ok (.ireturn, 1) := by decide +kernel
theorem dX10_receiver_61 : decode cX10_receiver 61 = .ok (.aload_n 2, 1) := by decide +kernel
theorem dX10_receiver_62 : decode cX10_receiver 62 = .ok (.getfield 206, 3) := by decide +kernel
theorem dX10_receiver_65 : decode cX10_receiver 65 = .ok (.ifCond .eq 7, 3) := by decide +kernel
theorem dX10_receiver_68 : decode cX10_receiver 68 = .ok (.iconst 1, 1) := by decide +kernel
theorem dX10_receiver_69 : decode cX10_receiver 69 = .ok (.goto 4, 3) := by decide +kernel
theorem dX10_receiver_72 : decode cX10_receiver 72 = .ok (.iconst 0, 1) := by decide +kernel
theorem dX10_receiver_73 : decode cX10_receiver 73 = .ok (.ireturn, 1) := by decide +kernel
theorem dX10_receiver_74 : decode cX10_receiver 74 = .ok (.aload_n 2, 1) := by decide +kernel
theorem dX10_receiver_75 : decode cX10_receiver 75 = .ok (.getfield 209, 3) := by decide +kernel
theorem dX10_receiver_78 : decode cX10_receiver 78 = .ok (.ifCond .eq 7, 3) := by decide +kernel
theorem dX10_receiver_81 : decode cX10_receiver 81 = .ok (.iconst 1, 1) := by decide +kernel
theorem dX10_receiver_82 : decode cX10_receiver 82 = .ok (.goto 4, 3) := by decide +kernel
theorem dX10_receiver_85 : decode cX10_receiver 85 = .ok (.iconst 0, 1) := by decide +kernel
theorem dX10_receiver_86 : decode cX10_receiver 86 = .ok (.ireturn, 1) := by decide +kernel
theorem dX10_receiver_87 : decode cX10_receiver 87 = .ok (.aload_n 2, 1) := by decide +kernel
theorem dX10_receiver_88 : decode cX10_receiver 88 = .ok (.getfield 212, 3) := by decide +kernel
theorem dX10_receiver_91 : decode cX10_receiver 91 = .ok (.ifCond .eq 7, 3) := by decide +kernel
theorem dX10_receiver_94 : decode cX10_receiver 94 = .ok (.iconst 1, 1) := by decide +kernel
theorem dX10_receiver_95 : decode cX10_receiver 95 = .ok (.goto 4, 3) := by decide +kernel
theorem dX10_receiver_98 : decode cX10_receiver 98 = .ok (.iconst 0, 1) := by decide +kernel
theorem dX10_receiver_99 : decode cX10_receiver 99 = .ok (.ireturn, 1) := by decide +kernel
theorem dX10_receiver_100 : decode cX10_receiver 100 = .ok (.aload_n 2, 1) := by decide +kernel
theorem dX10_receiver_101 : decode cX10_receiver 101 = .ok (.getfield 215, 3) := by decide +kernel
theorem dX10_receiver_104 : decode cX10_receiver 104 = .ok (.ireturn, 1) := by decide +kernel
theorem dX10_receiver_105 : decode cX10_receiver 105 = .ok (.aload_n 2, 1) := by decide +kernel
theorem dX10_receiver_106 : decode cX10_receiver 106 = .ok (.getfield 216, 3) := by decide +kernel
theorem dX10_receiver_109 : decode cX10_receiver 109 = .ok (.getfield 168, 3) := by decide +kernel
theorem dX10_receiver_112 : decode cX10_receiver 112 = .ok (.ireturn, 1) := by decide +kernel
theorem dX10_receiver_113 : decode cX10_receiver 113 = .ok (.aload_n 2, 1) := by decide +kernel
theorem dX10_receiver_114 : decode cX10_receiver 114 = .ok (.getfield 219, 3) := by decide +kernel
theorem dX10_receiver_117 : decode cX10_receiver 117 = .ok (.ireturn, 1) := by decide +kernel
theorem dX10_receiver_118 : decode cX10_receiver 118 = .ok (.aload_n 2, 1) := by decide +kernel
theorem dX10_receiver_119 : decode cX10_receiver 119 = .ok (.getfield 222, 3) := by decide +kernel
theorem dX10_receiver_122 : decode cX10_receiver 122 = .ok (.ireturn, 1) := by decide +kernel
theorem dX10_receiver_123 : decode cX10_receiver 123 = .ok (.aload_n 2, 1) := by decide +kernel
theorem dX10_receiver_124 : decode cX10_receiver 124 = .ok (.iload_n 1, 1) := by decide +kernel
theorem dX10_receiver_125 : decode cX10_receiver 125 = .ok (.invokestatic 225, 3) := by decide +kernel
theorem dX10_receiver_128 : decode cX10_receiver 128 = .ok (.ireturn, 1) := by decide +kernel
theorem dX10_commandKept_0 : decode cX10_commandKept 0 = .ok (.aload_n 0, 1) := by decide +kernel
theorem dX10_commandKept_1 : decode cX10_commandKept 1 = .ok (.getfield 219, 3) := by decide +kernel
theorem dX10_commandKept_4 : decode cX10_commandKept 4 = .ok (.bipush 100, 2) := by decide +kernel
theorem dX10_commandKept_6 : decode cX10_commandKept 6 = .ok (.invokestatic 229, 3) := by decide +kernel
theorem dX10_commandKept_9 : decode cX10_commandKept 9 = .ok (.istore_n 2, 1) := by decide +kernel
theorem dX10_commandKept_10 : decode cX10_commandKept 10 = .ok (.iload_n 1, 1) := by decide +kernel
theorem dX10_commandKept_11 : decode cX10_commandKept 11 = .ok (.bipush 100, 2) := by decide +kernel
theorem dX10_commandKept_13 : decode cX10_commandKept 13 = .ok (.if_icmp .lt 21, 3) := by decide +kernel
theorem dX10_commandKept_16 : decode cX10_commandKept 16 = .ok (.iload_n 1, 1) := by decide +kernel
theorem dX10_commandKept_17 : decode cX10_commandKept 17 = .ok (.bipush 100, 2) := by decide +kernel
theorem dX10_commandKept_19 : decode cX10_commandKept 19 = .ok (.iload_n 2, 1) := by decide +kernel
theorem dX10_commandKept_20 : decode cX10_commandKept 20 = .ok (.iadd, 1) := by decide +kernel
theorem dX10_commandKept_21 : decode cX10_commandKept 21 = .ok (.if_icmp .ge 13, 3) := by decide +kernel
theorem dX10_commandKept_24 : decode cX10_commandKept 24 = .ok (.aload_n 0, 1) := by decide +kernel
theorem dX10_commandKept_25 : decode cX10_commandKept 25 = .ok (.getfield 235, 3) := by decide +kernel
theorem dX10_commandKept_28 : decode cX10_commandKept 28 = .ok (.iload_n 1, 1) := by decide +kernel
theorem dX10_commandKept_29 : decode cX10_commandKept 29 = .ok (.bipush 100, 2) := by decide +kernel
theorem dX10_commandKept_31 : decode cX10_commandKept 31 = .ok (.isub, 1) := by decide +kernel
theorem dX10_commandKept_32 : decode cX10_commandKept 32 = .ok (.iaload, 1) := by decide +kernel
theorem dX10_commandKept_33 : decode cX10_commandKept 33 = .ok (.ireturn, 1) := by decide +kernel
theorem dX10_commandKept_34 : decode cX10_commandKept 34 = .ok (.aload_n 0, 1) := by decide +kernel
theorem dX10_commandKept_35 : decode cX10_commandKept 35 = .ok (.getfield 222, 3) := by decide +kernel
theorem dX10_commandKept_38 : decode cX10_commandKept 38 = .ok (.bipush 100, 2) := by decide +kernel
theorem dX10_commandKept_40 : decode cX10_commandKept 40 = .ok (.invokestatic 229, 3) := by decide +kernel
theorem dX10_commandKept_43 : decode cX10_commandKept 43 = .ok (.istore_n 3, 1) := by decide +kernel
theorem dX10_commandKept_44 : decode cX10_commandKept 44 = .ok (.iload_n 1, 1) := by decide +kernel
theorem dX10_commandKept_45 : decode cX10_commandKept 45 = .ok (.sipush 200, 3) := by decide +kernel
theorem dX10_commandKept_48 : decode cX10_commandKept 48 = .ok (.if_icmp .lt 23, 3) := by decide +kernel
theorem dX10_commandKept_51 : decode cX10_commandKept 51 = .ok (.iload_n 1, 1) := by decide +kernel
theorem dX10_commandKept_52 : decode cX10_commandKept 52 = .ok (.sipush 200, 3) := by decide +kernel
theorem dX10_commandKept_55 : decode cX10_commandKept 55 = .ok (.iload_n 3, 1) := by decide +kernel
theorem dX10_commandKept_56 : decode cX10_commandKept 56 = .ok (.iadd, 1) := by decide +kernel
theorem dX10_commandKept_57 : decode cX10_commandKept 57 = .ok (.if_icmp .ge 14, 3) := by decide +kernel
theorem dX10_commandKept_60 : decode cX10_commandKept 60 = .ok (.aload_n 0, 1) := by decide +kernel
theorem dX10_commandKept_61 : decode cX10_commandKept 61 = .ok (.getfield 238, 3) := by decide +kernel
theorem dX10_commandKept_64 : decode cX10_commandKept 64 = .ok (.iload_n 1, 1) := by decide +kernel
theorem dX10_commandKept_65 : decode cX10_commandKept 65 = .ok (.sipush 200, 3) := by decide +kernel
theorem dX10_commandKept_68 : decode cX10_commandKept 68 = .ok (.isub, 1) := by decide +kernel
theorem dX10_commandKept_69 : decode cX10_commandKept 69 = .ok (.iaload, 1) := by decide +kernel
theorem dX10_commandKept_70 : decode cX10_commandKept 70 = .ok (.ireturn, 1) := by decide +kernel
theorem dX10_commandKept_71 : decode cX10_commandKept 71 = .ok (.bipush (-2), 2) := by decide +kernel
theorem dX10_commandKept_73 : decode cX10_commandKept 73 = .ok (.ireturn, 1) := by decide +kernel
theorem dX10_way_0 : decode cX10_way 0 = .ok (.aload_n 0, 1) := by decide +kernel
theorem dX10_way_1 : decode cX10_way 1 = .ok (.getfield 12, 3) := by decide +kernel
theorem dX10_way_4 : decode cX10_way 4 = .ok (.iload_n 1, 1) := by decide +kernel
theorem dX10_way_5 : decode cX10_way 5 = .ok (.invokevirtual 101, 3) := by decide +kernel
theorem dX10_way_8 : decode cX10_way 8 = .ok (.astore 4, 2) := by decide +kernel
theorem dX10_way_10 : decode cX10_way 10 = .ok (.iload_n 2, 1) := by decide +kernel
theorem dX10_way_11 : decode cX10_way 11 = .ok (.iconst (-1), 1) := by decide +kernel
theorem dX10_way_12 : decode cX10_way 12 = .ok (.if_icmp .ne 9, 3) := by decide +kernel
theorem dX10_way_15 : decode cX10_way 15 = .ok (.aload 4, 2) := by decide +kernel
theorem dX10_way_17 : decode cX10_way 17 = .ok (.getfield 241, 3) := by decide +kernel
theorem dX10_way_20 : decode cX10_way 20 = .ok (.ireturn, 1) := by decide +kernel
theorem dX10_way_21 : decode cX10_way 21 = .ok (.iload_n 3, 1) := by decide +kernel
theorem dX10_way_22 : decode cX10_way 22 = .ok (.iconst (-1), 1) := by decide +kernel
theorem dX10_way_23 : decode cX10_way 23 = .ok (.if_icmp .ne 12, 3) := by decide +kernel
theorem dX10_way_26 : decode cX10_way 26 = .ok (.aload 4, 2) := by decide +kernel
theorem dX10_way_28 : decode cX10_way 28 = .ok (.iload_n 2, 1) := by decide +kernel
theorem dX10_way_29 : decode cX10_way 29 = .ok (.invokevirtual 242, 3) := by decide +kernel
theorem dX10_way_32 : decode cX10_way 32 = .ok (.goto 10, 3) := by decide +kernel
theorem dX10_way_35 : decode cX10_way 35 = .ok (.aload 4, 2) := by decide +kernel
theorem dX10_way_37 : decode cX10_way 37 = .ok (.iload_n 2, 1) := by decide +kernel
theorem dX10_way_38 : decode cX10_way 38 = .ok (.iload_n 3, 1) := by decide +kernel
theorem dX10_way_39 : decode cX10_way 39 = .ok (.invokevirtual 245, 3) := by decide +kernel
theorem dX10_way_42 : decode cX10_way 42 = .ok (.ireturn, 1) := by decide +kernel
theorem dX10_alarm_0 : decode cX10_alarm 0 = .ok (.iload_n 1, 1) := by decide +kernel
theorem dX10_alarm_1 : decode cX10_alarm 1 = .ok (.iconst (-1), 1) := by decide +kernel
theorem dX10_alarm_2 : decode cX10_alarm 2 = .ok (.if_icmp .ne 14, 3) := by decide +kernel
theorem dX10_alarm_5 : decode cX10_alarm 5 = .ok (.aload_n 0, 1) := by decide +kernel
theorem dX10_alarm_6 : decode cX10_alarm 6 = .ok (.getfield 12, 3) := by decide +kernel
theorem dX10_alarm_9 : decode cX10_alarm 9 = .ok (.getfield 248, 3) := by decide +kernel
theorem dX10_alarm_12 : decode cX10_alarm 12 = .ok (.getfield 252, 3) := by decide +kernel
theorem dX10_alarm_15 : decode cX10_alarm 15 = .ok (.ireturn, 1) := by decide +kernel
theorem dX10_alarm_16 : decode cX10_alarm 16 = .ok (.aload_n 0, 1) := by decide +kernel
theorem dX10_alarm_17 : decode cX10_alarm 17 = .ok (.getfield 12, 3) := by decide +kernel
theorem dX10_alarm_20 : decode cX10_alarm 20 = .ok (.getfield 248, 3) := by decide +kernel
theorem dX10_alarm_23 : decode cX10_alarm 23 = .ok (.iload_n 1, 1) := by decide +kernel
theorem dX10_alarm_24 : decode cX10_alarm 24 = .ok (.invokevirtual 257, 3) := by decide +kernel
theorem dX10_alarm_27 : decode cX10_alarm 27 = .ok (.ireturn, 1) := by decide +kernel
theorem dX10_judge_0 : decode cX10_judge 0 = .ok (.iload_n 1, 1) := by decide +kernel
theorem dX10_judge_1 : decode cX10_judge 1 = .ok (.iconst 1, 1) := by decide +kernel
theorem dX10_judge_2 : decode cX10_judge 2 = .ok (.iconst 3, 1) := by decide +kernel
theorem dX10_judge_3 : decode cX10_judge 3 = .ok (.invokestatic 289, 3) := by decide +kernel
theorem dX10_judge_6 : decode cX10_judge 6 = .ok (.ifCond .eq 47, 3) := by decide +kernel
theorem dX10_judge_9 : decode cX10_judge 9 = .ok (.iload_n 2, 1) := by decide +kernel
theorem dX10_judge_10 : decode cX10_judge 10 = .ok (.iconst 0, 1) := by decide +kernel
theorem dX10_judge_11 : decode cX10_judge 11 = .ok (.iconst 2, 1) := by decide +kernel
theorem dX10_judge_12 : decode cX10_judge 12 = .ok (.invokestatic 289, 3) := by decide +kernel
theorem dX10_judge_15 : decode cX10_judge 15 = .ok (.ifCond .eq 38, 3) := by decide +kernel
theorem dX10_judge_18 : decode cX10_judge 18 = .ok (.iload_n 3, 1) := by decide +kernel
theorem dX10_judge_19 : decode cX10_judge 19 = .ok (.iconst 0, 1) := by decide +kernel
theorem dX10_judge_20 : decode cX10_judge 20 = .ok (.iconst 3, 1) := by decide +kernel
theorem dX10_judge_21 : decode cX10_judge 21 = .ok (.invokestatic 289, 3) := by decide +kernel
theorem dX10_judge_24 : decode cX10_judge 24 = .ok (.ifCond .eq 29, 3) := by decide +kernel
theorem dX10_judge_27 : decode cX10_judge 27 = .ok (.iload 4, 2) := by decide +kernel
theorem dX10_judge_29 : decode cX10_judge 29 = .ok (.iconst 0, 1) := by decide +kernel
theorem dX10_judge_30 : decode cX10_judge 30 = .ok (.bipush 9, 2) := by decide +kernel
theorem dX10_judge_32 : decode cX10_judge 32 = .ok (.invokestatic 289, 3) := by decide +kernel
theorem dX10_judge_35 : decode cX10_judge 35 = .ok (.ifCond .eq 18, 3) := by decide +kernel
theorem dX10_judge_38 : decode cX10_judge 38 = .ok (.iload 5, 2) := by decide +kernel
theorem dX10_judge_40 : decode cX10_judge 40 = .ok (.iconst 1, 1) := by decide +kernel
theorem dX10_judge_41 : decode cX10_judge 41 = .ok (.bipush 9, 2) := by decide +kernel
theorem dX10_judge_43 : decode cX10_judge 43 = .ok (.invokestatic 289, 3) := by decide +kernel
theorem dX10_judge_46 : decode cX10_judge 46 = .ok (.ifCond .eq 7, 3) := by decide +kernel
theorem dX10_judge_49 : decode cX10_judge 49 = .ok (.iconst 1, 1) := by decide +kernel
theorem dX10_judge_50 : decode cX10_judge 50 = .ok (.goto 4, 3) := by decide +kernel
theorem dX10_judge_53 : decode cX10_judge 53 = .ok (.iconst 0, 1) := by decide +kernel
theorem dX10_judge_54 : decode cX10_judge 54 = .ok (.istore 6, 2) := by decide +kernel
theorem dX10_judge_56 : decode cX10_judge 56 = .ok (.iload 6, 2) := by decide +kernel
theorem dX10_judge_58 : decode cX10_judge 58 = .ok (.ifCond .eq 16, 3) := by decide +kernel
theorem dX10_judge_61 : decode cX10_judge 61 = .ok (.iload_n 1, 1) := by decide +kernel
theorem dX10_judge_62 : decode cX10_judge 62 = .ok (.iload_n 2, 1) := by decide +kernel
theorem dX10_judge_63 : decode cX10_judge 63 = .ok (.iload_n 3, 1) := by decide +kernel
theorem dX10_judge_64 : decode cX10_judge 64 = .ok (.iload 4, 2) := by decide +kernel
theorem dX10_judge_66 : decode cX10_judge 66 = .ok (.iload 5, 2) := by decide +kernel
theorem dX10_judge_68 : decode cX10_judge 68 = .ok (.invokestatic 292, 3) := by decide +kernel
theorem dX10_judge_71 : decode cX10_judge 71 = .ok (.goto 4, 3) := by decide +kernel
theorem dX10_judge_74 : decode cX10_judge 74 = .ok (.iconst (-1), 1) := by decide +kernel
theorem dX10_judge_75 : decode cX10_judge 75 = .ok (.ireturn, 1) := by decide +kernel
theorem dX10_verdicts_0 : decode cX10_verdicts 0 = .ok (.iload_n 1, 1) := by decide +kernel
theorem dX10_verdicts_1 : decode cX10_verdicts 1 = .ok (.ifCond .lt 24, 3) := by decide +kernel
theorem dX10_verdicts_4 : decode cX10_verdicts 4 = .ok (.iload_n 1, 1) := by decide +kernel
theorem dX10_verdicts_5 : decode cX10_verdicts 5 = .ok (.bipush 9, 2) := by decide +kernel
theorem dX10_verdicts_7 : decode cX10_verdicts 7 = .ok (.if_icmp .ge 18, 3) := by decide +kernel
theorem dX10_verdicts_10 : decode cX10_verdicts 10 = .ok (.aload_n 0, 1) := by decide +kernel
theorem dX10_verdicts_11 : decode cX10_verdicts 11 = .ok (.getfield 12, 3) := by decide +kernel
theorem dX10_verdicts_14 : decode cX10_verdicts 14 = .ok (.getfield 248, 3) := by decide +kernel
theorem dX10_verdicts_17 : decode cX10_verdicts 17 = .ok (.getfield 296, 3) := by decide +kernel
theorem dX10_verdicts_20 : decode cX10_verdicts 20 = .ok (.iload_n 1, 1) := by decide +kernel
theorem dX10_verdicts_21 : decode cX10_verdicts 21 = .ok (.iaload, 1) := by decide +kernel
theorem dX10_verdicts_22 : decode cX10_verdicts 22 = .ok (.goto 4, 3) := by decide +kernel
theorem dX10_verdicts_25 : decode cX10_verdicts 25 = .ok (.iconst (-1), 1) := by decide +kernel
theorem dX10_verdicts_26 : decode cX10_verdicts 26 = .ok (.ireturn, 1) := by decide +kernel
theorem dX10_diary_0 : decode cX10_diary 0 = .ok (.iload_n 1, 1) := by decide +kernel
theorem dX10_diary_1 : decode cX10_diary 1 = .ok (.iconst (-1), 1) := by decide +kernel
theorem dX10_diary_2 : decode cX10_diary 2 = .ok (.if_icmp .ne 16, 3) := by decide +kernel
theorem dX10_diary_5 : decode cX10_diary 5 = .ok (.aload_n 0, 1) := by decide +kernel
theorem dX10_diary_6 : decode cX10_diary 6 = .ok (.getfield 12, 3) := by decide +kernel
theorem dX10_diary_9 : decode cX10_diary 9 = .ok (.getfield 248, 3) := by decide +kernel
theorem dX10_diary_12 : decode cX10_diary 12 = .ok (.getfield 299, 3) := by decide +kernel
theorem dX10_diary_15 : decode cX10_diary 15 = .ok (.goto 15, 3) := by decide +kernel
theorem dX10_diary_18 : decode cX10_diary 18 = .ok (.aload_n 0, 1) := by decide +kernel
theorem dX10_diary_19 : decode cX10_diary 19 = .ok (.getfield 12, 3) := by decide +kernel
theorem dX10_diary_22 : decode cX10_diary 22 = .ok (.getfield 248, 3) := by decide +kernel
theorem dX10_diary_25 : decode cX10_diary 25 = .ok (.iload_n 1, 1) := by decide +kernel
theorem dX10_diary_26 : decode cX10_diary 26 = .ok (.iload_n 2, 1) := by decide +kernel
theorem dX10_diary_27 : decode cX10_diary 27 = .ok (.invokevirtual 300, 3) := by decide +kernel
theorem dX10_diary_30 : decode cX10_diary 30 = .ok (.ireturn, 1) := by decide +kernel
theorem dX10_ledger_0 : decode cX10_ledger 0 = .ok (.iload_n 1, 1) := by decide +kernel
theorem dX10_ledger_1 : decode cX10_ledger 1 = .ok (.iconst (-1), 1) := by decide +kernel
theorem dX10_ledger_2 : decode cX10_ledger 2 = .ok (.if_icmp .ne 16, 3) := by decide +kernel
theorem dX10_ledger_5 : decode cX10_ledger 5 = .ok (.aload_n 0, 1) := by decide +kernel
theorem dX10_ledger_6 : decode cX10_ledger 6 = .ok (.getfield 12, 3) := by decide +kernel
theorem dX10_ledger_9 : decode cX10_ledger 9 = .ok (.getfield 303, 3) := by decide +kernel
theorem dX10_ledger_12 : decode cX10_ledger 12 = .ok (.getfield 307, 3) := by decide +kernel
theorem dX10_ledger_15 : decode cX10_ledger 15 = .ok (.goto 15, 3) := by decide +kernel
theorem dX10_ledger_18 : decode cX10_ledger 18 = .ok (.aload_n 0, 1) := by decide +kernel
theorem dX10_ledger_19 : decode cX10_ledger 19 = .ok (.getfield 12, 3) := by decide +kernel
theorem dX10_ledger_22 : decode cX10_ledger 22 = .ok (.getfield 303, 3) := by decide +kernel
theorem dX10_ledger_25 : decode cX10_ledger 25 = .ok (.iload_n 1, 1) := by decide +kernel
theorem dX10_ledger_26 : decode cX10_ledger 26 = .ok (.iload_n 2, 1) := by decide +kernel
theorem dX10_ledger_27 : decode cX10_ledger 27 = .ok (.invokevirtual 310, 3) := by decide +kernel
theorem dX10_ledger_30 : decode cX10_ledger 30 = .ok (.ireturn, 1) := by decide +kernel
theorem dX10_delays_0 : decode cX10_delays 0 = .ok (.aload_n 0, 1) := by decide +kernel
theorem dX10_delays_1 : decode cX10_delays 1 = .ok (.getfield 12, 3) := by decide +kernel
theorem dX10_delays_4 : decode cX10_delays 4 = .ok (.getfield 303, 3) := by decide +kernel
theorem dX10_delays_7 : decode cX10_delays 7 = .ok (.astore_n 2, 1) := by decide +kernel
theorem dX10_delays_8 : decode cX10_delays 8 = .ok (.iload_n 1, 1) := by decide +kernel
theorem dX10_delays_9 : decode cX10_delays 9 = .ok (.tableswitch 84 0 6 #[43, 50, 55, 60, 67, 72, 77], 43) := by decide +kernel
theorem dX10_delays_52 : decode cX10_delays 52 = .ok (.aload_n 2, 1) := by decide +kernel
theorem dX10_delays_53 : decode cX10_delays 53 = .ok (.iconst 4, 1) := by decide +kernel
theorem dX10_delays_54 : decode cX10_delays 54 = .ok (.iconst 1, 1) := by decide +kernel
theorem dX10_delays_55 : decode cX10_delays 55 = .ok (.invokevirtual 311, 3) := by decide +kernel
theorem dX10_delays_58 : decode cX10_delays 58 = .ok (.ireturn, 1) := by decide +kernel
theorem dX10_delays_59 : decode cX10_delays 59 = .ok (.aload_n 2, 1) := by decide +kernel
theorem dX10_delays_60 : decode cX10_delays 60 = .ok (.invokevirtual 314, 3) := by decide +kernel
theorem dX10_delays_63 : decode cX10_delays 63 = .ok (.ireturn, 1) := by decide +kernel
theorem dX10_delays_64 : decode cX10_delays 64 = .ok (.aload_n 2, 1) := by decide +kernel
theorem dX10_delays_65 : decode cX10_delays 65 = .ok (.invokevirtual 317, 3) := by decide +kernel
theorem dX10_delays_68 : decode cX10_delays 68 = .ok (.ireturn, 1) := by decide +kernel
theorem dX10_delays_69 : decode cX10_delays 69 = .ok (.aload_n 2, 1) := by decide +kernel
theorem dX10_delays_70 : decode cX10_delays 70 = .ok (.iconst 4, 1) := by decide +kernel
theorem dX10_delays_71 : decode cX10_delays 71 = .ok (.iconst 2, 1) := by decide +kernel
theorem dX10_delays_72 : decode cX10_delays 72 = .ok (.invokevirtual 311, 3) := by decide +kernel
theorem dX10_delays_75 : decode cX10_delays 75 = .ok (.ireturn, 1) := by decide +kernel
theorem dX10_delays_76 : decode cX10_delays 76 = .ok (.aload_n 2, 1) := by decide +kernel
theorem dX10_delays_77 : decode cX10_delays 77 = .ok (.invokevirtual 320, 3) := by decide +kernel
theorem dX10_delays_80 : decode cX10_delays 80 = .ok (.ireturn, 1) := by decide +kernel
theorem dX10_delays_81 : decode cX10_delays 81 = .ok (.aload_n 2, 1) := by decide +kernel
theorem dX10_delays_82 : decode cX10_delays 82 = .ok (.invokevirtual 323, 3) := by decide +kernel
theorem dX10_delays_85 : decode cX10_delays 85 = .ok (.ireturn, 1) := by decide +kernel
theorem dX10_delays_86 : decode cX10_delays 86 = .ok (.aload_n 2, 1) := by decide +kernel
theorem dX10_delays_87 : decode cX10_delays 87 = .ok (.iconst 2, 1) := by decide +kernel
theorem dX10_delays_88 : decode cX10_delays 88 = .ok (.iconst 2, 1) := by decide +kernel
theorem dX10_delays_89 : decode cX10_delays 89 = .ok (.invokevirtual 311, 3) := by decide +kernel
theorem dX10_delays_92 : decode cX10_delays 92 = .ok (.ireturn, 1) := by decide +kernel
theorem dX10_delays_93 : decode cX10_delays 93 = .ok (.iconst (-1), 1) := by decide +kernel
theorem dX10_delays_94 : decode cX10_delays 94 = .ok (.ireturn, 1) := by decide +kernel
theorem dX10_zone_0 : decode cX10_zone 0 = .ok (.iload_n 1, 1) := by decide +kernel
theorem dX10_zone_1 : decode cX10_zone 1 = .ok (.invokestatic 326, 3) := by decide +kernel
theorem dX10_zone_4 : decode cX10_zone 4 = .ok (.ifCond .eq 17, 3) := by decide +kernel
theorem dX10_zone_7 : decode cX10_zone 7 = .ok (.aload_n 0, 1) := by decide +kernel
theorem dX10_zone_8 : decode cX10_zone 8 = .ok (.getfield 12, 3) := by decide +kernel
theorem dX10_zone_11 : decode cX10_zone 11 = .ok (.getfield 81, 3) := by decide +kernel
theorem dX10_zone_14 : decode cX10_zone 14 = .ok (.iload_n 1, 1) := by decide +kernel
theorem dX10_zone_15 : decode cX10_zone 15 = .ok (.invokevirtual 329, 3) := by decide +kernel
theorem dX10_zone_18 : decode cX10_zone 18 = .ok (.goto 4, 3) := by decide +kernel
theorem dX10_zone_21 : decode cX10_zone 21 = .ok (.iconst (-1), 1) := by decide +kernel
theorem dX10_zone_22 : decode cX10_zone 22 = .ok (.ireturn, 1) := by decide +kernel
theorem dX10_fate_0 : decode cX10_fate 0 = .ok (.aload_n 0, 1) := by decide +kernel
theorem dX10_fate_1 : decode cX10_fate 1 = .ok (.getfield 12, 3) := by decide +kernel
theorem dX10_fate_4 : decode cX10_fate 4 = .ok (.iload_n 1, 1) := by decide +kernel
theorem dX10_fate_5 : decode cX10_fate 5 = .ok (.invokevirtual 101, 3) := by decide +kernel
theorem dX10_fate_8 : decode cX10_fate 8 = .ok (.iload_n 2, 1) := by decide +kernel
theorem dX10_fate_9 : decode cX10_fate 9 = .ok (.invokevirtual 332, 3) := by decide +kernel
theorem dX10_fate_12 : decode cX10_fate 12 = .ok (.ireturn, 1) := by decide +kernel
theorem dX10_truth_0 : decode cX10_truth 0 = .ok (.aload_n 0, 1) := by decide +kernel
theorem dX10_truth_1 : decode cX10_truth 1 = .ok (.getfield 12, 3) := by decide +kernel
theorem dX10_truth_4 : decode cX10_truth 4 = .ok (.getfield 54, 3) := by decide +kernel
theorem dX10_truth_7 : decode cX10_truth 7 = .ok (.astore_n 2, 1) := by decide +kernel
theorem dX10_truth_8 : decode cX10_truth 8 = .ok (.aload_n 0, 1) := by decide +kernel
theorem dX10_truth_9 : decode cX10_truth 9 = .ok (.getfield 12, 3) := by decide +kernel
theorem dX10_truth_12 : decode cX10_truth 12 = .ok (.getfield 81, 3) := by decide +kernel
theorem dX10_truth_15 : decode cX10_truth 15 = .ok (.getfield 203, 3) := by decide +kernel
theorem dX10_truth_18 : decode cX10_truth 18 = .ok (.istore_n 3, 1) := by decide +kernel
theorem dX10_truth_19 : decode cX10_truth 19 = .ok (.iload_n 1, 1) := by decide +kernel
theorem dX10_truth_20 : decode cX10_truth 20 = .ok (.tableswitch 112 0 4 #[36, 56, 65, 74, 101], 36) := by decide +kernel
theorem dX10_truth_56 : decode cX10_truth 56 = .ok (.aload_n 2, 1) := by decide +kernel
theorem dX10_truth_57 : decode cX10_truth 57 = .ok (.getfield 171, 3) := by decide +kernel
theorem dX10_truth_60 : decode cX10_truth 60 = .ok (.aload_n 2, 1) := by decide +kernel
theorem dX10_truth_61 : decode cX10_truth 61 = .ok (.getfield 161, 3) := by decide +kernel
theorem dX10_truth_64 : decode cX10_truth 64 = .ok (.iload_n 3, 1) := by decide +kernel
theorem dX10_truth_65 : decode cX10_truth 65 = .ok (.aload_n 2, 1) := by decide +kernel
theorem dX10_truth_66 : decode cX10_truth 66 = .ok (.getfield 161, 3) := by decide +kernel
theorem dX10_truth_69 : decode cX10_truth 69 = .ok (.invokestatic 335, 3) := by decide +kernel
theorem dX10_truth_72 : decode cX10_truth 72 = .ok (.invokevirtual 338, 3) := by decide +kernel
theorem dX10_truth_75 : decode cX10_truth 75 = .ok (.ireturn, 1) := by decide +kernel
theorem dX10_truth_76 : decode cX10_truth 76 = .ok (.iload_n 3, 1) := by decide +kernel
theorem dX10_truth_77 : decode cX10_truth 77 = .ok (.aload_n 2, 1) := by decide +kernel
theorem dX10_truth_78 : decode cX10_truth 78 = .ok (.getfield 161, 3) := by decide +kernel
theorem dX10_truth_81 : decode cX10_truth 81 = .ok (.invokestatic 335, 3) := by decide +kernel
theorem dX10_truth_84 : decode cX10_truth 84 = .ok (.ireturn, 1) := by decide +kernel
theorem dX10_truth_85 : decode cX10_truth 85 = .ok (.aload_n 2, 1) := by decide +kernel
theorem dX10_truth_86 : decode cX10_truth 86 = .ok (.getfield 158, 3) := by decide +kernel
theorem dX10_truth_89 : decode cX10_truth 89 = .ok (.iload_n 3, 1) := by decide +kernel
theorem dX10_truth_90 : decode cX10_truth 90 = .ok (.invokestatic 335, 3) := by decide +kernel
theorem dX10_truth_93 : decode cX10_truth 93 = .ok (.ireturn, 1) := by decide +kernel
theorem dX10_truth_94 : decode cX10_truth 94 = .ok (.aload_n 0, 1) := by decide +kernel
theorem dX10_truth_95 : decode cX10_truth 95 = .ok (.getfield 12, 3) := by decide +kernel
theorem dX10_truth_98 : decode cX10_truth 98 = .ok (.getfield 303, 3) := by decide +kernel
theorem dX10_truth_101 : decode cX10_truth 101 = .ok (.getfield 341, 3) := by decide +kernel
theorem dX10_truth_104 : decode cX10_truth 104 = .ok (.aload_n 2, 1) := by decide +kernel
theorem dX10_truth_105 : decode cX10_truth 105 = .ok (.getfield 164, 3) := by decide +kernel
theorem dX10_truth_108 : decode cX10_truth 108 = .ok (.getfield 168, 3) := by decide +kernel
theorem dX10_truth_111 : decode cX10_truth 111 = .ok (.isub, 1) := by decide +kernel
theorem dX10_truth_112 : decode cX10_truth 112 = .ok (.aload_n 2, 1) := by decide +kernel
theorem dX10_truth_113 : decode cX10_truth 113 = .ok (.getfield 171, 3) := by decide +kernel
theorem dX10_truth_116 : decode cX10_truth 116 = .ok (.getfield 168, 3) := by decide +kernel
theorem dX10_truth_119 : decode cX10_truth 119 = .ok (.isub, 1) := by decide +kernel
theorem dX10_truth_120 : decode cX10_truth 120 = .ok (.ireturn, 1) := by decide +kernel
theorem dX10_truth_121 : decode cX10_truth 121 = .ok (.aload_n 0, 1) := by decide +kernel
theorem dX10_truth_122 : decode cX10_truth 122 = .ok (.getfield 12, 3) := by decide +kernel
theorem dX10_truth_125 : decode cX10_truth 125 = .ok (.getfield 303, 3) := by decide +kernel
theorem dX10_truth_128 : decode cX10_truth 128 = .ok (.getfield 341, 3) := by decide +kernel
theorem dX10_truth_131 : decode cX10_truth 131 = .ok (.ireturn, 1) := by decide +kernel
theorem dX10_truth_132 : decode cX10_truth 132 = .ok (.iconst (-1), 1) := by decide +kernel
theorem dX10_truth_133 : decode cX10_truth 133 = .ok (.ireturn, 1) := by decide +kernel
theorem dX10_soon_0 : decode cX10_soon 0 = .ok (.aload_n 0, 1) := by decide +kernel
theorem dX10_soon_1 : decode cX10_soon 1 = .ok (.getfield 19, 3) := by decide +kernel
theorem dX10_soon_4 : decode cX10_soon 4 = .ok (.aload_n 0, 1) := by decide +kernel
theorem dX10_soon_5 : decode cX10_soon 5 = .ok (.getfield 12, 3) := by decide +kernel
theorem dX10_soon_8 : decode cX10_soon 8 = .ok (.invokevirtual 344, 3) := by decide +kernel
theorem dX10_soon_11 : decode cX10_soon 11 = .ok (.aload_n 0, 1) := by decide +kernel
theorem dX10_soon_12 : decode cX10_soon 12 = .ok (.getfield 19, 3) := by decide +kernel
theorem dX10_soon_15 : decode cX10_soon 15 = .ok (.getfield 40, 3) := by decide +kernel
theorem dX10_soon_18 : decode cX10_soon 18 = .ok (.invokevirtual 347, 3) := by decide +kernel
theorem dX10_soon_21 : decode cX10_soon 21 = .ok (.iconst 0, 1) := by decide +kernel
theorem dX10_soon_22 : decode cX10_soon 22 = .ok (.istore_n 1, 1) := by decide +kernel
theorem dX10_soon_23 : decode cX10_soon 23 = .ok (.iload_n 1, 1) := by decide +kernel
theorem dX10_soon_24 : decode cX10_soon 24 = .ok (.sipush 400, 3) := by decide +kernel
theorem dX10_soon_27 : decode cX10_soon 27 = .ok (.if_icmp .gt 50, 3) := by decide +kernel
theorem dX10_soon_30 : decode cX10_soon 30 = .ok (.aload_n 0, 1) := by decide +kernel
theorem dX10_soon_31 : decode cX10_soon 31 = .ok (.getfield 19, 3) := by decide +kernel
theorem dX10_soon_34 : decode cX10_soon 34 = .ok (.getfield 54, 3) := by decide +kernel
theorem dX10_soon_37 : decode cX10_soon 37 = .ok (.invokevirtual 350, 3) := by decide +kernel
theorem dX10_soon_40 : decode cX10_soon 40 = .ok (.ifCond .eq 5, 3) := by decide +kernel
theorem dX10_soon_43 : decode cX10_soon 43 = .ok (.iload_n 1, 1) := by decide +kernel
theorem dX10_soon_44 : decode cX10_soon 44 = .ok (.ireturn, 1) := by decide +kernel
theorem dX10_soon_45 : decode cX10_soon 45 = .ok (.aload_n 0, 1) := by decide +kernel
theorem dX10_soon_46 : decode cX10_soon 46 = .ok (.getfield 19, 3) := by decide +kernel
theorem dX10_soon_49 : decode cX10_soon 49 = .ok (.getfield 54, 3) := by decide +kernel
theorem dX10_soon_52 : decode cX10_soon 52 = .ok (.getfield 155, 3) := by decide +kernel
theorem dX10_soon_55 : decode cX10_soon 55 = .ok (.bipush 6, 2) := by decide +kernel
theorem dX10_soon_57 : decode cX10_soon 57 = .ok (.if_icmp .ne 5, 3) := by decide +kernel
theorem dX10_soon_60 : decode cX10_soon 60 = .ok (.iconst (-1), 1) := by decide +kernel
theorem dX10_soon_61 : decode cX10_soon 61 = .ok (.ireturn, 1) := by decide +kernel
theorem dX10_soon_62 : decode cX10_soon 62 = .ok (.aload_n 0, 1) := by decide +kernel
theorem dX10_soon_63 : decode cX10_soon 63 = .ok (.getfield 19, 3) := by decide +kernel
theorem dX10_soon_66 : decode cX10_soon 66 = .ok (.iconst 1, 1) := by decide +kernel
theorem dX10_soon_67 : decode cX10_soon 67 = .ok (.iconst 1, 1) := by decide +kernel
theorem dX10_soon_68 : decode cX10_soon 68 = .ok (.invokevirtual 94, 3) := by decide +kernel
theorem dX10_soon_71 : decode cX10_soon 71 = .ok (.iinc 1 1, 3) := by decide +kernel
theorem dX10_soon_74 : decode cX10_soon 74 = .ok (.goto (-51), 3) := by decide +kernel
theorem dX10_soon_77 : decode cX10_soon 77 = .ok (.iconst (-1), 1) := by decide +kernel
theorem dX10_soon_78 : decode cX10_soon 78 = .ok (.ireturn, 1) := by decide +kernel
theorem dX10_ways_0 : decode cX10_ways 0 = .ok (.iconst 0, 1) := by decide +kernel
theorem dX10_ways_1 : decode cX10_ways 1 = .ok (.istore_n 1, 1) := by decide +kernel
theorem dX10_ways_2 : decode cX10_ways 2 = .ok (.iconst 0, 1) := by decide +kernel
theorem dX10_ways_3 : decode cX10_ways 3 = .ok (.istore_n 2, 1) := by decide +kernel
theorem dX10_ways_4 : decode cX10_ways 4 = .ok (.iload_n 2, 1) := by decide +kernel
theorem dX10_ways_5 : decode cX10_ways 5 = .ok (.iconst 5, 1) := by decide +kernel
theorem dX10_ways_6 : decode cX10_ways 6 = .ok (.if_icmp .ge 23, 3) := by decide +kernel
theorem dX10_ways_9 : decode cX10_ways 9 = .ok (.aload_n 0, 1) := by decide +kernel
theorem dX10_ways_10 : decode cX10_ways 10 = .ok (.iload_n 2, 1) := by decide +kernel
theorem dX10_ways_11 : decode cX10_ways 11 = .ok (.invokevirtual 353, 3) := by decide +kernel
theorem dX10_ways_14 : decode cX10_ways 14 = .ok (.ifCond .eq 9, 3) := by decide +kernel
theorem dX10_ways_17 : decode cX10_ways 17 = .ok (.iload_n 1, 1) := by decide +kernel
theorem dX10_ways_18 : decode cX10_ways 18 = .ok (.iconst 1, 1) := by decide +kernel
theorem dX10_ways_19 : decode cX10_ways 19 = .ok (.iload_n 2, 1) := by decide +kernel
theorem dX10_ways_20 : decode cX10_ways 20 = .ok (.ishl, 1) := by decide +kernel
theorem dX10_ways_21 : decode cX10_ways 21 = .ok (.ior, 1) := by decide +kernel
theorem dX10_ways_22 : decode cX10_ways 22 = .ok (.istore_n 1, 1) := by decide +kernel
theorem dX10_ways_23 : decode cX10_ways 23 = .ok (.iinc 2 1, 3) := by decide +kernel
theorem dX10_ways_26 : decode cX10_ways 26 = .ok (.goto (-22), 3) := by decide +kernel
theorem dX10_ways_29 : decode cX10_ways 29 = .ok (.iload_n 1, 1) := by decide +kernel
theorem dX10_ways_30 : decode cX10_ways 30 = .ok (.ireturn, 1) := by decide +kernel
theorem dX10_leadsOut_0 : decode cX10_leadsOut 0 = .ok (.aload_n 0, 1) := by decide +kernel
theorem dX10_leadsOut_1 : decode cX10_leadsOut 1 = .ok (.getfield 19, 3) := by decide +kernel
theorem dX10_leadsOut_4 : decode cX10_leadsOut 4 = .ok (.aload_n 0, 1) := by decide +kernel
theorem dX10_leadsOut_5 : decode cX10_leadsOut 5 = .ok (.getfield 12, 3) := by decide +kernel
theorem dX10_leadsOut_8 : decode cX10_leadsOut 8 = .ok (.invokevirtual 344, 3) := by decide +kernel
theorem dX10_leadsOut_11 : decode cX10_leadsOut 11 = .ok (.aload_n 0, 1) := by decide +kernel
theorem dX10_leadsOut_12 : decode cX10_leadsOut 12 = .ok (.getfield 19, 3) := by decide +kernel
theorem dX10_leadsOut_15 : decode cX10_leadsOut 15 = .ok (.getfield 40, 3) := by decide +kernel
theorem dX10_leadsOut_18 : decode cX10_leadsOut 18 = .ok (.invokevirtual 347, 3) := by decide +kernel
theorem dX10_leadsOut_21 : decode cX10_leadsOut 21 = .ok (.aload_n 0, 1) := by decide +kernel
theorem dX10_leadsOut_22 : decode cX10_leadsOut 22 = .ok (.getfield 19, 3) := by decide +kernel
theorem dX10_leadsOut_25 : decode cX10_leadsOut 25 = .ok (.iload_n 1, 1) := by decide +kernel
theorem dX10_leadsOut_26 : decode cX10_leadsOut 26 = .ok (.invokevirtual 356, 3) := by decide +kernel
theorem dX10_leadsOut_29 : decode cX10_leadsOut 29 = .ok (.ifCond .ne 5, 3) := by decide +kernel
theorem dX10_leadsOut_32 : decode cX10_leadsOut 32 = .ok (.iconst 0, 1) := by decide +kernel
theorem dX10_leadsOut_33 : decode cX10_leadsOut 33 = .ok (.ireturn, 1) := by decide +kernel
theorem dX10_leadsOut_34 : decode cX10_leadsOut 34 = .ok (.aload_n 0, 1) := by decide +kernel
theorem dX10_leadsOut_35 : decode cX10_leadsOut 35 = .ok (.getfield 19, 3) := by decide +kernel
theorem dX10_leadsOut_38 : decode cX10_leadsOut 38 = .ok (.bipush 100, 2) := by decide +kernel
theorem dX10_leadsOut_40 : decode cX10_leadsOut 40 = .ok (.iconst 1, 1) := by decide +kernel
theorem dX10_leadsOut_41 : decode cX10_leadsOut 41 = .ok (.invokevirtual 94, 3) := by decide +kernel
theorem dX10_leadsOut_44 : decode cX10_leadsOut 44 = .ok (.aload_n 0, 1) := by decide +kernel
theorem dX10_leadsOut_45 : decode cX10_leadsOut 45 = .ok (.getfield 19, 3) := by decide +kernel
theorem dX10_leadsOut_48 : decode cX10_leadsOut 48 = .ok (.invokevirtual 359, 3) := by decide +kernel
theorem dX10_leadsOut_51 : decode cX10_leadsOut 51 = .ok (.ireturn, 1) := by decide +kernel
theorem dX10_image_0 : decode cX10_image 0 = .ok (.iload_n 1, 1) := by decide +kernel
theorem dX10_image_1 : decode cX10_image 1 = .ok (.ifCond .eq 21, 3) := by decide +kernel
theorem dX10_image_4 : decode cX10_image 4 = .ok (.aload_n 0, 1) := by decide +kernel
theorem dX10_image_5 : decode cX10_image 5 = .ok (.getfield 16, 3) := by decide +kernel
theorem dX10_image_8 : decode cX10_image 8 = .ok (.aload_n 0, 1) := by decide +kernel
theorem dX10_image_9 : decode cX10_image 9 = .ok (.getfield 12, 3) := by decide +kernel
theorem dX10_image_12 : decode cX10_image 12 = .ok (.invokevirtual 344, 3) := by decide +kernel
theorem dX10_image_15 : decode cX10_image 15 = .ok (.aload_n 0, 1) := by decide +kernel
theorem dX10_image_16 : decode cX10_image 16 = .ok (.iconst 1, 1) := by decide +kernel
theorem dX10_image_17 : decode cX10_image 17 = .ok (.putfield 22, 3) := by decide +kernel
theorem dX10_image_20 : decode cX10_image 20 = .ok (.iconst 1, 1) := by decide +kernel
theorem dX10_image_21 : decode cX10_image 21 = .ok (.ireturn, 1) := by decide +kernel
theorem dX10_image_22 : decode cX10_image 22 = .ok (.aload_n 0, 1) := by decide +kernel
theorem dX10_image_23 : decode cX10_image 23 = .ok (.getfield 22, 3) := by decide +kernel
theorem dX10_image_26 : decode cX10_image 26 = .ok (.ifCond .eq 14, 3) := by decide +kernel
theorem dX10_image_29 : decode cX10_image 29 = .ok (.aload_n 0, 1) := by decide +kernel
theorem dX10_image_30 : decode cX10_image 30 = .ok (.getfield 12, 3) := by decide +kernel
theorem dX10_image_33 : decode cX10_image 33 = .ok (.aload_n 0, 1) := by decide +kernel
theorem dX10_image_34 : decode cX10_image 34 = .ok (.getfield 16, 3) := by decide +kernel
theorem dX10_image_37 : decode cX10_image 37 = .ok (.invokevirtual 344, 3) := by decide +kernel
theorem dX10_image_40 : decode cX10_image 40 = .ok (.aload_n 0, 1) := by decide +kernel
theorem dX10_image_41 : decode cX10_image 41 = .ok (.getfield 22, 3) := by decide +kernel
theorem dX10_image_44 : decode cX10_image 44 = .ok (.ireturn, 1) := by decide +kernel
theorem dX10_look_0 : decode cX10_look 0 = .ok (.iload_n 1, 1) := by decide +kernel
theorem dX10_look_1 : decode cX10_look 1 = .ok (.iconst 1, 1) := by decide +kernel
theorem dX10_look_2 : decode cX10_look 2 = .ok (.if_icmp .lt 24, 3) := by decide +kernel
theorem dX10_look_5 : decode cX10_look 5 = .ok (.iload_n 1, 1) := by decide +kernel
theorem dX10_look_6 : decode cX10_look 6 = .ok (.bipush 11, 2) := by decide +kernel
theorem dX10_look_8 : decode cX10_look 8 = .ok (.if_icmp .gt 18, 3) := by decide +kernel
theorem dX10_look_11 : decode cX10_look 11 = .ok (.aload_n 0, 1) := by decide +kernel
theorem dX10_look_12 : decode cX10_look 12 = .ok (.getfield 12, 3) := by decide +kernel
theorem dX10_look_15 : decode cX10_look 15 = .ok (.getfield 40, 3) := by decide +kernel
theorem dX10_look_18 : decode cX10_look 18 = .ok (.getfield 362, 3) := by decide +kernel
theorem dX10_look_21 : decode cX10_look 21 = .ok (.iload_n 1, 1) := by decide +kernel
theorem dX10_look_22 : decode cX10_look 22 = .ok (.iconst 1, 1) := by decide +kernel
theorem dX10_look_23 : decode cX10_look 23 = .ok (.isub, 1) := by decide +kernel
theorem dX10_look_24 : decode cX10_look 24 = .ok (.iaload, 1) := by decide +kernel
theorem dX10_look_25 : decode cX10_look 25 = .ok (.ireturn, 1) := by decide +kernel
theorem dX10_look_26 : decode cX10_look 26 = .ok (.iload_n 1, 1) := by decide +kernel
theorem dX10_look_27 : decode cX10_look 27 = .ok (.tableswitch 192 0 19 #[93, 192, 192, 192, 192, 192, 192, 192, 192, 192, 192, 192, 104, 115, 126, 137, 148, 159, 170, 181], 93) := by decide +kernel
theorem dX10_look_120 : decode cX10_look 120 = .ok (.aload_n 0, 1) := by decide +kernel
theorem dX10_look_121 : decode cX10_look 121 = .ok (.getfield 12, 3) := by decide +kernel
theorem dX10_look_124 : decode cX10_look 124 = .ok (.getfield 40, 3) := by decide +kernel
theorem dX10_look_127 : decode cX10_look 127 = .ok (.getfield 98, 3) := by decide +kernel
theorem dX10_look_130 : decode cX10_look 130 = .ok (.ireturn, 1) := by decide +kernel
theorem dX10_look_131 : decode cX10_look 131 = .ok (.aload_n 0, 1) := by decide +kernel
theorem dX10_look_132 : decode cX10_look 132 = .ok (.getfield 12, 3) := by decide +kernel
theorem dX10_look_135 : decode cX10_look 135 = .ok (.getfield 40, 3) := by decide +kernel
theorem dX10_look_138 : decode cX10_look 138 = .ok (.getfield 44, 3) := by decide +kernel
theorem dX10_look_141 : decode cX10_look 141 = .ok (.ireturn, 1) := by decide +kernel
theorem dX10_look_142 : decode cX10_look 142 = .ok (.aload_n 0, 1) := by decide +kernel
theorem dX10_look_143 : decode cX10_look 143 = .ok (.getfield 12, 3) := by decide +kernel
theorem dX10_look_146 : decode cX10_look 146 = .ok (.getfield 365, 3) := by decide +kernel
theorem dX10_look_149 : decode cX10_look 149 = .ok (.getfield 369, 3) := by decide +kernel
theorem dX10_look_152 : decode cX10_look 152 = .ok (.ireturn, 1) := by decide +kernel
theorem dX10_look_153 : decode cX10_look 153 = .ok (.aload_n 0, 1) := by decide +kernel
theorem dX10_look_154 : decode cX10_look 154 = .ok (.getfield 12, 3) := by decide +kernel
theorem dX10_look_157 : decode cX10_look 157 = .ok (.getfield 372, 3) := by decide +kernel
theorem dX10_look_160 : decode cX10_look 160 = .ok (.getfield 369, 3) := by decide +kernel
theorem dX10_look_163 : decode cX10_look 163 = .ok (.ireturn, 1) := by decide +kernel
theorem dX10_look_164 : decode cX10_look 164 = .ok (.aload_n 0, 1) := by decide +kernel
theorem dX10_look_165 : decode cX10_look 165 = .ok (.getfield 12, 3) := by decide +kernel
theorem dX10_look_168 : decode cX10_look 168 = .ok (.getfield 365, 3) := by decide +kernel
theorem dX10_look_171 : decode cX10_look 171 = .ok (.getfield 375, 3) := by decide +kernel
theorem dX10_look_174 : decode cX10_look 174 = .ok (.ireturn, 1) := by decide +kernel
theorem dX10_look_175 : decode cX10_look 175 = .ok (.aload_n 0, 1) := by decide +kernel
theorem dX10_look_176 : decode cX10_look 176 = .ok (.getfield 12, 3) := by decide +kernel
theorem dX10_look_179 : decode cX10_look 179 = .ok (.getfield 81, 3) := by decide +kernel
theorem dX10_look_182 : decode cX10_look 182 = .ok (.getfield 378, 3) := by decide +kernel
theorem dX10_look_185 : decode cX10_look 185 = .ok (.ireturn, 1) := by decide +kernel
theorem dX10_look_186 : decode cX10_look 186 = .ok (.aload_n 0, 1) := by decide +kernel
theorem dX10_look_187 : decode cX10_look 187 = .ok (.getfield 12, 3) := by decide +kernel
theorem dX10_look_190 : decode cX10_look 190 = .ok (.getfield 54, 3) := by decide +kernel
theorem dX10_look_193 : decode cX10_look 193 = .ok (.getfield 381, 3) := by decide +kernel
theorem dX10_look_196 : decode cX10_look 196 = .ok (.ireturn, 1) := by decide +kernel
theorem dX10_look_197 : decode cX10_look 197 = .ok (.aload_n 0, 1) := by decide +kernel
theorem dX10_look_198 : decode cX10_look 198 = .ok (.getfield 12, 3) := by decide +kernel
theorem dX10_look_201 : decode cX10_look 201 = .ok (.getfield 127, 3) := by decide +kernel
theorem dX10_look_204 : decode cX10_look 204 = .ok (.getfield 140, 3) := by decide +kernel
theorem dX10_look_207 : decode cX10_look 207 = .ok (.ireturn, 1) := by decide +kernel
theorem dX10_look_208 : decode cX10_look 208 = .ok (.aload_n 0, 1) := by decide +kernel
theorem dX10_look_209 : decode cX10_look 209 = .ok (.getfield 12, 3) := by decide +kernel
theorem dX10_look_212 : decode cX10_look 212 = .ok (.getfield 127, 3) := by decide +kernel
theorem dX10_look_215 : decode cX10_look 215 = .ok (.getfield 149, 3) := by decide +kernel
theorem dX10_look_218 : decode cX10_look 218 = .ok (.ireturn, 1) := by decide +kernel
theorem dX10_look_219 : decode cX10_look 219 = .ok (.ldc_w 384, 3) := by decide +kernel
theorem dX10_look_222 : decode cX10_look 222 = .ok (.ireturn, 1) := by decide +kernel
theorem dX5_hasRoom_0 : decode cX5_hasRoom 0 = .ok (.aload_n 0, 1) := by decide +kernel
theorem dX5_hasRoom_1 : decode cX5_hasRoom 1 = .ok (.getfield 15, 3) := by decide +kernel
theorem dX5_hasRoom_4 : decode cX5_hasRoom 4 = .ok (.bipush 20, 2) := by decide +kernel
theorem dX5_hasRoom_6 : decode cX5_hasRoom 6 = .ok (.iadd, 1) := by decide +kernel
theorem dX5_hasRoom_7 : decode cX5_hasRoom 7 = .ok (.sipush 400, 3) := by decide +kernel
theorem dX5_hasRoom_10 : decode cX5_hasRoom 10 = .ok (.if_icmp .gt 7, 3) := by decide +kernel
theorem dX5_hasRoom_13 : decode cX5_hasRoom 13 = .ok (.iconst 1, 1) := by decide +kernel
theorem dX5_hasRoom_14 : decode cX5_hasRoom 14 = .ok (.goto 4, 3) := by decide +kernel
theorem dX5_hasRoom_17 : decode cX5_hasRoom 17 = .ok (.iconst 0, 1) := by decide +kernel
theorem dX5_hasRoom_18 : decode cX5_hasRoom 18 = .ok (.ireturn, 1) := by decide +kernel
theorem dX5_putFour_0 : decode cX5_putFour 0 = .ok (.bipush 24, 2) := by decide +kernel
theorem dX5_putFour_2 : decode cX5_putFour 2 = .ok (.istore_n 2, 1) := by decide +kernel
theorem dX5_putFour_3 : decode cX5_putFour 3 = .ok (.iload_n 2, 1) := by decide +kernel
theorem dX5_putFour_4 : decode cX5_putFour 4 = .ok (.ifCond .lt 45, 3) := by decide +kernel
theorem dX5_putFour_7 : decode cX5_putFour 7 = .ok (.aload_n 0, 1) := by decide +kernel
theorem dX5_putFour_8 : decode cX5_putFour 8 = .ok (.getfield 15, 3) := by decide +kernel
theorem dX5_putFour_11 : decode cX5_putFour 11 = .ok (.sipush 400, 3) := by decide +kernel
theorem dX5_putFour_14 : decode cX5_putFour 14 = .ok (.if_icmp .ge 35, 3) := by decide +kernel
theorem dX5_putFour_17 : decode cX5_putFour 17 = .ok (.aload_n 0, 1) := by decide +kernel
theorem dX5_putFour_18 : decode cX5_putFour 18 = .ok (.getfield 11, 3) := by decide +kernel
theorem dX5_putFour_21 : decode cX5_putFour 21 = .ok (.aload_n 0, 1) := by decide +kernel
theorem dX5_putFour_22 : decode cX5_putFour 22 = .ok (.getfield 15, 3) := by decide +kernel
theorem dX5_putFour_25 : decode cX5_putFour 25 = .ok (.iload_n 1, 1) := by decide +kernel
theorem dX5_putFour_26 : decode cX5_putFour 26 = .ok (.iload_n 2, 1) := by decide +kernel
theorem dX5_putFour_27 : decode cX5_putFour 27 = .ok (.iushr, 1) := by decide +kernel
theorem dX5_putFour_28 : decode cX5_putFour 28 = .ok (.sipush 255, 3) := by decide +kernel
theorem dX5_putFour_31 : decode cX5_putFour 31 = .ok (.iand, 1) := by decide +kernel
theorem dX5_putFour_32 : decode cX5_putFour 32 = .ok (.iastore, 1) := by decide +kernel
theorem dX5_putFour_33 : decode cX5_putFour 33 = .ok (.aload_n 0, 1) := by decide +kernel
theorem dX5_putFour_34 : decode cX5_putFour 34 = .ok (.dup, 1) := by decide +kernel
theorem dX5_putFour_35 : decode cX5_putFour 35 = .ok (.getfield 15, 3) := by decide +kernel
theorem dX5_putFour_38 : decode cX5_putFour 38 = .ok (.iconst 1, 1) := by decide +kernel
theorem dX5_putFour_39 : decode cX5_putFour 39 = .ok (.iadd, 1) := by decide +kernel
theorem dX5_putFour_40 : decode cX5_putFour 40 = .ok (.putfield 15, 3) := by decide +kernel
theorem dX5_putFour_43 : decode cX5_putFour 43 = .ok (.iinc 2 (-8), 3) := by decide +kernel
theorem dX5_putFour_46 : decode cX5_putFour 46 = .ok (.goto (-43), 3) := by decide +kernel
theorem dX5_putFour_49 : decode cX5_putFour 49 = .ok (.return_, 1) := by decide +kernel
theorem dX10_plan_0 : decode cX10_plan 0 = .ok (.aload_n 0, 1) := by decide +kernel
theorem dX10_plan_1 : decode cX10_plan 1 = .ok (.getfield 29, 3) := by decide +kernel
theorem dX10_plan_4 : decode cX10_plan 4 = .ok (.invokevirtual 124, 3) := by decide +kernel
theorem dX10_plan_7 : decode cX10_plan 7 = .ok (.ifCond .ne 5, 3) := by decide +kernel
theorem dX10_plan_10 : decode cX10_plan 10 = .ok (.iconst (-1), 1) := by decide +kernel
theorem dX10_plan_11 : decode cX10_plan 11 = .ok (.ireturn, 1) := by decide +kernel
theorem dX10_plan_12 : decode cX10_plan 12 = .ok (.aload_n 0, 1) := by decide +kernel
theorem dX10_plan_13 : decode cX10_plan 13 = .ok (.getfield 12, 3) := by decide +kernel
theorem dX10_plan_16 : decode cX10_plan 16 = .ok (.getfield 127, 3) := by decide +kernel
theorem dX10_plan_19 : decode cX10_plan 19 = .ok (.aload_n 0, 1) := by decide +kernel
theorem dX10_plan_20 : decode cX10_plan 20 = .ok (.getfield 29, 3) := by decide +kernel
theorem dX10_plan_23 : decode cX10_plan 23 = .ok (.getfield 131, 3) := by decide +kernel
theorem dX10_plan_26 : decode cX10_plan 26 = .ok (.invokevirtual 134, 3) := by decide +kernel
theorem dX10_plan_29 : decode cX10_plan 29 = .ok (.aload_n 0, 1) := by decide +kernel
theorem dX10_plan_30 : decode cX10_plan 30 = .ok (.getfield 12, 3) := by decide +kernel
theorem dX10_plan_33 : decode cX10_plan 33 = .ok (.getfield 127, 3) := by decide +kernel
theorem dX10_plan_36 : decode cX10_plan 36 = .ok (.getfield 140, 3) := by decide +kernel
theorem dX10_plan_39 : decode cX10_plan 39 = .ok (.ireturn, 1) := by decide +kernel
