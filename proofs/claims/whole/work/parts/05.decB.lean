theorem dB_time_0 : decode c_B_time 0 = .ok (.iload_n 1, 1) := by decide +kernel
theorem dB_time_1 : decode c_B_time 1 = .ok (.ifCond .lt 12, 3) := by decide +kernel
theorem dB_time_4 : decode c_B_time 4 = .ok (.iload_n 1, 1) := by decide +kernel
theorem dB_time_5 : decode c_B_time 5 = .ok (.aload_n 0, 1) := by decide +kernel
theorem dB_time_6 : decode c_B_time 6 = .ok (.getfield 31, 3) := by decide +kernel
theorem dB_time_9 : decode c_B_time 9 = .ok (.arraylength, 1) := by decide +kernel
theorem dB_time_10 : decode c_B_time 10 = .ok (.if_icmp .lt 13, 3) := by decide +kernel
theorem dB_time_13 : decode c_B_time 13 = .ok (.new 62, 3) := by decide +kernel
theorem dB_time_16 : decode c_B_time 16 = .ok (.dup, 1) := by decide +kernel
theorem dB_time_17 : decode c_B_time 17 = .ok (.ldc 64, 2) := by decide +kernel
theorem dB_time_19 : decode c_B_time 19 = .ok (.invokespecial 66, 3) := by decide +kernel
theorem dB_time_22 : decode c_B_time 22 = .ok (.athrow, 1) := by decide +kernel
theorem dB_time_23 : decode c_B_time 23 = .ok (.iload_n 2, 1) := by decide +kernel
theorem dB_time_24 : decode c_B_time 24 = .ok (.getstatic 69, 3) := by decide +kernel
theorem dB_time_27 : decode c_B_time 27 = .ok (.iload_n 1, 1) := by decide +kernel
theorem dB_time_28 : decode c_B_time 28 = .ok (.iaload, 1) := by decide +kernel
theorem dB_time_29 : decode c_B_time 29 = .ok (.if_icmp .lt 12, 3) := by decide +kernel
theorem dB_time_32 : decode c_B_time 32 = .ok (.iload_n 2, 1) := by decide +kernel
theorem dB_time_33 : decode c_B_time 33 = .ok (.getstatic 72, 3) := by decide +kernel
theorem dB_time_36 : decode c_B_time 36 = .ok (.iload_n 1, 1) := by decide +kernel
theorem dB_time_37 : decode c_B_time 37 = .ok (.iaload, 1) := by decide +kernel
theorem dB_time_38 : decode c_B_time 38 = .ok (.if_icmp .le 13, 3) := by decide +kernel
theorem dB_time_41 : decode c_B_time 41 = .ok (.new 75, 3) := by decide +kernel
theorem dB_time_44 : decode c_B_time 44 = .ok (.dup, 1) := by decide +kernel
theorem dB_time_45 : decode c_B_time 45 = .ok (.ldc 77, 2) := by decide +kernel
theorem dB_time_47 : decode c_B_time 47 = .ok (.invokespecial 79, 3) := by decide +kernel
theorem dB_time_50 : decode c_B_time 50 = .ok (.athrow, 1) := by decide +kernel
theorem dB_time_51 : decode c_B_time 51 = .ok (.aload_n 0, 1) := by decide +kernel
theorem dB_time_52 : decode c_B_time 52 = .ok (.getfield 42, 3) := by decide +kernel
theorem dB_time_55 : decode c_B_time 55 = .ok (.getfield 80, 3) := by decide +kernel
theorem dB_time_58 : decode c_B_time 58 = .ok (.ifCond .eq 13, 3) := by decide +kernel
theorem dB_time_61 : decode c_B_time 61 = .ok (.new 83, 3) := by decide +kernel
theorem dB_time_64 : decode c_B_time 64 = .ok (.dup, 1) := by decide +kernel
theorem dB_time_65 : decode c_B_time 65 = .ok (.ldc 85, 2) := by decide +kernel
theorem dB_time_67 : decode c_B_time 67 = .ok (.invokespecial 87, 3) := by decide +kernel
theorem dB_time_70 : decode c_B_time 70 = .ok (.athrow, 1) := by decide +kernel
theorem dB_time_71 : decode c_B_time 71 = .ok (.aload_n 0, 1) := by decide +kernel
theorem dB_time_72 : decode c_B_time 72 = .ok (.getfield 31, 3) := by decide +kernel
theorem dB_time_75 : decode c_B_time 75 = .ok (.iload_n 1, 1) := by decide +kernel
theorem dB_time_76 : decode c_B_time 76 = .ok (.iaload, 1) := by decide +kernel
theorem dB_time_77 : decode c_B_time 77 = .ok (.istore_n 3, 1) := by decide +kernel
theorem dB_time_78 : decode c_B_time 78 = .ok (.aload_n 0, 1) := by decide +kernel
theorem dB_time_79 : decode c_B_time 79 = .ok (.getfield 31, 3) := by decide +kernel
theorem dB_time_82 : decode c_B_time 82 = .ok (.iload_n 1, 1) := by decide +kernel
theorem dB_time_83 : decode c_B_time 83 = .ok (.iload_n 2, 1) := by decide +kernel
theorem dB_time_84 : decode c_B_time 84 = .ok (.iastore, 1) := by decide +kernel
theorem dB_time_85 : decode c_B_time 85 = .ok (.iload_n 3, 1) := by decide +kernel
theorem dB_time_86 : decode c_B_time 86 = .ok (.ireturn, 1) := by decide +kernel
theorem dB_read_0 : decode c_B_read 0 = .ok (.aload_n 0, 1) := by decide +kernel
theorem dB_read_1 : decode c_B_read 1 = .ok (.iload_n 1, 1) := by decide +kernel
theorem dB_read_2 : decode c_B_read 2 = .ok (.iload_n 2, 1) := by decide +kernel
theorem dB_read_3 : decode c_B_read 3 = .ok (.iload_n 3, 1) := by decide +kernel
theorem dB_read_4 : decode c_B_read 4 = .ok (.invokevirtual 88, 3) := by decide +kernel
theorem dB_read_7 : decode c_B_read 7 = .ok (.aload_n 0, 1) := by decide +kernel
theorem dB_read_8 : decode c_B_read 8 = .ok (.invokevirtual 92, 3) := by decide +kernel
theorem dB_read_11 : decode c_B_read 11 = .ok (.aload_n 0, 1) := by decide +kernel
theorem dB_read_12 : decode c_B_read 12 = .ok (.iconst 2, 1) := by decide +kernel
theorem dB_read_13 : decode c_B_read 13 = .ok (.iload_n 1, 1) := by decide +kernel
theorem dB_read_14 : decode c_B_read 14 = .ok (.iload_n 2, 1) := by decide +kernel
theorem dB_read_15 : decode c_B_read 15 = .ok (.iload_n 3, 1) := by decide +kernel
theorem dB_read_16 : decode c_B_read 16 = .ok (.iconst 0, 1) := by decide +kernel
theorem dB_read_17 : decode c_B_read 17 = .ok (.invokevirtual 95, 3) := by decide +kernel
theorem dB_read_20 : decode c_B_read 20 = .ok (.ireturn, 1) := by decide +kernel
theorem dB_write_0 : decode c_B_write 0 = .ok (.aload_n 0, 1) := by decide +kernel
theorem dB_write_1 : decode c_B_write 1 = .ok (.iload_n 1, 1) := by decide +kernel
theorem dB_write_2 : decode c_B_write 2 = .ok (.iload_n 2, 1) := by decide +kernel
theorem dB_write_3 : decode c_B_write 3 = .ok (.iload_n 3, 1) := by decide +kernel
theorem dB_write_4 : decode c_B_write 4 = .ok (.invokevirtual 88, 3) := by decide +kernel
theorem dB_write_7 : decode c_B_write 7 = .ok (.aload_n 0, 1) := by decide +kernel
theorem dB_write_8 : decode c_B_write 8 = .ok (.invokevirtual 92, 3) := by decide +kernel
theorem dB_write_11 : decode c_B_write 11 = .ok (.aload_n 0, 1) := by decide +kernel
theorem dB_write_12 : decode c_B_write 12 = .ok (.iconst 3, 1) := by decide +kernel
theorem dB_write_13 : decode c_B_write 13 = .ok (.iload_n 1, 1) := by decide +kernel
theorem dB_write_14 : decode c_B_write 14 = .ok (.iload_n 2, 1) := by decide +kernel
theorem dB_write_15 : decode c_B_write 15 = .ok (.iload_n 3, 1) := by decide +kernel
theorem dB_write_16 : decode c_B_write 16 = .ok (.iload 4, 2) := by decide +kernel
theorem dB_write_18 : decode c_B_write 18 = .ok (.invokevirtual 95, 3) := by decide +kernel
theorem dB_write_21 : decode c_B_write 21 = .ok (.ireturn, 1) := by decide +kernel
theorem dB_tick_0 : decode c_B_tick 0 = .ok (.aload_n 0, 1) := by decide +kernel
theorem dB_tick_1 : decode c_B_tick 1 = .ok (.invokevirtual 99, 3) := by decide +kernel
theorem dB_tick_4 : decode c_B_tick 4 = .ok (.istore_n 1, 1) := by decide +kernel
theorem dB_tick_5 : decode c_B_tick 5 = .ok (.aload_n 0, 1) := by decide +kernel
theorem dB_tick_6 : decode c_B_tick 6 = .ok (.getfield 42, 3) := by decide +kernel
theorem dB_tick_9 : decode c_B_tick 9 = .ok (.dup, 1) := by decide +kernel
theorem dB_tick_10 : decode c_B_tick 10 = .ok (.getfield 80, 3) := by decide +kernel
theorem dB_tick_13 : decode c_B_tick 13 = .ok (.iconst 1, 1) := by decide +kernel
theorem dB_tick_14 : decode c_B_tick 14 = .ok (.iadd, 1) := by decide +kernel
theorem dB_tick_15 : decode c_B_tick 15 = .ok (.putfield 80, 3) := by decide +kernel
theorem dB_tick_18 : decode c_B_tick 18 = .ok (.iload_n 1, 1) := by decide +kernel
theorem dB_tick_19 : decode c_B_tick 19 = .ok (.ireturn, 1) := by decide +kernel
theorem dB_run_0 : decode c_B_run 0 = .ok (.iload_n 1, 1) := by decide +kernel
theorem dB_run_1 : decode c_B_run 1 = .ok (.ifCond .lt 10, 3) := by decide +kernel
theorem dB_run_4 : decode c_B_run 4 = .ok (.iload_n 1, 1) := by decide +kernel
theorem dB_run_5 : decode c_B_run 5 = .ok (.sipush 2000, 3) := by decide +kernel
theorem dB_run_8 : decode c_B_run 8 = .ok (.if_icmp .le 13, 3) := by decide +kernel
theorem dB_run_11 : decode c_B_run 11 = .ok (.new 75, 3) := by decide +kernel
theorem dB_run_14 : decode c_B_run 14 = .ok (.dup, 1) := by decide +kernel
theorem dB_run_15 : decode c_B_run 15 = .ok (.ldc 103, 2) := by decide +kernel
theorem dB_run_17 : decode c_B_run 17 = .ok (.invokespecial 79, 3) := by decide +kernel
theorem dB_run_20 : decode c_B_run 20 = .ok (.athrow, 1) := by decide +kernel
theorem dB_run_21 : decode c_B_run 21 = .ok (.iconst 0, 1) := by decide +kernel
theorem dB_run_22 : decode c_B_run 22 = .ok (.istore_n 2, 1) := by decide +kernel
theorem dB_run_23 : decode c_B_run 23 = .ok (.iconst 0, 1) := by decide +kernel
theorem dB_run_24 : decode c_B_run 24 = .ok (.istore_n 3, 1) := by decide +kernel
theorem dB_run_25 : decode c_B_run 25 = .ok (.iload_n 3, 1) := by decide +kernel
theorem dB_run_26 : decode c_B_run 26 = .ok (.iload_n 1, 1) := by decide +kernel
theorem dB_run_27 : decode c_B_run 27 = .ok (.if_icmp .ge 19, 3) := by decide +kernel
theorem dB_run_30 : decode c_B_run 30 = .ok (.aload_n 0, 1) := by decide +kernel
theorem dB_run_31 : decode c_B_run 31 = .ok (.invokevirtual 105, 3) := by decide +kernel
theorem dB_run_34 : decode c_B_run 34 = .ok (.ifCond .eq 6, 3) := by decide +kernel
theorem dB_run_37 : decode c_B_run 37 = .ok (.iinc 2 1, 3) := by decide +kernel
theorem dB_run_40 : decode c_B_run 40 = .ok (.iinc 3 1, 3) := by decide +kernel
theorem dB_run_43 : decode c_B_run 43 = .ok (.goto (-18), 3) := by decide +kernel
theorem dB_run_46 : decode c_B_run 46 = .ok (.iload_n 2, 1) := by decide +kernel
theorem dB_run_47 : decode c_B_run 47 = .ok (.ireturn, 1) := by decide +kernel
theorem dB_result_0 : decode c_B_result 0 = .ok (.iload_n 1, 1) := by decide +kernel
theorem dB_result_1 : decode c_B_result 1 = .ok (.ifCond .lt 19, 3) := by decide +kernel
theorem dB_result_4 : decode c_B_result 4 = .ok (.iload_n 1, 1) := by decide +kernel
theorem dB_result_5 : decode c_B_result 5 = .ok (.aload_n 0, 1) := by decide +kernel
theorem dB_result_6 : decode c_B_result 6 = .ok (.getfield 108, 3) := by decide +kernel
theorem dB_result_9 : decode c_B_result 9 = .ok (.if_icmp .ge 11, 3) := by decide +kernel
theorem dB_result_12 : decode c_B_result 12 = .ok (.aload_n 0, 1) := by decide +kernel
theorem dB_result_13 : decode c_B_result 13 = .ok (.iload_n 1, 1) := by decide +kernel
theorem dB_result_14 : decode c_B_result 14 = .ok (.invokevirtual 111, 3) := by decide +kernel
theorem dB_result_17 : decode c_B_result 17 = .ok (.ifCond .ne 13, 3) := by decide +kernel
theorem dB_result_20 : decode c_B_result 20 = .ok (.new 115, 3) := by decide +kernel
theorem dB_result_23 : decode c_B_result 23 = .ok (.dup, 1) := by decide +kernel
theorem dB_result_24 : decode c_B_result 24 = .ok (.ldc 117, 2) := by decide +kernel
theorem dB_result_26 : decode c_B_result 26 = .ok (.invokespecial 119, 3) := by decide +kernel
theorem dB_result_29 : decode c_B_result 29 = .ok (.athrow, 1) := by decide +kernel
theorem dB_result_30 : decode c_B_result 30 = .ok (.iload_n 1, 1) := by decide +kernel
theorem dB_result_31 : decode c_B_result 31 = .ok (.bipush 31, 2) := by decide +kernel
theorem dB_result_33 : decode c_B_result 33 = .ok (.iand, 1) := by decide +kernel
theorem dB_result_34 : decode c_B_result 34 = .ok (.istore_n 2, 1) := by decide +kernel
theorem dB_result_35 : decode c_B_result 35 = .ok (.aload_n 0, 1) := by decide +kernel
theorem dB_result_36 : decode c_B_result 36 = .ok (.getfield 42, 3) := by decide +kernel
theorem dB_result_39 : decode c_B_result 39 = .ok (.getfield 80, 3) := by decide +kernel
theorem dB_result_42 : decode c_B_result 42 = .ok (.aload_n 0, 1) := by decide +kernel
theorem dB_result_43 : decode c_B_result 43 = .ok (.getfield 59, 3) := by decide +kernel
theorem dB_result_46 : decode c_B_result 46 = .ok (.iload_n 2, 1) := by decide +kernel
theorem dB_result_47 : decode c_B_result 47 = .ok (.iaload, 1) := by decide +kernel
theorem dB_result_48 : decode c_B_result 48 = .ok (.if_icmp .gt 13, 3) := by decide +kernel
theorem dB_result_51 : decode c_B_result 51 = .ok (.new 83, 3) := by decide +kernel
theorem dB_result_54 : decode c_B_result 54 = .ok (.dup, 1) := by decide +kernel
theorem dB_result_55 : decode c_B_result 55 = .ok (.ldc 120, 2) := by decide +kernel
theorem dB_result_57 : decode c_B_result 57 = .ok (.invokespecial 87, 3) := by decide +kernel
theorem dB_result_60 : decode c_B_result 60 = .ok (.athrow, 1) := by decide +kernel
theorem dB_result_61 : decode c_B_result 61 = .ok (.aload_n 0, 1) := by decide +kernel
theorem dB_result_62 : decode c_B_result 62 = .ok (.getfield 56, 3) := by decide +kernel
theorem dB_result_65 : decode c_B_result 65 = .ok (.iload_n 2, 1) := by decide +kernel
theorem dB_result_66 : decode c_B_result 66 = .ok (.iaload, 1) := by decide +kernel
theorem dB_result_67 : decode c_B_result 67 = .ok (.ireturn, 1) := by decide +kernel
theorem dB_word_0 : decode c_B_word 0 = .ok (.aload_n 0, 1) := by decide +kernel
theorem dB_word_1 : decode c_B_word 1 = .ok (.iload_n 1, 1) := by decide +kernel
theorem dB_word_2 : decode c_B_word 2 = .ok (.iload_n 2, 1) := by decide +kernel
theorem dB_word_3 : decode c_B_word 3 = .ok (.iload_n 3, 1) := by decide +kernel
theorem dB_word_4 : decode c_B_word 4 = .ok (.invokevirtual 88, 3) := by decide +kernel
theorem dB_word_7 : decode c_B_word 7 = .ok (.aload_n 0, 1) := by decide +kernel
theorem dB_word_8 : decode c_B_word 8 = .ok (.getfield 34, 3) := by decide +kernel
theorem dB_word_11 : decode c_B_word 11 = .ok (.iload_n 1, 1) := by decide +kernel
theorem dB_word_12 : decode c_B_word 12 = .ok (.iload_n 2, 1) := by decide +kernel
theorem dB_word_13 : decode c_B_word 13 = .ok (.iload_n 3, 1) := by decide +kernel
theorem dB_word_14 : decode c_B_word 14 = .ok (.invokestatic 122, 3) := by decide +kernel
theorem dB_word_17 : decode c_B_word 17 = .ok (.iaload, 1) := by decide +kernel
theorem dB_word_18 : decode c_B_word 18 = .ok (.ireturn, 1) := by decide +kernel
theorem dB_open_0 : decode c_B_open 0 = .ok (.aload_n 0, 1) := by decide +kernel
theorem dB_open_1 : decode c_B_open 1 = .ok (.getfield 42, 3) := by decide +kernel
theorem dB_open_4 : decode c_B_open 4 = .ok (.iload_n 1, 1) := by decide +kernel
theorem dB_open_5 : decode c_B_open 5 = .ok (.invokevirtual 126, 3) := by decide +kernel
theorem dB_open_8 : decode c_B_open 8 = .ok (.ifCond .ne 13, 3) := by decide +kernel
theorem dB_open_11 : decode c_B_open 11 = .ok (.new 62, 3) := by decide +kernel
theorem dB_open_14 : decode c_B_open 14 = .ok (.dup, 1) := by decide +kernel
theorem dB_open_15 : decode c_B_open 15 = .ok (.ldc 129, 2) := by decide +kernel
theorem dB_open_17 : decode c_B_open 17 = .ok (.invokespecial 66, 3) := by decide +kernel
theorem dB_open_20 : decode c_B_open 20 = .ok (.athrow, 1) := by decide +kernel
theorem dB_open_21 : decode c_B_open 21 = .ok (.aload_n 0, 1) := by decide +kernel
theorem dB_open_22 : decode c_B_open 22 = .ok (.getfield 42, 3) := by decide +kernel
theorem dB_open_25 : decode c_B_open 25 = .ok (.getfield 131, 3) := by decide +kernel
theorem dB_open_28 : decode c_B_open 28 = .ok (.iload_n 1, 1) := by decide +kernel
theorem dB_open_29 : decode c_B_open 29 = .ok (.iaload, 1) := by decide +kernel
theorem dB_open_30 : decode c_B_open 30 = .ok (.ireturn, 1) := by decide +kernel
theorem dB_waiting_0 : decode c_B_waiting 0 = .ok (.iload_n 1, 1) := by decide +kernel
theorem dB_waiting_1 : decode c_B_waiting 1 = .ok (.ifCond .lt 11, 3) := by decide +kernel
theorem dB_waiting_4 : decode c_B_waiting 4 = .ok (.iload_n 1, 1) := by decide +kernel
theorem dB_waiting_5 : decode c_B_waiting 5 = .ok (.aload_n 0, 1) := by decide +kernel
theorem dB_waiting_6 : decode c_B_waiting 6 = .ok (.getfield 134, 3) := by decide +kernel
theorem dB_waiting_9 : decode c_B_waiting 9 = .ok (.if_icmp .lt 13, 3) := by decide +kernel
theorem dB_waiting_12 : decode c_B_waiting 12 = .ok (.new 62, 3) := by decide +kernel
theorem dB_waiting_15 : decode c_B_waiting 15 = .ok (.dup, 1) := by decide +kernel
theorem dB_waiting_16 : decode c_B_waiting 16 = .ok (.ldc 137, 2) := by decide +kernel
theorem dB_waiting_18 : decode c_B_waiting 18 = .ok (.invokespecial 66, 3) := by decide +kernel
theorem dB_waiting_21 : decode c_B_waiting 21 = .ok (.athrow, 1) := by decide +kernel
theorem dB_waiting_22 : decode c_B_waiting 22 = .ok (.aload_n 0, 1) := by decide +kernel
theorem dB_waiting_23 : decode c_B_waiting 23 = .ok (.getfield 51, 3) := by decide +kernel
theorem dB_waiting_26 : decode c_B_waiting 26 = .ok (.iload_n 1, 1) := by decide +kernel
theorem dB_waiting_27 : decode c_B_waiting 27 = .ok (.aaload, 1) := by decide +kernel
theorem dB_waiting_28 : decode c_B_waiting 28 = .ok (.getfield 139, 3) := by decide +kernel
theorem dB_waiting_31 : decode c_B_waiting 31 = .ok (.ireturn, 1) := by decide +kernel
theorem dB_figure_0 : decode c_B_figure 0 = .ok (.iload_n 1, 1) := by decide +kernel
theorem dB_figure_1 : decode c_B_figure 1 = .ok (.tableswitch 89 0 8 #[51, 59, 59, 59, 59, 59, 71, 76, 81], 51) := by decide +kernel
theorem dB_figure_52 : decode c_B_figure 52 = .ok (.aload_n 0, 1) := by decide +kernel
theorem dB_figure_53 : decode c_B_figure 53 = .ok (.getfield 42, 3) := by decide +kernel
theorem dB_figure_56 : decode c_B_figure 56 = .ok (.getfield 80, 3) := by decide +kernel
theorem dB_figure_59 : decode c_B_figure 59 = .ok (.ireturn, 1) := by decide +kernel
theorem dB_figure_60 : decode c_B_figure 60 = .ok (.aload_n 0, 1) := by decide +kernel
theorem dB_figure_61 : decode c_B_figure 61 = .ok (.getfield 42, 3) := by decide +kernel
theorem dB_figure_64 : decode c_B_figure 64 = .ok (.getfield 142, 3) := by decide +kernel
theorem dB_figure_67 : decode c_B_figure 67 = .ok (.iload_n 1, 1) := by decide +kernel
theorem dB_figure_68 : decode c_B_figure 68 = .ok (.iconst 1, 1) := by decide +kernel
theorem dB_figure_69 : decode c_B_figure 69 = .ok (.isub, 1) := by decide +kernel
theorem dB_figure_70 : decode c_B_figure 70 = .ok (.iaload, 1) := by decide +kernel
theorem dB_figure_71 : decode c_B_figure 71 = .ok (.ireturn, 1) := by decide +kernel
theorem dB_figure_72 : decode c_B_figure 72 = .ok (.aload_n 0, 1) := by decide +kernel
theorem dB_figure_73 : decode c_B_figure 73 = .ok (.getfield 134, 3) := by decide +kernel
theorem dB_figure_76 : decode c_B_figure 76 = .ok (.ireturn, 1) := by decide +kernel
theorem dB_figure_77 : decode c_B_figure 77 = .ok (.aload_n 0, 1) := by decide +kernel
theorem dB_figure_78 : decode c_B_figure 78 = .ok (.getfield 145, 3) := by decide +kernel
theorem dB_figure_81 : decode c_B_figure 81 = .ok (.ireturn, 1) := by decide +kernel
theorem dB_figure_82 : decode c_B_figure 82 = .ok (.aload_n 0, 1) := by decide +kernel
theorem dB_figure_83 : decode c_B_figure 83 = .ok (.getfield 42, 3) := by decide +kernel
theorem dB_figure_86 : decode c_B_figure 86 = .ok (.getfield 148, 3) := by decide +kernel
theorem dB_figure_89 : decode c_B_figure 89 = .ok (.ireturn, 1) := by decide +kernel
theorem dB_figure_90 : decode c_B_figure 90 = .ok (.new 75, 3) := by decide +kernel
theorem dB_figure_93 : decode c_B_figure 93 = .ok (.dup, 1) := by decide +kernel
theorem dB_figure_94 : decode c_B_figure 94 = .ok (.ldc 151, 2) := by decide +kernel
theorem dB_figure_96 : decode c_B_figure 96 = .ok (.invokespecial 79, 3) := by decide +kernel
theorem dB_figure_99 : decode c_B_figure 99 = .ok (.athrow, 1) := by decide +kernel
theorem dB_check_0 : decode c_B_check 0 = .ok (.iload_n 1, 1) := by decide +kernel
theorem dB_check_1 : decode c_B_check 1 = .ok (.ifCond .lt 8, 3) := by decide +kernel
theorem dB_check_4 : decode c_B_check 4 = .ok (.iload_n 1, 1) := by decide +kernel
theorem dB_check_5 : decode c_B_check 5 = .ok (.iconst 5, 1) := by decide +kernel
theorem dB_check_6 : decode c_B_check 6 = .ok (.if_icmp .lt 13, 3) := by decide +kernel
theorem dB_check_9 : decode c_B_check 9 = .ok (.new 62, 3) := by decide +kernel
theorem dB_check_12 : decode c_B_check 12 = .ok (.dup, 1) := by decide +kernel
theorem dB_check_13 : decode c_B_check 13 = .ok (.ldc 153, 2) := by decide +kernel
theorem dB_check_15 : decode c_B_check 15 = .ok (.invokespecial 66, 3) := by decide +kernel
theorem dB_check_18 : decode c_B_check 18 = .ok (.athrow, 1) := by decide +kernel
theorem dB_check_19 : decode c_B_check 19 = .ok (.iload_n 1, 1) := by decide +kernel
theorem dB_check_20 : decode c_B_check 20 = .ok (.iconst 4, 1) := by decide +kernel
theorem dB_check_21 : decode c_B_check 21 = .ok (.if_icmp .eq 24, 3) := by decide +kernel
theorem dB_check_24 : decode c_B_check 24 = .ok (.aload_n 0, 1) := by decide +kernel
theorem dB_check_25 : decode c_B_check 25 = .ok (.getfield 46, 3) := by decide +kernel
theorem dB_check_28 : decode c_B_check 28 = .ok (.iload_n 2, 1) := by decide +kernel
theorem dB_check_29 : decode c_B_check 29 = .ok (.invokevirtual 126, 3) := by decide +kernel
theorem dB_check_32 : decode c_B_check 32 = .ok (.ifCond .ne 13, 3) := by decide +kernel
theorem dB_check_35 : decode c_B_check 35 = .ok (.new 62, 3) := by decide +kernel
theorem dB_check_38 : decode c_B_check 38 = .ok (.dup, 1) := by decide +kernel
theorem dB_check_39 : decode c_B_check 39 = .ok (.ldc 129, 2) := by decide +kernel
theorem dB_check_41 : decode c_B_check 41 = .ok (.invokespecial 66, 3) := by decide +kernel
theorem dB_check_44 : decode c_B_check 44 = .ok (.athrow, 1) := by decide +kernel
theorem dB_check_45 : decode c_B_check 45 = .ok (.iload_n 1, 1) := by decide +kernel
theorem dB_check_46 : decode c_B_check 46 = .ok (.invokestatic 155, 3) := by decide +kernel
theorem dB_check_49 : decode c_B_check 49 = .ok (.ifCond .eq 20, 3) := by decide +kernel
theorem dB_check_52 : decode c_B_check 52 = .ok (.iload_n 3, 1) := by decide +kernel
theorem dB_check_53 : decode c_B_check 53 = .ok (.invokestatic 158, 3) := by decide +kernel
theorem dB_check_56 : decode c_B_check 56 = .ok (.ifCond .ne 13, 3) := by decide +kernel
theorem dB_check_59 : decode c_B_check 59 = .ok (.new 62, 3) := by decide +kernel
theorem dB_check_62 : decode c_B_check 62 = .ok (.dup, 1) := by decide +kernel
theorem dB_check_63 : decode c_B_check 63 = .ok (.ldc 161, 2) := by decide +kernel
theorem dB_check_65 : decode c_B_check 65 = .ok (.invokespecial 66, 3) := by decide +kernel
theorem dB_check_68 : decode c_B_check 68 = .ok (.athrow, 1) := by decide +kernel
theorem dB_check_69 : decode c_B_check 69 = .ok (.aload_n 0, 1) := by decide +kernel
theorem dB_check_70 : decode c_B_check 70 = .ok (.getfield 46, 3) := by decide +kernel
theorem dB_check_73 : decode c_B_check 73 = .ok (.iload_n 1, 1) := by decide +kernel
theorem dB_check_74 : decode c_B_check 74 = .ok (.iload_n 2, 1) := by decide +kernel
theorem dB_check_75 : decode c_B_check 75 = .ok (.iload_n 3, 1) := by decide +kernel
theorem dB_check_76 : decode c_B_check 76 = .ok (.invokevirtual 163, 3) := by decide +kernel
theorem dB_check_79 : decode c_B_check 79 = .ok (.istore 4, 2) := by decide +kernel
theorem dB_check_81 : decode c_B_check 81 = .ok (.iload 4, 2) := by decide +kernel
theorem dB_check_83 : decode c_B_check 83 = .ok (.ifCond .ne 13, 3) := by decide +kernel
theorem dB_check_86 : decode c_B_check 86 = .ok (.aload_n 0, 1) := by decide +kernel
theorem dB_check_87 : decode c_B_check 87 = .ok (.getfield 46, 3) := by decide +kernel
theorem dB_check_90 : decode c_B_check 90 = .ok (.iload_n 1, 1) := by decide +kernel
theorem dB_check_91 : decode c_B_check 91 = .ok (.iload_n 2, 1) := by decide +kernel
theorem dB_check_92 : decode c_B_check 92 = .ok (.iload_n 3, 1) := by decide +kernel
theorem dB_check_93 : decode c_B_check 93 = .ok (.invokevirtual 166, 3) := by decide +kernel
theorem dB_check_96 : decode c_B_check 96 = .ok (.aload_n 0, 1) := by decide +kernel
theorem dB_check_97 : decode c_B_check 97 = .ok (.getfield 46, 3) := by decide +kernel
theorem dB_check_100 : decode c_B_check 100 = .ok (.dup, 1) := by decide +kernel
theorem dB_check_101 : decode c_B_check 101 = .ok (.getfield 80, 3) := by decide +kernel
theorem dB_check_104 : decode c_B_check 104 = .ok (.iconst 1, 1) := by decide +kernel
theorem dB_check_105 : decode c_B_check 105 = .ok (.iadd, 1) := by decide +kernel
theorem dB_check_106 : decode c_B_check 106 = .ok (.putfield 80, 3) := by decide +kernel
theorem dB_check_109 : decode c_B_check 109 = .ok (.iload 4, 2) := by decide +kernel
theorem dB_check_111 : decode c_B_check 111 = .ok (.ireturn, 1) := by decide +kernel
theorem dB_pause_0 : decode c_B_pause 0 = .ok (.iload_n 1, 1) := by decide +kernel
theorem dB_pause_1 : decode c_B_pause 1 = .ok (.ifCond .lt 10, 3) := by decide +kernel
theorem dB_pause_4 : decode c_B_pause 4 = .ok (.iload_n 1, 1) := by decide +kernel
theorem dB_pause_5 : decode c_B_pause 5 = .ok (.sipush 1000, 3) := by decide +kernel
theorem dB_pause_8 : decode c_B_pause 8 = .ok (.if_icmp .le 13, 3) := by decide +kernel
theorem dB_pause_11 : decode c_B_pause 11 = .ok (.new 75, 3) := by decide +kernel
theorem dB_pause_14 : decode c_B_pause 14 = .ok (.dup, 1) := by decide +kernel
theorem dB_pause_15 : decode c_B_pause 15 = .ok (.ldc 169, 2) := by decide +kernel
theorem dB_pause_17 : decode c_B_pause 17 = .ok (.invokespecial 79, 3) := by decide +kernel
theorem dB_pause_20 : decode c_B_pause 20 = .ok (.athrow, 1) := by decide +kernel
theorem dB_pause_21 : decode c_B_pause 21 = .ok (.aload_n 0, 1) := by decide +kernel
theorem dB_pause_22 : decode c_B_pause 22 = .ok (.getfield 46, 3) := by decide +kernel
theorem dB_pause_25 : decode c_B_pause 25 = .ok (.dup, 1) := by decide +kernel
theorem dB_pause_26 : decode c_B_pause 26 = .ok (.getfield 80, 3) := by decide +kernel
theorem dB_pause_29 : decode c_B_pause 29 = .ok (.iload_n 1, 1) := by decide +kernel
theorem dB_pause_30 : decode c_B_pause 30 = .ok (.iadd, 1) := by decide +kernel
theorem dB_pause_31 : decode c_B_pause 31 = .ok (.putfield 80, 3) := by decide +kernel
theorem dB_pause_34 : decode c_B_pause 34 = .ok (.aload_n 0, 1) := by decide +kernel
theorem dB_pause_35 : decode c_B_pause 35 = .ok (.getfield 46, 3) := by decide +kernel
theorem dB_pause_38 : decode c_B_pause 38 = .ok (.getfield 80, 3) := by decide +kernel
theorem dB_pause_41 : decode c_B_pause 41 = .ok (.ireturn, 1) := by decide +kernel
theorem dB_hasRow_0 : decode c_B_hasRow 0 = .ok (.iload_n 0, 1) := by decide +kernel
theorem dB_hasRow_1 : decode c_B_hasRow 1 = .ok (.ifCond .eq 13, 3) := by decide +kernel
theorem dB_hasRow_4 : decode c_B_hasRow 4 = .ok (.iload_n 0, 1) := by decide +kernel
theorem dB_hasRow_5 : decode c_B_hasRow 5 = .ok (.iconst 2, 1) := by decide +kernel
theorem dB_hasRow_6 : decode c_B_hasRow 6 = .ok (.if_icmp .eq 8, 3) := by decide +kernel
theorem dB_hasRow_9 : decode c_B_hasRow 9 = .ok (.iload_n 0, 1) := by decide +kernel
theorem dB_hasRow_10 : decode c_B_hasRow 10 = .ok (.iconst 3, 1) := by decide +kernel
theorem dB_hasRow_11 : decode c_B_hasRow 11 = .ok (.if_icmp .ne 7, 3) := by decide +kernel
theorem dB_hasRow_14 : decode c_B_hasRow 14 = .ok (.iconst 1, 1) := by decide +kernel
theorem dB_hasRow_15 : decode c_B_hasRow 15 = .ok (.goto 4, 3) := by decide +kernel
theorem dB_hasRow_18 : decode c_B_hasRow 18 = .ok (.iconst 0, 1) := by decide +kernel
theorem dB_hasRow_19 : decode c_B_hasRow 19 = .ok (.ireturn, 1) := by decide +kernel
theorem dB_isRow_0 : decode c_B_isRow 0 = .ok (.iload_n 0, 1) := by decide +kernel
theorem dB_isRow_1 : decode c_B_isRow 1 = .ok (.ifCond .lt 13, 3) := by decide +kernel
theorem dB_isRow_4 : decode c_B_isRow 4 = .ok (.iload_n 0, 1) := by decide +kernel
theorem dB_isRow_5 : decode c_B_isRow 5 = .ok (.bipush 16, 2) := by decide +kernel
theorem dB_isRow_7 : decode c_B_isRow 7 = .ok (.if_icmp .ge 7, 3) := by decide +kernel
theorem dB_isRow_10 : decode c_B_isRow 10 = .ok (.iconst 1, 1) := by decide +kernel
theorem dB_isRow_11 : decode c_B_isRow 11 = .ok (.goto 4, 3) := by decide +kernel
theorem dB_isRow_14 : decode c_B_isRow 14 = .ok (.iconst 0, 1) := by decide +kernel
theorem dB_isRow_15 : decode c_B_isRow 15 = .ok (.ireturn, 1) := by decide +kernel
theorem dB_wordPlace_0 : decode c_B_wordPlace 0 = .ok (.iload_n 0, 1) := by decide +kernel
theorem dB_wordPlace_1 : decode c_B_wordPlace 1 = .ok (.bipush 16, 2) := by decide +kernel
theorem dB_wordPlace_3 : decode c_B_wordPlace 3 = .ok (.imul, 1) := by decide +kernel
theorem dB_wordPlace_4 : decode c_B_wordPlace 4 = .ok (.iload_n 1, 1) := by decide +kernel
theorem dB_wordPlace_5 : decode c_B_wordPlace 5 = .ok (.iadd, 1) := by decide +kernel
theorem dB_wordPlace_6 : decode c_B_wordPlace 6 = .ok (.bipush 8, 2) := by decide +kernel
theorem dB_wordPlace_8 : decode c_B_wordPlace 8 = .ok (.imul, 1) := by decide +kernel
theorem dB_wordPlace_9 : decode c_B_wordPlace 9 = .ok (.iload_n 2, 1) := by decide +kernel
theorem dB_wordPlace_10 : decode c_B_wordPlace 10 = .ok (.iadd, 1) := by decide +kernel
theorem dB_wordPlace_11 : decode c_B_wordPlace 11 = .ok (.ireturn, 1) := by decide +kernel
theorem dB_refuseNoWord_0 : decode c_B_refuseNoWord 0 = .ok (.aload_n 0, 1) := by decide +kernel
theorem dB_refuseNoWord_1 : decode c_B_refuseNoWord 1 = .ok (.getfield 42, 3) := by decide +kernel
theorem dB_refuseNoWord_4 : decode c_B_refuseNoWord 4 = .ok (.iload_n 1, 1) := by decide +kernel
theorem dB_refuseNoWord_5 : decode c_B_refuseNoWord 5 = .ok (.invokevirtual 126, 3) := by decide +kernel
theorem dB_refuseNoWord_8 : decode c_B_refuseNoWord 8 = .ok (.ifCond .eq 20, 3) := by decide +kernel
theorem dB_refuseNoWord_11 : decode c_B_refuseNoWord 11 = .ok (.iload_n 2, 1) := by decide +kernel
theorem dB_refuseNoWord_12 : decode c_B_refuseNoWord 12 = .ok (.invokestatic 158, 3) := by decide +kernel
theorem dB_refuseNoWord_15 : decode c_B_refuseNoWord 15 = .ok (.ifCond .eq 13, 3) := by decide +kernel
theorem dB_refuseNoWord_18 : decode c_B_refuseNoWord 18 = .ok (.iload_n 3, 1) := by decide +kernel
theorem dB_refuseNoWord_19 : decode c_B_refuseNoWord 19 = .ok (.ifCond .lt 9, 3) := by decide +kernel
theorem dB_refuseNoWord_22 : decode c_B_refuseNoWord 22 = .ok (.iload_n 3, 1) := by decide +kernel
theorem dB_refuseNoWord_23 : decode c_B_refuseNoWord 23 = .ok (.bipush 8, 2) := by decide +kernel
theorem dB_refuseNoWord_25 : decode c_B_refuseNoWord 25 = .ok (.if_icmp .lt 13, 3) := by decide +kernel
theorem dB_refuseNoWord_28 : decode c_B_refuseNoWord 28 = .ok (.new 62, 3) := by decide +kernel
theorem dB_refuseNoWord_31 : decode c_B_refuseNoWord 31 = .ok (.dup, 1) := by decide +kernel
theorem dB_refuseNoWord_32 : decode c_B_refuseNoWord 32 = .ok (.ldc 171, 2) := by decide +kernel
theorem dB_refuseNoWord_34 : decode c_B_refuseNoWord 34 = .ok (.invokespecial 66, 3) := by decide +kernel
theorem dB_refuseNoWord_37 : decode c_B_refuseNoWord 37 = .ok (.athrow, 1) := by decide +kernel
theorem dB_refuseNoWord_38 : decode c_B_refuseNoWord 38 = .ok (.return_, 1) := by decide +kernel
theorem dB_refuseFullQueue_0 : decode c_B_refuseFullQueue 0 = .ok (.aload_n 0, 1) := by decide +kernel
theorem dB_refuseFullQueue_1 : decode c_B_refuseFullQueue 1 = .ok (.getfield 134, 3) := by decide +kernel
theorem dB_refuseFullQueue_4 : decode c_B_refuseFullQueue 4 = .ok (.aload_n 0, 1) := by decide +kernel
theorem dB_refuseFullQueue_5 : decode c_B_refuseFullQueue 5 = .ok (.getfield 51, 3) := by decide +kernel
theorem dB_refuseFullQueue_8 : decode c_B_refuseFullQueue 8 = .ok (.arraylength, 1) := by decide +kernel
theorem dB_refuseFullQueue_9 : decode c_B_refuseFullQueue 9 = .ok (.if_icmp .lt 13, 3) := by decide +kernel
theorem dB_refuseFullQueue_12 : decode c_B_refuseFullQueue 12 = .ok (.new 83, 3) := by decide +kernel
theorem dB_refuseFullQueue_15 : decode c_B_refuseFullQueue 15 = .ok (.dup, 1) := by decide +kernel
theorem dB_refuseFullQueue_16 : decode c_B_refuseFullQueue 16 = .ok (.ldc 173, 2) := by decide +kernel
theorem dB_refuseFullQueue_18 : decode c_B_refuseFullQueue 18 = .ok (.invokespecial 87, 3) := by decide +kernel
theorem dB_refuseFullQueue_21 : decode c_B_refuseFullQueue 21 = .ok (.athrow, 1) := by decide +kernel
theorem dB_refuseFullQueue_22 : decode c_B_refuseFullQueue 22 = .ok (.return_, 1) := by decide +kernel
theorem dB_isKept_0 : decode c_B_isKept 0 = .ok (.aload_n 0, 1) := by decide +kernel
theorem dB_isKept_1 : decode c_B_isKept 1 = .ok (.getfield 108, 3) := by decide +kernel
theorem dB_isKept_4 : decode c_B_isKept 4 = .ok (.iload_n 1, 1) := by decide +kernel
theorem dB_isKept_5 : decode c_B_isKept 5 = .ok (.isub, 1) := by decide +kernel
theorem dB_isKept_6 : decode c_B_isKept 6 = .ok (.bipush 32, 2) := by decide +kernel
theorem dB_isKept_8 : decode c_B_isKept 8 = .ok (.if_icmp .gt 7, 3) := by decide +kernel
theorem dB_isKept_11 : decode c_B_isKept 11 = .ok (.iconst 1, 1) := by decide +kernel
theorem dB_isKept_12 : decode c_B_isKept 12 = .ok (.goto 4, 3) := by decide +kernel
theorem dB_isKept_15 : decode c_B_isKept 15 = .ok (.iconst 0, 1) := by decide +kernel
theorem dB_isKept_16 : decode c_B_isKept 16 = .ok (.ireturn, 1) := by decide +kernel
theorem dB_enqueue_0 : decode c_B_enqueue 0 = .ok (.aload_n 0, 1) := by decide +kernel
theorem dB_enqueue_1 : decode c_B_enqueue 1 = .ok (.getfield 51, 3) := by decide +kernel
theorem dB_enqueue_4 : decode c_B_enqueue 4 = .ok (.aload_n 0, 1) := by decide +kernel
theorem dB_enqueue_5 : decode c_B_enqueue 5 = .ok (.getfield 134, 3) := by decide +kernel
theorem dB_enqueue_8 : decode c_B_enqueue 8 = .ok (.aaload, 1) := by decide +kernel
theorem dB_enqueue_9 : decode c_B_enqueue 9 = .ok (.astore 6, 2) := by decide +kernel
theorem dB_enqueue_11 : decode c_B_enqueue 11 = .ok (.aload 6, 2) := by decide +kernel
theorem dB_enqueue_13 : decode c_B_enqueue 13 = .ok (.iload_n 1, 1) := by decide +kernel
theorem dB_enqueue_14 : decode c_B_enqueue 14 = .ok (.putfield 175, 3) := by decide +kernel
theorem dB_enqueue_17 : decode c_B_enqueue 17 = .ok (.aload 6, 2) := by decide +kernel
theorem dB_enqueue_19 : decode c_B_enqueue 19 = .ok (.iload_n 2, 1) := by decide +kernel
theorem dB_enqueue_20 : decode c_B_enqueue 20 = .ok (.putfield 178, 3) := by decide +kernel
theorem dB_enqueue_23 : decode c_B_enqueue 23 = .ok (.aload 6, 2) := by decide +kernel
theorem dB_enqueue_25 : decode c_B_enqueue 25 = .ok (.iload_n 3, 1) := by decide +kernel
theorem dB_enqueue_26 : decode c_B_enqueue 26 = .ok (.putfield 181, 3) := by decide +kernel
theorem dB_enqueue_29 : decode c_B_enqueue 29 = .ok (.aload 6, 2) := by decide +kernel
theorem dB_enqueue_31 : decode c_B_enqueue 31 = .ok (.iload_n 2, 1) := by decide +kernel
theorem dB_enqueue_32 : decode c_B_enqueue 32 = .ok (.iload_n 3, 1) := by decide +kernel
theorem dB_enqueue_33 : decode c_B_enqueue 33 = .ok (.iload 4, 2) := by decide +kernel
theorem dB_enqueue_35 : decode c_B_enqueue 35 = .ok (.invokestatic 122, 3) := by decide +kernel
theorem dB_enqueue_38 : decode c_B_enqueue 38 = .ok (.putfield 184, 3) := by decide +kernel
theorem dB_enqueue_41 : decode c_B_enqueue 41 = .ok (.aload 6, 2) := by decide +kernel
theorem dB_enqueue_43 : decode c_B_enqueue 43 = .ok (.iload 5, 2) := by decide +kernel
theorem dB_enqueue_45 : decode c_B_enqueue 45 = .ok (.putfield 187, 3) := by decide +kernel
theorem dB_enqueue_48 : decode c_B_enqueue 48 = .ok (.aload 6, 2) := by decide +kernel
theorem dB_enqueue_50 : decode c_B_enqueue 50 = .ok (.aload_n 0, 1) := by decide +kernel
theorem dB_enqueue_51 : decode c_B_enqueue 51 = .ok (.getfield 108, 3) := by decide +kernel
theorem dB_enqueue_54 : decode c_B_enqueue 54 = .ok (.putfield 139, 3) := by decide +kernel
theorem dB_enqueue_57 : decode c_B_enqueue 57 = .ok (.aload 6, 2) := by decide +kernel
theorem dB_enqueue_59 : decode c_B_enqueue 59 = .ok (.aload_n 0, 1) := by decide +kernel
theorem dB_enqueue_60 : decode c_B_enqueue 60 = .ok (.getfield 42, 3) := by decide +kernel
theorem dB_enqueue_63 : decode c_B_enqueue 63 = .ok (.getfield 80, 3) := by decide +kernel
theorem dB_enqueue_66 : decode c_B_enqueue 66 = .ok (.putfield 190, 3) := by decide +kernel
theorem dB_enqueue_69 : decode c_B_enqueue 69 = .ok (.aload_n 0, 1) := by decide +kernel
theorem dB_enqueue_70 : decode c_B_enqueue 70 = .ok (.dup, 1) := by decide +kernel
theorem dB_enqueue_71 : decode c_B_enqueue 71 = .ok (.getfield 134, 3) := by decide +kernel
theorem dB_enqueue_74 : decode c_B_enqueue 74 = .ok (.iconst 1, 1) := by decide +kernel
theorem dB_enqueue_75 : decode c_B_enqueue 75 = .ok (.iadd, 1) := by decide +kernel
theorem dB_enqueue_76 : decode c_B_enqueue 76 = .ok (.putfield 134, 3) := by decide +kernel
theorem dB_enqueue_79 : decode c_B_enqueue 79 = .ok (.aload_n 0, 1) := by decide +kernel
theorem dB_enqueue_80 : decode c_B_enqueue 80 = .ok (.dup, 1) := by decide +kernel
theorem dB_enqueue_81 : decode c_B_enqueue 81 = .ok (.getfield 108, 3) := by decide +kernel
theorem dB_enqueue_84 : decode c_B_enqueue 84 = .ok (.iconst 1, 1) := by decide +kernel
theorem dB_enqueue_85 : decode c_B_enqueue 85 = .ok (.iadd, 1) := by decide +kernel
theorem dB_enqueue_86 : decode c_B_enqueue 86 = .ok (.putfield 108, 3) := by decide +kernel
theorem dB_enqueue_89 : decode c_B_enqueue 89 = .ok (.aload_n 0, 1) := by decide +kernel
theorem dB_enqueue_90 : decode c_B_enqueue 90 = .ok (.getfield 59, 3) := by decide +kernel
theorem dB_enqueue_93 : decode c_B_enqueue 93 = .ok (.aload 6, 2) := by decide +kernel
theorem dB_enqueue_95 : decode c_B_enqueue 95 = .ok (.getfield 139, 3) := by decide +kernel
theorem dB_enqueue_98 : decode c_B_enqueue 98 = .ok (.bipush 31, 2) := by decide +kernel
theorem dB_enqueue_100 : decode c_B_enqueue 100 = .ok (.iand, 1) := by decide +kernel
theorem dB_enqueue_101 : decode c_B_enqueue 101 = .ok (.ldc 193, 2) := by decide +kernel
theorem dB_enqueue_103 : decode c_B_enqueue 103 = .ok (.iastore, 1) := by decide +kernel
theorem dB_enqueue_104 : decode c_B_enqueue 104 = .ok (.aload 6, 2) := by decide +kernel
theorem dB_enqueue_106 : decode c_B_enqueue 106 = .ok (.getfield 139, 3) := by decide +kernel
theorem dB_enqueue_109 : decode c_B_enqueue 109 = .ok (.ireturn, 1) := by decide +kernel
theorem dB_giveFirst_0 : decode c_B_giveFirst 0 = .ok (.aload_n 0, 1) := by decide +kernel
theorem dB_giveFirst_1 : decode c_B_giveFirst 1 = .ok (.invokevirtual 194, 3) := by decide +kernel
theorem dB_giveFirst_4 : decode c_B_giveFirst 4 = .ok (.ifCond .eq 8, 3) := by decide +kernel
theorem dB_giveFirst_7 : decode c_B_giveFirst 7 = .ok (.aload_n 0, 1) := by decide +kernel
theorem dB_giveFirst_8 : decode c_B_giveFirst 8 = .ok (.invokevirtual 198, 3) := by decide +kernel
theorem dB_giveFirst_11 : decode c_B_giveFirst 11 = .ok (.ireturn, 1) := by decide +kernel
theorem dB_giveFirst_12 : decode c_B_giveFirst 12 = .ok (.aload_n 0, 1) := by decide +kernel
theorem dB_giveFirst_13 : decode c_B_giveFirst 13 = .ok (.invokevirtual 201, 3) := by decide +kernel
theorem dB_giveFirst_16 : decode c_B_giveFirst 16 = .ok (.istore_n 1, 1) := by decide +kernel
theorem dB_giveFirst_17 : decode c_B_giveFirst 17 = .ok (.aload_n 0, 1) := by decide +kernel
theorem dB_giveFirst_18 : decode c_B_giveFirst 18 = .ok (.iload_n 1, 1) := by decide +kernel
theorem dB_giveFirst_19 : decode c_B_giveFirst 19 = .ok (.invokevirtual 204, 3) := by decide +kernel
theorem dB_giveFirst_22 : decode c_B_giveFirst 22 = .ok (.istore_n 2, 1) := by decide +kernel
theorem dB_giveFirst_23 : decode c_B_giveFirst 23 = .ok (.iload_n 2, 1) := by decide +kernel
theorem dB_giveFirst_24 : decode c_B_giveFirst 24 = .ok (.iconst (-1), 1) := by decide +kernel
theorem dB_giveFirst_25 : decode c_B_giveFirst 25 = .ok (.if_icmp .ne 11, 3) := by decide +kernel
theorem dB_giveFirst_28 : decode c_B_giveFirst 28 = .ok (.aload_n 0, 1) := by decide +kernel
theorem dB_giveFirst_29 : decode c_B_giveFirst 29 = .ok (.iload_n 1, 1) := by decide +kernel
theorem dB_giveFirst_30 : decode c_B_giveFirst 30 = .ok (.invokevirtual 208, 3) := by decide +kernel
theorem dB_giveFirst_33 : decode c_B_giveFirst 33 = .ok (.goto 8, 3) := by decide +kernel
theorem dB_giveFirst_36 : decode c_B_giveFirst 36 = .ok (.aload_n 0, 1) := by decide +kernel
theorem dB_giveFirst_37 : decode c_B_giveFirst 37 = .ok (.iload_n 2, 1) := by decide +kernel
theorem dB_giveFirst_38 : decode c_B_giveFirst 38 = .ok (.invokevirtual 211, 3) := by decide +kernel
theorem dB_giveFirst_41 : decode c_B_giveFirst 41 = .ok (.ireturn, 1) := by decide +kernel
theorem dB_refreshIsDue_0 : decode c_B_refreshIsDue 0 = .ok (.aload_n 0, 1) := by decide +kernel
theorem dB_refreshIsDue_1 : decode c_B_refreshIsDue 1 = .ok (.getfield 42, 3) := by decide +kernel
theorem dB_refreshIsDue_4 : decode c_B_refreshIsDue 4 = .ok (.getfield 148, 3) := by decide +kernel
theorem dB_refreshIsDue_7 : decode c_B_refreshIsDue 7 = .ok (.iconst (-1), 1) := by decide +kernel
theorem dB_refreshIsDue_8 : decode c_B_refreshIsDue 8 = .ok (.if_icmp .ne 7, 3) := by decide +kernel
theorem dB_refreshIsDue_11 : decode c_B_refreshIsDue 11 = .ok (.iconst 0, 1) := by decide +kernel
theorem dB_refreshIsDue_12 : decode c_B_refreshIsDue 12 = .ok (.goto 10, 3) := by decide +kernel
theorem dB_refreshIsDue_15 : decode c_B_refreshIsDue 15 = .ok (.aload_n 0, 1) := by decide +kernel
theorem dB_refreshIsDue_16 : decode c_B_refreshIsDue 16 = .ok (.getfield 42, 3) := by decide +kernel
theorem dB_refreshIsDue_19 : decode c_B_refreshIsDue 19 = .ok (.getfield 148, 3) := by decide +kernel
theorem dB_refreshIsDue_22 : decode c_B_refreshIsDue 22 = .ok (.istore_n 1, 1) := by decide +kernel
theorem dB_refreshIsDue_23 : decode c_B_refreshIsDue 23 = .ok (.aload_n 0, 1) := by decide +kernel
theorem dB_refreshIsDue_24 : decode c_B_refreshIsDue 24 = .ok (.getfield 42, 3) := by decide +kernel
theorem dB_refreshIsDue_27 : decode c_B_refreshIsDue 27 = .ok (.getfield 80, 3) := by decide +kernel
theorem dB_refreshIsDue_30 : decode c_B_refreshIsDue 30 = .ok (.iload_n 1, 1) := by decide +kernel
theorem dB_refreshIsDue_31 : decode c_B_refreshIsDue 31 = .ok (.isub, 1) := by decide +kernel
theorem dB_refreshIsDue_32 : decode c_B_refreshIsDue 32 = .ok (.aload_n 0, 1) := by decide +kernel
theorem dB_refreshIsDue_33 : decode c_B_refreshIsDue 33 = .ok (.getfield 31, 3) := by decide +kernel
theorem dB_refreshIsDue_36 : decode c_B_refreshIsDue 36 = .ok (.bipush 10, 2) := by decide +kernel
theorem dB_refreshIsDue_38 : decode c_B_refreshIsDue 38 = .ok (.iaload, 1) := by decide +kernel
theorem dB_refreshIsDue_39 : decode c_B_refreshIsDue 39 = .ok (.if_icmp .lt 7, 3) := by decide +kernel
theorem dB_refreshIsDue_42 : decode c_B_refreshIsDue 42 = .ok (.iconst 1, 1) := by decide +kernel
theorem dB_refreshIsDue_43 : decode c_B_refreshIsDue 43 = .ok (.goto 4, 3) := by decide +kernel
theorem dB_refreshIsDue_46 : decode c_B_refreshIsDue 46 = .ok (.iconst 0, 1) := by decide +kernel
theorem dB_refreshIsDue_47 : decode c_B_refreshIsDue 47 = .ok (.ireturn, 1) := by decide +kernel
theorem dB_giveRefreshing_0 : decode c_B_giveRefreshing 0 = .ok (.aload_n 0, 1) := by decide +kernel
theorem dB_giveRefreshing_1 : decode c_B_giveRefreshing 1 = .ok (.getfield 42, 3) := by decide +kernel
theorem dB_giveRefreshing_4 : decode c_B_giveRefreshing 4 = .ok (.invokevirtual 214, 3) := by decide +kernel
theorem dB_giveRefreshing_7 : decode c_B_giveRefreshing 7 = .ok (.ifCond .ne 11, 3) := by decide +kernel
theorem dB_giveRefreshing_10 : decode c_B_giveRefreshing 10 = .ok (.aload_n 0, 1) := by decide +kernel
theorem dB_giveRefreshing_11 : decode c_B_giveRefreshing 11 = .ok (.iconst 4, 1) := by decide +kernel
theorem dB_giveRefreshing_12 : decode c_B_giveRefreshing 12 = .ok (.iconst 0, 1) := by decide +kernel
theorem dB_giveRefreshing_13 : decode c_B_giveRefreshing 13 = .ok (.iconst 0, 1) := by decide +kernel
theorem dB_giveRefreshing_14 : decode c_B_giveRefreshing 14 = .ok (.invokevirtual 217, 3) := by decide +kernel
theorem dB_giveRefreshing_17 : decode c_B_giveRefreshing 17 = .ok (.ireturn, 1) := by decide +kernel
theorem dB_giveRefreshing_18 : decode c_B_giveRefreshing 18 = .ok (.iconst 0, 1) := by decide +kernel
theorem dB_giveRefreshing_19 : decode c_B_giveRefreshing 19 = .ok (.istore_n 1, 1) := by decide +kernel
theorem dB_giveRefreshing_20 : decode c_B_giveRefreshing 20 = .ok (.iload_n 1, 1) := by decide +kernel
theorem dB_giveRefreshing_21 : decode c_B_giveRefreshing 21 = .ok (.aload_n 0, 1) := by decide +kernel
theorem dB_giveRefreshing_22 : decode c_B_giveRefreshing 22 = .ok (.getfield 42, 3) := by decide +kernel
theorem dB_giveRefreshing_25 : decode c_B_giveRefreshing 25 = .ok (.getfield 131, 3) := by decide +kernel
theorem dB_giveRefreshing_28 : decode c_B_giveRefreshing 28 = .ok (.arraylength, 1) := by decide +kernel
theorem dB_giveRefreshing_29 : decode c_B_giveRefreshing 29 = .ok (.if_icmp .ge 28, 3) := by decide +kernel
theorem dB_giveRefreshing_32 : decode c_B_giveRefreshing 32 = .ok (.aload_n 0, 1) := by decide +kernel
theorem dB_giveRefreshing_33 : decode c_B_giveRefreshing 33 = .ok (.getfield 42, 3) := by decide +kernel
theorem dB_giveRefreshing_36 : decode c_B_giveRefreshing 36 = .ok (.iload_n 1, 1) := by decide +kernel
theorem dB_giveRefreshing_37 : decode c_B_giveRefreshing 37 = .ok (.invokevirtual 220, 3) := by decide +kernel
theorem dB_giveRefreshing_40 : decode c_B_giveRefreshing 40 = .ok (.ifCond .ne 11, 3) := by decide +kernel
theorem dB_giveRefreshing_43 : decode c_B_giveRefreshing 43 = .ok (.aload_n 0, 1) := by decide +kernel
theorem dB_giveRefreshing_44 : decode c_B_giveRefreshing 44 = .ok (.iconst 1, 1) := by decide +kernel
theorem dB_giveRefreshing_45 : decode c_B_giveRefreshing 45 = .ok (.iload_n 1, 1) := by decide +kernel
theorem dB_giveRefreshing_46 : decode c_B_giveRefreshing 46 = .ok (.iconst 0, 1) := by decide +kernel
theorem dB_giveRefreshing_47 : decode c_B_giveRefreshing 47 = .ok (.invokevirtual 217, 3) := by decide +kernel
theorem dB_giveRefreshing_50 : decode c_B_giveRefreshing 50 = .ok (.ireturn, 1) := by decide +kernel
theorem dB_giveRefreshing_51 : decode c_B_giveRefreshing 51 = .ok (.iinc 1 1, 3) := by decide +kernel
theorem dB_giveRefreshing_54 : decode c_B_giveRefreshing 54 = .ok (.goto (-34), 3) := by decide +kernel
theorem dB_giveRefreshing_57 : decode c_B_giveRefreshing 57 = .ok (.iconst 0, 1) := by decide +kernel
theorem dB_giveRefreshing_58 : decode c_B_giveRefreshing 58 = .ok (.ireturn, 1) := by decide +kernel
theorem dB_countLookedAt_0 : decode c_B_countLookedAt 0 = .ok (.aload_n 0, 1) := by decide +kernel
theorem dB_countLookedAt_1 : decode c_B_countLookedAt 1 = .ok (.getfield 134, 3) := by decide +kernel
theorem dB_countLookedAt_4 : decode c_B_countLookedAt 4 = .ok (.ifCond .le 20, 3) := by decide +kernel
theorem dB_countLookedAt_7 : decode c_B_countLookedAt 7 = .ok (.aload_n 0, 1) := by decide +kernel
theorem dB_countLookedAt_8 : decode c_B_countLookedAt 8 = .ok (.aload_n 0, 1) := by decide +kernel
theorem dB_countLookedAt_9 : decode c_B_countLookedAt 9 = .ok (.getfield 51, 3) := by decide +kernel
theorem dB_countLookedAt_12 : decode c_B_countLookedAt 12 = .ok (.iconst 0, 1) := by decide +kernel
theorem dB_countLookedAt_13 : decode c_B_countLookedAt 13 = .ok (.aaload, 1) := by decide +kernel
theorem dB_countLookedAt_14 : decode c_B_countLookedAt 14 = .ok (.invokevirtual 223, 3) := by decide +kernel
theorem dB_countLookedAt_17 : decode c_B_countLookedAt 17 = .ok (.ifCond .eq 7, 3) := by decide +kernel
theorem dB_countLookedAt_20 : decode c_B_countLookedAt 20 = .ok (.iconst 1, 1) := by decide +kernel
theorem dB_countLookedAt_21 : decode c_B_countLookedAt 21 = .ok (.goto 7, 3) := by decide +kernel
theorem dB_countLookedAt_24 : decode c_B_countLookedAt 24 = .ok (.aload_n 0, 1) := by decide +kernel
theorem dB_countLookedAt_25 : decode c_B_countLookedAt 25 = .ok (.getfield 134, 3) := by decide +kernel
theorem dB_countLookedAt_28 : decode c_B_countLookedAt 28 = .ok (.ireturn, 1) := by decide +kernel
theorem dB_hasWaitedLong_0 : decode c_B_hasWaitedLong 0 = .ok (.aload_n 0, 1) := by decide +kernel
theorem dB_hasWaitedLong_1 : decode c_B_hasWaitedLong 1 = .ok (.getfield 42, 3) := by decide +kernel
theorem dB_hasWaitedLong_4 : decode c_B_hasWaitedLong 4 = .ok (.getfield 80, 3) := by decide +kernel
theorem dB_hasWaitedLong_7 : decode c_B_hasWaitedLong 7 = .ok (.aload_n 1, 1) := by decide +kernel
theorem dB_hasWaitedLong_8 : decode c_B_hasWaitedLong 8 = .ok (.getfield 190, 3) := by decide +kernel
theorem dB_hasWaitedLong_11 : decode c_B_hasWaitedLong 11 = .ok (.isub, 1) := by decide +kernel
theorem dB_hasWaitedLong_12 : decode c_B_hasWaitedLong 12 = .ok (.aload_n 0, 1) := by decide +kernel
theorem dB_hasWaitedLong_13 : decode c_B_hasWaitedLong 13 = .ok (.getfield 18, 3) := by decide +kernel
theorem dB_hasWaitedLong_16 : decode c_B_hasWaitedLong 16 = .ok (.if_icmp .lt 7, 3) := by decide +kernel
theorem dB_hasWaitedLong_19 : decode c_B_hasWaitedLong 19 = .ok (.iconst 1, 1) := by decide +kernel
theorem dB_hasWaitedLong_20 : decode c_B_hasWaitedLong 20 = .ok (.goto 4, 3) := by decide +kernel
theorem dB_hasWaitedLong_23 : decode c_B_hasWaitedLong 23 = .ok (.iconst 0, 1) := by decide +kernel
theorem dB_hasWaitedLong_24 : decode c_B_hasWaitedLong 24 = .ok (.ireturn, 1) := by decide +kernel
theorem dB_findHit_0 : decode c_B_findHit 0 = .ok (.iconst 0, 1) := by decide +kernel
theorem dB_findHit_1 : decode c_B_findHit 1 = .ok (.istore_n 2, 1) := by decide +kernel
theorem dB_findHit_2 : decode c_B_findHit 2 = .ok (.iload_n 2, 1) := by decide +kernel
theorem dB_findHit_3 : decode c_B_findHit 3 = .ok (.iload_n 1, 1) := by decide +kernel
theorem dB_findHit_4 : decode c_B_findHit 4 = .ok (.if_icmp .ge 44, 3) := by decide +kernel
theorem dB_findHit_7 : decode c_B_findHit 7 = .ok (.aload_n 0, 1) := by decide +kernel
theorem dB_findHit_8 : decode c_B_findHit 8 = .ok (.getfield 51, 3) := by decide +kernel
theorem dB_findHit_11 : decode c_B_findHit 11 = .ok (.iload_n 2, 1) := by decide +kernel
theorem dB_findHit_12 : decode c_B_findHit 12 = .ok (.aaload, 1) := by decide +kernel
theorem dB_findHit_13 : decode c_B_findHit 13 = .ok (.astore_n 3, 1) := by decide +kernel
theorem dB_findHit_14 : decode c_B_findHit 14 = .ok (.aload_n 0, 1) := by decide +kernel
theorem dB_findHit_15 : decode c_B_findHit 15 = .ok (.getfield 42, 3) := by decide +kernel
theorem dB_findHit_18 : decode c_B_findHit 18 = .ok (.aload_n 3, 1) := by decide +kernel
theorem dB_findHit_19 : decode c_B_findHit 19 = .ok (.getfield 178, 3) := by decide +kernel
theorem dB_findHit_22 : decode c_B_findHit 22 = .ok (.aload_n 3, 1) := by decide +kernel
theorem dB_findHit_23 : decode c_B_findHit 23 = .ok (.getfield 181, 3) := by decide +kernel
theorem dB_findHit_26 : decode c_B_findHit 26 = .ok (.invokevirtual 227, 3) := by decide +kernel
theorem dB_findHit_29 : decode c_B_findHit 29 = .ok (.ifCond .ne 13, 3) := by decide +kernel
theorem dB_findHit_32 : decode c_B_findHit 32 = .ok (.aload_n 0, 1) := by decide +kernel
theorem dB_findHit_33 : decode c_B_findHit 33 = .ok (.iload_n 2, 1) := by decide +kernel
theorem dB_findHit_34 : decode c_B_findHit 34 = .ok (.invokevirtual 230, 3) := by decide +kernel
theorem dB_findHit_37 : decode c_B_findHit 37 = .ok (.ifCond .ne 5, 3) := by decide +kernel
theorem dB_findHit_40 : decode c_B_findHit 40 = .ok (.iload_n 2, 1) := by decide +kernel
theorem dB_findHit_41 : decode c_B_findHit 41 = .ok (.ireturn, 1) := by decide +kernel
theorem dB_findHit_42 : decode c_B_findHit 42 = .ok (.iinc 2 1, 3) := by decide +kernel
theorem dB_findHit_45 : decode c_B_findHit 45 = .ok (.goto (-43), 3) := by decide +kernel
theorem dB_findHit_48 : decode c_B_findHit 48 = .ok (.iconst (-1), 1) := by decide +kernel
theorem dB_findHit_49 : decode c_B_findHit 49 = .ok (.ireturn, 1) := by decide +kernel
theorem dB_hasOlderForWord_0 : decode c_B_hasOlderForWord 0 = .ok (.iconst 0, 1) := by decide +kernel
theorem dB_hasOlderForWord_1 : decode c_B_hasOlderForWord 1 = .ok (.istore_n 2, 1) := by decide +kernel
theorem dB_hasOlderForWord_2 : decode c_B_hasOlderForWord 2 = .ok (.iload_n 2, 1) := by decide +kernel
theorem dB_hasOlderForWord_3 : decode c_B_hasOlderForWord 3 = .ok (.iload_n 1, 1) := by decide +kernel
theorem dB_hasOlderForWord_4 : decode c_B_hasOlderForWord 4 = .ok (.if_icmp .ge 32, 3) := by decide +kernel
theorem dB_hasOlderForWord_7 : decode c_B_hasOlderForWord 7 = .ok (.aload_n 0, 1) := by decide +kernel
theorem dB_hasOlderForWord_8 : decode c_B_hasOlderForWord 8 = .ok (.getfield 51, 3) := by decide +kernel
theorem dB_hasOlderForWord_11 : decode c_B_hasOlderForWord 11 = .ok (.iload_n 2, 1) := by decide +kernel
theorem dB_hasOlderForWord_12 : decode c_B_hasOlderForWord 12 = .ok (.aaload, 1) := by decide +kernel
theorem dB_hasOlderForWord_13 : decode c_B_hasOlderForWord 13 = .ok (.getfield 184, 3) := by decide +kernel
theorem dB_hasOlderForWord_16 : decode c_B_hasOlderForWord 16 = .ok (.aload_n 0, 1) := by decide +kernel
theorem dB_hasOlderForWord_17 : decode c_B_hasOlderForWord 17 = .ok (.getfield 51, 3) := by decide +kernel
theorem dB_hasOlderForWord_20 : decode c_B_hasOlderForWord 20 = .ok (.iload_n 1, 1) := by decide +kernel
theorem dB_hasOlderForWord_21 : decode c_B_hasOlderForWord 21 = .ok (.aaload, 1) := by decide +kernel
theorem dB_hasOlderForWord_22 : decode c_B_hasOlderForWord 22 = .ok (.getfield 184, 3) := by decide +kernel
theorem dB_hasOlderForWord_25 : decode c_B_hasOlderForWord 25 = .ok (.if_icmp .ne 5, 3) := by decide +kernel
theorem dB_hasOlderForWord_28 : decode c_B_hasOlderForWord 28 = .ok (.iconst 1, 1) := by decide +kernel
theorem dB_hasOlderForWord_29 : decode c_B_hasOlderForWord 29 = .ok (.ireturn, 1) := by decide +kernel
theorem dB_hasOlderForWord_30 : decode c_B_hasOlderForWord 30 = .ok (.iinc 2 1, 3) := by decide +kernel
theorem dB_hasOlderForWord_33 : decode c_B_hasOlderForWord 33 = .ok (.goto (-31), 3) := by decide +kernel
theorem dB_hasOlderForWord_36 : decode c_B_hasOlderForWord 36 = .ok (.iconst 0, 1) := by decide +kernel
theorem dB_hasOlderForWord_37 : decode c_B_hasOlderForWord 37 = .ok (.ireturn, 1) := by decide +kernel
theorem dB_giveHit_0 : decode c_B_giveHit 0 = .ok (.aload_n 0, 1) := by decide +kernel
theorem dB_giveHit_1 : decode c_B_giveHit 1 = .ok (.getfield 51, 3) := by decide +kernel
theorem dB_giveHit_4 : decode c_B_giveHit 4 = .ok (.iload_n 1, 1) := by decide +kernel
theorem dB_giveHit_5 : decode c_B_giveHit 5 = .ok (.aaload, 1) := by decide +kernel
theorem dB_giveHit_6 : decode c_B_giveHit 6 = .ok (.astore_n 2, 1) := by decide +kernel
theorem dB_giveHit_7 : decode c_B_giveHit 7 = .ok (.aload_n 0, 1) := by decide +kernel
theorem dB_giveHit_8 : decode c_B_giveHit 8 = .ok (.iload_n 1, 1) := by decide +kernel
theorem dB_giveHit_9 : decode c_B_giveHit 9 = .ok (.invokevirtual 233, 3) := by decide +kernel
theorem dB_giveHit_12 : decode c_B_giveHit 12 = .ok (.aload_n 0, 1) := by decide +kernel
theorem dB_giveHit_13 : decode c_B_giveHit 13 = .ok (.aload_n 2, 1) := by decide +kernel
theorem dB_giveHit_14 : decode c_B_giveHit 14 = .ok (.invokevirtual 223, 3) := by decide +kernel
theorem dB_giveHit_17 : decode c_B_giveHit 17 = .ok (.ifCond .eq 13, 3) := by decide +kernel
theorem dB_giveHit_20 : decode c_B_giveHit 20 = .ok (.aload_n 0, 1) := by decide +kernel
theorem dB_giveHit_21 : decode c_B_giveHit 21 = .ok (.dup, 1) := by decide +kernel
theorem dB_giveHit_22 : decode c_B_giveHit 22 = .ok (.getfield 145, 3) := by decide +kernel
theorem dB_giveHit_25 : decode c_B_giveHit 25 = .ok (.iconst 1, 1) := by decide +kernel
theorem dB_giveHit_26 : decode c_B_giveHit 26 = .ok (.iadd, 1) := by decide +kernel
theorem dB_giveHit_27 : decode c_B_giveHit 27 = .ok (.putfield 145, 3) := by decide +kernel
theorem dB_giveHit_30 : decode c_B_giveHit 30 = .ok (.aload_n 0, 1) := by decide +kernel
theorem dB_giveHit_31 : decode c_B_giveHit 31 = .ok (.getfield 42, 3) := by decide +kernel
theorem dB_giveHit_34 : decode c_B_giveHit 34 = .ok (.getfield 80, 3) := by decide +kernel
theorem dB_giveHit_37 : decode c_B_giveHit 37 = .ok (.istore_n 3, 1) := by decide +kernel
theorem dB_giveHit_38 : decode c_B_giveHit 38 = .ok (.aload_n 2, 1) := by decide +kernel
theorem dB_giveHit_39 : decode c_B_giveHit 39 = .ok (.getfield 175, 3) := by decide +kernel
theorem dB_giveHit_42 : decode c_B_giveHit 42 = .ok (.iconst 3, 1) := by decide +kernel
theorem dB_giveHit_43 : decode c_B_giveHit 43 = .ok (.if_icmp .ne 19, 3) := by decide +kernel
theorem dB_giveHit_46 : decode c_B_giveHit 46 = .ok (.aload_n 0, 1) := by decide +kernel
theorem dB_giveHit_47 : decode c_B_giveHit 47 = .ok (.getfield 34, 3) := by decide +kernel
theorem dB_giveHit_50 : decode c_B_giveHit 50 = .ok (.aload_n 2, 1) := by decide +kernel
theorem dB_giveHit_51 : decode c_B_giveHit 51 = .ok (.getfield 184, 3) := by decide +kernel
theorem dB_giveHit_54 : decode c_B_giveHit 54 = .ok (.aload_n 2, 1) := by decide +kernel
theorem dB_giveHit_55 : decode c_B_giveHit 55 = .ok (.getfield 187, 3) := by decide +kernel
theorem dB_giveHit_58 : decode c_B_giveHit 58 = .ok (.iastore, 1) := by decide +kernel
theorem dB_giveHit_59 : decode c_B_giveHit 59 = .ok (.goto 13, 3) := by decide +kernel
theorem dB_giveHit_62 : decode c_B_giveHit 62 = .ok (.iload_n 3, 1) := by decide +kernel
theorem dB_giveHit_63 : decode c_B_giveHit 63 = .ok (.aload_n 0, 1) := by decide +kernel
theorem dB_giveHit_64 : decode c_B_giveHit 64 = .ok (.getfield 31, 3) := by decide +kernel
theorem dB_giveHit_67 : decode c_B_giveHit 67 = .ok (.bipush 11, 2) := by decide +kernel
theorem dB_giveHit_69 : decode c_B_giveHit 69 = .ok (.iaload, 1) := by decide +kernel
theorem dB_giveHit_70 : decode c_B_giveHit 70 = .ok (.iadd, 1) := by decide +kernel
theorem dB_giveHit_71 : decode c_B_giveHit 71 = .ok (.istore_n 3, 1) := by decide +kernel
theorem dB_giveHit_72 : decode c_B_giveHit 72 = .ok (.aload_n 0, 1) := by decide +kernel
theorem dB_giveHit_73 : decode c_B_giveHit 73 = .ok (.aload_n 2, 1) := by decide +kernel
theorem dB_giveHit_74 : decode c_B_giveHit 74 = .ok (.getfield 139, 3) := by decide +kernel
theorem dB_giveHit_77 : decode c_B_giveHit 77 = .ok (.invokevirtual 111, 3) := by decide +kernel
theorem dB_giveHit_80 : decode c_B_giveHit 80 = .ok (.ifCond .eq 37, 3) := by decide +kernel
theorem dB_giveHit_83 : decode c_B_giveHit 83 = .ok (.aload_n 0, 1) := by decide +kernel
theorem dB_giveHit_84 : decode c_B_giveHit 84 = .ok (.getfield 56, 3) := by decide +kernel
theorem dB_giveHit_87 : decode c_B_giveHit 87 = .ok (.aload_n 2, 1) := by decide +kernel
theorem dB_giveHit_88 : decode c_B_giveHit 88 = .ok (.getfield 139, 3) := by decide +kernel
theorem dB_giveHit_91 : decode c_B_giveHit 91 = .ok (.bipush 31, 2) := by decide +kernel
theorem dB_giveHit_93 : decode c_B_giveHit 93 = .ok (.iand, 1) := by decide +kernel
theorem dB_giveHit_94 : decode c_B_giveHit 94 = .ok (.aload_n 0, 1) := by decide +kernel
theorem dB_giveHit_95 : decode c_B_giveHit 95 = .ok (.getfield 34, 3) := by decide +kernel
theorem dB_giveHit_98 : decode c_B_giveHit 98 = .ok (.aload_n 2, 1) := by decide +kernel
theorem dB_giveHit_99 : decode c_B_giveHit 99 = .ok (.getfield 184, 3) := by decide +kernel
theorem dB_giveHit_102 : decode c_B_giveHit 102 = .ok (.iaload, 1) := by decide +kernel
theorem dB_giveHit_103 : decode c_B_giveHit 103 = .ok (.iastore, 1) := by decide +kernel
theorem dB_giveHit_104 : decode c_B_giveHit 104 = .ok (.aload_n 0, 1) := by decide +kernel
theorem dB_giveHit_105 : decode c_B_giveHit 105 = .ok (.getfield 59, 3) := by decide +kernel
theorem dB_giveHit_108 : decode c_B_giveHit 108 = .ok (.aload_n 2, 1) := by decide +kernel
theorem dB_giveHit_109 : decode c_B_giveHit 109 = .ok (.getfield 139, 3) := by decide +kernel
theorem dB_giveHit_112 : decode c_B_giveHit 112 = .ok (.bipush 31, 2) := by decide +kernel
theorem dB_giveHit_114 : decode c_B_giveHit 114 = .ok (.iand, 1) := by decide +kernel
theorem dB_giveHit_115 : decode c_B_giveHit 115 = .ok (.iload_n 3, 1) := by decide +kernel
theorem dB_giveHit_116 : decode c_B_giveHit 116 = .ok (.iastore, 1) := by decide +kernel
theorem dB_giveHit_117 : decode c_B_giveHit 117 = .ok (.aload_n 0, 1) := by decide +kernel
theorem dB_giveHit_118 : decode c_B_giveHit 118 = .ok (.aload_n 2, 1) := by decide +kernel
theorem dB_giveHit_119 : decode c_B_giveHit 119 = .ok (.getfield 175, 3) := by decide +kernel
theorem dB_giveHit_122 : decode c_B_giveHit 122 = .ok (.aload_n 2, 1) := by decide +kernel
theorem dB_giveHit_123 : decode c_B_giveHit 123 = .ok (.getfield 178, 3) := by decide +kernel
theorem dB_giveHit_126 : decode c_B_giveHit 126 = .ok (.aload_n 2, 1) := by decide +kernel
theorem dB_giveHit_127 : decode c_B_giveHit 127 = .ok (.getfield 181, 3) := by decide +kernel
theorem dB_giveHit_130 : decode c_B_giveHit 130 = .ok (.invokevirtual 217, 3) := by decide +kernel
theorem dB_giveHit_133 : decode c_B_giveHit 133 = .ok (.ireturn, 1) := by decide +kernel
theorem dB_dequeue_0 : decode c_B_dequeue 0 = .ok (.aload_n 0, 1) := by decide +kernel
theorem dB_dequeue_1 : decode c_B_dequeue 1 = .ok (.getfield 51, 3) := by decide +kernel
theorem dB_dequeue_4 : decode c_B_dequeue 4 = .ok (.iload_n 1, 1) := by decide +kernel
theorem dB_dequeue_5 : decode c_B_dequeue 5 = .ok (.aaload, 1) := by decide +kernel
theorem dB_dequeue_6 : decode c_B_dequeue 6 = .ok (.astore_n 2, 1) := by decide +kernel
theorem dB_dequeue_7 : decode c_B_dequeue 7 = .ok (.iload_n 1, 1) := by decide +kernel
theorem dB_dequeue_8 : decode c_B_dequeue 8 = .ok (.iconst 1, 1) := by decide +kernel
theorem dB_dequeue_9 : decode c_B_dequeue 9 = .ok (.iadd, 1) := by decide +kernel
theorem dB_dequeue_10 : decode c_B_dequeue 10 = .ok (.istore_n 3, 1) := by decide +kernel
theorem dB_dequeue_11 : decode c_B_dequeue 11 = .ok (.iload_n 3, 1) := by decide +kernel
theorem dB_dequeue_12 : decode c_B_dequeue 12 = .ok (.aload_n 0, 1) := by decide +kernel
theorem dB_dequeue_13 : decode c_B_dequeue 13 = .ok (.getfield 134, 3) := by decide +kernel
theorem dB_dequeue_16 : decode c_B_dequeue 16 = .ok (.if_icmp .ge 23, 3) := by decide +kernel
theorem dB_dequeue_19 : decode c_B_dequeue 19 = .ok (.aload_n 0, 1) := by decide +kernel
theorem dB_dequeue_20 : decode c_B_dequeue 20 = .ok (.getfield 51, 3) := by decide +kernel
theorem dB_dequeue_23 : decode c_B_dequeue 23 = .ok (.iload_n 3, 1) := by decide +kernel
theorem dB_dequeue_24 : decode c_B_dequeue 24 = .ok (.iconst 1, 1) := by decide +kernel
theorem dB_dequeue_25 : decode c_B_dequeue 25 = .ok (.isub, 1) := by decide +kernel
theorem dB_dequeue_26 : decode c_B_dequeue 26 = .ok (.aload_n 0, 1) := by decide +kernel
theorem dB_dequeue_27 : decode c_B_dequeue 27 = .ok (.getfield 51, 3) := by decide +kernel
theorem dB_dequeue_30 : decode c_B_dequeue 30 = .ok (.iload_n 3, 1) := by decide +kernel
theorem dB_dequeue_31 : decode c_B_dequeue 31 = .ok (.aaload, 1) := by decide +kernel
theorem dB_dequeue_32 : decode c_B_dequeue 32 = .ok (.aastore, 1) := by decide +kernel
theorem dB_dequeue_33 : decode c_B_dequeue 33 = .ok (.iinc 3 1, 3) := by decide +kernel
theorem dB_dequeue_36 : decode c_B_dequeue 36 = .ok (.goto (-25), 3) := by decide +kernel
theorem dB_dequeue_39 : decode c_B_dequeue 39 = .ok (.aload_n 0, 1) := by decide +kernel
theorem dB_dequeue_40 : decode c_B_dequeue 40 = .ok (.dup, 1) := by decide +kernel
theorem dB_dequeue_41 : decode c_B_dequeue 41 = .ok (.getfield 134, 3) := by decide +kernel
theorem dB_dequeue_44 : decode c_B_dequeue 44 = .ok (.iconst 1, 1) := by decide +kernel
theorem dB_dequeue_45 : decode c_B_dequeue 45 = .ok (.isub, 1) := by decide +kernel
theorem dB_dequeue_46 : decode c_B_dequeue 46 = .ok (.putfield 134, 3) := by decide +kernel
theorem dB_dequeue_49 : decode c_B_dequeue 49 = .ok (.aload_n 0, 1) := by decide +kernel
theorem dB_dequeue_50 : decode c_B_dequeue 50 = .ok (.getfield 51, 3) := by decide +kernel
theorem dB_dequeue_53 : decode c_B_dequeue 53 = .ok (.aload_n 0, 1) := by decide +kernel
theorem dB_dequeue_54 : decode c_B_dequeue 54 = .ok (.getfield 134, 3) := by decide +kernel
theorem dB_dequeue_57 : decode c_B_dequeue 57 = .ok (.aload_n 2, 1) := by decide +kernel
theorem dB_dequeue_58 : decode c_B_dequeue 58 = .ok (.aastore, 1) := by decide +kernel
theorem dB_dequeue_59 : decode c_B_dequeue 59 = .ok (.return_, 1) := by decide +kernel
theorem dB_giveWay_0 : decode c_B_giveWay 0 = .ok (.iconst 0, 1) := by decide +kernel
theorem dB_giveWay_1 : decode c_B_giveWay 1 = .ok (.istore_n 2, 1) := by decide +kernel
theorem dB_giveWay_2 : decode c_B_giveWay 2 = .ok (.iload_n 2, 1) := by decide +kernel
theorem dB_giveWay_3 : decode c_B_giveWay 3 = .ok (.iload_n 1, 1) := by decide +kernel
theorem dB_giveWay_4 : decode c_B_giveWay 4 = .ok (.if_icmp .ge 114, 3) := by decide +kernel
theorem dB_giveWay_7 : decode c_B_giveWay 7 = .ok (.aload_n 0, 1) := by decide +kernel
theorem dB_giveWay_8 : decode c_B_giveWay 8 = .ok (.getfield 51, 3) := by decide +kernel
theorem dB_giveWay_11 : decode c_B_giveWay 11 = .ok (.iload_n 2, 1) := by decide +kernel
theorem dB_giveWay_12 : decode c_B_giveWay 12 = .ok (.aaload, 1) := by decide +kernel
theorem dB_giveWay_13 : decode c_B_giveWay 13 = .ok (.astore_n 3, 1) := by decide +kernel
theorem dB_giveWay_14 : decode c_B_giveWay 14 = .ok (.aload_n 0, 1) := by decide +kernel
theorem dB_giveWay_15 : decode c_B_giveWay 15 = .ok (.iload_n 2, 1) := by decide +kernel
theorem dB_giveWay_16 : decode c_B_giveWay 16 = .ok (.invokevirtual 237, 3) := by decide +kernel
theorem dB_giveWay_19 : decode c_B_giveWay 19 = .ok (.ifCond .eq 6, 3) := by decide +kernel
theorem dB_giveWay_22 : decode c_B_giveWay 22 = .ok (.goto 90, 3) := by decide +kernel
theorem dB_giveWay_25 : decode c_B_giveWay 25 = .ok (.aload_n 0, 1) := by decide +kernel
theorem dB_giveWay_26 : decode c_B_giveWay 26 = .ok (.getfield 42, 3) := by decide +kernel
theorem dB_giveWay_29 : decode c_B_giveWay 29 = .ok (.getfield 131, 3) := by decide +kernel
theorem dB_giveWay_32 : decode c_B_giveWay 32 = .ok (.aload_n 3, 1) := by decide +kernel
theorem dB_giveWay_33 : decode c_B_giveWay 33 = .ok (.getfield 178, 3) := by decide +kernel
theorem dB_giveWay_36 : decode c_B_giveWay 36 = .ok (.iaload, 1) := by decide +kernel
theorem dB_giveWay_37 : decode c_B_giveWay 37 = .ok (.istore 4, 2) := by decide +kernel
theorem dB_giveWay_39 : decode c_B_giveWay 39 = .ok (.iload 4, 2) := by decide +kernel
theorem dB_giveWay_41 : decode c_B_giveWay 41 = .ok (.iconst (-1), 1) := by decide +kernel
theorem dB_giveWay_42 : decode c_B_giveWay 42 = .ok (.if_icmp .ne 31, 3) := by decide +kernel
theorem dB_giveWay_45 : decode c_B_giveWay 45 = .ok (.aload_n 0, 1) := by decide +kernel
theorem dB_giveWay_46 : decode c_B_giveWay 46 = .ok (.getfield 42, 3) := by decide +kernel
theorem dB_giveWay_49 : decode c_B_giveWay 49 = .ok (.aload_n 3, 1) := by decide +kernel
theorem dB_giveWay_50 : decode c_B_giveWay 50 = .ok (.getfield 178, 3) := by decide +kernel
theorem dB_giveWay_53 : decode c_B_giveWay 53 = .ok (.invokevirtual 240, 3) := by decide +kernel
theorem dB_giveWay_56 : decode c_B_giveWay 56 = .ok (.ifCond .ne 56, 3) := by decide +kernel
theorem dB_giveWay_59 : decode c_B_giveWay 59 = .ok (.aload_n 0, 1) := by decide +kernel
theorem dB_giveWay_60 : decode c_B_giveWay 60 = .ok (.iconst 0, 1) := by decide +kernel
theorem dB_giveWay_61 : decode c_B_giveWay 61 = .ok (.aload_n 3, 1) := by decide +kernel
theorem dB_giveWay_62 : decode c_B_giveWay 62 = .ok (.getfield 178, 3) := by decide +kernel
theorem dB_giveWay_65 : decode c_B_giveWay 65 = .ok (.aload_n 3, 1) := by decide +kernel
theorem dB_giveWay_66 : decode c_B_giveWay 66 = .ok (.getfield 181, 3) := by decide +kernel
theorem dB_giveWay_69 : decode c_B_giveWay 69 = .ok (.invokevirtual 217, 3) := by decide +kernel
theorem dB_giveWay_72 : decode c_B_giveWay 72 = .ok (.ireturn, 1) := by decide +kernel
theorem dB_giveWay_73 : decode c_B_giveWay 73 = .ok (.aload_n 0, 1) := by decide +kernel
theorem dB_giveWay_74 : decode c_B_giveWay 74 = .ok (.aload_n 3, 1) := by decide +kernel
theorem dB_giveWay_75 : decode c_B_giveWay 75 = .ok (.getfield 178, 3) := by decide +kernel
theorem dB_giveWay_78 : decode c_B_giveWay 78 = .ok (.iload 4, 2) := by decide +kernel
theorem dB_giveWay_80 : decode c_B_giveWay 80 = .ok (.iload_n 1, 1) := by decide +kernel
theorem dB_giveWay_81 : decode c_B_giveWay 81 = .ok (.invokevirtual 243, 3) := by decide +kernel
theorem dB_giveWay_84 : decode c_B_giveWay 84 = .ok (.ifCond .ne 28, 3) := by decide +kernel
theorem dB_giveWay_87 : decode c_B_giveWay 87 = .ok (.aload_n 0, 1) := by decide +kernel
theorem dB_giveWay_88 : decode c_B_giveWay 88 = .ok (.getfield 42, 3) := by decide +kernel
theorem dB_giveWay_91 : decode c_B_giveWay 91 = .ok (.aload_n 3, 1) := by decide +kernel
theorem dB_giveWay_92 : decode c_B_giveWay 92 = .ok (.getfield 178, 3) := by decide +kernel
theorem dB_giveWay_95 : decode c_B_giveWay 95 = .ok (.invokevirtual 220, 3) := by decide +kernel
theorem dB_giveWay_98 : decode c_B_giveWay 98 = .ok (.ifCond .ne 14, 3) := by decide +kernel
theorem dB_giveWay_101 : decode c_B_giveWay 101 = .ok (.aload_n 0, 1) := by decide +kernel
theorem dB_giveWay_102 : decode c_B_giveWay 102 = .ok (.iconst 1, 1) := by decide +kernel
theorem dB_giveWay_103 : decode c_B_giveWay 103 = .ok (.aload_n 3, 1) := by decide +kernel
theorem dB_giveWay_104 : decode c_B_giveWay 104 = .ok (.getfield 178, 3) := by decide +kernel
theorem dB_giveWay_107 : decode c_B_giveWay 107 = .ok (.iconst 0, 1) := by decide +kernel
theorem dB_giveWay_108 : decode c_B_giveWay 108 = .ok (.invokevirtual 217, 3) := by decide +kernel
theorem dB_giveWay_111 : decode c_B_giveWay 111 = .ok (.ireturn, 1) := by decide +kernel
theorem dB_giveWay_112 : decode c_B_giveWay 112 = .ok (.iinc 2 1, 3) := by decide +kernel
theorem dB_giveWay_115 : decode c_B_giveWay 115 = .ok (.goto (-113), 3) := by decide +kernel
theorem dB_giveWay_118 : decode c_B_giveWay 118 = .ok (.iconst 0, 1) := by decide +kernel
theorem dB_giveWay_119 : decode c_B_giveWay 119 = .ok (.ireturn, 1) := by decide +kernel
theorem dB_hasOlderForBank_0 : decode c_B_hasOlderForBank 0 = .ok (.iconst 0, 1) := by decide +kernel
theorem dB_hasOlderForBank_1 : decode c_B_hasOlderForBank 1 = .ok (.istore_n 2, 1) := by decide +kernel
theorem dB_hasOlderForBank_2 : decode c_B_hasOlderForBank 2 = .ok (.iload_n 2, 1) := by decide +kernel
theorem dB_hasOlderForBank_3 : decode c_B_hasOlderForBank 3 = .ok (.iload_n 1, 1) := by decide +kernel
theorem dB_hasOlderForBank_4 : decode c_B_hasOlderForBank 4 = .ok (.if_icmp .ge 32, 3) := by decide +kernel
theorem dB_hasOlderForBank_7 : decode c_B_hasOlderForBank 7 = .ok (.aload_n 0, 1) := by decide +kernel
theorem dB_hasOlderForBank_8 : decode c_B_hasOlderForBank 8 = .ok (.getfield 51, 3) := by decide +kernel
theorem dB_hasOlderForBank_11 : decode c_B_hasOlderForBank 11 = .ok (.iload_n 2, 1) := by decide +kernel
theorem dB_hasOlderForBank_12 : decode c_B_hasOlderForBank 12 = .ok (.aaload, 1) := by decide +kernel
theorem dB_hasOlderForBank_13 : decode c_B_hasOlderForBank 13 = .ok (.getfield 178, 3) := by decide +kernel
theorem dB_hasOlderForBank_16 : decode c_B_hasOlderForBank 16 = .ok (.aload_n 0, 1) := by decide +kernel
theorem dB_hasOlderForBank_17 : decode c_B_hasOlderForBank 17 = .ok (.getfield 51, 3) := by decide +kernel
theorem dB_hasOlderForBank_20 : decode c_B_hasOlderForBank 20 = .ok (.iload_n 1, 1) := by decide +kernel
theorem dB_hasOlderForBank_21 : decode c_B_hasOlderForBank 21 = .ok (.aaload, 1) := by decide +kernel
theorem dB_hasOlderForBank_22 : decode c_B_hasOlderForBank 22 = .ok (.getfield 178, 3) := by decide +kernel
theorem dB_hasOlderForBank_25 : decode c_B_hasOlderForBank 25 = .ok (.if_icmp .ne 5, 3) := by decide +kernel
theorem dB_hasOlderForBank_28 : decode c_B_hasOlderForBank 28 = .ok (.iconst 1, 1) := by decide +kernel
theorem dB_hasOlderForBank_29 : decode c_B_hasOlderForBank 29 = .ok (.ireturn, 1) := by decide +kernel
theorem dB_hasOlderForBank_30 : decode c_B_hasOlderForBank 30 = .ok (.iinc 2 1, 3) := by decide +kernel
theorem dB_hasOlderForBank_33 : decode c_B_hasOlderForBank 33 = .ok (.goto (-31), 3) := by decide +kernel
theorem dB_hasOlderForBank_36 : decode c_B_hasOlderForBank 36 = .ok (.iconst 0, 1) := by decide +kernel
theorem dB_hasOlderForBank_37 : decode c_B_hasOlderForBank 37 = .ok (.ireturn, 1) := by decide +kernel
theorem dB_isWanted_0 : decode c_B_isWanted 0 = .ok (.iconst 0, 1) := by decide +kernel
theorem dB_isWanted_1 : decode c_B_isWanted 1 = .ok (.istore 4, 2) := by decide +kernel
theorem dB_isWanted_3 : decode c_B_isWanted 3 = .ok (.iload 4, 2) := by decide +kernel
theorem dB_isWanted_5 : decode c_B_isWanted 5 = .ok (.iload_n 3, 1) := by decide +kernel
theorem dB_isWanted_6 : decode c_B_isWanted 6 = .ok (.if_icmp .ge 39, 3) := by decide +kernel
theorem dB_isWanted_9 : decode c_B_isWanted 9 = .ok (.aload_n 0, 1) := by decide +kernel
theorem dB_isWanted_10 : decode c_B_isWanted 10 = .ok (.getfield 51, 3) := by decide +kernel
theorem dB_isWanted_13 : decode c_B_isWanted 13 = .ok (.iload 4, 2) := by decide +kernel
theorem dB_isWanted_15 : decode c_B_isWanted 15 = .ok (.aaload, 1) := by decide +kernel
theorem dB_isWanted_16 : decode c_B_isWanted 16 = .ok (.getfield 178, 3) := by decide +kernel
theorem dB_isWanted_19 : decode c_B_isWanted 19 = .ok (.iload_n 1, 1) := by decide +kernel
theorem dB_isWanted_20 : decode c_B_isWanted 20 = .ok (.if_icmp .ne 19, 3) := by decide +kernel
theorem dB_isWanted_23 : decode c_B_isWanted 23 = .ok (.aload_n 0, 1) := by decide +kernel
theorem dB_isWanted_24 : decode c_B_isWanted 24 = .ok (.getfield 51, 3) := by decide +kernel
theorem dB_isWanted_27 : decode c_B_isWanted 27 = .ok (.iload 4, 2) := by decide +kernel
theorem dB_isWanted_29 : decode c_B_isWanted 29 = .ok (.aaload, 1) := by decide +kernel
theorem dB_isWanted_30 : decode c_B_isWanted 30 = .ok (.getfield 181, 3) := by decide +kernel
theorem dB_isWanted_33 : decode c_B_isWanted 33 = .ok (.iload_n 2, 1) := by decide +kernel
theorem dB_isWanted_34 : decode c_B_isWanted 34 = .ok (.if_icmp .ne 5, 3) := by decide +kernel
theorem dB_isWanted_37 : decode c_B_isWanted 37 = .ok (.iconst 1, 1) := by decide +kernel
theorem dB_isWanted_38 : decode c_B_isWanted 38 = .ok (.ireturn, 1) := by decide +kernel
theorem dB_isWanted_39 : decode c_B_isWanted 39 = .ok (.iinc 4 1, 3) := by decide +kernel
theorem dB_isWanted_42 : decode c_B_isWanted 42 = .ok (.goto (-39), 3) := by decide +kernel
theorem dB_isWanted_45 : decode c_B_isWanted 45 = .ok (.iconst 0, 1) := by decide +kernel
theorem dB_isWanted_46 : decode c_B_isWanted 46 = .ok (.ireturn, 1) := by decide +kernel
theorem dB_giveCommand_0 : decode c_B_giveCommand 0 = .ok (.aload_n 0, 1) := by decide +kernel
theorem dB_giveCommand_1 : decode c_B_giveCommand 1 = .ok (.getfield 42, 3) := by decide +kernel
theorem dB_giveCommand_4 : decode c_B_giveCommand 4 = .ok (.iload_n 1, 1) := by decide +kernel
theorem dB_giveCommand_5 : decode c_B_giveCommand 5 = .ok (.iload_n 2, 1) := by decide +kernel
theorem dB_giveCommand_6 : decode c_B_giveCommand 6 = .ok (.iload_n 3, 1) := by decide +kernel
theorem dB_giveCommand_7 : decode c_B_giveCommand 7 = .ok (.invokevirtual 166, 3) := by decide +kernel
theorem dB_giveCommand_10 : decode c_B_giveCommand 10 = .ok (.sipush 1000, 3) := by decide +kernel
theorem dB_giveCommand_13 : decode c_B_giveCommand 13 = .ok (.iload_n 1, 1) := by decide +kernel
theorem dB_giveCommand_14 : decode c_B_giveCommand 14 = .ok (.iconst 1, 1) := by decide +kernel
theorem dB_giveCommand_15 : decode c_B_giveCommand 15 = .ok (.iadd, 1) := by decide +kernel
theorem dB_giveCommand_16 : decode c_B_giveCommand 16 = .ok (.imul, 1) := by decide +kernel
theorem dB_giveCommand_17 : decode c_B_giveCommand 17 = .ok (.istore 4, 2) := by decide +kernel
theorem dB_giveCommand_19 : decode c_B_giveCommand 19 = .ok (.iload_n 1, 1) := by decide +kernel
theorem dB_giveCommand_20 : decode c_B_giveCommand 20 = .ok (.iconst 4, 1) := by decide +kernel
theorem dB_giveCommand_21 : decode c_B_giveCommand 21 = .ok (.if_icmp .eq 12, 3) := by decide +kernel
theorem dB_giveCommand_24 : decode c_B_giveCommand 24 = .ok (.iload 4, 2) := by decide +kernel
theorem dB_giveCommand_26 : decode c_B_giveCommand 26 = .ok (.bipush 100, 2) := by decide +kernel
theorem dB_giveCommand_28 : decode c_B_giveCommand 28 = .ok (.iload_n 2, 1) := by decide +kernel
theorem dB_giveCommand_29 : decode c_B_giveCommand 29 = .ok (.imul, 1) := by decide +kernel
theorem dB_giveCommand_30 : decode c_B_giveCommand 30 = .ok (.iadd, 1) := by decide +kernel
theorem dB_giveCommand_31 : decode c_B_giveCommand 31 = .ok (.istore 4, 2) := by decide +kernel
theorem dB_giveCommand_33 : decode c_B_giveCommand 33 = .ok (.iload_n 1, 1) := by decide +kernel
theorem dB_giveCommand_34 : decode c_B_giveCommand 34 = .ok (.invokestatic 155, 3) := by decide +kernel
theorem dB_giveCommand_37 : decode c_B_giveCommand 37 = .ok (.ifCond .eq 9, 3) := by decide +kernel
theorem dB_giveCommand_40 : decode c_B_giveCommand 40 = .ok (.iload 4, 2) := by decide +kernel
theorem dB_giveCommand_42 : decode c_B_giveCommand 42 = .ok (.iload_n 3, 1) := by decide +kernel
theorem dB_giveCommand_43 : decode c_B_giveCommand 43 = .ok (.iadd, 1) := by decide +kernel
theorem dB_giveCommand_44 : decode c_B_giveCommand 44 = .ok (.istore 4, 2) := by decide +kernel
theorem dB_giveCommand_46 : decode c_B_giveCommand 46 = .ok (.iload 4, 2) := by decide +kernel
theorem dB_giveCommand_48 : decode c_B_giveCommand 48 = .ok (.ireturn, 1) := by decide +kernel
