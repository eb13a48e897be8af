theorem dL_cell_0 : decode c_L_cell 0 = .ok (.iload_n 1, 1) := by decide +kernel
theorem dL_cell_1 : decode c_L_cell 1 = .ok (.aload_n 0, 1) := by decide +kernel
theorem dL_cell_2 : decode c_L_cell 2 = .ok (.arraylength, 1) := by decide +kernel
theorem dL_cell_3 : decode c_L_cell 3 = .ok (.if_icmp .ge 9, 3) := by decide +kernel
theorem dL_cell_6 : decode c_L_cell 6 = .ok (.aload_n 0, 1) := by decide +kernel
theorem dL_cell_7 : decode c_L_cell 7 = .ok (.iload_n 1, 1) := by decide +kernel
theorem dL_cell_8 : decode c_L_cell 8 = .ok (.iaload, 1) := by decide +kernel
theorem dL_cell_9 : decode c_L_cell 9 = .ok (.goto 4, 3) := by decide +kernel
theorem dL_cell_12 : decode c_L_cell 12 = .ok (.iconst 0, 1) := by decide +kernel
theorem dL_cell_13 : decode c_L_cell 13 = .ok (.ireturn, 1) := by decide +kernel
theorem dL_time_0 : decode c_L_time 0 = .ok (.aload_n 3, 1) := by decide +kernel
theorem dL_time_1 : decode c_L_time 1 = .ok (.iconst 0, 1) := by decide +kernel
theorem dL_time_2 : decode c_L_time 2 = .ok (.aload_n 0, 1) := by decide +kernel
theorem dL_time_3 : decode c_L_time 3 = .ok (.iload_n 1, 1) := by decide +kernel
theorem dL_time_4 : decode c_L_time 4 = .ok (.iload_n 2, 1) := by decide +kernel
theorem dL_time_5 : decode c_L_time 5 = .ok (.invokevirtual 7, 3) := by decide +kernel
theorem dL_time_8 : decode c_L_time 8 = .ok (.i2l, 1) := by decide +kernel
theorem dL_time_9 : decode c_L_time 9 = .ok (.lastore, 1) := by decide +kernel
theorem dL_time_10 : decode c_L_time 10 = .ok (.goto 15, 3) := by decide +kernel
theorem dL_time_13 : decode c_L_time 13 = .ok (.astore 4, 2) := by decide +kernel
theorem dL_time_15 : decode c_L_time 15 = .ok (.iconst 1, 1) := by decide +kernel
theorem dL_time_16 : decode c_L_time 16 = .ok (.ireturn, 1) := by decide +kernel
theorem dL_time_17 : decode c_L_time 17 = .ok (.astore 4, 2) := by decide +kernel
theorem dL_time_19 : decode c_L_time 19 = .ok (.iconst 2, 1) := by decide +kernel
theorem dL_time_20 : decode c_L_time 20 = .ok (.ireturn, 1) := by decide +kernel
theorem dL_time_21 : decode c_L_time 21 = .ok (.astore 4, 2) := by decide +kernel
theorem dL_time_23 : decode c_L_time 23 = .ok (.iconst 3, 1) := by decide +kernel
theorem dL_time_24 : decode c_L_time 24 = .ok (.ireturn, 1) := by decide +kernel
theorem dL_time_25 : decode c_L_time 25 = .ok (.iconst 0, 1) := by decide +kernel
theorem dL_time_26 : decode c_L_time 26 = .ok (.ireturn, 1) := by decide +kernel
theorem dL_read_0 : decode c_L_read 0 = .ok (.aload 4, 2) := by decide +kernel
theorem dL_read_2 : decode c_L_read 2 = .ok (.iconst 0, 1) := by decide +kernel
theorem dL_read_3 : decode c_L_read 3 = .ok (.aload_n 0, 1) := by decide +kernel
theorem dL_read_4 : decode c_L_read 4 = .ok (.iload_n 1, 1) := by decide +kernel
theorem dL_read_5 : decode c_L_read 5 = .ok (.iload_n 2, 1) := by decide +kernel
theorem dL_read_6 : decode c_L_read 6 = .ok (.iload_n 3, 1) := by decide +kernel
theorem dL_read_7 : decode c_L_read 7 = .ok (.invokevirtual 19, 3) := by decide +kernel
theorem dL_read_10 : decode c_L_read 10 = .ok (.i2l, 1) := by decide +kernel
theorem dL_read_11 : decode c_L_read 11 = .ok (.lastore, 1) := by decide +kernel
theorem dL_read_12 : decode c_L_read 12 = .ok (.goto 11, 3) := by decide +kernel
theorem dL_read_15 : decode c_L_read 15 = .ok (.astore 5, 2) := by decide +kernel
theorem dL_read_17 : decode c_L_read 17 = .ok (.iconst 1, 1) := by decide +kernel
theorem dL_read_18 : decode c_L_read 18 = .ok (.ireturn, 1) := by decide +kernel
theorem dL_read_19 : decode c_L_read 19 = .ok (.astore 5, 2) := by decide +kernel
theorem dL_read_21 : decode c_L_read 21 = .ok (.iconst 2, 1) := by decide +kernel
theorem dL_read_22 : decode c_L_read 22 = .ok (.ireturn, 1) := by decide +kernel
theorem dL_read_23 : decode c_L_read 23 = .ok (.iconst 0, 1) := by decide +kernel
theorem dL_read_24 : decode c_L_read 24 = .ok (.ireturn, 1) := by decide +kernel
theorem dL_write_0 : decode c_L_write 0 = .ok (.aload 5, 2) := by decide +kernel
theorem dL_write_2 : decode c_L_write 2 = .ok (.iconst 0, 1) := by decide +kernel
theorem dL_write_3 : decode c_L_write 3 = .ok (.aload_n 0, 1) := by decide +kernel
theorem dL_write_4 : decode c_L_write 4 = .ok (.iload_n 1, 1) := by decide +kernel
theorem dL_write_5 : decode c_L_write 5 = .ok (.iload_n 2, 1) := by decide +kernel
theorem dL_write_6 : decode c_L_write 6 = .ok (.iload_n 3, 1) := by decide +kernel
theorem dL_write_7 : decode c_L_write 7 = .ok (.iload 4, 2) := by decide +kernel
theorem dL_write_9 : decode c_L_write 9 = .ok (.invokevirtual 23, 3) := by decide +kernel
theorem dL_write_12 : decode c_L_write 12 = .ok (.i2l, 1) := by decide +kernel
theorem dL_write_13 : decode c_L_write 13 = .ok (.lastore, 1) := by decide +kernel
theorem dL_write_14 : decode c_L_write 14 = .ok (.goto 11, 3) := by decide +kernel
theorem dL_write_17 : decode c_L_write 17 = .ok (.astore 6, 2) := by decide +kernel
theorem dL_write_19 : decode c_L_write 19 = .ok (.iconst 1, 1) := by decide +kernel
theorem dL_write_20 : decode c_L_write 20 = .ok (.ireturn, 1) := by decide +kernel
theorem dL_write_21 : decode c_L_write 21 = .ok (.astore 6, 2) := by decide +kernel
theorem dL_write_23 : decode c_L_write 23 = .ok (.iconst 2, 1) := by decide +kernel
theorem dL_write_24 : decode c_L_write 24 = .ok (.ireturn, 1) := by decide +kernel
theorem dL_write_25 : decode c_L_write 25 = .ok (.iconst 0, 1) := by decide +kernel
theorem dL_write_26 : decode c_L_write 26 = .ok (.ireturn, 1) := by decide +kernel
theorem dL_run_0 : decode c_L_run 0 = .ok (.aload_n 2, 1) := by decide +kernel
theorem dL_run_1 : decode c_L_run 1 = .ok (.iconst 0, 1) := by decide +kernel
theorem dL_run_2 : decode c_L_run 2 = .ok (.aload_n 0, 1) := by decide +kernel
theorem dL_run_3 : decode c_L_run 3 = .ok (.iload_n 1, 1) := by decide +kernel
theorem dL_run_4 : decode c_L_run 4 = .ok (.invokevirtual 27, 3) := by decide +kernel
theorem dL_run_7 : decode c_L_run 7 = .ok (.i2l, 1) := by decide +kernel
theorem dL_run_8 : decode c_L_run 8 = .ok (.lastore, 1) := by decide +kernel
theorem dL_run_9 : decode c_L_run 9 = .ok (.goto 6, 3) := by decide +kernel
theorem dL_run_12 : decode c_L_run 12 = .ok (.astore_n 3, 1) := by decide +kernel
theorem dL_run_13 : decode c_L_run 13 = .ok (.iconst 1, 1) := by decide +kernel
theorem dL_run_14 : decode c_L_run 14 = .ok (.ireturn, 1) := by decide +kernel
theorem dL_run_15 : decode c_L_run 15 = .ok (.iconst 0, 1) := by decide +kernel
theorem dL_run_16 : decode c_L_run 16 = .ok (.ireturn, 1) := by decide +kernel
theorem dL_result_0 : decode c_L_result 0 = .ok (.aload_n 2, 1) := by decide +kernel
theorem dL_result_1 : decode c_L_result 1 = .ok (.iconst 0, 1) := by decide +kernel
theorem dL_result_2 : decode c_L_result 2 = .ok (.aload_n 0, 1) := by decide +kernel
theorem dL_result_3 : decode c_L_result 3 = .ok (.iload_n 1, 1) := by decide +kernel
theorem dL_result_4 : decode c_L_result 4 = .ok (.invokevirtual 31, 3) := by decide +kernel
theorem dL_result_7 : decode c_L_result 7 = .ok (.i2l, 1) := by decide +kernel
theorem dL_result_8 : decode c_L_result 8 = .ok (.lastore, 1) := by decide +kernel
theorem dL_result_9 : decode c_L_result 9 = .ok (.goto 9, 3) := by decide +kernel
theorem dL_result_12 : decode c_L_result 12 = .ok (.astore_n 3, 1) := by decide +kernel
theorem dL_result_13 : decode c_L_result 13 = .ok (.iconst 1, 1) := by decide +kernel
theorem dL_result_14 : decode c_L_result 14 = .ok (.ireturn, 1) := by decide +kernel
theorem dL_result_15 : decode c_L_result 15 = .ok (.astore_n 3, 1) := by decide +kernel
theorem dL_result_16 : decode c_L_result 16 = .ok (.iconst 2, 1) := by decide +kernel
theorem dL_result_17 : decode c_L_result 17 = .ok (.ireturn, 1) := by decide +kernel
theorem dL_result_18 : decode c_L_result 18 = .ok (.iconst 0, 1) := by decide +kernel
theorem dL_result_19 : decode c_L_result 19 = .ok (.ireturn, 1) := by decide +kernel
theorem dL_word_0 : decode c_L_word 0 = .ok (.aload 4, 2) := by decide +kernel
theorem dL_word_2 : decode c_L_word 2 = .ok (.iconst 0, 1) := by decide +kernel
theorem dL_word_3 : decode c_L_word 3 = .ok (.aload_n 0, 1) := by decide +kernel
theorem dL_word_4 : decode c_L_word 4 = .ok (.iload_n 1, 1) := by decide +kernel
theorem dL_word_5 : decode c_L_word 5 = .ok (.iload_n 2, 1) := by decide +kernel
theorem dL_word_6 : decode c_L_word 6 = .ok (.iload_n 3, 1) := by decide +kernel
theorem dL_word_7 : decode c_L_word 7 = .ok (.invokevirtual 36, 3) := by decide +kernel
theorem dL_word_10 : decode c_L_word 10 = .ok (.i2l, 1) := by decide +kernel
theorem dL_word_11 : decode c_L_word 11 = .ok (.lastore, 1) := by decide +kernel
theorem dL_word_12 : decode c_L_word 12 = .ok (.goto 7, 3) := by decide +kernel
theorem dL_word_15 : decode c_L_word 15 = .ok (.astore 5, 2) := by decide +kernel
theorem dL_word_17 : decode c_L_word 17 = .ok (.iconst 1, 1) := by decide +kernel
theorem dL_word_18 : decode c_L_word 18 = .ok (.ireturn, 1) := by decide +kernel
theorem dL_word_19 : decode c_L_word 19 = .ok (.iconst 0, 1) := by decide +kernel
theorem dL_word_20 : decode c_L_word 20 = .ok (.ireturn, 1) := by decide +kernel
theorem dL_open_0 : decode c_L_open 0 = .ok (.aload_n 2, 1) := by decide +kernel
theorem dL_open_1 : decode c_L_open 1 = .ok (.iconst 0, 1) := by decide +kernel
theorem dL_open_2 : decode c_L_open 2 = .ok (.aload_n 0, 1) := by decide +kernel
theorem dL_open_3 : decode c_L_open 3 = .ok (.iload_n 1, 1) := by decide +kernel
theorem dL_open_4 : decode c_L_open 4 = .ok (.invokevirtual 39, 3) := by decide +kernel
theorem dL_open_7 : decode c_L_open 7 = .ok (.i2l, 1) := by decide +kernel
theorem dL_open_8 : decode c_L_open 8 = .ok (.lastore, 1) := by decide +kernel
theorem dL_open_9 : decode c_L_open 9 = .ok (.goto 6, 3) := by decide +kernel
theorem dL_open_12 : decode c_L_open 12 = .ok (.astore_n 3, 1) := by decide +kernel
theorem dL_open_13 : decode c_L_open 13 = .ok (.iconst 1, 1) := by decide +kernel
theorem dL_open_14 : decode c_L_open 14 = .ok (.ireturn, 1) := by decide +kernel
theorem dL_open_15 : decode c_L_open 15 = .ok (.iconst 0, 1) := by decide +kernel
theorem dL_open_16 : decode c_L_open 16 = .ok (.ireturn, 1) := by decide +kernel
theorem dL_waiting_0 : decode c_L_waiting 0 = .ok (.aload_n 2, 1) := by decide +kernel
theorem dL_waiting_1 : decode c_L_waiting 1 = .ok (.iconst 0, 1) := by decide +kernel
theorem dL_waiting_2 : decode c_L_waiting 2 = .ok (.aload_n 0, 1) := by decide +kernel
theorem dL_waiting_3 : decode c_L_waiting 3 = .ok (.iload_n 1, 1) := by decide +kernel
theorem dL_waiting_4 : decode c_L_waiting 4 = .ok (.invokevirtual 42, 3) := by decide +kernel
theorem dL_waiting_7 : decode c_L_waiting 7 = .ok (.i2l, 1) := by decide +kernel
theorem dL_waiting_8 : decode c_L_waiting 8 = .ok (.lastore, 1) := by decide +kernel
theorem dL_waiting_9 : decode c_L_waiting 9 = .ok (.goto 6, 3) := by decide +kernel
theorem dL_waiting_12 : decode c_L_waiting 12 = .ok (.astore_n 3, 1) := by decide +kernel
theorem dL_waiting_13 : decode c_L_waiting 13 = .ok (.iconst 1, 1) := by decide +kernel
theorem dL_waiting_14 : decode c_L_waiting 14 = .ok (.ireturn, 1) := by decide +kernel
theorem dL_waiting_15 : decode c_L_waiting 15 = .ok (.iconst 0, 1) := by decide +kernel
theorem dL_waiting_16 : decode c_L_waiting 16 = .ok (.ireturn, 1) := by decide +kernel
theorem dL_figure_0 : decode c_L_figure 0 = .ok (.aload_n 2, 1) := by decide +kernel
theorem dL_figure_1 : decode c_L_figure 1 = .ok (.iconst 0, 1) := by decide +kernel
theorem dL_figure_2 : decode c_L_figure 2 = .ok (.aload_n 0, 1) := by decide +kernel
theorem dL_figure_3 : decode c_L_figure 3 = .ok (.iload_n 1, 1) := by decide +kernel
theorem dL_figure_4 : decode c_L_figure 4 = .ok (.invokevirtual 45, 3) := by decide +kernel
theorem dL_figure_7 : decode c_L_figure 7 = .ok (.i2l, 1) := by decide +kernel
theorem dL_figure_8 : decode c_L_figure 8 = .ok (.lastore, 1) := by decide +kernel
theorem dL_figure_9 : decode c_L_figure 9 = .ok (.goto 6, 3) := by decide +kernel
theorem dL_figure_12 : decode c_L_figure 12 = .ok (.astore_n 3, 1) := by decide +kernel
theorem dL_figure_13 : decode c_L_figure 13 = .ok (.iconst 1, 1) := by decide +kernel
theorem dL_figure_14 : decode c_L_figure 14 = .ok (.ireturn, 1) := by decide +kernel
theorem dL_figure_15 : decode c_L_figure 15 = .ok (.iconst 0, 1) := by decide +kernel
theorem dL_figure_16 : decode c_L_figure 16 = .ok (.ireturn, 1) := by decide +kernel
theorem dL_check_0 : decode c_L_check 0 = .ok (.aload 4, 2) := by decide +kernel
theorem dL_check_2 : decode c_L_check 2 = .ok (.iconst 0, 1) := by decide +kernel
theorem dL_check_3 : decode c_L_check 3 = .ok (.aload_n 0, 1) := by decide +kernel
theorem dL_check_4 : decode c_L_check 4 = .ok (.iload_n 1, 1) := by decide +kernel
theorem dL_check_5 : decode c_L_check 5 = .ok (.iload_n 2, 1) := by decide +kernel
theorem dL_check_6 : decode c_L_check 6 = .ok (.iload_n 3, 1) := by decide +kernel
theorem dL_check_7 : decode c_L_check 7 = .ok (.invokevirtual 48, 3) := by decide +kernel
theorem dL_check_10 : decode c_L_check 10 = .ok (.i2l, 1) := by decide +kernel
theorem dL_check_11 : decode c_L_check 11 = .ok (.lastore, 1) := by decide +kernel
theorem dL_check_12 : decode c_L_check 12 = .ok (.goto 7, 3) := by decide +kernel
theorem dL_check_15 : decode c_L_check 15 = .ok (.astore 5, 2) := by decide +kernel
theorem dL_check_17 : decode c_L_check 17 = .ok (.iconst 1, 1) := by decide +kernel
theorem dL_check_18 : decode c_L_check 18 = .ok (.ireturn, 1) := by decide +kernel
theorem dL_check_19 : decode c_L_check 19 = .ok (.iconst 0, 1) := by decide +kernel
theorem dL_check_20 : decode c_L_check 20 = .ok (.ireturn, 1) := by decide +kernel
theorem dL_pause_0 : decode c_L_pause 0 = .ok (.aload_n 2, 1) := by decide +kernel
theorem dL_pause_1 : decode c_L_pause 1 = .ok (.iconst 0, 1) := by decide +kernel
theorem dL_pause_2 : decode c_L_pause 2 = .ok (.aload_n 0, 1) := by decide +kernel
theorem dL_pause_3 : decode c_L_pause 3 = .ok (.iload_n 1, 1) := by decide +kernel
theorem dL_pause_4 : decode c_L_pause 4 = .ok (.invokevirtual 51, 3) := by decide +kernel
theorem dL_pause_7 : decode c_L_pause 7 = .ok (.i2l, 1) := by decide +kernel
theorem dL_pause_8 : decode c_L_pause 8 = .ok (.lastore, 1) := by decide +kernel
theorem dL_pause_9 : decode c_L_pause 9 = .ok (.goto 6, 3) := by decide +kernel
theorem dL_pause_12 : decode c_L_pause 12 = .ok (.astore_n 3, 1) := by decide +kernel
theorem dL_pause_13 : decode c_L_pause 13 = .ok (.iconst 1, 1) := by decide +kernel
theorem dL_pause_14 : decode c_L_pause 14 = .ok (.ireturn, 1) := by decide +kernel
theorem dL_pause_15 : decode c_L_pause 15 = .ok (.iconst 0, 1) := by decide +kernel
theorem dL_pause_16 : decode c_L_pause 16 = .ok (.ireturn, 1) := by decide +kernel
theorem lL_7 : Cond.methodLink "BankSchedulerLaw" 7 y_B_time ∈ wsB := (kn_2 7 rfl rfl)
theorem lL_19 : Cond.methodLink "BankSchedulerLaw" 19 y_B_read ∈ wsB := (kn_2 119 rfl rfl)
theorem lL_23 : Cond.methodLink "BankSchedulerLaw" 23 y_B_write ∈ wsB := (kn_2 151 rfl rfl)
theorem lL_27 : Cond.methodLink "BankSchedulerLaw" 27 y_B_run ∈ wsB := (kn_2 158 rfl rfl)
theorem lL_31 : Cond.methodLink "BankSchedulerLaw" 31 y_B_result ∈ wsB := (kn_2 168 rfl rfl)
theorem lL_36 : Cond.methodLink "BankSchedulerLaw" 36 y_B_word ∈ wsB := (kn_2 192 rfl rfl)
theorem lL_39 : Cond.methodLink "BankSchedulerLaw" 39 y_B_open ∈ wsB := (kn_2 199 rfl rfl)
theorem lL_42 : Cond.methodLink "BankSchedulerLaw" 42 y_B_waiting ∈ wsB := (kn_2 207 rfl rfl)
theorem lL_45 : Cond.methodLink "BankSchedulerLaw" 45 y_B_figure ∈ wsB := (kn_2 215 rfl rfl)
theorem lL_48 : Cond.methodLink "BankSchedulerLaw" 48 y_B_check ∈ wsB := (kn_2 223 rfl rfl)
theorem lL_51 : Cond.methodLink "BankSchedulerLaw" 51 y_B_pause ∈ wsB := (kn_3 0 rfl rfl)
theorem lL_54 : Cond.methodLink "BankSchedulerLaw" 54 y_L_cell ∈ wsB := (kn_1 238 rfl rfl)
theorem lL_66 : Cond.methodLink "BankSchedulerLaw" 66 y_L_time ∈ wsB := (kn_2 1 rfl rfl)
theorem lL_69 : Cond.methodLink "BankSchedulerLaw" 69 y_M_time ∈ wsB := (kn_3 98 rfl rfl)
theorem lL_70 : Cond.methodLink "BankSchedulerLaw" 70 y_M_thrown ∈ wsB := (kn_3 94 rfl rfl)
theorem lL_74 : Cond.methodLink "BankSchedulerLaw" 74 y_L_read ∈ wsB := (kn_2 116 rfl rfl)
theorem lL_77 : Cond.methodLink "BankSchedulerLaw" 77 y_M_read ∈ wsB := (kn_3 102 rfl rfl)
theorem lL_78 : Cond.methodLink "BankSchedulerLaw" 78 y_L_write ∈ wsB := (kn_2 148 rfl rfl)
theorem lL_81 : Cond.methodLink "BankSchedulerLaw" 81 y_M_write ∈ wsB := (kn_3 121 rfl rfl)
theorem lL_82 : Cond.methodLink "BankSchedulerLaw" 82 y_B_tick ∈ wsB := (kn_1 147 rfl rfl)
theorem lL_85 : Cond.methodLink "BankSchedulerLaw" 85 y_M_tick ∈ wsB := (kn_3 125 rfl rfl)
theorem lL_86 : Cond.methodLink "BankSchedulerLaw" 86 y_L_run ∈ wsB := (kn_2 155 rfl rfl)
theorem lL_89 : Cond.methodLink "BankSchedulerLaw" 89 y_M_run ∈ wsB := (kn_3 185 rfl rfl)
theorem lL_90 : Cond.methodLink "BankSchedulerLaw" 90 y_L_result ∈ wsB := (kn_2 164 rfl rfl)
theorem lL_92 : Cond.methodLink "BankSchedulerLaw" 92 y_M_result ∈ wsB := (kn_3 189 rfl rfl)
theorem lL_93 : Cond.methodLink "BankSchedulerLaw" 93 y_L_word ∈ wsB := (kn_2 189 rfl rfl)
theorem lL_95 : Cond.methodLink "BankSchedulerLaw" 95 y_M_word ∈ wsB := (kn_3 193 rfl rfl)
theorem lL_96 : Cond.methodLink "BankSchedulerLaw" 96 y_L_open ∈ wsB := (kn_2 196 rfl rfl)
theorem lL_98 : Cond.methodLink "BankSchedulerLaw" 98 y_M_open ∈ wsB := (kn_3 197 rfl rfl)
theorem lL_99 : Cond.methodLink "BankSchedulerLaw" 99 y_L_waiting ∈ wsB := (kn_2 204 rfl rfl)
theorem lL_101 : Cond.methodLink "BankSchedulerLaw" 101 y_M_waiting ∈ wsB := (kn_3 201 rfl rfl)
theorem lL_102 : Cond.methodLink "BankSchedulerLaw" 102 y_L_figure ∈ wsB := (kn_2 212 rfl rfl)
theorem lL_104 : Cond.methodLink "BankSchedulerLaw" 104 y_M_figure ∈ wsB := (kn_3 205 rfl rfl)
theorem lL_105 : Cond.methodLink "BankSchedulerLaw" 105 y_L_check ∈ wsB := (kn_2 220 rfl rfl)
theorem lL_107 : Cond.methodLink "BankSchedulerLaw" 107 y_M_check ∈ wsB := (kn_3 209 rfl rfl)
theorem lL_108 : Cond.methodLink "BankSchedulerLaw" 108 y_L_pause ∈ wsB := (kn_2 237 rfl rfl)
theorem lL_110 : Cond.methodLink "BankSchedulerLaw" 110 y_M_pause ∈ wsB := (kn_3 217 rfl rfl)
theorem jL_13 : Cond.classLink "BankSchedulerLaw" 13 "java/lang/IndexOutOfBoundsException" ∈ wsB := (kn_2 4 rfl rfl)
theorem jL_15 : Cond.classLink "BankSchedulerLaw" 15 "java/lang/IllegalArgumentException" ∈ wsB := (kn_2 5 rfl rfl)
theorem jL_17 : Cond.classLink "BankSchedulerLaw" 17 "java/lang/IllegalStateException" ∈ wsB := (kn_2 6 rfl rfl)
theorem jL_34 : Cond.classLink "BankSchedulerLaw" 34 "java/lang/UnsupportedOperationException" ∈ wsB := (kn_2 167 rfl rfl)
abbrev rm_L_time : Room := { frames := 7, cells := 0, slots := 0, locals := 113 }
abbrev rmx_L_time : Room := { frames := 7, cells := 1, slots := 6, locals := 113 }
def hh_L_time : List (Nat × Nat × Nat × Nat) := [(0, 10, 13, 13), (0, 10, 17, 15), (0, 10, 21, 17)]
abbrev rm_L_read : Room := { frames := 8, cells := 0, slots := 0, locals := 136 }
abbrev rmx_L_read : Room := { frames := 8, cells := 1, slots := 6, locals := 136 }
def hh_L_read : List (Nat × Nat × Nat × Nat) := [(0, 12, 15, 13), (0, 12, 19, 17)]
abbrev rm_L_write : Room := { frames := 8, cells := 0, slots := 0, locals := 137 }
abbrev rmx_L_write : Room := { frames := 8, cells := 1, slots := 6, locals := 137 }
def hh_L_write : List (Nat × Nat × Nat × Nat) := [(0, 14, 17, 13), (0, 14, 21, 17)]
abbrev rm_L_run : Room := { frames := 7, cells := 0, slots := 0, locals := 155 }
abbrev rmx_L_run : Room := { frames := 7, cells := 1, slots := 6, locals := 155 }
def hh_L_run : List (Nat × Nat × Nat × Nat) := [(0, 9, 12, 15)]
abbrev rm_L_result : Room := { frames := 7, cells := 0, slots := 0, locals := 112 }
abbrev rmx_L_result : Room := { frames := 7, cells := 1, slots := 6, locals := 112 }
def hh_L_result : List (Nat × Nat × Nat × Nat) := [(0, 9, 12, 34), (0, 9, 15, 17)]
abbrev rm_L_word : Room := { frames := 8, cells := 0, slots := 0, locals := 136 }
abbrev rmx_L_word : Room := { frames := 8, cells := 1, slots := 6, locals := 136 }
def hh_L_word : List (Nat × Nat × Nat × Nat) := [(0, 12, 15, 13)]
abbrev rm_L_open : Room := { frames := 7, cells := 0, slots := 0, locals := 111 }
abbrev rmx_L_open : Room := { frames := 7, cells := 1, slots := 6, locals := 111 }
def hh_L_open : List (Nat × Nat × Nat × Nat) := [(0, 9, 12, 13)]
abbrev rm_L_waiting : Room := { frames := 7, cells := 0, slots := 0, locals := 111 }
abbrev rmx_L_waiting : Room := { frames := 7, cells := 1, slots := 6, locals := 111 }
def hh_L_waiting : List (Nat × Nat × Nat × Nat) := [(0, 9, 12, 13)]
abbrev rm_L_figure : Room := { frames := 7, cells := 0, slots := 0, locals := 111 }
abbrev rmx_L_figure : Room := { frames := 7, cells := 1, slots := 6, locals := 111 }
def hh_L_figure : List (Nat × Nat × Nat × Nat) := [(0, 9, 12, 15)]
abbrev rm_L_check : Room := { frames := 7, cells := 0, slots := 0, locals := 114 }
abbrev rmx_L_check : Room := { frames := 7, cells := 1, slots := 6, locals := 114 }
def hh_L_check : List (Nat × Nat × Nat × Nat) := [(0, 12, 15, 13)]
abbrev rm_L_pause : Room := { frames := 7, cells := 0, slots := 0, locals := 111 }
abbrev rmx_L_pause : Room := { frames := 7, cells := 1, slots := 6, locals := 111 }
def hh_L_pause : List (Nat × Nat × Nat × Nat) := [(0, 9, 12, 15)]
