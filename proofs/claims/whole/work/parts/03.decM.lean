theorem dM_thrown_0 : decode c_M_thrown 0 = .ok (.aload_n 0, 1) := by decide +kernel
theorem dM_thrown_1 : decode c_M_thrown 1 = .ok (.getfield 81, 3) := by decide +kernel
theorem dM_thrown_4 : decode c_M_thrown 4 = .ok (.ireturn, 1) := by decide +kernel
theorem dM_time_0 : decode c_M_time 0 = .ok (.iload_n 1, 1) := by decide +kernel
theorem dM_time_1 : decode c_M_time 1 = .ok (.ifCond .lt 13, 3) := by decide +kernel
theorem dM_time_4 : decode c_M_time 4 = .ok (.iload_n 1, 1) := by decide +kernel
theorem dM_time_5 : decode c_M_time 5 = .ok (.bipush 12, 2) := by decide +kernel
theorem dM_time_7 : decode c_M_time 7 = .ok (.if_icmp .ge 7, 3) := by decide +kernel
theorem dM_time_10 : decode c_M_time 10 = .ok (.iconst 1, 1) := by decide +kernel
theorem dM_time_11 : decode c_M_time 11 = .ok (.goto 4, 3) := by decide +kernel
theorem dM_time_14 : decode c_M_time 14 = .ok (.iconst 0, 1) := by decide +kernel
theorem dM_time_15 : decode c_M_time 15 = .ok (.istore_n 3, 1) := by decide +kernel
theorem dM_time_16 : decode c_M_time 16 = .ok (.iload_n 1, 1) := by decide +kernel
theorem dM_time_17 : decode c_M_time 17 = .ok (.bipush 10, 2) := by decide +kernel
theorem dM_time_19 : decode c_M_time 19 = .ok (.if_icmp .ne 24, 3) := by decide +kernel
theorem dM_time_22 : decode c_M_time 22 = .ok (.iload_n 2, 1) := by decide +kernel
theorem dM_time_23 : decode c_M_time 23 = .ok (.bipush 20, 2) := by decide +kernel
theorem dM_time_25 : decode c_M_time 25 = .ok (.if_icmp .lt 14, 3) := by decide +kernel
theorem dM_time_28 : decode c_M_time 28 = .ok (.iload_n 2, 1) := by decide +kernel
theorem dM_time_29 : decode c_M_time 29 = .ok (.sipush 200, 3) := by decide +kernel
theorem dM_time_32 : decode c_M_time 32 = .ok (.if_icmp .gt 7, 3) := by decide +kernel
theorem dM_time_35 : decode c_M_time 35 = .ok (.iconst 1, 1) := by decide +kernel
theorem dM_time_36 : decode c_M_time 36 = .ok (.goto 23, 3) := by decide +kernel
theorem dM_time_39 : decode c_M_time 39 = .ok (.iconst 0, 1) := by decide +kernel
theorem dM_time_40 : decode c_M_time 40 = .ok (.goto 19, 3) := by decide +kernel
theorem dM_time_43 : decode c_M_time 43 = .ok (.iload_n 2, 1) := by decide +kernel
theorem dM_time_44 : decode c_M_time 44 = .ok (.iconst 1, 1) := by decide +kernel
theorem dM_time_45 : decode c_M_time 45 = .ok (.if_icmp .lt 13, 3) := by decide +kernel
theorem dM_time_48 : decode c_M_time 48 = .ok (.iload_n 2, 1) := by decide +kernel
theorem dM_time_49 : decode c_M_time 49 = .ok (.bipush 20, 2) := by decide +kernel
theorem dM_time_51 : decode c_M_time 51 = .ok (.if_icmp .gt 7, 3) := by decide +kernel
theorem dM_time_54 : decode c_M_time 54 = .ok (.iconst 1, 1) := by decide +kernel
theorem dM_time_55 : decode c_M_time 55 = .ok (.goto 4, 3) := by decide +kernel
theorem dM_time_58 : decode c_M_time 58 = .ok (.iconst 0, 1) := by decide +kernel
theorem dM_time_59 : decode c_M_time 59 = .ok (.istore 4, 2) := by decide +kernel
theorem dM_time_61 : decode c_M_time 61 = .ok (.aload_n 0, 1) := by decide +kernel
theorem dM_time_62 : decode c_M_time 62 = .ok (.iload_n 3, 1) := by decide +kernel
theorem dM_time_63 : decode c_M_time 63 = .ok (.ifCond .ne 7, 3) := by decide +kernel
theorem dM_time_66 : decode c_M_time 66 = .ok (.iconst 1, 1) := by decide +kernel
theorem dM_time_67 : decode c_M_time 67 = .ok (.goto 26, 3) := by decide +kernel
theorem dM_time_70 : decode c_M_time 70 = .ok (.iload 4, 2) := by decide +kernel
theorem dM_time_72 : decode c_M_time 72 = .ok (.ifCond .ne 7, 3) := by decide +kernel
theorem dM_time_75 : decode c_M_time 75 = .ok (.iconst 2, 1) := by decide +kernel
theorem dM_time_76 : decode c_M_time 76 = .ok (.goto 17, 3) := by decide +kernel
theorem dM_time_79 : decode c_M_time 79 = .ok (.aload_n 0, 1) := by decide +kernel
theorem dM_time_80 : decode c_M_time 80 = .ok (.getfield 34, 3) := by decide +kernel
theorem dM_time_83 : decode c_M_time 83 = .ok (.iconst 0, 1) := by decide +kernel
theorem dM_time_84 : decode c_M_time 84 = .ok (.iaload, 1) := by decide +kernel
theorem dM_time_85 : decode c_M_time 85 = .ok (.ifCond .le 7, 3) := by decide +kernel
theorem dM_time_88 : decode c_M_time 88 = .ok (.iconst 3, 1) := by decide +kernel
theorem dM_time_89 : decode c_M_time 89 = .ok (.goto 4, 3) := by decide +kernel
theorem dM_time_92 : decode c_M_time 92 = .ok (.iconst 0, 1) := by decide +kernel
theorem dM_time_93 : decode c_M_time 93 = .ok (.putfield 81, 3) := by decide +kernel
theorem dM_time_96 : decode c_M_time 96 = .ok (.aload_n 0, 1) := by decide +kernel
theorem dM_time_97 : decode c_M_time 97 = .ok (.getfield 81, 3) := by decide +kernel
theorem dM_time_100 : decode c_M_time 100 = .ok (.ifCond .eq 5, 3) := by decide +kernel
theorem dM_time_103 : decode c_M_time 103 = .ok (.iconst 0, 1) := by decide +kernel
theorem dM_time_104 : decode c_M_time 104 = .ok (.ireturn, 1) := by decide +kernel
theorem dM_time_105 : decode c_M_time 105 = .ok (.aload_n 0, 1) := by decide +kernel
theorem dM_time_106 : decode c_M_time 106 = .ok (.getfield 7, 3) := by decide +kernel
theorem dM_time_109 : decode c_M_time 109 = .ok (.iload_n 1, 1) := by decide +kernel
theorem dM_time_110 : decode c_M_time 110 = .ok (.iaload, 1) := by decide +kernel
theorem dM_time_111 : decode c_M_time 111 = .ok (.istore 5, 2) := by decide +kernel
theorem dM_time_113 : decode c_M_time 113 = .ok (.aload_n 0, 1) := by decide +kernel
theorem dM_time_114 : decode c_M_time 114 = .ok (.getfield 7, 3) := by decide +kernel
theorem dM_time_117 : decode c_M_time 117 = .ok (.iload_n 1, 1) := by decide +kernel
theorem dM_time_118 : decode c_M_time 118 = .ok (.iload_n 2, 1) := by decide +kernel
theorem dM_time_119 : decode c_M_time 119 = .ok (.iastore, 1) := by decide +kernel
theorem dM_time_120 : decode c_M_time 120 = .ok (.iload 5, 2) := by decide +kernel
theorem dM_time_122 : decode c_M_time 122 = .ok (.ireturn, 1) := by decide +kernel
theorem dM_early_0 : decode c_M_early 0 = .ok (.iload_n 2, 1) := by decide +kernel
theorem dM_early_1 : decode c_M_early 1 = .ok (.ifCond .lt 24, 3) := by decide +kernel
theorem dM_early_4 : decode c_M_early 4 = .ok (.aload_n 0, 1) := by decide +kernel
theorem dM_early_5 : decode c_M_early 5 = .ok (.getfield 34, 3) := by decide +kernel
theorem dM_early_8 : decode c_M_early 8 = .ok (.iload_n 1, 1) := by decide +kernel
theorem dM_early_9 : decode c_M_early 9 = .ok (.iaload, 1) := by decide +kernel
theorem dM_early_10 : decode c_M_early 10 = .ok (.iload_n 2, 1) := by decide +kernel
theorem dM_early_11 : decode c_M_early 11 = .ok (.isub, 1) := by decide +kernel
theorem dM_early_12 : decode c_M_early 12 = .ok (.aload_n 0, 1) := by decide +kernel
theorem dM_early_13 : decode c_M_early 13 = .ok (.getfield 7, 3) := by decide +kernel
theorem dM_early_16 : decode c_M_early 16 = .ok (.iload_n 3, 1) := by decide +kernel
theorem dM_early_17 : decode c_M_early 17 = .ok (.iaload, 1) := by decide +kernel
theorem dM_early_18 : decode c_M_early 18 = .ok (.if_icmp .ge 7, 3) := by decide +kernel
theorem dM_early_21 : decode c_M_early 21 = .ok (.iconst 1, 1) := by decide +kernel
theorem dM_early_22 : decode c_M_early 22 = .ok (.goto 4, 3) := by decide +kernel
theorem dM_early_25 : decode c_M_early 25 = .ok (.iconst 0, 1) := by decide +kernel
theorem dM_early_26 : decode c_M_early 26 = .ok (.ireturn, 1) := by decide +kernel
theorem dM_brokenOpen_0 : decode c_M_brokenOpen 0 = .ok (.bipush 8, 2) := by decide +kernel
theorem dM_brokenOpen_2 : decode c_M_brokenOpen 2 = .ok (.iload_n 1, 1) := by decide +kernel
theorem dM_brokenOpen_3 : decode c_M_brokenOpen 3 = .ok (.imul, 1) := by decide +kernel
theorem dM_brokenOpen_4 : decode c_M_brokenOpen 4 = .ok (.iload_n 2, 1) := by decide +kernel
theorem dM_brokenOpen_5 : decode c_M_brokenOpen 5 = .ok (.iadd, 1) := by decide +kernel
theorem dM_brokenOpen_6 : decode c_M_brokenOpen 6 = .ok (.istore_n 3, 1) := by decide +kernel
theorem dM_brokenOpen_7 : decode c_M_brokenOpen 7 = .ok (.iconst (-1), 1) := by decide +kernel
theorem dM_brokenOpen_8 : decode c_M_brokenOpen 8 = .ok (.istore 4, 2) := by decide +kernel
theorem dM_brokenOpen_10 : decode c_M_brokenOpen 10 = .ok (.iconst 0, 1) := by decide +kernel
theorem dM_brokenOpen_11 : decode c_M_brokenOpen 11 = .ok (.istore 5, 2) := by decide +kernel
theorem dM_brokenOpen_13 : decode c_M_brokenOpen 13 = .ok (.iload 5, 2) := by decide +kernel
theorem dM_brokenOpen_15 : decode c_M_brokenOpen 15 = .ok (.aload_n 0, 1) := by decide +kernel
theorem dM_brokenOpen_16 : decode c_M_brokenOpen 16 = .ok (.getfield 71, 3) := by decide +kernel
theorem dM_brokenOpen_19 : decode c_M_brokenOpen 19 = .ok (.if_icmp .ge 45, 3) := by decide +kernel
theorem dM_brokenOpen_22 : decode c_M_brokenOpen 22 = .ok (.aload_n 0, 1) := by decide +kernel
theorem dM_brokenOpen_23 : decode c_M_brokenOpen 23 = .ok (.getfield 16, 3) := by decide +kernel
theorem dM_brokenOpen_26 : decode c_M_brokenOpen 26 = .ok (.bipush 8, 2) := by decide +kernel
theorem dM_brokenOpen_28 : decode c_M_brokenOpen 28 = .ok (.iload_n 1, 1) := by decide +kernel
theorem dM_brokenOpen_29 : decode c_M_brokenOpen 29 = .ok (.imul, 1) := by decide +kernel
theorem dM_brokenOpen_30 : decode c_M_brokenOpen 30 = .ok (.iload 5, 2) := by decide +kernel
theorem dM_brokenOpen_32 : decode c_M_brokenOpen 32 = .ok (.iadd, 1) := by decide +kernel
theorem dM_brokenOpen_33 : decode c_M_brokenOpen 33 = .ok (.iaload, 1) := by decide +kernel
theorem dM_brokenOpen_34 : decode c_M_brokenOpen 34 = .ok (.istore 6, 2) := by decide +kernel
theorem dM_brokenOpen_36 : decode c_M_brokenOpen 36 = .ok (.iload 5, 2) := by decide +kernel
theorem dM_brokenOpen_38 : decode c_M_brokenOpen 38 = .ok (.iload_n 2, 1) := by decide +kernel
theorem dM_brokenOpen_39 : decode c_M_brokenOpen 39 = .ok (.if_icmp .eq 15, 3) := by decide +kernel
theorem dM_brokenOpen_42 : decode c_M_brokenOpen 42 = .ok (.iload 6, 2) := by decide +kernel
theorem dM_brokenOpen_44 : decode c_M_brokenOpen 44 = .ok (.iload 4, 2) := by decide +kernel
theorem dM_brokenOpen_46 : decode c_M_brokenOpen 46 = .ok (.if_icmp .le 8, 3) := by decide +kernel
theorem dM_brokenOpen_49 : decode c_M_brokenOpen 49 = .ok (.iload 6, 2) := by decide +kernel
theorem dM_brokenOpen_51 : decode c_M_brokenOpen 51 = .ok (.goto 5, 3) := by decide +kernel
theorem dM_brokenOpen_54 : decode c_M_brokenOpen 54 = .ok (.iload 4, 2) := by decide +kernel
theorem dM_brokenOpen_56 : decode c_M_brokenOpen 56 = .ok (.istore 4, 2) := by decide +kernel
theorem dM_brokenOpen_58 : decode c_M_brokenOpen 58 = .ok (.iinc 5 1, 3) := by decide +kernel
theorem dM_brokenOpen_61 : decode c_M_brokenOpen 61 = .ok (.goto (-48), 3) := by decide +kernel
theorem dM_brokenOpen_64 : decode c_M_brokenOpen 64 = .ok (.aload_n 0, 1) := by decide +kernel
theorem dM_brokenOpen_65 : decode c_M_brokenOpen 65 = .ok (.getfield 13, 3) := by decide +kernel
theorem dM_brokenOpen_68 : decode c_M_brokenOpen 68 = .ok (.iload_n 3, 1) := by decide +kernel
theorem dM_brokenOpen_69 : decode c_M_brokenOpen 69 = .ok (.iaload, 1) := by decide +kernel
theorem dM_brokenOpen_70 : decode c_M_brokenOpen 70 = .ok (.ifCond .lt 5, 3) := by decide +kernel
theorem dM_brokenOpen_73 : decode c_M_brokenOpen 73 = .ok (.iconst 1, 1) := by decide +kernel
theorem dM_brokenOpen_74 : decode c_M_brokenOpen 74 = .ok (.ireturn, 1) := by decide +kernel
theorem dM_brokenOpen_75 : decode c_M_brokenOpen 75 = .ok (.aload_n 0, 1) := by decide +kernel
theorem dM_brokenOpen_76 : decode c_M_brokenOpen 76 = .ok (.iload_n 1, 1) := by decide +kernel
theorem dM_brokenOpen_77 : decode c_M_brokenOpen 77 = .ok (.aload_n 0, 1) := by decide +kernel
theorem dM_brokenOpen_78 : decode c_M_brokenOpen 78 = .ok (.getfield 19, 3) := by decide +kernel
theorem dM_brokenOpen_81 : decode c_M_brokenOpen 81 = .ok (.iload_n 3, 1) := by decide +kernel
theorem dM_brokenOpen_82 : decode c_M_brokenOpen 82 = .ok (.iaload, 1) := by decide +kernel
theorem dM_brokenOpen_83 : decode c_M_brokenOpen 83 = .ok (.iconst 1, 1) := by decide +kernel
theorem dM_brokenOpen_84 : decode c_M_brokenOpen 84 = .ok (.invokevirtual 84, 3) := by decide +kernel
theorem dM_brokenOpen_87 : decode c_M_brokenOpen 87 = .ok (.ifCond .eq 5, 3) := by decide +kernel
theorem dM_brokenOpen_90 : decode c_M_brokenOpen 90 = .ok (.iconst 2, 1) := by decide +kernel
theorem dM_brokenOpen_91 : decode c_M_brokenOpen 91 = .ok (.ireturn, 1) := by decide +kernel
theorem dM_brokenOpen_92 : decode c_M_brokenOpen 92 = .ok (.aload_n 0, 1) := by decide +kernel
theorem dM_brokenOpen_93 : decode c_M_brokenOpen 93 = .ok (.iload_n 1, 1) := by decide +kernel
theorem dM_brokenOpen_94 : decode c_M_brokenOpen 94 = .ok (.aload_n 0, 1) := by decide +kernel
theorem dM_brokenOpen_95 : decode c_M_brokenOpen 95 = .ok (.getfield 16, 3) := by decide +kernel
theorem dM_brokenOpen_98 : decode c_M_brokenOpen 98 = .ok (.iload_n 3, 1) := by decide +kernel
theorem dM_brokenOpen_99 : decode c_M_brokenOpen 99 = .ok (.iaload, 1) := by decide +kernel
theorem dM_brokenOpen_100 : decode c_M_brokenOpen 100 = .ok (.iconst 3, 1) := by decide +kernel
theorem dM_brokenOpen_101 : decode c_M_brokenOpen 101 = .ok (.invokevirtual 84, 3) := by decide +kernel
theorem dM_brokenOpen_104 : decode c_M_brokenOpen 104 = .ok (.ifCond .eq 5, 3) := by decide +kernel
theorem dM_brokenOpen_107 : decode c_M_brokenOpen 107 = .ok (.iconst 3, 1) := by decide +kernel
theorem dM_brokenOpen_108 : decode c_M_brokenOpen 108 = .ok (.ireturn, 1) := by decide +kernel
theorem dM_brokenOpen_109 : decode c_M_brokenOpen 109 = .ok (.aload_n 0, 1) := by decide +kernel
theorem dM_brokenOpen_110 : decode c_M_brokenOpen 110 = .ok (.iload_n 1, 1) := by decide +kernel
theorem dM_brokenOpen_111 : decode c_M_brokenOpen 111 = .ok (.iload 4, 2) := by decide +kernel
theorem dM_brokenOpen_113 : decode c_M_brokenOpen 113 = .ok (.bipush 7, 2) := by decide +kernel
theorem dM_brokenOpen_115 : decode c_M_brokenOpen 115 = .ok (.invokevirtual 84, 3) := by decide +kernel
theorem dM_brokenOpen_118 : decode c_M_brokenOpen 118 = .ok (.ifCond .eq 5, 3) := by decide +kernel
theorem dM_brokenOpen_121 : decode c_M_brokenOpen 121 = .ok (.iconst 4, 1) := by decide +kernel
theorem dM_brokenOpen_122 : decode c_M_brokenOpen 122 = .ok (.ireturn, 1) := by decide +kernel
theorem dM_brokenOpen_123 : decode c_M_brokenOpen 123 = .ok (.aload_n 0, 1) := by decide +kernel
theorem dM_brokenOpen_124 : decode c_M_brokenOpen 124 = .ok (.iload_n 1, 1) := by decide +kernel
theorem dM_brokenOpen_125 : decode c_M_brokenOpen 125 = .ok (.aload_n 0, 1) := by decide +kernel
theorem dM_brokenOpen_126 : decode c_M_brokenOpen 126 = .ok (.getfield 28, 3) := by decide +kernel
theorem dM_brokenOpen_129 : decode c_M_brokenOpen 129 = .ok (.iconst 4, 1) := by decide +kernel
theorem dM_brokenOpen_130 : decode c_M_brokenOpen 130 = .ok (.iload_n 1, 1) := by decide +kernel
theorem dM_brokenOpen_131 : decode c_M_brokenOpen 131 = .ok (.imul, 1) := by decide +kernel
theorem dM_brokenOpen_132 : decode c_M_brokenOpen 132 = .ok (.iconst 3, 1) := by decide +kernel
theorem dM_brokenOpen_133 : decode c_M_brokenOpen 133 = .ok (.iadd, 1) := by decide +kernel
theorem dM_brokenOpen_134 : decode c_M_brokenOpen 134 = .ok (.iaload, 1) := by decide +kernel
theorem dM_brokenOpen_135 : decode c_M_brokenOpen 135 = .ok (.bipush 8, 2) := by decide +kernel
theorem dM_brokenOpen_137 : decode c_M_brokenOpen 137 = .ok (.invokevirtual 84, 3) := by decide +kernel
theorem dM_brokenOpen_140 : decode c_M_brokenOpen 140 = .ok (.ifCond .eq 5, 3) := by decide +kernel
theorem dM_brokenOpen_143 : decode c_M_brokenOpen 143 = .ok (.iconst 5, 1) := by decide +kernel
theorem dM_brokenOpen_144 : decode c_M_brokenOpen 144 = .ok (.ireturn, 1) := by decide +kernel
theorem dM_brokenOpen_145 : decode c_M_brokenOpen 145 = .ok (.aload_n 0, 1) := by decide +kernel
theorem dM_brokenOpen_146 : decode c_M_brokenOpen 146 = .ok (.iload_n 1, 1) := by decide +kernel
theorem dM_brokenOpen_147 : decode c_M_brokenOpen 147 = .ok (.aload_n 0, 1) := by decide +kernel
theorem dM_brokenOpen_148 : decode c_M_brokenOpen 148 = .ok (.getfield 31, 3) := by decide +kernel
theorem dM_brokenOpen_151 : decode c_M_brokenOpen 151 = .ok (.iload_n 1, 1) := by decide +kernel
theorem dM_brokenOpen_152 : decode c_M_brokenOpen 152 = .ok (.iaload, 1) := by decide +kernel
theorem dM_brokenOpen_153 : decode c_M_brokenOpen 153 = .ok (.bipush 9, 2) := by decide +kernel
theorem dM_brokenOpen_155 : decode c_M_brokenOpen 155 = .ok (.invokevirtual 84, 3) := by decide +kernel
theorem dM_brokenOpen_158 : decode c_M_brokenOpen 158 = .ok (.ifCond .eq 8, 3) := by decide +kernel
theorem dM_brokenOpen_161 : decode c_M_brokenOpen 161 = .ok (.bipush 6, 2) := by decide +kernel
theorem dM_brokenOpen_163 : decode c_M_brokenOpen 163 = .ok (.goto 4, 3) := by decide +kernel
theorem dM_brokenOpen_166 : decode c_M_brokenOpen 166 = .ok (.iconst 0, 1) := by decide +kernel
theorem dM_brokenOpen_167 : decode c_M_brokenOpen 167 = .ok (.ireturn, 1) := by decide +kernel
theorem dM_brokenClose_0 : decode c_M_brokenClose 0 = .ok (.bipush 8, 2) := by decide +kernel
theorem dM_brokenClose_2 : decode c_M_brokenClose 2 = .ok (.iload_n 1, 1) := by decide +kernel
theorem dM_brokenClose_3 : decode c_M_brokenClose 3 = .ok (.imul, 1) := by decide +kernel
theorem dM_brokenClose_4 : decode c_M_brokenClose 4 = .ok (.iload_n 2, 1) := by decide +kernel
theorem dM_brokenClose_5 : decode c_M_brokenClose 5 = .ok (.iadd, 1) := by decide +kernel
theorem dM_brokenClose_6 : decode c_M_brokenClose 6 = .ok (.istore_n 3, 1) := by decide +kernel
theorem dM_brokenClose_7 : decode c_M_brokenClose 7 = .ok (.aload_n 0, 1) := by decide +kernel
theorem dM_brokenClose_8 : decode c_M_brokenClose 8 = .ok (.getfield 13, 3) := by decide +kernel
theorem dM_brokenClose_11 : decode c_M_brokenClose 11 = .ok (.iload_n 3, 1) := by decide +kernel
theorem dM_brokenClose_12 : decode c_M_brokenClose 12 = .ok (.iaload, 1) := by decide +kernel
theorem dM_brokenClose_13 : decode c_M_brokenClose 13 = .ok (.ifCond .ge 6, 3) := by decide +kernel
theorem dM_brokenClose_16 : decode c_M_brokenClose 16 = .ok (.bipush 7, 2) := by decide +kernel
theorem dM_brokenClose_18 : decode c_M_brokenClose 18 = .ok (.ireturn, 1) := by decide +kernel
theorem dM_brokenClose_19 : decode c_M_brokenClose 19 = .ok (.aload_n 0, 1) := by decide +kernel
theorem dM_brokenClose_20 : decode c_M_brokenClose 20 = .ok (.iload_n 1, 1) := by decide +kernel
theorem dM_brokenClose_21 : decode c_M_brokenClose 21 = .ok (.aload_n 0, 1) := by decide +kernel
theorem dM_brokenClose_22 : decode c_M_brokenClose 22 = .ok (.getfield 16, 3) := by decide +kernel
theorem dM_brokenClose_25 : decode c_M_brokenClose 25 = .ok (.iload_n 3, 1) := by decide +kernel
theorem dM_brokenClose_26 : decode c_M_brokenClose 26 = .ok (.iaload, 1) := by decide +kernel
theorem dM_brokenClose_27 : decode c_M_brokenClose 27 = .ok (.iconst 2, 1) := by decide +kernel
theorem dM_brokenClose_28 : decode c_M_brokenClose 28 = .ok (.invokevirtual 84, 3) := by decide +kernel
theorem dM_brokenClose_31 : decode c_M_brokenClose 31 = .ok (.ifCond .eq 6, 3) := by decide +kernel
theorem dM_brokenClose_34 : decode c_M_brokenClose 34 = .ok (.bipush 8, 2) := by decide +kernel
theorem dM_brokenClose_36 : decode c_M_brokenClose 36 = .ok (.ireturn, 1) := by decide +kernel
theorem dM_brokenClose_37 : decode c_M_brokenClose 37 = .ok (.aload_n 0, 1) := by decide +kernel
theorem dM_brokenClose_38 : decode c_M_brokenClose 38 = .ok (.iload_n 1, 1) := by decide +kernel
theorem dM_brokenClose_39 : decode c_M_brokenClose 39 = .ok (.aload_n 0, 1) := by decide +kernel
theorem dM_brokenClose_40 : decode c_M_brokenClose 40 = .ok (.getfield 25, 3) := by decide +kernel
theorem dM_brokenClose_43 : decode c_M_brokenClose 43 = .ok (.iload_n 3, 1) := by decide +kernel
theorem dM_brokenClose_44 : decode c_M_brokenClose 44 = .ok (.iaload, 1) := by decide +kernel
theorem dM_brokenClose_45 : decode c_M_brokenClose 45 = .ok (.iconst 4, 1) := by decide +kernel
theorem dM_brokenClose_46 : decode c_M_brokenClose 46 = .ok (.invokevirtual 84, 3) := by decide +kernel
theorem dM_brokenClose_49 : decode c_M_brokenClose 49 = .ok (.ifCond .eq 6, 3) := by decide +kernel
theorem dM_brokenClose_52 : decode c_M_brokenClose 52 = .ok (.bipush 9, 2) := by decide +kernel
theorem dM_brokenClose_54 : decode c_M_brokenClose 54 = .ok (.ireturn, 1) := by decide +kernel
theorem dM_brokenClose_55 : decode c_M_brokenClose 55 = .ok (.aload_n 0, 1) := by decide +kernel
theorem dM_brokenClose_56 : decode c_M_brokenClose 56 = .ok (.iload_n 1, 1) := by decide +kernel
theorem dM_brokenClose_57 : decode c_M_brokenClose 57 = .ok (.aload_n 0, 1) := by decide +kernel
theorem dM_brokenClose_58 : decode c_M_brokenClose 58 = .ok (.getfield 22, 3) := by decide +kernel
theorem dM_brokenClose_61 : decode c_M_brokenClose 61 = .ok (.iload_n 3, 1) := by decide +kernel
theorem dM_brokenClose_62 : decode c_M_brokenClose 62 = .ok (.iaload, 1) := by decide +kernel
theorem dM_brokenClose_63 : decode c_M_brokenClose 63 = .ok (.iconst 5, 1) := by decide +kernel
theorem dM_brokenClose_64 : decode c_M_brokenClose 64 = .ok (.invokevirtual 84, 3) := by decide +kernel
theorem dM_brokenClose_67 : decode c_M_brokenClose 67 = .ok (.ifCond .eq 8, 3) := by decide +kernel
theorem dM_brokenClose_70 : decode c_M_brokenClose 70 = .ok (.bipush 10, 2) := by decide +kernel
theorem dM_brokenClose_72 : decode c_M_brokenClose 72 = .ok (.goto 4, 3) := by decide +kernel
theorem dM_brokenClose_75 : decode c_M_brokenClose 75 = .ok (.iconst 0, 1) := by decide +kernel
theorem dM_brokenClose_76 : decode c_M_brokenClose 76 = .ok (.ireturn, 1) := by decide +kernel
theorem dM_brokenUse_0 : decode c_M_brokenUse 0 = .ok (.bipush 8, 2) := by decide +kernel
theorem dM_brokenUse_2 : decode c_M_brokenUse 2 = .ok (.iload_n 1, 1) := by decide +kernel
theorem dM_brokenUse_3 : decode c_M_brokenUse 3 = .ok (.imul, 1) := by decide +kernel
theorem dM_brokenUse_4 : decode c_M_brokenUse 4 = .ok (.iload_n 2, 1) := by decide +kernel
theorem dM_brokenUse_5 : decode c_M_brokenUse 5 = .ok (.iadd, 1) := by decide +kernel
theorem dM_brokenUse_6 : decode c_M_brokenUse 6 = .ok (.istore 4, 2) := by decide +kernel
theorem dM_brokenUse_8 : decode c_M_brokenUse 8 = .ok (.iconst (-1), 1) := by decide +kernel
theorem dM_brokenUse_9 : decode c_M_brokenUse 9 = .ok (.istore 5, 2) := by decide +kernel
theorem dM_brokenUse_11 : decode c_M_brokenUse 11 = .ok (.bipush 8, 2) := by decide +kernel
theorem dM_brokenUse_13 : decode c_M_brokenUse 13 = .ok (.iload_n 1, 1) := by decide +kernel
theorem dM_brokenUse_14 : decode c_M_brokenUse 14 = .ok (.imul, 1) := by decide +kernel
theorem dM_brokenUse_15 : decode c_M_brokenUse 15 = .ok (.istore 6, 2) := by decide +kernel
theorem dM_brokenUse_17 : decode c_M_brokenUse 17 = .ok (.iload 6, 2) := by decide +kernel
theorem dM_brokenUse_19 : decode c_M_brokenUse 19 = .ok (.bipush 8, 2) := by decide +kernel
theorem dM_brokenUse_21 : decode c_M_brokenUse 21 = .ok (.iload_n 1, 1) := by decide +kernel
theorem dM_brokenUse_22 : decode c_M_brokenUse 22 = .ok (.imul, 1) := by decide +kernel
theorem dM_brokenUse_23 : decode c_M_brokenUse 23 = .ok (.bipush 8, 2) := by decide +kernel
theorem dM_brokenUse_25 : decode c_M_brokenUse 25 = .ok (.iadd, 1) := by decide +kernel
theorem dM_brokenUse_26 : decode c_M_brokenUse 26 = .ok (.if_icmp .ge 61, 3) := by decide +kernel
theorem dM_brokenUse_29 : decode c_M_brokenUse 29 = .ok (.aload_n 0, 1) := by decide +kernel
theorem dM_brokenUse_30 : decode c_M_brokenUse 30 = .ok (.getfield 22, 3) := by decide +kernel
theorem dM_brokenUse_33 : decode c_M_brokenUse 33 = .ok (.iload 6, 2) := by decide +kernel
theorem dM_brokenUse_35 : decode c_M_brokenUse 35 = .ok (.iaload, 1) := by decide +kernel
theorem dM_brokenUse_36 : decode c_M_brokenUse 36 = .ok (.iload 5, 2) := by decide +kernel
theorem dM_brokenUse_38 : decode c_M_brokenUse 38 = .ok (.if_icmp .le 13, 3) := by decide +kernel
theorem dM_brokenUse_41 : decode c_M_brokenUse 41 = .ok (.aload_n 0, 1) := by decide +kernel
theorem dM_brokenUse_42 : decode c_M_brokenUse 42 = .ok (.getfield 22, 3) := by decide +kernel
theorem dM_brokenUse_45 : decode c_M_brokenUse 45 = .ok (.iload 6, 2) := by decide +kernel
theorem dM_brokenUse_47 : decode c_M_brokenUse 47 = .ok (.iaload, 1) := by decide +kernel
theorem dM_brokenUse_48 : decode c_M_brokenUse 48 = .ok (.goto 5, 3) := by decide +kernel
theorem dM_brokenUse_51 : decode c_M_brokenUse 51 = .ok (.iload 5, 2) := by decide +kernel
theorem dM_brokenUse_53 : decode c_M_brokenUse 53 = .ok (.istore 5, 2) := by decide +kernel
theorem dM_brokenUse_55 : decode c_M_brokenUse 55 = .ok (.aload_n 0, 1) := by decide +kernel
theorem dM_brokenUse_56 : decode c_M_brokenUse 56 = .ok (.getfield 25, 3) := by decide +kernel
theorem dM_brokenUse_59 : decode c_M_brokenUse 59 = .ok (.iload 6, 2) := by decide +kernel
theorem dM_brokenUse_61 : decode c_M_brokenUse 61 = .ok (.iaload, 1) := by decide +kernel
theorem dM_brokenUse_62 : decode c_M_brokenUse 62 = .ok (.iload 5, 2) := by decide +kernel
theorem dM_brokenUse_64 : decode c_M_brokenUse 64 = .ok (.if_icmp .le 13, 3) := by decide +kernel
theorem dM_brokenUse_67 : decode c_M_brokenUse 67 = .ok (.aload_n 0, 1) := by decide +kernel
theorem dM_brokenUse_68 : decode c_M_brokenUse 68 = .ok (.getfield 25, 3) := by decide +kernel
theorem dM_brokenUse_71 : decode c_M_brokenUse 71 = .ok (.iload 6, 2) := by decide +kernel
theorem dM_brokenUse_73 : decode c_M_brokenUse 73 = .ok (.iaload, 1) := by decide +kernel
theorem dM_brokenUse_74 : decode c_M_brokenUse 74 = .ok (.goto 5, 3) := by decide +kernel
theorem dM_brokenUse_77 : decode c_M_brokenUse 77 = .ok (.iload 5, 2) := by decide +kernel
theorem dM_brokenUse_79 : decode c_M_brokenUse 79 = .ok (.istore 5, 2) := by decide +kernel
theorem dM_brokenUse_81 : decode c_M_brokenUse 81 = .ok (.iinc 6 1, 3) := by decide +kernel
theorem dM_brokenUse_84 : decode c_M_brokenUse 84 = .ok (.goto (-67), 3) := by decide +kernel
theorem dM_brokenUse_87 : decode c_M_brokenUse 87 = .ok (.aload_n 0, 1) := by decide +kernel
theorem dM_brokenUse_88 : decode c_M_brokenUse 88 = .ok (.getfield 13, 3) := by decide +kernel
theorem dM_brokenUse_91 : decode c_M_brokenUse 91 = .ok (.iload 4, 2) := by decide +kernel
theorem dM_brokenUse_93 : decode c_M_brokenUse 93 = .ok (.iaload, 1) := by decide +kernel
theorem dM_brokenUse_94 : decode c_M_brokenUse 94 = .ok (.iload_n 3, 1) := by decide +kernel
theorem dM_brokenUse_95 : decode c_M_brokenUse 95 = .ok (.if_icmp .eq 6, 3) := by decide +kernel
theorem dM_brokenUse_98 : decode c_M_brokenUse 98 = .ok (.bipush 11, 2) := by decide +kernel
theorem dM_brokenUse_100 : decode c_M_brokenUse 100 = .ok (.ireturn, 1) := by decide +kernel
theorem dM_brokenUse_101 : decode c_M_brokenUse 101 = .ok (.aload_n 0, 1) := by decide +kernel
theorem dM_brokenUse_102 : decode c_M_brokenUse 102 = .ok (.iload_n 1, 1) := by decide +kernel
theorem dM_brokenUse_103 : decode c_M_brokenUse 103 = .ok (.aload_n 0, 1) := by decide +kernel
theorem dM_brokenUse_104 : decode c_M_brokenUse 104 = .ok (.getfield 16, 3) := by decide +kernel
theorem dM_brokenUse_107 : decode c_M_brokenUse 107 = .ok (.iload 4, 2) := by decide +kernel
theorem dM_brokenUse_109 : decode c_M_brokenUse 109 = .ok (.iaload, 1) := by decide +kernel
theorem dM_brokenUse_110 : decode c_M_brokenUse 110 = .ok (.iconst 0, 1) := by decide +kernel
theorem dM_brokenUse_111 : decode c_M_brokenUse 111 = .ok (.invokevirtual 84, 3) := by decide +kernel
theorem dM_brokenUse_114 : decode c_M_brokenUse 114 = .ok (.ifCond .eq 6, 3) := by decide +kernel
theorem dM_brokenUse_117 : decode c_M_brokenUse 117 = .ok (.bipush 12, 2) := by decide +kernel
theorem dM_brokenUse_119 : decode c_M_brokenUse 119 = .ok (.ireturn, 1) := by decide +kernel
theorem dM_brokenUse_120 : decode c_M_brokenUse 120 = .ok (.aload_n 0, 1) := by decide +kernel
theorem dM_brokenUse_121 : decode c_M_brokenUse 121 = .ok (.iload_n 1, 1) := by decide +kernel
theorem dM_brokenUse_122 : decode c_M_brokenUse 122 = .ok (.iload 5, 2) := by decide +kernel
theorem dM_brokenUse_124 : decode c_M_brokenUse 124 = .ok (.bipush 6, 2) := by decide +kernel
theorem dM_brokenUse_126 : decode c_M_brokenUse 126 = .ok (.invokevirtual 84, 3) := by decide +kernel
theorem dM_brokenUse_129 : decode c_M_brokenUse 129 = .ok (.ifCond .eq 8, 3) := by decide +kernel
theorem dM_brokenUse_132 : decode c_M_brokenUse 132 = .ok (.bipush 13, 2) := by decide +kernel
theorem dM_brokenUse_134 : decode c_M_brokenUse 134 = .ok (.goto 4, 3) := by decide +kernel
theorem dM_brokenUse_137 : decode c_M_brokenUse 137 = .ok (.iconst 0, 1) := by decide +kernel
theorem dM_brokenUse_138 : decode c_M_brokenUse 138 = .ok (.ireturn, 1) := by decide +kernel
theorem dM_brokenRefresh_0 : decode c_M_brokenRefresh 0 = .ok (.iconst 0, 1) := by decide +kernel
theorem dM_brokenRefresh_1 : decode c_M_brokenRefresh 1 = .ok (.istore_n 2, 1) := by decide +kernel
theorem dM_brokenRefresh_2 : decode c_M_brokenRefresh 2 = .ok (.iconst 0, 1) := by decide +kernel
theorem dM_brokenRefresh_3 : decode c_M_brokenRefresh 3 = .ok (.istore_n 3, 1) := by decide +kernel
theorem dM_brokenRefresh_4 : decode c_M_brokenRefresh 4 = .ok (.bipush 8, 2) := by decide +kernel
theorem dM_brokenRefresh_6 : decode c_M_brokenRefresh 6 = .ok (.iload_n 1, 1) := by decide +kernel
theorem dM_brokenRefresh_7 : decode c_M_brokenRefresh 7 = .ok (.imul, 1) := by decide +kernel
theorem dM_brokenRefresh_8 : decode c_M_brokenRefresh 8 = .ok (.istore 4, 2) := by decide +kernel
theorem dM_brokenRefresh_10 : decode c_M_brokenRefresh 10 = .ok (.iload 4, 2) := by decide +kernel
theorem dM_brokenRefresh_12 : decode c_M_brokenRefresh 12 = .ok (.bipush 8, 2) := by decide +kernel
theorem dM_brokenRefresh_14 : decode c_M_brokenRefresh 14 = .ok (.iload_n 1, 1) := by decide +kernel
theorem dM_brokenRefresh_15 : decode c_M_brokenRefresh 15 = .ok (.imul, 1) := by decide +kernel
theorem dM_brokenRefresh_16 : decode c_M_brokenRefresh 16 = .ok (.bipush 8, 2) := by decide +kernel
theorem dM_brokenRefresh_18 : decode c_M_brokenRefresh 18 = .ok (.iadd, 1) := by decide +kernel
theorem dM_brokenRefresh_19 : decode c_M_brokenRefresh 19 = .ok (.if_icmp .ge 55, 3) := by decide +kernel
theorem dM_brokenRefresh_22 : decode c_M_brokenRefresh 22 = .ok (.iload_n 2, 1) := by decide +kernel
theorem dM_brokenRefresh_23 : decode c_M_brokenRefresh 23 = .ok (.ifCond .ne 13, 3) := by decide +kernel
theorem dM_brokenRefresh_26 : decode c_M_brokenRefresh 26 = .ok (.aload_n 0, 1) := by decide +kernel
theorem dM_brokenRefresh_27 : decode c_M_brokenRefresh 27 = .ok (.getfield 13, 3) := by decide +kernel
theorem dM_brokenRefresh_30 : decode c_M_brokenRefresh 30 = .ok (.iload 4, 2) := by decide +kernel
theorem dM_brokenRefresh_32 : decode c_M_brokenRefresh 32 = .ok (.iaload, 1) := by decide +kernel
theorem dM_brokenRefresh_33 : decode c_M_brokenRefresh 33 = .ok (.ifCond .lt 7, 3) := by decide +kernel
theorem dM_brokenRefresh_36 : decode c_M_brokenRefresh 36 = .ok (.iconst 1, 1) := by decide +kernel
theorem dM_brokenRefresh_37 : decode c_M_brokenRefresh 37 = .ok (.goto 4, 3) := by decide +kernel
theorem dM_brokenRefresh_40 : decode c_M_brokenRefresh 40 = .ok (.iconst 0, 1) := by decide +kernel
theorem dM_brokenRefresh_41 : decode c_M_brokenRefresh 41 = .ok (.istore_n 2, 1) := by decide +kernel
theorem dM_brokenRefresh_42 : decode c_M_brokenRefresh 42 = .ok (.iload_n 3, 1) := by decide +kernel
theorem dM_brokenRefresh_43 : decode c_M_brokenRefresh 43 = .ok (.ifCond .ne 19, 3) := by decide +kernel
theorem dM_brokenRefresh_46 : decode c_M_brokenRefresh 46 = .ok (.aload_n 0, 1) := by decide +kernel
theorem dM_brokenRefresh_47 : decode c_M_brokenRefresh 47 = .ok (.iload_n 1, 1) := by decide +kernel
theorem dM_brokenRefresh_48 : decode c_M_brokenRefresh 48 = .ok (.aload_n 0, 1) := by decide +kernel
theorem dM_brokenRefresh_49 : decode c_M_brokenRefresh 49 = .ok (.getfield 19, 3) := by decide +kernel
theorem dM_brokenRefresh_52 : decode c_M_brokenRefresh 52 = .ok (.iload 4, 2) := by decide +kernel
theorem dM_brokenRefresh_54 : decode c_M_brokenRefresh 54 = .ok (.iaload, 1) := by decide +kernel
theorem dM_brokenRefresh_55 : decode c_M_brokenRefresh 55 = .ok (.iconst 1, 1) := by decide +kernel
theorem dM_brokenRefresh_56 : decode c_M_brokenRefresh 56 = .ok (.invokevirtual 84, 3) := by decide +kernel
theorem dM_brokenRefresh_59 : decode c_M_brokenRefresh 59 = .ok (.ifCond .eq 7, 3) := by decide +kernel
theorem dM_brokenRefresh_62 : decode c_M_brokenRefresh 62 = .ok (.iconst 1, 1) := by decide +kernel
theorem dM_brokenRefresh_63 : decode c_M_brokenRefresh 63 = .ok (.goto 4, 3) := by decide +kernel
theorem dM_brokenRefresh_66 : decode c_M_brokenRefresh 66 = .ok (.iconst 0, 1) := by decide +kernel
theorem dM_brokenRefresh_67 : decode c_M_brokenRefresh 67 = .ok (.istore_n 3, 1) := by decide +kernel
theorem dM_brokenRefresh_68 : decode c_M_brokenRefresh 68 = .ok (.iinc 4 1, 3) := by decide +kernel
theorem dM_brokenRefresh_71 : decode c_M_brokenRefresh 71 = .ok (.goto (-61), 3) := by decide +kernel
theorem dM_brokenRefresh_74 : decode c_M_brokenRefresh 74 = .ok (.iload_n 2, 1) := by decide +kernel
theorem dM_brokenRefresh_75 : decode c_M_brokenRefresh 75 = .ok (.ifCond .eq 8, 3) := by decide +kernel
theorem dM_brokenRefresh_78 : decode c_M_brokenRefresh 78 = .ok (.bipush 14, 2) := by decide +kernel
theorem dM_brokenRefresh_80 : decode c_M_brokenRefresh 80 = .ok (.goto 34, 3) := by decide +kernel
theorem dM_brokenRefresh_83 : decode c_M_brokenRefresh 83 = .ok (.iload_n 3, 1) := by decide +kernel
theorem dM_brokenRefresh_84 : decode c_M_brokenRefresh 84 = .ok (.ifCond .eq 8, 3) := by decide +kernel
theorem dM_brokenRefresh_87 : decode c_M_brokenRefresh 87 = .ok (.bipush 15, 2) := by decide +kernel
theorem dM_brokenRefresh_89 : decode c_M_brokenRefresh 89 = .ok (.goto 25, 3) := by decide +kernel
theorem dM_brokenRefresh_92 : decode c_M_brokenRefresh 92 = .ok (.aload_n 0, 1) := by decide +kernel
theorem dM_brokenRefresh_93 : decode c_M_brokenRefresh 93 = .ok (.iload_n 1, 1) := by decide +kernel
theorem dM_brokenRefresh_94 : decode c_M_brokenRefresh 94 = .ok (.aload_n 0, 1) := by decide +kernel
theorem dM_brokenRefresh_95 : decode c_M_brokenRefresh 95 = .ok (.getfield 31, 3) := by decide +kernel
theorem dM_brokenRefresh_98 : decode c_M_brokenRefresh 98 = .ok (.iload_n 1, 1) := by decide +kernel
theorem dM_brokenRefresh_99 : decode c_M_brokenRefresh 99 = .ok (.iaload, 1) := by decide +kernel
theorem dM_brokenRefresh_100 : decode c_M_brokenRefresh 100 = .ok (.bipush 9, 2) := by decide +kernel
theorem dM_brokenRefresh_102 : decode c_M_brokenRefresh 102 = .ok (.invokevirtual 84, 3) := by decide +kernel
theorem dM_brokenRefresh_105 : decode c_M_brokenRefresh 105 = .ok (.ifCond .eq 8, 3) := by decide +kernel
theorem dM_brokenRefresh_108 : decode c_M_brokenRefresh 108 = .ok (.bipush 16, 2) := by decide +kernel
theorem dM_brokenRefresh_110 : decode c_M_brokenRefresh 110 = .ok (.goto 4, 3) := by decide +kernel
theorem dM_brokenRefresh_113 : decode c_M_brokenRefresh 113 = .ok (.iconst 0, 1) := by decide +kernel
theorem dM_brokenRefresh_114 : decode c_M_brokenRefresh 114 = .ok (.ireturn, 1) := by decide +kernel
theorem dM_broken_0 : decode c_M_broken 0 = .ok (.iload_n 2, 1) := by decide +kernel
theorem dM_broken_1 : decode c_M_broken 1 = .ok (.tableswitch 55 0 4 #[35, 42, 55, 55, 49], 35) := by decide +kernel
theorem dM_broken_36 : decode c_M_broken 36 = .ok (.aload_n 0, 1) := by decide +kernel
theorem dM_broken_37 : decode c_M_broken 37 = .ok (.iload_n 1, 1) := by decide +kernel
theorem dM_broken_38 : decode c_M_broken 38 = .ok (.iload_n 3, 1) := by decide +kernel
theorem dM_broken_39 : decode c_M_broken 39 = .ok (.invokevirtual 88, 3) := by decide +kernel
theorem dM_broken_42 : decode c_M_broken 42 = .ok (.ireturn, 1) := by decide +kernel
theorem dM_broken_43 : decode c_M_broken 43 = .ok (.aload_n 0, 1) := by decide +kernel
theorem dM_broken_44 : decode c_M_broken 44 = .ok (.iload_n 1, 1) := by decide +kernel
theorem dM_broken_45 : decode c_M_broken 45 = .ok (.iload_n 3, 1) := by decide +kernel
theorem dM_broken_46 : decode c_M_broken 46 = .ok (.invokevirtual 92, 3) := by decide +kernel
theorem dM_broken_49 : decode c_M_broken 49 = .ok (.ireturn, 1) := by decide +kernel
theorem dM_broken_50 : decode c_M_broken 50 = .ok (.aload_n 0, 1) := by decide +kernel
theorem dM_broken_51 : decode c_M_broken 51 = .ok (.iload_n 1, 1) := by decide +kernel
theorem dM_broken_52 : decode c_M_broken 52 = .ok (.invokevirtual 95, 3) := by decide +kernel
theorem dM_broken_55 : decode c_M_broken 55 = .ok (.ireturn, 1) := by decide +kernel
theorem dM_broken_56 : decode c_M_broken 56 = .ok (.aload_n 0, 1) := by decide +kernel
theorem dM_broken_57 : decode c_M_broken 57 = .ok (.iload_n 1, 1) := by decide +kernel
theorem dM_broken_58 : decode c_M_broken 58 = .ok (.iload_n 3, 1) := by decide +kernel
theorem dM_broken_59 : decode c_M_broken 59 = .ok (.iload 4, 2) := by decide +kernel
theorem dM_broken_61 : decode c_M_broken 61 = .ok (.invokevirtual 99, 3) := by decide +kernel
theorem dM_broken_64 : decode c_M_broken 64 = .ok (.ireturn, 1) := by decide +kernel
theorem dM_give_0 : decode c_M_give 0 = .ok (.bipush 8, 2) := by decide +kernel
theorem dM_give_2 : decode c_M_give 2 = .ok (.iload_n 1, 1) := by decide +kernel
theorem dM_give_3 : decode c_M_give 3 = .ok (.imul, 1) := by decide +kernel
theorem dM_give_4 : decode c_M_give 4 = .ok (.iload_n 3, 1) := by decide +kernel
theorem dM_give_5 : decode c_M_give 5 = .ok (.iadd, 1) := by decide +kernel
theorem dM_give_6 : decode c_M_give 6 = .ok (.istore 5, 2) := by decide +kernel
theorem dM_give_8 : decode c_M_give 8 = .ok (.aload_n 0, 1) := by decide +kernel
theorem dM_give_9 : decode c_M_give 9 = .ok (.getfield 34, 3) := by decide +kernel
theorem dM_give_12 : decode c_M_give 12 = .ok (.iload_n 1, 1) := by decide +kernel
theorem dM_give_13 : decode c_M_give 13 = .ok (.iaload, 1) := by decide +kernel
theorem dM_give_14 : decode c_M_give 14 = .ok (.istore 6, 2) := by decide +kernel
theorem dM_give_16 : decode c_M_give 16 = .ok (.iload_n 2, 1) := by decide +kernel
theorem dM_give_17 : decode c_M_give 17 = .ok (.tableswitch 144 0 3 #[31, 100, 120, 132], 31) := by decide +kernel
theorem dM_give_48 : decode c_M_give 48 = .ok (.aload_n 0, 1) := by decide +kernel
theorem dM_give_49 : decode c_M_give 49 = .ok (.getfield 13, 3) := by decide +kernel
theorem dM_give_52 : decode c_M_give 52 = .ok (.iload 5, 2) := by decide +kernel
theorem dM_give_54 : decode c_M_give 54 = .ok (.iload 4, 2) := by decide +kernel
theorem dM_give_56 : decode c_M_give 56 = .ok (.iastore, 1) := by decide +kernel
theorem dM_give_57 : decode c_M_give 57 = .ok (.aload_n 0, 1) := by decide +kernel
theorem dM_give_58 : decode c_M_give 58 = .ok (.getfield 16, 3) := by decide +kernel
theorem dM_give_61 : decode c_M_give 61 = .ok (.iload 5, 2) := by decide +kernel
theorem dM_give_63 : decode c_M_give 63 = .ok (.iload 6, 2) := by decide +kernel
theorem dM_give_65 : decode c_M_give 65 = .ok (.iastore, 1) := by decide +kernel
theorem dM_give_66 : decode c_M_give 66 = .ok (.iconst 3, 1) := by decide +kernel
theorem dM_give_67 : decode c_M_give 67 = .ok (.istore 7, 2) := by decide +kernel
theorem dM_give_69 : decode c_M_give 69 = .ok (.iload 7, 2) := by decide +kernel
theorem dM_give_71 : decode c_M_give 71 = .ok (.ifCond .le 33, 3) := by decide +kernel
theorem dM_give_74 : decode c_M_give 74 = .ok (.aload_n 0, 1) := by decide +kernel
theorem dM_give_75 : decode c_M_give 75 = .ok (.getfield 28, 3) := by decide +kernel
theorem dM_give_78 : decode c_M_give 78 = .ok (.iconst 4, 1) := by decide +kernel
theorem dM_give_79 : decode c_M_give 79 = .ok (.iload_n 1, 1) := by decide +kernel
theorem dM_give_80 : decode c_M_give 80 = .ok (.imul, 1) := by decide +kernel
theorem dM_give_81 : decode c_M_give 81 = .ok (.iload 7, 2) := by decide +kernel
theorem dM_give_83 : decode c_M_give 83 = .ok (.iadd, 1) := by decide +kernel
theorem dM_give_84 : decode c_M_give 84 = .ok (.aload_n 0, 1) := by decide +kernel
theorem dM_give_85 : decode c_M_give 85 = .ok (.getfield 28, 3) := by decide +kernel
theorem dM_give_88 : decode c_M_give 88 = .ok (.iconst 4, 1) := by decide +kernel
theorem dM_give_89 : decode c_M_give 89 = .ok (.iload_n 1, 1) := by decide +kernel
theorem dM_give_90 : decode c_M_give 90 = .ok (.imul, 1) := by decide +kernel
theorem dM_give_91 : decode c_M_give 91 = .ok (.iload 7, 2) := by decide +kernel
theorem dM_give_93 : decode c_M_give 93 = .ok (.iadd, 1) := by decide +kernel
theorem dM_give_94 : decode c_M_give 94 = .ok (.iconst 1, 1) := by decide +kernel
theorem dM_give_95 : decode c_M_give 95 = .ok (.isub, 1) := by decide +kernel
theorem dM_give_96 : decode c_M_give 96 = .ok (.iaload, 1) := by decide +kernel
theorem dM_give_97 : decode c_M_give 97 = .ok (.iastore, 1) := by decide +kernel
theorem dM_give_98 : decode c_M_give 98 = .ok (.iinc 7 (-1), 3) := by decide +kernel
theorem dM_give_101 : decode c_M_give 101 = .ok (.goto (-32), 3) := by decide +kernel
theorem dM_give_104 : decode c_M_give 104 = .ok (.aload_n 0, 1) := by decide +kernel
theorem dM_give_105 : decode c_M_give 105 = .ok (.getfield 28, 3) := by decide +kernel
theorem dM_give_108 : decode c_M_give 108 = .ok (.iconst 4, 1) := by decide +kernel
theorem dM_give_109 : decode c_M_give 109 = .ok (.iload_n 1, 1) := by decide +kernel
theorem dM_give_110 : decode c_M_give 110 = .ok (.imul, 1) := by decide +kernel
theorem dM_give_111 : decode c_M_give 111 = .ok (.iload 6, 2) := by decide +kernel
theorem dM_give_113 : decode c_M_give 113 = .ok (.iastore, 1) := by decide +kernel
theorem dM_give_114 : decode c_M_give 114 = .ok (.goto 55, 3) := by decide +kernel
theorem dM_give_117 : decode c_M_give 117 = .ok (.aload_n 0, 1) := by decide +kernel
theorem dM_give_118 : decode c_M_give 118 = .ok (.getfield 13, 3) := by decide +kernel
theorem dM_give_121 : decode c_M_give 121 = .ok (.iload 5, 2) := by decide +kernel
theorem dM_give_123 : decode c_M_give 123 = .ok (.iconst (-1), 1) := by decide +kernel
theorem dM_give_124 : decode c_M_give 124 = .ok (.iastore, 1) := by decide +kernel
theorem dM_give_125 : decode c_M_give 125 = .ok (.aload_n 0, 1) := by decide +kernel
theorem dM_give_126 : decode c_M_give 126 = .ok (.getfield 19, 3) := by decide +kernel
theorem dM_give_129 : decode c_M_give 129 = .ok (.iload 5, 2) := by decide +kernel
theorem dM_give_131 : decode c_M_give 131 = .ok (.iload 6, 2) := by decide +kernel
theorem dM_give_133 : decode c_M_give 133 = .ok (.iastore, 1) := by decide +kernel
theorem dM_give_134 : decode c_M_give 134 = .ok (.goto 35, 3) := by decide +kernel
theorem dM_give_137 : decode c_M_give 137 = .ok (.aload_n 0, 1) := by decide +kernel
theorem dM_give_138 : decode c_M_give 138 = .ok (.getfield 22, 3) := by decide +kernel
theorem dM_give_141 : decode c_M_give 141 = .ok (.iload 5, 2) := by decide +kernel
theorem dM_give_143 : decode c_M_give 143 = .ok (.iload 6, 2) := by decide +kernel
theorem dM_give_145 : decode c_M_give 145 = .ok (.iastore, 1) := by decide +kernel
theorem dM_give_146 : decode c_M_give 146 = .ok (.goto 23, 3) := by decide +kernel
theorem dM_give_149 : decode c_M_give 149 = .ok (.aload_n 0, 1) := by decide +kernel
theorem dM_give_150 : decode c_M_give 150 = .ok (.getfield 25, 3) := by decide +kernel
theorem dM_give_153 : decode c_M_give 153 = .ok (.iload 5, 2) := by decide +kernel
theorem dM_give_155 : decode c_M_give 155 = .ok (.iload 6, 2) := by decide +kernel
theorem dM_give_157 : decode c_M_give 157 = .ok (.iastore, 1) := by decide +kernel
theorem dM_give_158 : decode c_M_give 158 = .ok (.goto 11, 3) := by decide +kernel
theorem dM_give_161 : decode c_M_give 161 = .ok (.aload_n 0, 1) := by decide +kernel
theorem dM_give_162 : decode c_M_give 162 = .ok (.getfield 31, 3) := by decide +kernel
theorem dM_give_165 : decode c_M_give 165 = .ok (.iload_n 1, 1) := by decide +kernel
theorem dM_give_166 : decode c_M_give 166 = .ok (.iload 6, 2) := by decide +kernel
theorem dM_give_168 : decode c_M_give 168 = .ok (.iastore, 1) := by decide +kernel
theorem dM_give_169 : decode c_M_give 169 = .ok (.return_, 1) := by decide +kernel
theorem dM_isBank_0 : decode c_M_isBank 0 = .ok (.iload_n 1, 1) := by decide +kernel
theorem dM_isBank_1 : decode c_M_isBank 1 = .ok (.ifCond .lt 15, 3) := by decide +kernel
theorem dM_isBank_4 : decode c_M_isBank 4 = .ok (.iload_n 1, 1) := by decide +kernel
theorem dM_isBank_5 : decode c_M_isBank 5 = .ok (.aload_n 0, 1) := by decide +kernel
theorem dM_isBank_6 : decode c_M_isBank 6 = .ok (.getfield 71, 3) := by decide +kernel
theorem dM_isBank_9 : decode c_M_isBank 9 = .ok (.if_icmp .ge 7, 3) := by decide +kernel
theorem dM_isBank_12 : decode c_M_isBank 12 = .ok (.iconst 1, 1) := by decide +kernel
theorem dM_isBank_13 : decode c_M_isBank 13 = .ok (.goto 4, 3) := by decide +kernel
theorem dM_isBank_16 : decode c_M_isBank 16 = .ok (.iconst 0, 1) := by decide +kernel
theorem dM_isBank_17 : decode c_M_isBank 17 = .ok (.ireturn, 1) := by decide +kernel
theorem dM_isRow_0 : decode c_M_isRow 0 = .ok (.iload_n 0, 1) := by decide +kernel
theorem dM_isRow_1 : decode c_M_isRow 1 = .ok (.ifCond .lt 13, 3) := by decide +kernel
theorem dM_isRow_4 : decode c_M_isRow 4 = .ok (.iload_n 0, 1) := by decide +kernel
theorem dM_isRow_5 : decode c_M_isRow 5 = .ok (.bipush 16, 2) := by decide +kernel
theorem dM_isRow_7 : decode c_M_isRow 7 = .ok (.if_icmp .ge 7, 3) := by decide +kernel
theorem dM_isRow_10 : decode c_M_isRow 10 = .ok (.iconst 1, 1) := by decide +kernel
theorem dM_isRow_11 : decode c_M_isRow 11 = .ok (.goto 4, 3) := by decide +kernel
theorem dM_isRow_14 : decode c_M_isRow 14 = .ok (.iconst 0, 1) := by decide +kernel
theorem dM_isRow_15 : decode c_M_isRow 15 = .ok (.ireturn, 1) := by decide +kernel
theorem dM_isWord_0 : decode c_M_isWord 0 = .ok (.aload_n 0, 1) := by decide +kernel
theorem dM_isWord_1 : decode c_M_isWord 1 = .ok (.iload_n 1, 1) := by decide +kernel
theorem dM_isWord_2 : decode c_M_isWord 2 = .ok (.invokevirtual 103, 3) := by decide +kernel
theorem dM_isWord_5 : decode c_M_isWord 5 = .ok (.ifCond .eq 24, 3) := by decide +kernel
theorem dM_isWord_8 : decode c_M_isWord 8 = .ok (.iload_n 2, 1) := by decide +kernel
theorem dM_isWord_9 : decode c_M_isWord 9 = .ok (.invokestatic 107, 3) := by decide +kernel
theorem dM_isWord_12 : decode c_M_isWord 12 = .ok (.ifCond .eq 17, 3) := by decide +kernel
theorem dM_isWord_15 : decode c_M_isWord 15 = .ok (.iload_n 3, 1) := by decide +kernel
theorem dM_isWord_16 : decode c_M_isWord 16 = .ok (.ifCond .lt 13, 3) := by decide +kernel
theorem dM_isWord_19 : decode c_M_isWord 19 = .ok (.iload_n 3, 1) := by decide +kernel
theorem dM_isWord_20 : decode c_M_isWord 20 = .ok (.bipush 8, 2) := by decide +kernel
theorem dM_isWord_22 : decode c_M_isWord 22 = .ok (.if_icmp .ge 7, 3) := by decide +kernel
theorem dM_isWord_25 : decode c_M_isWord 25 = .ok (.iconst 1, 1) := by decide +kernel
theorem dM_isWord_26 : decode c_M_isWord 26 = .ok (.goto 4, 3) := by decide +kernel
theorem dM_isWord_29 : decode c_M_isWord 29 = .ok (.iconst 0, 1) := by decide +kernel
theorem dM_isWord_30 : decode c_M_isWord 30 = .ok (.ireturn, 1) := by decide +kernel
theorem dM_request_0 : decode c_M_request 0 = .ok (.aload_n 0, 1) := by decide +kernel
theorem dM_request_1 : decode c_M_request 1 = .ok (.aload_n 0, 1) := by decide +kernel
theorem dM_request_2 : decode c_M_request 2 = .ok (.iload_n 1, 1) := by decide +kernel
theorem dM_request_3 : decode c_M_request 3 = .ok (.iload_n 2, 1) := by decide +kernel
theorem dM_request_4 : decode c_M_request 4 = .ok (.iload_n 3, 1) := by decide +kernel
theorem dM_request_5 : decode c_M_request 5 = .ok (.invokevirtual 110, 3) := by decide +kernel
theorem dM_request_8 : decode c_M_request 8 = .ok (.ifCond .ne 7, 3) := by decide +kernel
theorem dM_request_11 : decode c_M_request 11 = .ok (.iconst 1, 1) := by decide +kernel
theorem dM_request_12 : decode c_M_request 12 = .ok (.goto 19, 3) := by decide +kernel
theorem dM_request_15 : decode c_M_request 15 = .ok (.aload_n 0, 1) := by decide +kernel
theorem dM_request_16 : decode c_M_request 16 = .ok (.getfield 113, 3) := by decide +kernel
theorem dM_request_19 : decode c_M_request 19 = .ok (.aload_n 0, 1) := by decide +kernel
theorem dM_request_20 : decode c_M_request 20 = .ok (.getfield 75, 3) := by decide +kernel
theorem dM_request_23 : decode c_M_request 23 = .ok (.if_icmp .ne 7, 3) := by decide +kernel
theorem dM_request_26 : decode c_M_request 26 = .ok (.iconst 2, 1) := by decide +kernel
theorem dM_request_27 : decode c_M_request 27 = .ok (.goto 4, 3) := by decide +kernel
theorem dM_request_30 : decode c_M_request 30 = .ok (.iconst 0, 1) := by decide +kernel
theorem dM_request_31 : decode c_M_request 31 = .ok (.putfield 81, 3) := by decide +kernel
theorem dM_request_34 : decode c_M_request 34 = .ok (.aload_n 0, 1) := by decide +kernel
theorem dM_request_35 : decode c_M_request 35 = .ok (.getfield 81, 3) := by decide +kernel
theorem dM_request_38 : decode c_M_request 38 = .ok (.ifCond .eq 5, 3) := by decide +kernel
theorem dM_request_41 : decode c_M_request 41 = .ok (.iconst 0, 1) := by decide +kernel
theorem dM_request_42 : decode c_M_request 42 = .ok (.ireturn, 1) := by decide +kernel
theorem dM_request_43 : decode c_M_request 43 = .ok (.aload_n 0, 1) := by decide +kernel
theorem dM_request_44 : decode c_M_request 44 = .ok (.getfield 40, 3) := by decide +kernel
theorem dM_request_47 : decode c_M_request 47 = .ok (.aload_n 0, 1) := by decide +kernel
theorem dM_request_48 : decode c_M_request 48 = .ok (.getfield 113, 3) := by decide +kernel
theorem dM_request_51 : decode c_M_request 51 = .ok (.aload_n 0, 1) := by decide +kernel
theorem dM_request_52 : decode c_M_request 52 = .ok (.getfield 116, 3) := by decide +kernel
theorem dM_request_55 : decode c_M_request 55 = .ok (.iastore, 1) := by decide +kernel
theorem dM_request_56 : decode c_M_request 56 = .ok (.aload_n 0, 1) := by decide +kernel
theorem dM_request_57 : decode c_M_request 57 = .ok (.getfield 43, 3) := by decide +kernel
theorem dM_request_60 : decode c_M_request 60 = .ok (.aload_n 0, 1) := by decide +kernel
theorem dM_request_61 : decode c_M_request 61 = .ok (.getfield 113, 3) := by decide +kernel
theorem dM_request_64 : decode c_M_request 64 = .ok (.iload_n 1, 1) := by decide +kernel
theorem dM_request_65 : decode c_M_request 65 = .ok (.iastore, 1) := by decide +kernel
theorem dM_request_66 : decode c_M_request 66 = .ok (.aload_n 0, 1) := by decide +kernel
theorem dM_request_67 : decode c_M_request 67 = .ok (.getfield 46, 3) := by decide +kernel
theorem dM_request_70 : decode c_M_request 70 = .ok (.aload_n 0, 1) := by decide +kernel
theorem dM_request_71 : decode c_M_request 71 = .ok (.getfield 113, 3) := by decide +kernel
theorem dM_request_74 : decode c_M_request 74 = .ok (.iload_n 2, 1) := by decide +kernel
theorem dM_request_75 : decode c_M_request 75 = .ok (.iastore, 1) := by decide +kernel
theorem dM_request_76 : decode c_M_request 76 = .ok (.aload_n 0, 1) := by decide +kernel
theorem dM_request_77 : decode c_M_request 77 = .ok (.getfield 49, 3) := by decide +kernel
theorem dM_request_80 : decode c_M_request 80 = .ok (.aload_n 0, 1) := by decide +kernel
theorem dM_request_81 : decode c_M_request 81 = .ok (.getfield 113, 3) := by decide +kernel
theorem dM_request_84 : decode c_M_request 84 = .ok (.iload_n 3, 1) := by decide +kernel
theorem dM_request_85 : decode c_M_request 85 = .ok (.iastore, 1) := by decide +kernel
theorem dM_request_86 : decode c_M_request 86 = .ok (.aload_n 0, 1) := by decide +kernel
theorem dM_request_87 : decode c_M_request 87 = .ok (.getfield 52, 3) := by decide +kernel
theorem dM_request_90 : decode c_M_request 90 = .ok (.aload_n 0, 1) := by decide +kernel
theorem dM_request_91 : decode c_M_request 91 = .ok (.getfield 113, 3) := by decide +kernel
theorem dM_request_94 : decode c_M_request 94 = .ok (.iload 4, 2) := by decide +kernel
theorem dM_request_96 : decode c_M_request 96 = .ok (.bastore, 1) := by decide +kernel
theorem dM_request_97 : decode c_M_request 97 = .ok (.aload_n 0, 1) := by decide +kernel
theorem dM_request_98 : decode c_M_request 98 = .ok (.getfield 56, 3) := by decide +kernel
theorem dM_request_101 : decode c_M_request 101 = .ok (.aload_n 0, 1) := by decide +kernel
theorem dM_request_102 : decode c_M_request 102 = .ok (.getfield 113, 3) := by decide +kernel
theorem dM_request_105 : decode c_M_request 105 = .ok (.iload 5, 2) := by decide +kernel
theorem dM_request_107 : decode c_M_request 107 = .ok (.iastore, 1) := by decide +kernel
theorem dM_request_108 : decode c_M_request 108 = .ok (.aload_n 0, 1) := by decide +kernel
theorem dM_request_109 : decode c_M_request 109 = .ok (.getfield 59, 3) := by decide +kernel
theorem dM_request_112 : decode c_M_request 112 = .ok (.aload_n 0, 1) := by decide +kernel
theorem dM_request_113 : decode c_M_request 113 = .ok (.getfield 113, 3) := by decide +kernel
theorem dM_request_116 : decode c_M_request 116 = .ok (.aload_n 0, 1) := by decide +kernel
theorem dM_request_117 : decode c_M_request 117 = .ok (.getfield 34, 3) := by decide +kernel
theorem dM_request_120 : decode c_M_request 120 = .ok (.iconst 0, 1) := by decide +kernel
theorem dM_request_121 : decode c_M_request 121 = .ok (.iaload, 1) := by decide +kernel
theorem dM_request_122 : decode c_M_request 122 = .ok (.iastore, 1) := by decide +kernel
theorem dM_request_123 : decode c_M_request 123 = .ok (.aload_n 0, 1) := by decide +kernel
theorem dM_request_124 : decode c_M_request 124 = .ok (.dup, 1) := by decide +kernel
theorem dM_request_125 : decode c_M_request 125 = .ok (.getfield 113, 3) := by decide +kernel
theorem dM_request_128 : decode c_M_request 128 = .ok (.iconst 1, 1) := by decide +kernel
theorem dM_request_129 : decode c_M_request 129 = .ok (.iadd, 1) := by decide +kernel
theorem dM_request_130 : decode c_M_request 130 = .ok (.putfield 113, 3) := by decide +kernel
theorem dM_request_133 : decode c_M_request 133 = .ok (.aload_n 0, 1) := by decide +kernel
theorem dM_request_134 : decode c_M_request 134 = .ok (.getfield 62, 3) := by decide +kernel
theorem dM_request_137 : decode c_M_request 137 = .ok (.aload_n 0, 1) := by decide +kernel
theorem dM_request_138 : decode c_M_request 138 = .ok (.getfield 116, 3) := by decide +kernel
theorem dM_request_141 : decode c_M_request 141 = .ok (.bipush 32, 2) := by decide +kernel
theorem dM_request_143 : decode c_M_request 143 = .ok (.irem, 1) := by decide +kernel
theorem dM_request_144 : decode c_M_request 144 = .ok (.iconst (-1), 1) := by decide +kernel
theorem dM_request_145 : decode c_M_request 145 = .ok (.iastore, 1) := by decide +kernel
theorem dM_request_146 : decode c_M_request 146 = .ok (.aload_n 0, 1) := by decide +kernel
theorem dM_request_147 : decode c_M_request 147 = .ok (.dup, 1) := by decide +kernel
theorem dM_request_148 : decode c_M_request 148 = .ok (.getfield 116, 3) := by decide +kernel
theorem dM_request_151 : decode c_M_request 151 = .ok (.iconst 1, 1) := by decide +kernel
theorem dM_request_152 : decode c_M_request 152 = .ok (.iadd, 1) := by decide +kernel
theorem dM_request_153 : decode c_M_request 153 = .ok (.putfield 116, 3) := by decide +kernel
theorem dM_request_156 : decode c_M_request 156 = .ok (.aload_n 0, 1) := by decide +kernel
theorem dM_request_157 : decode c_M_request 157 = .ok (.getfield 116, 3) := by decide +kernel
theorem dM_request_160 : decode c_M_request 160 = .ok (.iconst 1, 1) := by decide +kernel
theorem dM_request_161 : decode c_M_request 161 = .ok (.isub, 1) := by decide +kernel
theorem dM_request_162 : decode c_M_request 162 = .ok (.ireturn, 1) := by decide +kernel
theorem dM_read_0 : decode c_M_read 0 = .ok (.aload_n 0, 1) := by decide +kernel
theorem dM_read_1 : decode c_M_read 1 = .ok (.iload_n 1, 1) := by decide +kernel
theorem dM_read_2 : decode c_M_read 2 = .ok (.iload_n 2, 1) := by decide +kernel
theorem dM_read_3 : decode c_M_read 3 = .ok (.iload_n 3, 1) := by decide +kernel
theorem dM_read_4 : decode c_M_read 4 = .ok (.iconst 0, 1) := by decide +kernel
theorem dM_read_5 : decode c_M_read 5 = .ok (.iconst 0, 1) := by decide +kernel
theorem dM_read_6 : decode c_M_read 6 = .ok (.invokevirtual 119, 3) := by decide +kernel
theorem dM_read_9 : decode c_M_read 9 = .ok (.ireturn, 1) := by decide +kernel
theorem dM_write_0 : decode c_M_write 0 = .ok (.aload_n 0, 1) := by decide +kernel
theorem dM_write_1 : decode c_M_write 1 = .ok (.iload_n 1, 1) := by decide +kernel
theorem dM_write_2 : decode c_M_write 2 = .ok (.iload_n 2, 1) := by decide +kernel
theorem dM_write_3 : decode c_M_write 3 = .ok (.iload_n 3, 1) := by decide +kernel
theorem dM_write_4 : decode c_M_write 4 = .ok (.iconst 1, 1) := by decide +kernel
theorem dM_write_5 : decode c_M_write 5 = .ok (.iload 4, 2) := by decide +kernel
theorem dM_write_7 : decode c_M_write 7 = .ok (.invokevirtual 119, 3) := by decide +kernel
theorem dM_write_10 : decode c_M_write 10 = .ok (.ireturn, 1) := by decide +kernel
theorem dM_serve_0 : decode c_M_serve 0 = .ok (.sipush 128, 3) := by decide +kernel
theorem dM_serve_3 : decode c_M_serve 3 = .ok (.aload_n 0, 1) := by decide +kernel
theorem dM_serve_4 : decode c_M_serve 4 = .ok (.getfield 43, 3) := by decide +kernel
theorem dM_serve_7 : decode c_M_serve 7 = .ok (.iload_n 1, 1) := by decide +kernel
theorem dM_serve_8 : decode c_M_serve 8 = .ok (.iaload, 1) := by decide +kernel
theorem dM_serve_9 : decode c_M_serve 9 = .ok (.imul, 1) := by decide +kernel
theorem dM_serve_10 : decode c_M_serve 10 = .ok (.bipush 8, 2) := by decide +kernel
theorem dM_serve_12 : decode c_M_serve 12 = .ok (.aload_n 0, 1) := by decide +kernel
theorem dM_serve_13 : decode c_M_serve 13 = .ok (.getfield 46, 3) := by decide +kernel
theorem dM_serve_16 : decode c_M_serve 16 = .ok (.iload_n 1, 1) := by decide +kernel
theorem dM_serve_17 : decode c_M_serve 17 = .ok (.iaload, 1) := by decide +kernel
theorem dM_serve_18 : decode c_M_serve 18 = .ok (.imul, 1) := by decide +kernel
theorem dM_serve_19 : decode c_M_serve 19 = .ok (.iadd, 1) := by decide +kernel
theorem dM_serve_20 : decode c_M_serve 20 = .ok (.aload_n 0, 1) := by decide +kernel
theorem dM_serve_21 : decode c_M_serve 21 = .ok (.getfield 49, 3) := by decide +kernel
theorem dM_serve_24 : decode c_M_serve 24 = .ok (.iload_n 1, 1) := by decide +kernel
theorem dM_serve_25 : decode c_M_serve 25 = .ok (.iaload, 1) := by decide +kernel
theorem dM_serve_26 : decode c_M_serve 26 = .ok (.iadd, 1) := by decide +kernel
theorem dM_serve_27 : decode c_M_serve 27 = .ok (.istore_n 2, 1) := by decide +kernel
theorem dM_serve_28 : decode c_M_serve 28 = .ok (.aload_n 0, 1) := by decide +kernel
theorem dM_serve_29 : decode c_M_serve 29 = .ok (.getfield 34, 3) := by decide +kernel
theorem dM_serve_32 : decode c_M_serve 32 = .ok (.iconst 0, 1) := by decide +kernel
theorem dM_serve_33 : decode c_M_serve 33 = .ok (.iaload, 1) := by decide +kernel
theorem dM_serve_34 : decode c_M_serve 34 = .ok (.istore_n 3, 1) := by decide +kernel
theorem dM_serve_35 : decode c_M_serve 35 = .ok (.aload_n 0, 1) := by decide +kernel
theorem dM_serve_36 : decode c_M_serve 36 = .ok (.getfield 37, 3) := by decide +kernel
theorem dM_serve_39 : decode c_M_serve 39 = .ok (.iload_n 2, 1) := by decide +kernel
theorem dM_serve_40 : decode c_M_serve 40 = .ok (.aload_n 0, 1) := by decide +kernel
theorem dM_serve_41 : decode c_M_serve 41 = .ok (.getfield 52, 3) := by decide +kernel
theorem dM_serve_44 : decode c_M_serve 44 = .ok (.iload_n 1, 1) := by decide +kernel
theorem dM_serve_45 : decode c_M_serve 45 = .ok (.baload, 1) := by decide +kernel
theorem dM_serve_46 : decode c_M_serve 46 = .ok (.ifCond .eq 12, 3) := by decide +kernel
theorem dM_serve_49 : decode c_M_serve 49 = .ok (.aload_n 0, 1) := by decide +kernel
theorem dM_serve_50 : decode c_M_serve 50 = .ok (.getfield 56, 3) := by decide +kernel
theorem dM_serve_53 : decode c_M_serve 53 = .ok (.iload_n 1, 1) := by decide +kernel
theorem dM_serve_54 : decode c_M_serve 54 = .ok (.iaload, 1) := by decide +kernel
theorem dM_serve_55 : decode c_M_serve 55 = .ok (.goto 9, 3) := by decide +kernel
theorem dM_serve_58 : decode c_M_serve 58 = .ok (.aload_n 0, 1) := by decide +kernel
theorem dM_serve_59 : decode c_M_serve 59 = .ok (.getfield 37, 3) := by decide +kernel
theorem dM_serve_62 : decode c_M_serve 62 = .ok (.iload_n 2, 1) := by decide +kernel
theorem dM_serve_63 : decode c_M_serve 63 = .ok (.iaload, 1) := by decide +kernel
theorem dM_serve_64 : decode c_M_serve 64 = .ok (.iastore, 1) := by decide +kernel
theorem dM_serve_65 : decode c_M_serve 65 = .ok (.aload_n 0, 1) := by decide +kernel
theorem dM_serve_66 : decode c_M_serve 66 = .ok (.iload_n 3, 1) := by decide +kernel
theorem dM_serve_67 : decode c_M_serve 67 = .ok (.aload_n 0, 1) := by decide +kernel
theorem dM_serve_68 : decode c_M_serve 68 = .ok (.getfield 59, 3) := by decide +kernel
theorem dM_serve_71 : decode c_M_serve 71 = .ok (.iload_n 1, 1) := by decide +kernel
theorem dM_serve_72 : decode c_M_serve 72 = .ok (.iaload, 1) := by decide +kernel
theorem dM_serve_73 : decode c_M_serve 73 = .ok (.isub, 1) := by decide +kernel
theorem dM_serve_74 : decode c_M_serve 74 = .ok (.aload_n 0, 1) := by decide +kernel
theorem dM_serve_75 : decode c_M_serve 75 = .ok (.getfield 78, 3) := by decide +kernel
theorem dM_serve_78 : decode c_M_serve 78 = .ok (.if_icmp .lt 12, 3) := by decide +kernel
theorem dM_serve_81 : decode c_M_serve 81 = .ok (.aload_n 0, 1) := by decide +kernel
theorem dM_serve_82 : decode c_M_serve 82 = .ok (.getfield 123, 3) := by decide +kernel
theorem dM_serve_85 : decode c_M_serve 85 = .ok (.iconst 1, 1) := by decide +kernel
theorem dM_serve_86 : decode c_M_serve 86 = .ok (.iadd, 1) := by decide +kernel
theorem dM_serve_87 : decode c_M_serve 87 = .ok (.goto 7, 3) := by decide +kernel
theorem dM_serve_90 : decode c_M_serve 90 = .ok (.aload_n 0, 1) := by decide +kernel
theorem dM_serve_91 : decode c_M_serve 91 = .ok (.getfield 123, 3) := by decide +kernel
theorem dM_serve_94 : decode c_M_serve 94 = .ok (.putfield 123, 3) := by decide +kernel
theorem dM_serve_97 : decode c_M_serve 97 = .ok (.aload_n 0, 1) := by decide +kernel
theorem dM_serve_98 : decode c_M_serve 98 = .ok (.getfield 116, 3) := by decide +kernel
theorem dM_serve_101 : decode c_M_serve 101 = .ok (.aload_n 0, 1) := by decide +kernel
theorem dM_serve_102 : decode c_M_serve 102 = .ok (.getfield 40, 3) := by decide +kernel
theorem dM_serve_105 : decode c_M_serve 105 = .ok (.iload_n 1, 1) := by decide +kernel
theorem dM_serve_106 : decode c_M_serve 106 = .ok (.iaload, 1) := by decide +kernel
theorem dM_serve_107 : decode c_M_serve 107 = .ok (.isub, 1) := by decide +kernel
theorem dM_serve_108 : decode c_M_serve 108 = .ok (.bipush 32, 2) := by decide +kernel
theorem dM_serve_110 : decode c_M_serve 110 = .ok (.if_icmp .gt 59, 3) := by decide +kernel
theorem dM_serve_113 : decode c_M_serve 113 = .ok (.aload_n 0, 1) := by decide +kernel
theorem dM_serve_114 : decode c_M_serve 114 = .ok (.getfield 62, 3) := by decide +kernel
theorem dM_serve_117 : decode c_M_serve 117 = .ok (.aload_n 0, 1) := by decide +kernel
theorem dM_serve_118 : decode c_M_serve 118 = .ok (.getfield 40, 3) := by decide +kernel
theorem dM_serve_121 : decode c_M_serve 121 = .ok (.iload_n 1, 1) := by decide +kernel
theorem dM_serve_122 : decode c_M_serve 122 = .ok (.iaload, 1) := by decide +kernel
theorem dM_serve_123 : decode c_M_serve 123 = .ok (.bipush 32, 2) := by decide +kernel
theorem dM_serve_125 : decode c_M_serve 125 = .ok (.irem, 1) := by decide +kernel
theorem dM_serve_126 : decode c_M_serve 126 = .ok (.aload_n 0, 1) := by decide +kernel
theorem dM_serve_127 : decode c_M_serve 127 = .ok (.getfield 52, 3) := by decide +kernel
theorem dM_serve_130 : decode c_M_serve 130 = .ok (.iload_n 1, 1) := by decide +kernel
theorem dM_serve_131 : decode c_M_serve 131 = .ok (.baload, 1) := by decide +kernel
theorem dM_serve_132 : decode c_M_serve 132 = .ok (.ifCond .eq 7, 3) := by decide +kernel
theorem dM_serve_135 : decode c_M_serve 135 = .ok (.iload_n 3, 1) := by decide +kernel
theorem dM_serve_136 : decode c_M_serve 136 = .ok (.goto 12, 3) := by decide +kernel
theorem dM_serve_139 : decode c_M_serve 139 = .ok (.iload_n 3, 1) := by decide +kernel
theorem dM_serve_140 : decode c_M_serve 140 = .ok (.aload_n 0, 1) := by decide +kernel
theorem dM_serve_141 : decode c_M_serve 141 = .ok (.getfield 7, 3) := by decide +kernel
theorem dM_serve_144 : decode c_M_serve 144 = .ok (.bipush 11, 2) := by decide +kernel
theorem dM_serve_146 : decode c_M_serve 146 = .ok (.iaload, 1) := by decide +kernel
theorem dM_serve_147 : decode c_M_serve 147 = .ok (.iadd, 1) := by decide +kernel
theorem dM_serve_148 : decode c_M_serve 148 = .ok (.iastore, 1) := by decide +kernel
theorem dM_serve_149 : decode c_M_serve 149 = .ok (.aload_n 0, 1) := by decide +kernel
theorem dM_serve_150 : decode c_M_serve 150 = .ok (.getfield 65, 3) := by decide +kernel
theorem dM_serve_153 : decode c_M_serve 153 = .ok (.aload_n 0, 1) := by decide +kernel
theorem dM_serve_154 : decode c_M_serve 154 = .ok (.getfield 40, 3) := by decide +kernel
theorem dM_serve_157 : decode c_M_serve 157 = .ok (.iload_n 1, 1) := by decide +kernel
theorem dM_serve_158 : decode c_M_serve 158 = .ok (.iaload, 1) := by decide +kernel
theorem dM_serve_159 : decode c_M_serve 159 = .ok (.bipush 32, 2) := by decide +kernel
theorem dM_serve_161 : decode c_M_serve 161 = .ok (.irem, 1) := by decide +kernel
theorem dM_serve_162 : decode c_M_serve 162 = .ok (.aload_n 0, 1) := by decide +kernel
theorem dM_serve_163 : decode c_M_serve 163 = .ok (.getfield 37, 3) := by decide +kernel
theorem dM_serve_166 : decode c_M_serve 166 = .ok (.iload_n 2, 1) := by decide +kernel
theorem dM_serve_167 : decode c_M_serve 167 = .ok (.iaload, 1) := by decide +kernel
theorem dM_serve_168 : decode c_M_serve 168 = .ok (.iastore, 1) := by decide +kernel
theorem dM_serve_169 : decode c_M_serve 169 = .ok (.aload_n 0, 1) := by decide +kernel
theorem dM_serve_170 : decode c_M_serve 170 = .ok (.dup, 1) := by decide +kernel
theorem dM_serve_171 : decode c_M_serve 171 = .ok (.getfield 113, 3) := by decide +kernel
theorem dM_serve_174 : decode c_M_serve 174 = .ok (.iconst 1, 1) := by decide +kernel
theorem dM_serve_175 : decode c_M_serve 175 = .ok (.isub, 1) := by decide +kernel
theorem dM_serve_176 : decode c_M_serve 176 = .ok (.putfield 113, 3) := by decide +kernel
theorem dM_serve_179 : decode c_M_serve 179 = .ok (.iload_n 1, 1) := by decide +kernel
theorem dM_serve_180 : decode c_M_serve 180 = .ok (.istore 4, 2) := by decide +kernel
theorem dM_serve_182 : decode c_M_serve 182 = .ok (.iload 4, 2) := by decide +kernel
theorem dM_serve_184 : decode c_M_serve 184 = .ok (.aload_n 0, 1) := by decide +kernel
theorem dM_serve_185 : decode c_M_serve 185 = .ok (.getfield 113, 3) := by decide +kernel
theorem dM_serve_188 : decode c_M_serve 188 = .ok (.if_icmp .ge 121, 3) := by decide +kernel
theorem dM_serve_191 : decode c_M_serve 191 = .ok (.aload_n 0, 1) := by decide +kernel
theorem dM_serve_192 : decode c_M_serve 192 = .ok (.getfield 40, 3) := by decide +kernel
theorem dM_serve_195 : decode c_M_serve 195 = .ok (.iload 4, 2) := by decide +kernel
theorem dM_serve_197 : decode c_M_serve 197 = .ok (.aload_n 0, 1) := by decide +kernel
theorem dM_serve_198 : decode c_M_serve 198 = .ok (.getfield 40, 3) := by decide +kernel
theorem dM_serve_201 : decode c_M_serve 201 = .ok (.iload 4, 2) := by decide +kernel
theorem dM_serve_203 : decode c_M_serve 203 = .ok (.iconst 1, 1) := by decide +kernel
theorem dM_serve_204 : decode c_M_serve 204 = .ok (.iadd, 1) := by decide +kernel
theorem dM_serve_205 : decode c_M_serve 205 = .ok (.iaload, 1) := by decide +kernel
theorem dM_serve_206 : decode c_M_serve 206 = .ok (.iastore, 1) := by decide +kernel
theorem dM_serve_207 : decode c_M_serve 207 = .ok (.aload_n 0, 1) := by decide +kernel
theorem dM_serve_208 : decode c_M_serve 208 = .ok (.getfield 43, 3) := by decide +kernel
theorem dM_serve_211 : decode c_M_serve 211 = .ok (.iload 4, 2) := by decide +kernel
theorem dM_serve_213 : decode c_M_serve 213 = .ok (.aload_n 0, 1) := by decide +kernel
theorem dM_serve_214 : decode c_M_serve 214 = .ok (.getfield 43, 3) := by decide +kernel
theorem dM_serve_217 : decode c_M_serve 217 = .ok (.iload 4, 2) := by decide +kernel
theorem dM_serve_219 : decode c_M_serve 219 = .ok (.iconst 1, 1) := by decide +kernel
theorem dM_serve_220 : decode c_M_serve 220 = .ok (.iadd, 1) := by decide +kernel
theorem dM_serve_221 : decode c_M_serve 221 = .ok (.iaload, 1) := by decide +kernel
theorem dM_serve_222 : decode c_M_serve 222 = .ok (.iastore, 1) := by decide +kernel
theorem dM_serve_223 : decode c_M_serve 223 = .ok (.aload_n 0, 1) := by decide +kernel
theorem dM_serve_224 : decode c_M_serve 224 = .ok (.getfield 46, 3) := by decide +kernel
theorem dM_serve_227 : decode c_M_serve 227 = .ok (.iload 4, 2) := by decide +kernel
theorem dM_serve_229 : decode c_M_serve 229 = .ok (.aload_n 0, 1) := by decide +kernel
theorem dM_serve_230 : decode c_M_serve 230 = .ok (.getfield 46, 3) := by decide +kernel
theorem dM_serve_233 : decode c_M_serve 233 = .ok (.iload 4, 2) := by decide +kernel
theorem dM_serve_235 : decode c_M_serve 235 = .ok (.iconst 1, 1) := by decide +kernel
theorem dM_serve_236 : decode c_M_serve 236 = .ok (.iadd, 1) := by decide +kernel
theorem dM_serve_237 : decode c_M_serve 237 = .ok (.iaload, 1) := by decide +kernel
theorem dM_serve_238 : decode c_M_serve 238 = .ok (.iastore, 1) := by decide +kernel
theorem dM_serve_239 : decode c_M_serve 239 = .ok (.aload_n 0, 1) := by decide +kernel
theorem dM_serve_240 : decode c_M_serve 240 = .ok (.getfield 49, 3) := by decide +kernel
theorem dM_serve_243 : decode c_M_serve 243 = .ok (.iload 4, 2) := by decide +kernel
theorem dM_serve_245 : decode c_M_serve 245 = .ok (.aload_n 0, 1) := by decide +kernel
theorem dM_serve_246 : decode c_M_serve 246 = .ok (.getfield 49, 3) := by decide +kernel
theorem dM_serve_249 : decode c_M_serve 249 = .ok (.iload 4, 2) := by decide +kernel
theorem dM_serve_251 : decode c_M_serve 251 = .ok (.iconst 1, 1) := by decide +kernel
theorem dM_serve_252 : decode c_M_serve 252 = .ok (.iadd, 1) := by decide +kernel
theorem dM_serve_253 : decode c_M_serve 253 = .ok (.iaload, 1) := by decide +kernel
theorem dM_serve_254 : decode c_M_serve 254 = .ok (.iastore, 1) := by decide +kernel
theorem dM_serve_255 : decode c_M_serve 255 = .ok (.aload_n 0, 1) := by decide +kernel
theorem dM_serve_256 : decode c_M_serve 256 = .ok (.getfield 52, 3) := by decide +kernel
theorem dM_serve_259 : decode c_M_serve 259 = .ok (.iload 4, 2) := by decide +kernel
theorem dM_serve_261 : decode c_M_serve 261 = .ok (.aload_n 0, 1) := by decide +kernel
theorem dM_serve_262 : decode c_M_serve 262 = .ok (.getfield 52, 3) := by decide +kernel
theorem dM_serve_265 : decode c_M_serve 265 = .ok (.iload 4, 2) := by decide +kernel
theorem dM_serve_267 : decode c_M_serve 267 = .ok (.iconst 1, 1) := by decide +kernel
theorem dM_serve_268 : decode c_M_serve 268 = .ok (.iadd, 1) := by decide +kernel
theorem dM_serve_269 : decode c_M_serve 269 = .ok (.baload, 1) := by decide +kernel
theorem dM_serve_270 : decode c_M_serve 270 = .ok (.bastore, 1) := by decide +kernel
theorem dM_serve_271 : decode c_M_serve 271 = .ok (.aload_n 0, 1) := by decide +kernel
theorem dM_serve_272 : decode c_M_serve 272 = .ok (.getfield 56, 3) := by decide +kernel
theorem dM_serve_275 : decode c_M_serve 275 = .ok (.iload 4, 2) := by decide +kernel
theorem dM_serve_277 : decode c_M_serve 277 = .ok (.aload_n 0, 1) := by decide +kernel
theorem dM_serve_278 : decode c_M_serve 278 = .ok (.getfield 56, 3) := by decide +kernel
theorem dM_serve_281 : decode c_M_serve 281 = .ok (.iload 4, 2) := by decide +kernel
theorem dM_serve_283 : decode c_M_serve 283 = .ok (.iconst 1, 1) := by decide +kernel
theorem dM_serve_284 : decode c_M_serve 284 = .ok (.iadd, 1) := by decide +kernel
theorem dM_serve_285 : decode c_M_serve 285 = .ok (.iaload, 1) := by decide +kernel
theorem dM_serve_286 : decode c_M_serve 286 = .ok (.iastore, 1) := by decide +kernel
theorem dM_serve_287 : decode c_M_serve 287 = .ok (.aload_n 0, 1) := by decide +kernel
theorem dM_serve_288 : decode c_M_serve 288 = .ok (.getfield 59, 3) := by decide +kernel
theorem dM_serve_291 : decode c_M_serve 291 = .ok (.iload 4, 2) := by decide +kernel
theorem dM_serve_293 : decode c_M_serve 293 = .ok (.aload_n 0, 1) := by decide +kernel
theorem dM_serve_294 : decode c_M_serve 294 = .ok (.getfield 59, 3) := by decide +kernel
theorem dM_serve_297 : decode c_M_serve 297 = .ok (.iload 4, 2) := by decide +kernel
theorem dM_serve_299 : decode c_M_serve 299 = .ok (.iconst 1, 1) := by decide +kernel
theorem dM_serve_300 : decode c_M_serve 300 = .ok (.iadd, 1) := by decide +kernel
theorem dM_serve_301 : decode c_M_serve 301 = .ok (.iaload, 1) := by decide +kernel
theorem dM_serve_302 : decode c_M_serve 302 = .ok (.iastore, 1) := by decide +kernel
theorem dM_serve_303 : decode c_M_serve 303 = .ok (.iinc 4 1, 3) := by decide +kernel
theorem dM_serve_306 : decode c_M_serve 306 = .ok (.goto (-124), 3) := by decide +kernel
theorem dM_serve_309 : decode c_M_serve 309 = .ok (.return_, 1) := by decide +kernel
theorem dM_told_0 : decode c_M_told 0 = .ok (.aload_n 0, 1) := by decide +kernel
theorem dM_told_1 : decode c_M_told 1 = .ok (.iconst 0, 1) := by decide +kernel
theorem dM_told_2 : decode c_M_told 2 = .ok (.iload_n 1, 1) := by decide +kernel
theorem dM_told_3 : decode c_M_told 3 = .ok (.iload_n 2, 1) := by decide +kernel
theorem dM_told_4 : decode c_M_told 4 = .ok (.iload_n 3, 1) := by decide +kernel
theorem dM_told_5 : decode c_M_told 5 = .ok (.invokevirtual 126, 3) := by decide +kernel
theorem dM_told_8 : decode c_M_told 8 = .ok (.aload_n 0, 1) := by decide +kernel
theorem dM_told_9 : decode c_M_told 9 = .ok (.getfield 68, 3) := by decide +kernel
theorem dM_told_12 : decode c_M_told 12 = .ok (.iload_n 1, 1) := by decide +kernel
theorem dM_told_13 : decode c_M_told 13 = .ok (.dup2, 1) := by decide +kernel
theorem dM_told_14 : decode c_M_told 14 = .ok (.iaload, 1) := by decide +kernel
theorem dM_told_15 : decode c_M_told 15 = .ok (.iconst 1, 1) := by decide +kernel
theorem dM_told_16 : decode c_M_told 16 = .ok (.iadd, 1) := by decide +kernel
theorem dM_told_17 : decode c_M_told 17 = .ok (.iastore, 1) := by decide +kernel
theorem dM_told_18 : decode c_M_told 18 = .ok (.sipush 1000, 3) := by decide +kernel
theorem dM_told_21 : decode c_M_told 21 = .ok (.iload_n 1, 1) := by decide +kernel
theorem dM_told_22 : decode c_M_told 22 = .ok (.iconst 1, 1) := by decide +kernel
theorem dM_told_23 : decode c_M_told 23 = .ok (.iadd, 1) := by decide +kernel
theorem dM_told_24 : decode c_M_told 24 = .ok (.imul, 1) := by decide +kernel
theorem dM_told_25 : decode c_M_told 25 = .ok (.iload_n 1, 1) := by decide +kernel
theorem dM_told_26 : decode c_M_told 26 = .ok (.iconst 4, 1) := by decide +kernel
theorem dM_told_27 : decode c_M_told 27 = .ok (.if_icmp .ne 7, 3) := by decide +kernel
theorem dM_told_30 : decode c_M_told 30 = .ok (.iconst 0, 1) := by decide +kernel
theorem dM_told_31 : decode c_M_told 31 = .ok (.goto 7, 3) := by decide +kernel
theorem dM_told_34 : decode c_M_told 34 = .ok (.bipush 100, 2) := by decide +kernel
theorem dM_told_36 : decode c_M_told 36 = .ok (.iload_n 2, 1) := by decide +kernel
theorem dM_told_37 : decode c_M_told 37 = .ok (.imul, 1) := by decide +kernel
theorem dM_told_38 : decode c_M_told 38 = .ok (.iadd, 1) := by decide +kernel
theorem dM_told_39 : decode c_M_told 39 = .ok (.iload_n 1, 1) := by decide +kernel
theorem dM_told_40 : decode c_M_told 40 = .ok (.iconst 4, 1) := by decide +kernel
theorem dM_told_41 : decode c_M_told 41 = .ok (.if_icmp .eq 8, 3) := by decide +kernel
theorem dM_told_44 : decode c_M_told 44 = .ok (.iload_n 1, 1) := by decide +kernel
theorem dM_told_45 : decode c_M_told 45 = .ok (.iconst 1, 1) := by decide +kernel
theorem dM_told_46 : decode c_M_told 46 = .ok (.if_icmp .ne 7, 3) := by decide +kernel
theorem dM_told_49 : decode c_M_told 49 = .ok (.iconst 0, 1) := by decide +kernel
theorem dM_told_50 : decode c_M_told 50 = .ok (.goto 4, 3) := by decide +kernel
theorem dM_told_53 : decode c_M_told 53 = .ok (.iload_n 3, 1) := by decide +kernel
theorem dM_told_54 : decode c_M_told 54 = .ok (.iadd, 1) := by decide +kernel
theorem dM_told_55 : decode c_M_told 55 = .ok (.ireturn, 1) := by decide +kernel
theorem dM_refreshing_0 : decode c_M_refreshing 0 = .ok (.aload_n 0, 1) := by decide +kernel
theorem dM_refreshing_1 : decode c_M_refreshing 1 = .ok (.iconst 0, 1) := by decide +kernel
theorem dM_refreshing_2 : decode c_M_refreshing 2 = .ok (.invokevirtual 95, 3) := by decide +kernel
theorem dM_refreshing_5 : decode c_M_refreshing 5 = .ok (.ifCond .ne 11, 3) := by decide +kernel
theorem dM_refreshing_8 : decode c_M_refreshing 8 = .ok (.aload_n 0, 1) := by decide +kernel
theorem dM_refreshing_9 : decode c_M_refreshing 9 = .ok (.iconst 4, 1) := by decide +kernel
theorem dM_refreshing_10 : decode c_M_refreshing 10 = .ok (.iconst 0, 1) := by decide +kernel
theorem dM_refreshing_11 : decode c_M_refreshing 11 = .ok (.iconst 0, 1) := by decide +kernel
theorem dM_refreshing_12 : decode c_M_refreshing 12 = .ok (.invokevirtual 130, 3) := by decide +kernel
theorem dM_refreshing_15 : decode c_M_refreshing 15 = .ok (.ireturn, 1) := by decide +kernel
theorem dM_refreshing_16 : decode c_M_refreshing 16 = .ok (.iconst 0, 1) := by decide +kernel
theorem dM_refreshing_17 : decode c_M_refreshing 17 = .ok (.istore_n 1, 1) := by decide +kernel
theorem dM_refreshing_18 : decode c_M_refreshing 18 = .ok (.iload_n 1, 1) := by decide +kernel
theorem dM_refreshing_19 : decode c_M_refreshing 19 = .ok (.aload_n 0, 1) := by decide +kernel
theorem dM_refreshing_20 : decode c_M_refreshing 20 = .ok (.getfield 71, 3) := by decide +kernel
theorem dM_refreshing_23 : decode c_M_refreshing 23 = .ok (.if_icmp .ge 26, 3) := by decide +kernel
theorem dM_refreshing_26 : decode c_M_refreshing 26 = .ok (.aload_n 0, 1) := by decide +kernel
theorem dM_refreshing_27 : decode c_M_refreshing 27 = .ok (.iconst 0, 1) := by decide +kernel
theorem dM_refreshing_28 : decode c_M_refreshing 28 = .ok (.iload_n 1, 1) := by decide +kernel
theorem dM_refreshing_29 : decode c_M_refreshing 29 = .ok (.invokevirtual 92, 3) := by decide +kernel
theorem dM_refreshing_32 : decode c_M_refreshing 32 = .ok (.ifCond .ne 11, 3) := by decide +kernel
theorem dM_refreshing_35 : decode c_M_refreshing 35 = .ok (.aload_n 0, 1) := by decide +kernel
theorem dM_refreshing_36 : decode c_M_refreshing 36 = .ok (.iconst 1, 1) := by decide +kernel
theorem dM_refreshing_37 : decode c_M_refreshing 37 = .ok (.iload_n 1, 1) := by decide +kernel
theorem dM_refreshing_38 : decode c_M_refreshing 38 = .ok (.iconst 0, 1) := by decide +kernel
theorem dM_refreshing_39 : decode c_M_refreshing 39 = .ok (.invokevirtual 130, 3) := by decide +kernel
theorem dM_refreshing_42 : decode c_M_refreshing 42 = .ok (.ireturn, 1) := by decide +kernel
theorem dM_refreshing_43 : decode c_M_refreshing 43 = .ok (.iinc 1 1, 3) := by decide +kernel
theorem dM_refreshing_46 : decode c_M_refreshing 46 = .ok (.goto (-28), 3) := by decide +kernel
theorem dM_refreshing_49 : decode c_M_refreshing 49 = .ok (.iconst 0, 1) := by decide +kernel
theorem dM_refreshing_50 : decode c_M_refreshing 50 = .ok (.ireturn, 1) := by decide +kernel
theorem dM_hasElder_0 : decode c_M_hasElder 0 = .ok (.iconst 0, 1) := by decide +kernel
theorem dM_hasElder_1 : decode c_M_hasElder 1 = .ok (.istore_n 2, 1) := by decide +kernel
theorem dM_hasElder_2 : decode c_M_hasElder 2 = .ok (.iconst 0, 1) := by decide +kernel
theorem dM_hasElder_3 : decode c_M_hasElder 3 = .ok (.istore_n 3, 1) := by decide +kernel
theorem dM_hasElder_4 : decode c_M_hasElder 4 = .ok (.iload_n 3, 1) := by decide +kernel
theorem dM_hasElder_5 : decode c_M_hasElder 5 = .ok (.iload_n 1, 1) := by decide +kernel
theorem dM_hasElder_6 : decode c_M_hasElder 6 = .ok (.if_icmp .ge 64, 3) := by decide +kernel
theorem dM_hasElder_9 : decode c_M_hasElder 9 = .ok (.iload_n 2, 1) := by decide +kernel
theorem dM_hasElder_10 : decode c_M_hasElder 10 = .ok (.ifCond .ne 48, 3) := by decide +kernel
theorem dM_hasElder_13 : decode c_M_hasElder 13 = .ok (.aload_n 0, 1) := by decide +kernel
theorem dM_hasElder_14 : decode c_M_hasElder 14 = .ok (.getfield 43, 3) := by decide +kernel
theorem dM_hasElder_17 : decode c_M_hasElder 17 = .ok (.iload_n 3, 1) := by decide +kernel
theorem dM_hasElder_18 : decode c_M_hasElder 18 = .ok (.iaload, 1) := by decide +kernel
theorem dM_hasElder_19 : decode c_M_hasElder 19 = .ok (.aload_n 0, 1) := by decide +kernel
theorem dM_hasElder_20 : decode c_M_hasElder 20 = .ok (.getfield 43, 3) := by decide +kernel
theorem dM_hasElder_23 : decode c_M_hasElder 23 = .ok (.iload_n 1, 1) := by decide +kernel
theorem dM_hasElder_24 : decode c_M_hasElder 24 = .ok (.iaload, 1) := by decide +kernel
theorem dM_hasElder_25 : decode c_M_hasElder 25 = .ok (.if_icmp .ne 37, 3) := by decide +kernel
theorem dM_hasElder_28 : decode c_M_hasElder 28 = .ok (.aload_n 0, 1) := by decide +kernel
theorem dM_hasElder_29 : decode c_M_hasElder 29 = .ok (.getfield 46, 3) := by decide +kernel
theorem dM_hasElder_32 : decode c_M_hasElder 32 = .ok (.iload_n 3, 1) := by decide +kernel
theorem dM_hasElder_33 : decode c_M_hasElder 33 = .ok (.iaload, 1) := by decide +kernel
theorem dM_hasElder_34 : decode c_M_hasElder 34 = .ok (.aload_n 0, 1) := by decide +kernel
theorem dM_hasElder_35 : decode c_M_hasElder 35 = .ok (.getfield 46, 3) := by decide +kernel
theorem dM_hasElder_38 : decode c_M_hasElder 38 = .ok (.iload_n 1, 1) := by decide +kernel
theorem dM_hasElder_39 : decode c_M_hasElder 39 = .ok (.iaload, 1) := by decide +kernel
theorem dM_hasElder_40 : decode c_M_hasElder 40 = .ok (.if_icmp .ne 22, 3) := by decide +kernel
theorem dM_hasElder_43 : decode c_M_hasElder 43 = .ok (.aload_n 0, 1) := by decide +kernel
theorem dM_hasElder_44 : decode c_M_hasElder 44 = .ok (.getfield 49, 3) := by decide +kernel
theorem dM_hasElder_47 : decode c_M_hasElder 47 = .ok (.iload_n 3, 1) := by decide +kernel
theorem dM_hasElder_48 : decode c_M_hasElder 48 = .ok (.iaload, 1) := by decide +kernel
theorem dM_hasElder_49 : decode c_M_hasElder 49 = .ok (.aload_n 0, 1) := by decide +kernel
theorem dM_hasElder_50 : decode c_M_hasElder 50 = .ok (.getfield 49, 3) := by decide +kernel
theorem dM_hasElder_53 : decode c_M_hasElder 53 = .ok (.iload_n 1, 1) := by decide +kernel
theorem dM_hasElder_54 : decode c_M_hasElder 54 = .ok (.iaload, 1) := by decide +kernel
theorem dM_hasElder_55 : decode c_M_hasElder 55 = .ok (.if_icmp .ne 7, 3) := by decide +kernel
theorem dM_hasElder_58 : decode c_M_hasElder 58 = .ok (.iconst 1, 1) := by decide +kernel
theorem dM_hasElder_59 : decode c_M_hasElder 59 = .ok (.goto 4, 3) := by decide +kernel
theorem dM_hasElder_62 : decode c_M_hasElder 62 = .ok (.iconst 0, 1) := by decide +kernel
theorem dM_hasElder_63 : decode c_M_hasElder 63 = .ok (.istore_n 2, 1) := by decide +kernel
theorem dM_hasElder_64 : decode c_M_hasElder 64 = .ok (.iinc 3 1, 3) := by decide +kernel
theorem dM_hasElder_67 : decode c_M_hasElder 67 = .ok (.goto (-63), 3) := by decide +kernel
theorem dM_hasElder_70 : decode c_M_hasElder 70 = .ok (.iload_n 2, 1) := by decide +kernel
theorem dM_hasElder_71 : decode c_M_hasElder 71 = .ok (.ireturn, 1) := by decide +kernel
theorem dM_hit_0 : decode c_M_hit 0 = .ok (.iconst 0, 1) := by decide +kernel
theorem dM_hit_1 : decode c_M_hit 1 = .ok (.istore_n 2, 1) := by decide +kernel
theorem dM_hit_2 : decode c_M_hit 2 = .ok (.iload_n 2, 1) := by decide +kernel
theorem dM_hit_3 : decode c_M_hit 3 = .ok (.iload_n 1, 1) := by decide +kernel
theorem dM_hit_4 : decode c_M_hit 4 = .ok (.if_icmp .ge 83, 3) := by decide +kernel
theorem dM_hit_7 : decode c_M_hit 7 = .ok (.aload_n 0, 1) := by decide +kernel
theorem dM_hit_8 : decode c_M_hit 8 = .ok (.iload_n 2, 1) := by decide +kernel
theorem dM_hit_9 : decode c_M_hit 9 = .ok (.invokevirtual 133, 3) := by decide +kernel
theorem dM_hit_12 : decode c_M_hit 12 = .ok (.ifCond .ne 69, 3) := by decide +kernel
theorem dM_hit_15 : decode c_M_hit 15 = .ok (.aload_n 0, 1) := by decide +kernel
theorem dM_hit_16 : decode c_M_hit 16 = .ok (.iconst 0, 1) := by decide +kernel
theorem dM_hit_17 : decode c_M_hit 17 = .ok (.aload_n 0, 1) := by decide +kernel
theorem dM_hit_18 : decode c_M_hit 18 = .ok (.getfield 43, 3) := by decide +kernel
theorem dM_hit_21 : decode c_M_hit 21 = .ok (.iload_n 2, 1) := by decide +kernel
theorem dM_hit_22 : decode c_M_hit 22 = .ok (.iaload, 1) := by decide +kernel
theorem dM_hit_23 : decode c_M_hit 23 = .ok (.aload_n 0, 1) := by decide +kernel
theorem dM_hit_24 : decode c_M_hit 24 = .ok (.getfield 46, 3) := by decide +kernel
theorem dM_hit_27 : decode c_M_hit 27 = .ok (.iload_n 2, 1) := by decide +kernel
theorem dM_hit_28 : decode c_M_hit 28 = .ok (.iaload, 1) := by decide +kernel
theorem dM_hit_29 : decode c_M_hit 29 = .ok (.invokevirtual 99, 3) := by decide +kernel
theorem dM_hit_32 : decode c_M_hit 32 = .ok (.ifCond .ne 49, 3) := by decide +kernel
theorem dM_hit_35 : decode c_M_hit 35 = .ok (.aload_n 0, 1) := by decide +kernel
theorem dM_hit_36 : decode c_M_hit 36 = .ok (.getfield 43, 3) := by decide +kernel
theorem dM_hit_39 : decode c_M_hit 39 = .ok (.iload_n 2, 1) := by decide +kernel
theorem dM_hit_40 : decode c_M_hit 40 = .ok (.iaload, 1) := by decide +kernel
theorem dM_hit_41 : decode c_M_hit 41 = .ok (.istore_n 3, 1) := by decide +kernel
theorem dM_hit_42 : decode c_M_hit 42 = .ok (.aload_n 0, 1) := by decide +kernel
theorem dM_hit_43 : decode c_M_hit 43 = .ok (.getfield 46, 3) := by decide +kernel
theorem dM_hit_46 : decode c_M_hit 46 = .ok (.iload_n 2, 1) := by decide +kernel
theorem dM_hit_47 : decode c_M_hit 47 = .ok (.iaload, 1) := by decide +kernel
theorem dM_hit_48 : decode c_M_hit 48 = .ok (.istore 4, 2) := by decide +kernel
theorem dM_hit_50 : decode c_M_hit 50 = .ok (.aload_n 0, 1) := by decide +kernel
theorem dM_hit_51 : decode c_M_hit 51 = .ok (.getfield 52, 3) := by decide +kernel
theorem dM_hit_54 : decode c_M_hit 54 = .ok (.iload_n 2, 1) := by decide +kernel
theorem dM_hit_55 : decode c_M_hit 55 = .ok (.baload, 1) := by decide +kernel
theorem dM_hit_56 : decode c_M_hit 56 = .ok (.istore 5, 2) := by decide +kernel
theorem dM_hit_58 : decode c_M_hit 58 = .ok (.aload_n 0, 1) := by decide +kernel
theorem dM_hit_59 : decode c_M_hit 59 = .ok (.iload_n 2, 1) := by decide +kernel
theorem dM_hit_60 : decode c_M_hit 60 = .ok (.invokevirtual 136, 3) := by decide +kernel
theorem dM_hit_63 : decode c_M_hit 63 = .ok (.aload_n 0, 1) := by decide +kernel
theorem dM_hit_64 : decode c_M_hit 64 = .ok (.iload 5, 2) := by decide +kernel
theorem dM_hit_66 : decode c_M_hit 66 = .ok (.ifCond .eq 7, 3) := by decide +kernel
theorem dM_hit_69 : decode c_M_hit 69 = .ok (.iconst 3, 1) := by decide +kernel
theorem dM_hit_70 : decode c_M_hit 70 = .ok (.goto 4, 3) := by decide +kernel
theorem dM_hit_73 : decode c_M_hit 73 = .ok (.iconst 2, 1) := by decide +kernel
theorem dM_hit_74 : decode c_M_hit 74 = .ok (.iload_n 3, 1) := by decide +kernel
theorem dM_hit_75 : decode c_M_hit 75 = .ok (.iload 4, 2) := by decide +kernel
theorem dM_hit_77 : decode c_M_hit 77 = .ok (.invokevirtual 130, 3) := by decide +kernel
theorem dM_hit_80 : decode c_M_hit 80 = .ok (.ireturn, 1) := by decide +kernel
theorem dM_hit_81 : decode c_M_hit 81 = .ok (.iinc 2 1, 3) := by decide +kernel
theorem dM_hit_84 : decode c_M_hit 84 = .ok (.goto (-82), 3) := by decide +kernel
theorem dM_hit_87 : decode c_M_hit 87 = .ok (.iconst 0, 1) := by decide +kernel
theorem dM_hit_88 : decode c_M_hit 88 = .ok (.ireturn, 1) := by decide +kernel
theorem dM_asks_0 : decode c_M_asks 0 = .ok (.iconst 0, 1) := by decide +kernel
theorem dM_asks_1 : decode c_M_asks 1 = .ok (.istore 4, 2) := by decide +kernel
theorem dM_asks_3 : decode c_M_asks 3 = .ok (.iconst 0, 1) := by decide +kernel
theorem dM_asks_4 : decode c_M_asks 4 = .ok (.istore 5, 2) := by decide +kernel
theorem dM_asks_6 : decode c_M_asks 6 = .ok (.iload 5, 2) := by decide +kernel
theorem dM_asks_8 : decode c_M_asks 8 = .ok (.iload_n 1, 1) := by decide +kernel
theorem dM_asks_9 : decode c_M_asks 9 = .ok (.if_icmp .ge 47, 3) := by decide +kernel
theorem dM_asks_12 : decode c_M_asks 12 = .ok (.iload 4, 2) := by decide +kernel
theorem dM_asks_14 : decode c_M_asks 14 = .ok (.ifCond .ne 29, 3) := by decide +kernel
theorem dM_asks_17 : decode c_M_asks 17 = .ok (.aload_n 0, 1) := by decide +kernel
theorem dM_asks_18 : decode c_M_asks 18 = .ok (.getfield 43, 3) := by decide +kernel
theorem dM_asks_21 : decode c_M_asks 21 = .ok (.iload 5, 2) := by decide +kernel
theorem dM_asks_23 : decode c_M_asks 23 = .ok (.iaload, 1) := by decide +kernel
theorem dM_asks_24 : decode c_M_asks 24 = .ok (.iload_n 2, 1) := by decide +kernel
theorem dM_asks_25 : decode c_M_asks 25 = .ok (.if_icmp .ne 22, 3) := by decide +kernel
theorem dM_asks_28 : decode c_M_asks 28 = .ok (.iload_n 3, 1) := by decide +kernel
theorem dM_asks_29 : decode c_M_asks 29 = .ok (.ifCond .lt 14, 3) := by decide +kernel
theorem dM_asks_32 : decode c_M_asks 32 = .ok (.aload_n 0, 1) := by decide +kernel
theorem dM_asks_33 : decode c_M_asks 33 = .ok (.getfield 46, 3) := by decide +kernel
theorem dM_asks_36 : decode c_M_asks 36 = .ok (.iload 5, 2) := by decide +kernel
theorem dM_asks_38 : decode c_M_asks 38 = .ok (.iaload, 1) := by decide +kernel
theorem dM_asks_39 : decode c_M_asks 39 = .ok (.iload_n 3, 1) := by decide +kernel
theorem dM_asks_40 : decode c_M_asks 40 = .ok (.if_icmp .ne 7, 3) := by decide +kernel
theorem dM_asks_43 : decode c_M_asks 43 = .ok (.iconst 1, 1) := by decide +kernel
theorem dM_asks_44 : decode c_M_asks 44 = .ok (.goto 4, 3) := by decide +kernel
theorem dM_asks_47 : decode c_M_asks 47 = .ok (.iconst 0, 1) := by decide +kernel
theorem dM_asks_48 : decode c_M_asks 48 = .ok (.istore 4, 2) := by decide +kernel
theorem dM_asks_50 : decode c_M_asks 50 = .ok (.iinc 5 1, 3) := by decide +kernel
theorem dM_asks_53 : decode c_M_asks 53 = .ok (.goto (-47), 3) := by decide +kernel
theorem dM_asks_56 : decode c_M_asks 56 = .ok (.iload 4, 2) := by decide +kernel
theorem dM_asks_58 : decode c_M_asks 58 = .ok (.ireturn, 1) := by decide +kernel
theorem dM_way_0 : decode c_M_way 0 = .ok (.iconst 0, 1) := by decide +kernel
theorem dM_way_1 : decode c_M_way 1 = .ok (.istore_n 2, 1) := by decide +kernel
theorem dM_way_2 : decode c_M_way 2 = .ok (.iload_n 2, 1) := by decide +kernel
theorem dM_way_3 : decode c_M_way 3 = .ok (.iload_n 1, 1) := by decide +kernel
theorem dM_way_4 : decode c_M_way 4 = .ok (.if_icmp .ge 130, 3) := by decide +kernel
theorem dM_way_7 : decode c_M_way 7 = .ok (.aload_n 0, 1) := by decide +kernel
theorem dM_way_8 : decode c_M_way 8 = .ok (.getfield 43, 3) := by decide +kernel
theorem dM_way_11 : decode c_M_way 11 = .ok (.iload_n 2, 1) := by decide +kernel
theorem dM_way_12 : decode c_M_way 12 = .ok (.iaload, 1) := by decide +kernel
theorem dM_way_13 : decode c_M_way 13 = .ok (.istore_n 3, 1) := by decide +kernel
theorem dM_way_14 : decode c_M_way 14 = .ok (.aload_n 0, 1) := by decide +kernel
theorem dM_way_15 : decode c_M_way 15 = .ok (.getfield 46, 3) := by decide +kernel
theorem dM_way_18 : decode c_M_way 18 = .ok (.iload_n 2, 1) := by decide +kernel
theorem dM_way_19 : decode c_M_way 19 = .ok (.iaload, 1) := by decide +kernel
theorem dM_way_20 : decode c_M_way 20 = .ok (.istore 4, 2) := by decide +kernel
theorem dM_way_22 : decode c_M_way 22 = .ok (.aload_n 0, 1) := by decide +kernel
theorem dM_way_23 : decode c_M_way 23 = .ok (.iload_n 2, 1) := by decide +kernel
theorem dM_way_24 : decode c_M_way 24 = .ok (.iload_n 3, 1) := by decide +kernel
theorem dM_way_25 : decode c_M_way 25 = .ok (.iconst (-1), 1) := by decide +kernel
theorem dM_way_26 : decode c_M_way 26 = .ok (.invokevirtual 140, 3) := by decide +kernel
theorem dM_way_29 : decode c_M_way 29 = .ok (.ifCond .ne 7, 3) := by decide +kernel
theorem dM_way_32 : decode c_M_way 32 = .ok (.iconst 1, 1) := by decide +kernel
theorem dM_way_33 : decode c_M_way 33 = .ok (.goto 4, 3) := by decide +kernel
theorem dM_way_36 : decode c_M_way 36 = .ok (.iconst 0, 1) := by decide +kernel
theorem dM_way_37 : decode c_M_way 37 = .ok (.istore 5, 2) := by decide +kernel
theorem dM_way_39 : decode c_M_way 39 = .ok (.iload 5, 2) := by decide +kernel
theorem dM_way_41 : decode c_M_way 41 = .ok (.ifCond .eq 30, 3) := by decide +kernel
theorem dM_way_44 : decode c_M_way 44 = .ok (.aload_n 0, 1) := by decide +kernel
theorem dM_way_45 : decode c_M_way 45 = .ok (.getfield 13, 3) := by decide +kernel
theorem dM_way_48 : decode c_M_way 48 = .ok (.iload_n 3, 1) := by decide +kernel
theorem dM_way_49 : decode c_M_way 49 = .ok (.iaload, 1) := by decide +kernel
theorem dM_way_50 : decode c_M_way 50 = .ok (.ifCond .ge 21, 3) := by decide +kernel
theorem dM_way_53 : decode c_M_way 53 = .ok (.aload_n 0, 1) := by decide +kernel
theorem dM_way_54 : decode c_M_way 54 = .ok (.iconst 0, 1) := by decide +kernel
theorem dM_way_55 : decode c_M_way 55 = .ok (.iload_n 3, 1) := by decide +kernel
theorem dM_way_56 : decode c_M_way 56 = .ok (.invokevirtual 88, 3) := by decide +kernel
theorem dM_way_59 : decode c_M_way 59 = .ok (.ifCond .ne 12, 3) := by decide +kernel
theorem dM_way_62 : decode c_M_way 62 = .ok (.aload_n 0, 1) := by decide +kernel
theorem dM_way_63 : decode c_M_way 63 = .ok (.iconst 0, 1) := by decide +kernel
theorem dM_way_64 : decode c_M_way 64 = .ok (.iload_n 3, 1) := by decide +kernel
theorem dM_way_65 : decode c_M_way 65 = .ok (.iload 4, 2) := by decide +kernel
theorem dM_way_67 : decode c_M_way 67 = .ok (.invokevirtual 130, 3) := by decide +kernel
theorem dM_way_70 : decode c_M_way 70 = .ok (.ireturn, 1) := by decide +kernel
theorem dM_way_71 : decode c_M_way 71 = .ok (.iload 5, 2) := by decide +kernel
theorem dM_way_73 : decode c_M_way 73 = .ok (.ifCond .eq 55, 3) := by decide +kernel
theorem dM_way_76 : decode c_M_way 76 = .ok (.aload_n 0, 1) := by decide +kernel
theorem dM_way_77 : decode c_M_way 77 = .ok (.getfield 13, 3) := by decide +kernel
theorem dM_way_80 : decode c_M_way 80 = .ok (.iload_n 3, 1) := by decide +kernel
theorem dM_way_81 : decode c_M_way 81 = .ok (.iaload, 1) := by decide +kernel
theorem dM_way_82 : decode c_M_way 82 = .ok (.ifCond .lt 46, 3) := by decide +kernel
theorem dM_way_85 : decode c_M_way 85 = .ok (.aload_n 0, 1) := by decide +kernel
theorem dM_way_86 : decode c_M_way 86 = .ok (.getfield 13, 3) := by decide +kernel
theorem dM_way_89 : decode c_M_way 89 = .ok (.iload_n 3, 1) := by decide +kernel
theorem dM_way_90 : decode c_M_way 90 = .ok (.iaload, 1) := by decide +kernel
theorem dM_way_91 : decode c_M_way 91 = .ok (.iload 4, 2) := by decide +kernel
theorem dM_way_93 : decode c_M_way 93 = .ok (.if_icmp .eq 35, 3) := by decide +kernel
theorem dM_way_96 : decode c_M_way 96 = .ok (.aload_n 0, 1) := by decide +kernel
theorem dM_way_97 : decode c_M_way 97 = .ok (.iconst 0, 1) := by decide +kernel
theorem dM_way_98 : decode c_M_way 98 = .ok (.iload_n 3, 1) := by decide +kernel
theorem dM_way_99 : decode c_M_way 99 = .ok (.invokevirtual 92, 3) := by decide +kernel
theorem dM_way_102 : decode c_M_way 102 = .ok (.ifCond .ne 26, 3) := by decide +kernel
theorem dM_way_105 : decode c_M_way 105 = .ok (.aload_n 0, 1) := by decide +kernel
theorem dM_way_106 : decode c_M_way 106 = .ok (.iload_n 1, 1) := by decide +kernel
theorem dM_way_107 : decode c_M_way 107 = .ok (.iload_n 3, 1) := by decide +kernel
theorem dM_way_108 : decode c_M_way 108 = .ok (.aload_n 0, 1) := by decide +kernel
theorem dM_way_109 : decode c_M_way 109 = .ok (.getfield 13, 3) := by decide +kernel
theorem dM_way_112 : decode c_M_way 112 = .ok (.iload_n 3, 1) := by decide +kernel
theorem dM_way_113 : decode c_M_way 113 = .ok (.iaload, 1) := by decide +kernel
theorem dM_way_114 : decode c_M_way 114 = .ok (.invokevirtual 140, 3) := by decide +kernel
theorem dM_way_117 : decode c_M_way 117 = .ok (.ifCond .ne 11, 3) := by decide +kernel
theorem dM_way_120 : decode c_M_way 120 = .ok (.aload_n 0, 1) := by decide +kernel
theorem dM_way_121 : decode c_M_way 121 = .ok (.iconst 1, 1) := by decide +kernel
theorem dM_way_122 : decode c_M_way 122 = .ok (.iload_n 3, 1) := by decide +kernel
theorem dM_way_123 : decode c_M_way 123 = .ok (.iconst 0, 1) := by decide +kernel
theorem dM_way_124 : decode c_M_way 124 = .ok (.invokevirtual 130, 3) := by decide +kernel
theorem dM_way_127 : decode c_M_way 127 = .ok (.ireturn, 1) := by decide +kernel
theorem dM_way_128 : decode c_M_way 128 = .ok (.iinc 2 1, 3) := by decide +kernel
theorem dM_way_131 : decode c_M_way 131 = .ok (.goto (-129), 3) := by decide +kernel
theorem dM_way_134 : decode c_M_way 134 = .ok (.iconst 0, 1) := by decide +kernel
theorem dM_way_135 : decode c_M_way 135 = .ok (.ireturn, 1) := by decide +kernel
theorem dM_cycle_0 : decode c_M_cycle 0 = .ok (.aload_n 0, 1) := by decide +kernel
theorem dM_cycle_1 : decode c_M_cycle 1 = .ok (.getfield 31, 3) := by decide +kernel
theorem dM_cycle_4 : decode c_M_cycle 4 = .ok (.iconst 0, 1) := by decide +kernel
theorem dM_cycle_5 : decode c_M_cycle 5 = .ok (.iaload, 1) := by decide +kernel
theorem dM_cycle_6 : decode c_M_cycle 6 = .ok (.ifCond .ge 7, 3) := by decide +kernel
theorem dM_cycle_9 : decode c_M_cycle 9 = .ok (.iconst 0, 1) := by decide +kernel
theorem dM_cycle_10 : decode c_M_cycle 10 = .ok (.goto 9, 3) := by decide +kernel
theorem dM_cycle_13 : decode c_M_cycle 13 = .ok (.aload_n 0, 1) := by decide +kernel
theorem dM_cycle_14 : decode c_M_cycle 14 = .ok (.getfield 31, 3) := by decide +kernel
theorem dM_cycle_17 : decode c_M_cycle 17 = .ok (.iconst 0, 1) := by decide +kernel
theorem dM_cycle_18 : decode c_M_cycle 18 = .ok (.iaload, 1) := by decide +kernel
theorem dM_cycle_19 : decode c_M_cycle 19 = .ok (.istore_n 1, 1) := by decide +kernel
theorem dM_cycle_20 : decode c_M_cycle 20 = .ok (.iconst 0, 1) := by decide +kernel
theorem dM_cycle_21 : decode c_M_cycle 21 = .ok (.istore_n 2, 1) := by decide +kernel
theorem dM_cycle_22 : decode c_M_cycle 22 = .ok (.aload_n 0, 1) := by decide +kernel
theorem dM_cycle_23 : decode c_M_cycle 23 = .ok (.getfield 34, 3) := by decide +kernel
theorem dM_cycle_26 : decode c_M_cycle 26 = .ok (.iconst 0, 1) := by decide +kernel
theorem dM_cycle_27 : decode c_M_cycle 27 = .ok (.iaload, 1) := by decide +kernel
theorem dM_cycle_28 : decode c_M_cycle 28 = .ok (.iload_n 1, 1) := by decide +kernel
theorem dM_cycle_29 : decode c_M_cycle 29 = .ok (.isub, 1) := by decide +kernel
theorem dM_cycle_30 : decode c_M_cycle 30 = .ok (.aload_n 0, 1) := by decide +kernel
theorem dM_cycle_31 : decode c_M_cycle 31 = .ok (.getfield 7, 3) := by decide +kernel
theorem dM_cycle_34 : decode c_M_cycle 34 = .ok (.bipush 10, 2) := by decide +kernel
theorem dM_cycle_36 : decode c_M_cycle 36 = .ok (.iaload, 1) := by decide +kernel
theorem dM_cycle_37 : decode c_M_cycle 37 = .ok (.if_icmp .lt 11, 3) := by decide +kernel
theorem dM_cycle_40 : decode c_M_cycle 40 = .ok (.aload_n 0, 1) := by decide +kernel
theorem dM_cycle_41 : decode c_M_cycle 41 = .ok (.invokevirtual 143, 3) := by decide +kernel
theorem dM_cycle_44 : decode c_M_cycle 44 = .ok (.istore_n 2, 1) := by decide +kernel
theorem dM_cycle_45 : decode c_M_cycle 45 = .ok (.goto 59, 3) := by decide +kernel
theorem dM_cycle_48 : decode c_M_cycle 48 = .ok (.aload_n 0, 1) := by decide +kernel
theorem dM_cycle_49 : decode c_M_cycle 49 = .ok (.getfield 113, 3) := by decide +kernel
theorem dM_cycle_52 : decode c_M_cycle 52 = .ok (.ifCond .le 27, 3) := by decide +kernel
theorem dM_cycle_55 : decode c_M_cycle 55 = .ok (.aload_n 0, 1) := by decide +kernel
theorem dM_cycle_56 : decode c_M_cycle 56 = .ok (.getfield 34, 3) := by decide +kernel
theorem dM_cycle_59 : decode c_M_cycle 59 = .ok (.iconst 0, 1) := by decide +kernel
theorem dM_cycle_60 : decode c_M_cycle 60 = .ok (.iaload, 1) := by decide +kernel
theorem dM_cycle_61 : decode c_M_cycle 61 = .ok (.aload_n 0, 1) := by decide +kernel
theorem dM_cycle_62 : decode c_M_cycle 62 = .ok (.getfield 59, 3) := by decide +kernel
theorem dM_cycle_65 : decode c_M_cycle 65 = .ok (.iconst 0, 1) := by decide +kernel
theorem dM_cycle_66 : decode c_M_cycle 66 = .ok (.iaload, 1) := by decide +kernel
theorem dM_cycle_67 : decode c_M_cycle 67 = .ok (.isub, 1) := by decide +kernel
theorem dM_cycle_68 : decode c_M_cycle 68 = .ok (.aload_n 0, 1) := by decide +kernel
theorem dM_cycle_69 : decode c_M_cycle 69 = .ok (.getfield 78, 3) := by decide +kernel
theorem dM_cycle_72 : decode c_M_cycle 72 = .ok (.if_icmp .lt 7, 3) := by decide +kernel
theorem dM_cycle_75 : decode c_M_cycle 75 = .ok (.iconst 1, 1) := by decide +kernel
theorem dM_cycle_76 : decode c_M_cycle 76 = .ok (.goto 7, 3) := by decide +kernel
theorem dM_cycle_79 : decode c_M_cycle 79 = .ok (.aload_n 0, 1) := by decide +kernel
theorem dM_cycle_80 : decode c_M_cycle 80 = .ok (.getfield 113, 3) := by decide +kernel
theorem dM_cycle_83 : decode c_M_cycle 83 = .ok (.istore_n 3, 1) := by decide +kernel
theorem dM_cycle_84 : decode c_M_cycle 84 = .ok (.aload_n 0, 1) := by decide +kernel
theorem dM_cycle_85 : decode c_M_cycle 85 = .ok (.iload_n 3, 1) := by decide +kernel
theorem dM_cycle_86 : decode c_M_cycle 86 = .ok (.invokevirtual 147, 3) := by decide +kernel
theorem dM_cycle_89 : decode c_M_cycle 89 = .ok (.istore_n 2, 1) := by decide +kernel
theorem dM_cycle_90 : decode c_M_cycle 90 = .ok (.iload_n 2, 1) := by decide +kernel
theorem dM_cycle_91 : decode c_M_cycle 91 = .ok (.ifCond .ne 11, 3) := by decide +kernel
theorem dM_cycle_94 : decode c_M_cycle 94 = .ok (.aload_n 0, 1) := by decide +kernel
theorem dM_cycle_95 : decode c_M_cycle 95 = .ok (.iload_n 3, 1) := by decide +kernel
theorem dM_cycle_96 : decode c_M_cycle 96 = .ok (.invokevirtual 150, 3) := by decide +kernel
theorem dM_cycle_99 : decode c_M_cycle 99 = .ok (.goto 4, 3) := by decide +kernel
theorem dM_cycle_102 : decode c_M_cycle 102 = .ok (.iload_n 2, 1) := by decide +kernel
theorem dM_cycle_103 : decode c_M_cycle 103 = .ok (.istore_n 2, 1) := by decide +kernel
theorem dM_cycle_104 : decode c_M_cycle 104 = .ok (.aload_n 0, 1) := by decide +kernel
theorem dM_cycle_105 : decode c_M_cycle 105 = .ok (.getfield 34, 3) := by decide +kernel
theorem dM_cycle_108 : decode c_M_cycle 108 = .ok (.iconst 0, 1) := by decide +kernel
theorem dM_cycle_109 : decode c_M_cycle 109 = .ok (.dup2, 1) := by decide +kernel
theorem dM_cycle_110 : decode c_M_cycle 110 = .ok (.iaload, 1) := by decide +kernel
theorem dM_cycle_111 : decode c_M_cycle 111 = .ok (.iconst 1, 1) := by decide +kernel
theorem dM_cycle_112 : decode c_M_cycle 112 = .ok (.iadd, 1) := by decide +kernel
theorem dM_cycle_113 : decode c_M_cycle 113 = .ok (.iastore, 1) := by decide +kernel
theorem dM_cycle_114 : decode c_M_cycle 114 = .ok (.iload_n 2, 1) := by decide +kernel
theorem dM_cycle_115 : decode c_M_cycle 115 = .ok (.ireturn, 1) := by decide +kernel
theorem dM_tick_0 : decode c_M_tick 0 = .ok (.aload_n 0, 1) := by decide +kernel
theorem dM_tick_1 : decode c_M_tick 1 = .ok (.iconst 0, 1) := by decide +kernel
theorem dM_tick_2 : decode c_M_tick 2 = .ok (.putfield 81, 3) := by decide +kernel
theorem dM_tick_5 : decode c_M_tick 5 = .ok (.aload_n 0, 1) := by decide +kernel
theorem dM_tick_6 : decode c_M_tick 6 = .ok (.invokevirtual 153, 3) := by decide +kernel
theorem dM_tick_9 : decode c_M_tick 9 = .ok (.ireturn, 1) := by decide +kernel
theorem dM_run_0 : decode c_M_run 0 = .ok (.aload_n 0, 1) := by decide +kernel
theorem dM_run_1 : decode c_M_run 1 = .ok (.iload_n 1, 1) := by decide +kernel
theorem dM_run_2 : decode c_M_run 2 = .ok (.ifCond .lt 10, 3) := by decide +kernel
theorem dM_run_5 : decode c_M_run 5 = .ok (.iload_n 1, 1) := by decide +kernel
theorem dM_run_6 : decode c_M_run 6 = .ok (.sipush 2000, 3) := by decide +kernel
theorem dM_run_9 : decode c_M_run 9 = .ok (.if_icmp .le 7, 3) := by decide +kernel
theorem dM_run_12 : decode c_M_run 12 = .ok (.iconst 1, 1) := by decide +kernel
theorem dM_run_13 : decode c_M_run 13 = .ok (.goto 4, 3) := by decide +kernel
theorem dM_run_16 : decode c_M_run 16 = .ok (.iconst 0, 1) := by decide +kernel
theorem dM_run_17 : decode c_M_run 17 = .ok (.putfield 81, 3) := by decide +kernel
theorem dM_run_20 : decode c_M_run 20 = .ok (.iconst 0, 1) := by decide +kernel
theorem dM_run_21 : decode c_M_run 21 = .ok (.istore_n 2, 1) := by decide +kernel
theorem dM_run_22 : decode c_M_run 22 = .ok (.iconst 0, 1) := by decide +kernel
theorem dM_run_23 : decode c_M_run 23 = .ok (.istore_n 3, 1) := by decide +kernel
theorem dM_run_24 : decode c_M_run 24 = .ok (.iload_n 3, 1) := by decide +kernel
theorem dM_run_25 : decode c_M_run 25 = .ok (.iload_n 1, 1) := by decide +kernel
theorem dM_run_26 : decode c_M_run 26 = .ok (.if_icmp .ge 35, 3) := by decide +kernel
theorem dM_run_29 : decode c_M_run 29 = .ok (.aload_n 0, 1) := by decide +kernel
theorem dM_run_30 : decode c_M_run 30 = .ok (.getfield 81, 3) := by decide +kernel
theorem dM_run_33 : decode c_M_run 33 = .ok (.ifCond .ne 28, 3) := by decide +kernel
theorem dM_run_36 : decode c_M_run 36 = .ok (.aload_n 0, 1) := by decide +kernel
theorem dM_run_37 : decode c_M_run 37 = .ok (.invokevirtual 153, 3) := by decide +kernel
theorem dM_run_40 : decode c_M_run 40 = .ok (.istore 4, 2) := by decide +kernel
theorem dM_run_42 : decode c_M_run 42 = .ok (.iload 4, 2) := by decide +kernel
theorem dM_run_44 : decode c_M_run 44 = .ok (.ifCond .le 9, 3) := by decide +kernel
theorem dM_run_47 : decode c_M_run 47 = .ok (.iload_n 2, 1) := by decide +kernel
theorem dM_run_48 : decode c_M_run 48 = .ok (.iconst 1, 1) := by decide +kernel
theorem dM_run_49 : decode c_M_run 49 = .ok (.iadd, 1) := by decide +kernel
theorem dM_run_50 : decode c_M_run 50 = .ok (.goto 4, 3) := by decide +kernel
theorem dM_run_53 : decode c_M_run 53 = .ok (.iload_n 2, 1) := by decide +kernel
theorem dM_run_54 : decode c_M_run 54 = .ok (.istore_n 2, 1) := by decide +kernel
theorem dM_run_55 : decode c_M_run 55 = .ok (.iinc 3 1, 3) := by decide +kernel
theorem dM_run_58 : decode c_M_run 58 = .ok (.goto (-34), 3) := by decide +kernel
theorem dM_run_61 : decode c_M_run 61 = .ok (.iload_n 2, 1) := by decide +kernel
theorem dM_run_62 : decode c_M_run 62 = .ok (.ireturn, 1) := by decide +kernel
theorem dM_result_0 : decode c_M_result 0 = .ok (.aload_n 0, 1) := by decide +kernel
theorem dM_result_1 : decode c_M_result 1 = .ok (.iload_n 1, 1) := by decide +kernel
theorem dM_result_2 : decode c_M_result 2 = .ok (.ifCond .lt 22, 3) := by decide +kernel
theorem dM_result_5 : decode c_M_result 5 = .ok (.iload_n 1, 1) := by decide +kernel
theorem dM_result_6 : decode c_M_result 6 = .ok (.aload_n 0, 1) := by decide +kernel
theorem dM_result_7 : decode c_M_result 7 = .ok (.getfield 116, 3) := by decide +kernel
theorem dM_result_10 : decode c_M_result 10 = .ok (.if_icmp .ge 14, 3) := by decide +kernel
theorem dM_result_13 : decode c_M_result 13 = .ok (.aload_n 0, 1) := by decide +kernel
theorem dM_result_14 : decode c_M_result 14 = .ok (.getfield 116, 3) := by decide +kernel
theorem dM_result_17 : decode c_M_result 17 = .ok (.iload_n 1, 1) := by decide +kernel
theorem dM_result_18 : decode c_M_result 18 = .ok (.isub, 1) := by decide +kernel
theorem dM_result_19 : decode c_M_result 19 = .ok (.bipush 32, 2) := by decide +kernel
theorem dM_result_21 : decode c_M_result 21 = .ok (.if_icmp .le 7, 3) := by decide +kernel
theorem dM_result_24 : decode c_M_result 24 = .ok (.iconst 1, 1) := by decide +kernel
theorem dM_result_25 : decode c_M_result 25 = .ok (.goto 4, 3) := by decide +kernel
theorem dM_result_28 : decode c_M_result 28 = .ok (.iconst 0, 1) := by decide +kernel
theorem dM_result_29 : decode c_M_result 29 = .ok (.putfield 81, 3) := by decide +kernel
theorem dM_result_32 : decode c_M_result 32 = .ok (.aload_n 0, 1) := by decide +kernel
theorem dM_result_33 : decode c_M_result 33 = .ok (.getfield 81, 3) := by decide +kernel
theorem dM_result_36 : decode c_M_result 36 = .ok (.ifCond .eq 5, 3) := by decide +kernel
theorem dM_result_39 : decode c_M_result 39 = .ok (.iconst 0, 1) := by decide +kernel
theorem dM_result_40 : decode c_M_result 40 = .ok (.ireturn, 1) := by decide +kernel
theorem dM_result_41 : decode c_M_result 41 = .ok (.aload_n 0, 1) := by decide +kernel
theorem dM_result_42 : decode c_M_result 42 = .ok (.getfield 62, 3) := by decide +kernel
theorem dM_result_45 : decode c_M_result 45 = .ok (.iload_n 1, 1) := by decide +kernel
theorem dM_result_46 : decode c_M_result 46 = .ok (.bipush 32, 2) := by decide +kernel
theorem dM_result_48 : decode c_M_result 48 = .ok (.irem, 1) := by decide +kernel
theorem dM_result_49 : decode c_M_result 49 = .ok (.iaload, 1) := by decide +kernel
theorem dM_result_50 : decode c_M_result 50 = .ok (.istore_n 2, 1) := by decide +kernel
theorem dM_result_51 : decode c_M_result 51 = .ok (.aload_n 0, 1) := by decide +kernel
theorem dM_result_52 : decode c_M_result 52 = .ok (.iload_n 2, 1) := by decide +kernel
theorem dM_result_53 : decode c_M_result 53 = .ok (.ifCond .lt 13, 3) := by decide +kernel
theorem dM_result_56 : decode c_M_result 56 = .ok (.aload_n 0, 1) := by decide +kernel
theorem dM_result_57 : decode c_M_result 57 = .ok (.getfield 34, 3) := by decide +kernel
theorem dM_result_60 : decode c_M_result 60 = .ok (.iconst 0, 1) := by decide +kernel
theorem dM_result_61 : decode c_M_result 61 = .ok (.iaload, 1) := by decide +kernel
theorem dM_result_62 : decode c_M_result 62 = .ok (.iload_n 2, 1) := by decide +kernel
theorem dM_result_63 : decode c_M_result 63 = .ok (.if_icmp .gt 7, 3) := by decide +kernel
theorem dM_result_66 : decode c_M_result 66 = .ok (.iconst 2, 1) := by decide +kernel
theorem dM_result_67 : decode c_M_result 67 = .ok (.goto 4, 3) := by decide +kernel
theorem dM_result_70 : decode c_M_result 70 = .ok (.iconst 0, 1) := by decide +kernel
theorem dM_result_71 : decode c_M_result 71 = .ok (.putfield 81, 3) := by decide +kernel
theorem dM_result_74 : decode c_M_result 74 = .ok (.aload_n 0, 1) := by decide +kernel
theorem dM_result_75 : decode c_M_result 75 = .ok (.getfield 81, 3) := by decide +kernel
theorem dM_result_78 : decode c_M_result 78 = .ok (.ifCond .ne 15, 3) := by decide +kernel
theorem dM_result_81 : decode c_M_result 81 = .ok (.aload_n 0, 1) := by decide +kernel
theorem dM_result_82 : decode c_M_result 82 = .ok (.getfield 65, 3) := by decide +kernel
theorem dM_result_85 : decode c_M_result 85 = .ok (.iload_n 1, 1) := by decide +kernel
theorem dM_result_86 : decode c_M_result 86 = .ok (.bipush 32, 2) := by decide +kernel
theorem dM_result_88 : decode c_M_result 88 = .ok (.irem, 1) := by decide +kernel
theorem dM_result_89 : decode c_M_result 89 = .ok (.iaload, 1) := by decide +kernel
theorem dM_result_90 : decode c_M_result 90 = .ok (.goto 4, 3) := by decide +kernel
theorem dM_result_93 : decode c_M_result 93 = .ok (.iconst 0, 1) := by decide +kernel
theorem dM_result_94 : decode c_M_result 94 = .ok (.ireturn, 1) := by decide +kernel
theorem dM_word_0 : decode c_M_word 0 = .ok (.aload_n 0, 1) := by decide +kernel
theorem dM_word_1 : decode c_M_word 1 = .ok (.aload_n 0, 1) := by decide +kernel
theorem dM_word_2 : decode c_M_word 2 = .ok (.iload_n 1, 1) := by decide +kernel
theorem dM_word_3 : decode c_M_word 3 = .ok (.iload_n 2, 1) := by decide +kernel
theorem dM_word_4 : decode c_M_word 4 = .ok (.iload_n 3, 1) := by decide +kernel
theorem dM_word_5 : decode c_M_word 5 = .ok (.invokevirtual 110, 3) := by decide +kernel
theorem dM_word_8 : decode c_M_word 8 = .ok (.ifCond .eq 7, 3) := by decide +kernel
theorem dM_word_11 : decode c_M_word 11 = .ok (.iconst 0, 1) := by decide +kernel
theorem dM_word_12 : decode c_M_word 12 = .ok (.goto 4, 3) := by decide +kernel
theorem dM_word_15 : decode c_M_word 15 = .ok (.iconst 1, 1) := by decide +kernel
theorem dM_word_16 : decode c_M_word 16 = .ok (.putfield 81, 3) := by decide +kernel
theorem dM_word_19 : decode c_M_word 19 = .ok (.aload_n 0, 1) := by decide +kernel
theorem dM_word_20 : decode c_M_word 20 = .ok (.getfield 81, 3) := by decide +kernel
theorem dM_word_23 : decode c_M_word 23 = .ok (.ifCond .ne 23, 3) := by decide +kernel
theorem dM_word_26 : decode c_M_word 26 = .ok (.aload_n 0, 1) := by decide +kernel
theorem dM_word_27 : decode c_M_word 27 = .ok (.getfield 37, 3) := by decide +kernel
theorem dM_word_30 : decode c_M_word 30 = .ok (.sipush 128, 3) := by decide +kernel
theorem dM_word_33 : decode c_M_word 33 = .ok (.iload_n 1, 1) := by decide +kernel
theorem dM_word_34 : decode c_M_word 34 = .ok (.imul, 1) := by decide +kernel
theorem dM_word_35 : decode c_M_word 35 = .ok (.bipush 8, 2) := by decide +kernel
theorem dM_word_37 : decode c_M_word 37 = .ok (.iload_n 2, 1) := by decide +kernel
theorem dM_word_38 : decode c_M_word 38 = .ok (.imul, 1) := by decide +kernel
theorem dM_word_39 : decode c_M_word 39 = .ok (.iadd, 1) := by decide +kernel
theorem dM_word_40 : decode c_M_word 40 = .ok (.iload_n 3, 1) := by decide +kernel
theorem dM_word_41 : decode c_M_word 41 = .ok (.iadd, 1) := by decide +kernel
theorem dM_word_42 : decode c_M_word 42 = .ok (.iaload, 1) := by decide +kernel
theorem dM_word_43 : decode c_M_word 43 = .ok (.goto 4, 3) := by decide +kernel
theorem dM_word_46 : decode c_M_word 46 = .ok (.iconst 0, 1) := by decide +kernel
theorem dM_word_47 : decode c_M_word 47 = .ok (.ireturn, 1) := by decide +kernel
theorem dM_open_0 : decode c_M_open 0 = .ok (.aload_n 0, 1) := by decide +kernel
theorem dM_open_1 : decode c_M_open 1 = .ok (.aload_n 0, 1) := by decide +kernel
theorem dM_open_2 : decode c_M_open 2 = .ok (.iload_n 1, 1) := by decide +kernel
theorem dM_open_3 : decode c_M_open 3 = .ok (.invokevirtual 103, 3) := by decide +kernel
theorem dM_open_6 : decode c_M_open 6 = .ok (.ifCond .eq 7, 3) := by decide +kernel
theorem dM_open_9 : decode c_M_open 9 = .ok (.iconst 0, 1) := by decide +kernel
theorem dM_open_10 : decode c_M_open 10 = .ok (.goto 4, 3) := by decide +kernel
theorem dM_open_13 : decode c_M_open 13 = .ok (.iconst 1, 1) := by decide +kernel
theorem dM_open_14 : decode c_M_open 14 = .ok (.putfield 81, 3) := by decide +kernel
theorem dM_open_17 : decode c_M_open 17 = .ok (.aload_n 0, 1) := by decide +kernel
theorem dM_open_18 : decode c_M_open 18 = .ok (.getfield 81, 3) := by decide +kernel
theorem dM_open_21 : decode c_M_open 21 = .ok (.ifCond .ne 12, 3) := by decide +kernel
theorem dM_open_24 : decode c_M_open 24 = .ok (.aload_n 0, 1) := by decide +kernel
theorem dM_open_25 : decode c_M_open 25 = .ok (.getfield 13, 3) := by decide +kernel
theorem dM_open_28 : decode c_M_open 28 = .ok (.iload_n 1, 1) := by decide +kernel
theorem dM_open_29 : decode c_M_open 29 = .ok (.iaload, 1) := by decide +kernel
theorem dM_open_30 : decode c_M_open 30 = .ok (.goto 4, 3) := by decide +kernel
theorem dM_open_33 : decode c_M_open 33 = .ok (.iconst 0, 1) := by decide +kernel
theorem dM_open_34 : decode c_M_open 34 = .ok (.ireturn, 1) := by decide +kernel
theorem dM_waiting_0 : decode c_M_waiting 0 = .ok (.aload_n 0, 1) := by decide +kernel
theorem dM_waiting_1 : decode c_M_waiting 1 = .ok (.iload_n 1, 1) := by decide +kernel
theorem dM_waiting_2 : decode c_M_waiting 2 = .ok (.ifCond .lt 15, 3) := by decide +kernel
theorem dM_waiting_5 : decode c_M_waiting 5 = .ok (.iload_n 1, 1) := by decide +kernel
theorem dM_waiting_6 : decode c_M_waiting 6 = .ok (.aload_n 0, 1) := by decide +kernel
theorem dM_waiting_7 : decode c_M_waiting 7 = .ok (.getfield 113, 3) := by decide +kernel
theorem dM_waiting_10 : decode c_M_waiting 10 = .ok (.if_icmp .ge 7, 3) := by decide +kernel
theorem dM_waiting_13 : decode c_M_waiting 13 = .ok (.iconst 0, 1) := by decide +kernel
theorem dM_waiting_14 : decode c_M_waiting 14 = .ok (.goto 4, 3) := by decide +kernel
theorem dM_waiting_17 : decode c_M_waiting 17 = .ok (.iconst 1, 1) := by decide +kernel
theorem dM_waiting_18 : decode c_M_waiting 18 = .ok (.putfield 81, 3) := by decide +kernel
theorem dM_waiting_21 : decode c_M_waiting 21 = .ok (.aload_n 0, 1) := by decide +kernel
theorem dM_waiting_22 : decode c_M_waiting 22 = .ok (.getfield 81, 3) := by decide +kernel
theorem dM_waiting_25 : decode c_M_waiting 25 = .ok (.ifCond .ne 12, 3) := by decide +kernel
theorem dM_waiting_28 : decode c_M_waiting 28 = .ok (.aload_n 0, 1) := by decide +kernel
theorem dM_waiting_29 : decode c_M_waiting 29 = .ok (.getfield 40, 3) := by decide +kernel
theorem dM_waiting_32 : decode c_M_waiting 32 = .ok (.iload_n 1, 1) := by decide +kernel
theorem dM_waiting_33 : decode c_M_waiting 33 = .ok (.iaload, 1) := by decide +kernel
theorem dM_waiting_34 : decode c_M_waiting 34 = .ok (.goto 4, 3) := by decide +kernel
theorem dM_waiting_37 : decode c_M_waiting 37 = .ok (.iconst 0, 1) := by decide +kernel
theorem dM_waiting_38 : decode c_M_waiting 38 = .ok (.ireturn, 1) := by decide +kernel
theorem dM_figure_0 : decode c_M_figure 0 = .ok (.aload_n 0, 1) := by decide +kernel
theorem dM_figure_1 : decode c_M_figure 1 = .ok (.iload_n 1, 1) := by decide +kernel
theorem dM_figure_2 : decode c_M_figure 2 = .ok (.ifCond .lt 9, 3) := by decide +kernel
theorem dM_figure_5 : decode c_M_figure 5 = .ok (.iload_n 1, 1) := by decide +kernel
theorem dM_figure_6 : decode c_M_figure 6 = .ok (.bipush 8, 2) := by decide +kernel
theorem dM_figure_8 : decode c_M_figure 8 = .ok (.if_icmp .le 7, 3) := by decide +kernel
theorem dM_figure_11 : decode c_M_figure 11 = .ok (.iconst 1, 1) := by decide +kernel
theorem dM_figure_12 : decode c_M_figure 12 = .ok (.goto 4, 3) := by decide +kernel
theorem dM_figure_15 : decode c_M_figure 15 = .ok (.iconst 0, 1) := by decide +kernel
theorem dM_figure_16 : decode c_M_figure 16 = .ok (.putfield 81, 3) := by decide +kernel
theorem dM_figure_19 : decode c_M_figure 19 = .ok (.aload_n 0, 1) := by decide +kernel
theorem dM_figure_20 : decode c_M_figure 20 = .ok (.getfield 81, 3) := by decide +kernel
theorem dM_figure_23 : decode c_M_figure 23 = .ok (.ifCond .eq 5, 3) := by decide +kernel
theorem dM_figure_26 : decode c_M_figure 26 = .ok (.iconst 0, 1) := by decide +kernel
theorem dM_figure_27 : decode c_M_figure 27 = .ok (.ireturn, 1) := by decide +kernel
theorem dM_figure_28 : decode c_M_figure 28 = .ok (.iload_n 1, 1) := by decide +kernel
theorem dM_figure_29 : decode c_M_figure 29 = .ok (.ifCond .ne 12, 3) := by decide +kernel
theorem dM_figure_32 : decode c_M_figure 32 = .ok (.aload_n 0, 1) := by decide +kernel
theorem dM_figure_33 : decode c_M_figure 33 = .ok (.getfield 34, 3) := by decide +kernel
theorem dM_figure_36 : decode c_M_figure 36 = .ok (.iconst 0, 1) := by decide +kernel
theorem dM_figure_37 : decode c_M_figure 37 = .ok (.iaload, 1) := by decide +kernel
theorem dM_figure_38 : decode c_M_figure 38 = .ok (.goto 52, 3) := by decide +kernel
theorem dM_figure_41 : decode c_M_figure 41 = .ok (.iload_n 1, 1) := by decide +kernel
theorem dM_figure_42 : decode c_M_figure 42 = .ok (.bipush 6, 2) := by decide +kernel
theorem dM_figure_44 : decode c_M_figure 44 = .ok (.if_icmp .ge 14, 3) := by decide +kernel
theorem dM_figure_47 : decode c_M_figure 47 = .ok (.aload_n 0, 1) := by decide +kernel
theorem dM_figure_48 : decode c_M_figure 48 = .ok (.getfield 68, 3) := by decide +kernel
theorem dM_figure_51 : decode c_M_figure 51 = .ok (.iload_n 1, 1) := by decide +kernel
theorem dM_figure_52 : decode c_M_figure 52 = .ok (.iconst 1, 1) := by decide +kernel
theorem dM_figure_53 : decode c_M_figure 53 = .ok (.isub, 1) := by decide +kernel
theorem dM_figure_54 : decode c_M_figure 54 = .ok (.iaload, 1) := by decide +kernel
theorem dM_figure_55 : decode c_M_figure 55 = .ok (.goto 35, 3) := by decide +kernel
theorem dM_figure_58 : decode c_M_figure 58 = .ok (.iload_n 1, 1) := by decide +kernel
theorem dM_figure_59 : decode c_M_figure 59 = .ok (.bipush 6, 2) := by decide +kernel
theorem dM_figure_61 : decode c_M_figure 61 = .ok (.if_icmp .ne 10, 3) := by decide +kernel
theorem dM_figure_64 : decode c_M_figure 64 = .ok (.aload_n 0, 1) := by decide +kernel
theorem dM_figure_65 : decode c_M_figure 65 = .ok (.getfield 113, 3) := by decide +kernel
theorem dM_figure_68 : decode c_M_figure 68 = .ok (.goto 22, 3) := by decide +kernel
theorem dM_figure_71 : decode c_M_figure 71 = .ok (.iload_n 1, 1) := by decide +kernel
theorem dM_figure_72 : decode c_M_figure 72 = .ok (.bipush 7, 2) := by decide +kernel
theorem dM_figure_74 : decode c_M_figure 74 = .ok (.if_icmp .ne 10, 3) := by decide +kernel
theorem dM_figure_77 : decode c_M_figure 77 = .ok (.aload_n 0, 1) := by decide +kernel
theorem dM_figure_78 : decode c_M_figure 78 = .ok (.getfield 123, 3) := by decide +kernel
theorem dM_figure_81 : decode c_M_figure 81 = .ok (.goto 9, 3) := by decide +kernel
theorem dM_figure_84 : decode c_M_figure 84 = .ok (.aload_n 0, 1) := by decide +kernel
theorem dM_figure_85 : decode c_M_figure 85 = .ok (.getfield 31, 3) := by decide +kernel
theorem dM_figure_88 : decode c_M_figure 88 = .ok (.iconst 0, 1) := by decide +kernel
theorem dM_figure_89 : decode c_M_figure 89 = .ok (.iaload, 1) := by decide +kernel
theorem dM_figure_90 : decode c_M_figure 90 = .ok (.ireturn, 1) := by decide +kernel
theorem dM_check_0 : decode c_M_check 0 = .ok (.iload_n 1, 1) := by decide +kernel
theorem dM_check_1 : decode c_M_check 1 = .ok (.ifCond .lt 42, 3) := by decide +kernel
theorem dM_check_4 : decode c_M_check 4 = .ok (.iload_n 1, 1) := by decide +kernel
theorem dM_check_5 : decode c_M_check 5 = .ok (.iconst 4, 1) := by decide +kernel
theorem dM_check_6 : decode c_M_check 6 = .ok (.if_icmp .gt 37, 3) := by decide +kernel
theorem dM_check_9 : decode c_M_check 9 = .ok (.iload_n 1, 1) := by decide +kernel
theorem dM_check_10 : decode c_M_check 10 = .ok (.iconst 4, 1) := by decide +kernel
theorem dM_check_11 : decode c_M_check 11 = .ok (.if_icmp .eq 11, 3) := by decide +kernel
theorem dM_check_14 : decode c_M_check 14 = .ok (.aload_n 0, 1) := by decide +kernel
theorem dM_check_15 : decode c_M_check 15 = .ok (.iload_n 2, 1) := by decide +kernel
theorem dM_check_16 : decode c_M_check 16 = .ok (.invokevirtual 103, 3) := by decide +kernel
theorem dM_check_19 : decode c_M_check 19 = .ok (.ifCond .eq 24, 3) := by decide +kernel
theorem dM_check_22 : decode c_M_check 22 = .ok (.iload_n 1, 1) := by decide +kernel
theorem dM_check_23 : decode c_M_check 23 = .ok (.iconst 4, 1) := by decide +kernel
theorem dM_check_24 : decode c_M_check 24 = .ok (.if_icmp .eq 15, 3) := by decide +kernel
theorem dM_check_27 : decode c_M_check 27 = .ok (.iload_n 1, 1) := by decide +kernel
theorem dM_check_28 : decode c_M_check 28 = .ok (.iconst 1, 1) := by decide +kernel
theorem dM_check_29 : decode c_M_check 29 = .ok (.if_icmp .eq 10, 3) := by decide +kernel
theorem dM_check_32 : decode c_M_check 32 = .ok (.iload_n 3, 1) := by decide +kernel
theorem dM_check_33 : decode c_M_check 33 = .ok (.invokestatic 107, 3) := by decide +kernel
theorem dM_check_36 : decode c_M_check 36 = .ok (.ifCond .eq 7, 3) := by decide +kernel
theorem dM_check_39 : decode c_M_check 39 = .ok (.iconst 1, 1) := by decide +kernel
theorem dM_check_40 : decode c_M_check 40 = .ok (.goto 4, 3) := by decide +kernel
theorem dM_check_43 : decode c_M_check 43 = .ok (.iconst 0, 1) := by decide +kernel
theorem dM_check_44 : decode c_M_check 44 = .ok (.istore 4, 2) := by decide +kernel
theorem dM_check_46 : decode c_M_check 46 = .ok (.aload_n 0, 1) := by decide +kernel
theorem dM_check_47 : decode c_M_check 47 = .ok (.iload 4, 2) := by decide +kernel
theorem dM_check_49 : decode c_M_check 49 = .ok (.ifCond .eq 7, 3) := by decide +kernel
theorem dM_check_52 : decode c_M_check 52 = .ok (.iconst 0, 1) := by decide +kernel
theorem dM_check_53 : decode c_M_check 53 = .ok (.goto 4, 3) := by decide +kernel
theorem dM_check_56 : decode c_M_check 56 = .ok (.iconst 1, 1) := by decide +kernel
theorem dM_check_57 : decode c_M_check 57 = .ok (.putfield 81, 3) := by decide +kernel
theorem dM_check_60 : decode c_M_check 60 = .ok (.aload_n 0, 1) := by decide +kernel
theorem dM_check_61 : decode c_M_check 61 = .ok (.getfield 81, 3) := by decide +kernel
theorem dM_check_64 : decode c_M_check 64 = .ok (.ifCond .eq 5, 3) := by decide +kernel
theorem dM_check_67 : decode c_M_check 67 = .ok (.iconst 0, 1) := by decide +kernel
theorem dM_check_68 : decode c_M_check 68 = .ok (.ireturn, 1) := by decide +kernel
theorem dM_check_69 : decode c_M_check 69 = .ok (.aload_n 0, 1) := by decide +kernel
theorem dM_check_70 : decode c_M_check 70 = .ok (.iconst 1, 1) := by decide +kernel
theorem dM_check_71 : decode c_M_check 71 = .ok (.iload_n 1, 1) := by decide +kernel
theorem dM_check_72 : decode c_M_check 72 = .ok (.iload_n 1, 1) := by decide +kernel
theorem dM_check_73 : decode c_M_check 73 = .ok (.iconst 4, 1) := by decide +kernel
theorem dM_check_74 : decode c_M_check 74 = .ok (.if_icmp .ne 7, 3) := by decide +kernel
theorem dM_check_77 : decode c_M_check 77 = .ok (.iconst 0, 1) := by decide +kernel
theorem dM_check_78 : decode c_M_check 78 = .ok (.goto 4, 3) := by decide +kernel
theorem dM_check_81 : decode c_M_check 81 = .ok (.iload_n 2, 1) := by decide +kernel
theorem dM_check_82 : decode c_M_check 82 = .ok (.iload_n 3, 1) := by decide +kernel
theorem dM_check_83 : decode c_M_check 83 = .ok (.invokevirtual 156, 3) := by decide +kernel
theorem dM_check_86 : decode c_M_check 86 = .ok (.istore 5, 2) := by decide +kernel
theorem dM_check_88 : decode c_M_check 88 = .ok (.iload 5, 2) := by decide +kernel
theorem dM_check_90 : decode c_M_check 90 = .ok (.ifCond .ne 20, 3) := by decide +kernel
theorem dM_check_93 : decode c_M_check 93 = .ok (.aload_n 0, 1) := by decide +kernel
theorem dM_check_94 : decode c_M_check 94 = .ok (.iconst 1, 1) := by decide +kernel
theorem dM_check_95 : decode c_M_check 95 = .ok (.iload_n 1, 1) := by decide +kernel
theorem dM_check_96 : decode c_M_check 96 = .ok (.iload_n 1, 1) := by decide +kernel
theorem dM_check_97 : decode c_M_check 97 = .ok (.iconst 4, 1) := by decide +kernel
theorem dM_check_98 : decode c_M_check 98 = .ok (.if_icmp .ne 7, 3) := by decide +kernel
theorem dM_check_101 : decode c_M_check 101 = .ok (.iconst 0, 1) := by decide +kernel
theorem dM_check_102 : decode c_M_check 102 = .ok (.goto 4, 3) := by decide +kernel
theorem dM_check_105 : decode c_M_check 105 = .ok (.iload_n 2, 1) := by decide +kernel
theorem dM_check_106 : decode c_M_check 106 = .ok (.iload_n 3, 1) := by decide +kernel
theorem dM_check_107 : decode c_M_check 107 = .ok (.invokevirtual 126, 3) := by decide +kernel
theorem dM_check_110 : decode c_M_check 110 = .ok (.aload_n 0, 1) := by decide +kernel
theorem dM_check_111 : decode c_M_check 111 = .ok (.getfield 34, 3) := by decide +kernel
theorem dM_check_114 : decode c_M_check 114 = .ok (.iconst 1, 1) := by decide +kernel
theorem dM_check_115 : decode c_M_check 115 = .ok (.dup2, 1) := by decide +kernel
theorem dM_check_116 : decode c_M_check 116 = .ok (.iaload, 1) := by decide +kernel
theorem dM_check_117 : decode c_M_check 117 = .ok (.iconst 1, 1) := by decide +kernel
theorem dM_check_118 : decode c_M_check 118 = .ok (.iadd, 1) := by decide +kernel
theorem dM_check_119 : decode c_M_check 119 = .ok (.iastore, 1) := by decide +kernel
theorem dM_check_120 : decode c_M_check 120 = .ok (.iload 5, 2) := by decide +kernel
theorem dM_check_122 : decode c_M_check 122 = .ok (.ireturn, 1) := by decide +kernel
theorem dM_pause_0 : decode c_M_pause 0 = .ok (.aload_n 0, 1) := by decide +kernel
theorem dM_pause_1 : decode c_M_pause 1 = .ok (.iload_n 1, 1) := by decide +kernel
theorem dM_pause_2 : decode c_M_pause 2 = .ok (.ifCond .lt 10, 3) := by decide +kernel
theorem dM_pause_5 : decode c_M_pause 5 = .ok (.iload_n 1, 1) := by decide +kernel
theorem dM_pause_6 : decode c_M_pause 6 = .ok (.sipush 1000, 3) := by decide +kernel
theorem dM_pause_9 : decode c_M_pause 9 = .ok (.if_icmp .le 7, 3) := by decide +kernel
theorem dM_pause_12 : decode c_M_pause 12 = .ok (.iconst 1, 1) := by decide +kernel
theorem dM_pause_13 : decode c_M_pause 13 = .ok (.goto 4, 3) := by decide +kernel
theorem dM_pause_16 : decode c_M_pause 16 = .ok (.iconst 0, 1) := by decide +kernel
theorem dM_pause_17 : decode c_M_pause 17 = .ok (.putfield 81, 3) := by decide +kernel
theorem dM_pause_20 : decode c_M_pause 20 = .ok (.aload_n 0, 1) := by decide +kernel
theorem dM_pause_21 : decode c_M_pause 21 = .ok (.getfield 81, 3) := by decide +kernel
theorem dM_pause_24 : decode c_M_pause 24 = .ok (.ifCond .eq 5, 3) := by decide +kernel
theorem dM_pause_27 : decode c_M_pause 27 = .ok (.iconst 0, 1) := by decide +kernel
theorem dM_pause_28 : decode c_M_pause 28 = .ok (.ireturn, 1) := by decide +kernel
theorem dM_pause_29 : decode c_M_pause 29 = .ok (.aload_n 0, 1) := by decide +kernel
theorem dM_pause_30 : decode c_M_pause 30 = .ok (.getfield 34, 3) := by decide +kernel
theorem dM_pause_33 : decode c_M_pause 33 = .ok (.iconst 1, 1) := by decide +kernel
theorem dM_pause_34 : decode c_M_pause 34 = .ok (.aload_n 0, 1) := by decide +kernel
theorem dM_pause_35 : decode c_M_pause 35 = .ok (.getfield 34, 3) := by decide +kernel
theorem dM_pause_38 : decode c_M_pause 38 = .ok (.iconst 1, 1) := by decide +kernel
theorem dM_pause_39 : decode c_M_pause 39 = .ok (.iaload, 1) := by decide +kernel
theorem dM_pause_40 : decode c_M_pause 40 = .ok (.iload_n 1, 1) := by decide +kernel
theorem dM_pause_41 : decode c_M_pause 41 = .ok (.iadd, 1) := by decide +kernel
theorem dM_pause_42 : decode c_M_pause 42 = .ok (.iastore, 1) := by decide +kernel
theorem dM_pause_43 : decode c_M_pause 43 = .ok (.aload_n 0, 1) := by decide +kernel
theorem dM_pause_44 : decode c_M_pause 44 = .ok (.getfield 34, 3) := by decide +kernel
theorem dM_pause_47 : decode c_M_pause 47 = .ok (.iconst 1, 1) := by decide +kernel
theorem dM_pause_48 : decode c_M_pause 48 = .ok (.iaload, 1) := by decide +kernel
theorem dM_pause_49 : decode c_M_pause 49 = .ok (.ireturn, 1) := by decide +kernel
