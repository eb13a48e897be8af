theorem dC_hasBank_0 : decode c_C_hasBank 0 = .ok (.iload_n 1, 1) := by decide +kernel
theorem dC_hasBank_1 : decode c_C_hasBank 1 = .ok (.ifCond .lt 16, 3) := by decide +kernel
theorem dC_hasBank_4 : decode c_C_hasBank 4 = .ok (.iload_n 1, 1) := by decide +kernel
theorem dC_hasBank_5 : decode c_C_hasBank 5 = .ok (.aload_n 0, 1) := by decide +kernel
theorem dC_hasBank_6 : decode c_C_hasBank 6 = .ok (.getfield 15, 3) := by decide +kernel
theorem dC_hasBank_9 : decode c_C_hasBank 9 = .ok (.arraylength, 1) := by decide +kernel
theorem dC_hasBank_10 : decode c_C_hasBank 10 = .ok (.if_icmp .ge 7, 3) := by decide +kernel
theorem dC_hasBank_13 : decode c_C_hasBank 13 = .ok (.iconst 1, 1) := by decide +kernel
theorem dC_hasBank_14 : decode c_C_hasBank 14 = .ok (.goto 4, 3) := by decide +kernel
theorem dC_hasBank_17 : decode c_C_hasBank 17 = .ok (.iconst 0, 1) := by decide +kernel
theorem dC_hasBank_18 : decode c_C_hasBank 18 = .ok (.ireturn, 1) := by decide +kernel
theorem dC_firstBroken_0 : decode c_C_firstBroken 0 = .ok (.iload_n 1, 1) := by decide +kernel
theorem dC_firstBroken_1 : decode c_C_firstBroken 1 = .ok (.tableswitch 52 0 4 #[35, 41, 52, 52, 47], 35) := by decide +kernel
theorem dC_firstBroken_36 : decode c_C_firstBroken 36 = .ok (.aload_n 0, 1) := by decide +kernel
theorem dC_firstBroken_37 : decode c_C_firstBroken 37 = .ok (.iload_n 2, 1) := by decide +kernel
theorem dC_firstBroken_38 : decode c_C_firstBroken 38 = .ok (.invokevirtual 43, 3) := by decide +kernel
theorem dC_firstBroken_41 : decode c_C_firstBroken 41 = .ok (.ireturn, 1) := by decide +kernel
theorem dC_firstBroken_42 : decode c_C_firstBroken 42 = .ok (.aload_n 0, 1) := by decide +kernel
theorem dC_firstBroken_43 : decode c_C_firstBroken 43 = .ok (.iload_n 2, 1) := by decide +kernel
theorem dC_firstBroken_44 : decode c_C_firstBroken 44 = .ok (.invokevirtual 47, 3) := by decide +kernel
theorem dC_firstBroken_47 : decode c_C_firstBroken 47 = .ok (.ireturn, 1) := by decide +kernel
theorem dC_firstBroken_48 : decode c_C_firstBroken 48 = .ok (.aload_n 0, 1) := by decide +kernel
theorem dC_firstBroken_49 : decode c_C_firstBroken 49 = .ok (.invokevirtual 50, 3) := by decide +kernel
theorem dC_firstBroken_52 : decode c_C_firstBroken 52 = .ok (.ireturn, 1) := by decide +kernel
theorem dC_firstBroken_53 : decode c_C_firstBroken 53 = .ok (.aload_n 0, 1) := by decide +kernel
theorem dC_firstBroken_54 : decode c_C_firstBroken 54 = .ok (.iload_n 2, 1) := by decide +kernel
theorem dC_firstBroken_55 : decode c_C_firstBroken 55 = .ok (.iload_n 3, 1) := by decide +kernel
theorem dC_firstBroken_56 : decode c_C_firstBroken 56 = .ok (.invokevirtual 54, 3) := by decide +kernel
theorem dC_firstBroken_59 : decode c_C_firstBroken 59 = .ok (.ireturn, 1) := by decide +kernel
theorem dC_brokenByOpen_0 : decode c_C_brokenByOpen 0 = .ok (.aload_n 0, 1) := by decide +kernel
theorem dC_brokenByOpen_1 : decode c_C_brokenByOpen 1 = .ok (.getfield 15, 3) := by decide +kernel
theorem dC_brokenByOpen_4 : decode c_C_brokenByOpen 4 = .ok (.iload_n 1, 1) := by decide +kernel
theorem dC_brokenByOpen_5 : decode c_C_brokenByOpen 5 = .ok (.iaload, 1) := by decide +kernel
theorem dC_brokenByOpen_6 : decode c_C_brokenByOpen 6 = .ok (.iconst (-1), 1) := by decide +kernel
theorem dC_brokenByOpen_7 : decode c_C_brokenByOpen 7 = .ok (.if_icmp .eq 5, 3) := by decide +kernel
theorem dC_brokenByOpen_10 : decode c_C_brokenByOpen 10 = .ok (.iconst 1, 1) := by decide +kernel
theorem dC_brokenByOpen_11 : decode c_C_brokenByOpen 11 = .ok (.ireturn, 1) := by decide +kernel
theorem dC_brokenByOpen_12 : decode c_C_brokenByOpen 12 = .ok (.aload_n 0, 1) := by decide +kernel
theorem dC_brokenByOpen_13 : decode c_C_brokenByOpen 13 = .ok (.iconst 1, 1) := by decide +kernel
theorem dC_brokenByOpen_14 : decode c_C_brokenByOpen 14 = .ok (.aload_n 0, 1) := by decide +kernel
theorem dC_brokenByOpen_15 : decode c_C_brokenByOpen 15 = .ok (.getfield 21, 3) := by decide +kernel
theorem dC_brokenByOpen_18 : decode c_C_brokenByOpen 18 = .ok (.iload_n 1, 1) := by decide +kernel
theorem dC_brokenByOpen_19 : decode c_C_brokenByOpen 19 = .ok (.iaload, 1) := by decide +kernel
theorem dC_brokenByOpen_20 : decode c_C_brokenByOpen 20 = .ok (.invokevirtual 58, 3) := by decide +kernel
theorem dC_brokenByOpen_23 : decode c_C_brokenByOpen 23 = .ok (.ifCond .eq 5, 3) := by decide +kernel
theorem dC_brokenByOpen_26 : decode c_C_brokenByOpen 26 = .ok (.iconst 2, 1) := by decide +kernel
theorem dC_brokenByOpen_27 : decode c_C_brokenByOpen 27 = .ok (.ireturn, 1) := by decide +kernel
theorem dC_brokenByOpen_28 : decode c_C_brokenByOpen 28 = .ok (.aload_n 0, 1) := by decide +kernel
theorem dC_brokenByOpen_29 : decode c_C_brokenByOpen 29 = .ok (.iconst 3, 1) := by decide +kernel
theorem dC_brokenByOpen_30 : decode c_C_brokenByOpen 30 = .ok (.aload_n 0, 1) := by decide +kernel
theorem dC_brokenByOpen_31 : decode c_C_brokenByOpen 31 = .ok (.getfield 18, 3) := by decide +kernel
theorem dC_brokenByOpen_34 : decode c_C_brokenByOpen 34 = .ok (.iload_n 1, 1) := by decide +kernel
theorem dC_brokenByOpen_35 : decode c_C_brokenByOpen 35 = .ok (.iaload, 1) := by decide +kernel
theorem dC_brokenByOpen_36 : decode c_C_brokenByOpen 36 = .ok (.invokevirtual 58, 3) := by decide +kernel
theorem dC_brokenByOpen_39 : decode c_C_brokenByOpen 39 = .ok (.ifCond .eq 5, 3) := by decide +kernel
theorem dC_brokenByOpen_42 : decode c_C_brokenByOpen 42 = .ok (.iconst 3, 1) := by decide +kernel
theorem dC_brokenByOpen_43 : decode c_C_brokenByOpen 43 = .ok (.ireturn, 1) := by decide +kernel
theorem dC_brokenByOpen_44 : decode c_C_brokenByOpen 44 = .ok (.aload_n 0, 1) := by decide +kernel
theorem dC_brokenByOpen_45 : decode c_C_brokenByOpen 45 = .ok (.iload_n 1, 1) := by decide +kernel
theorem dC_brokenByOpen_46 : decode c_C_brokenByOpen 46 = .ok (.invokevirtual 62, 3) := by decide +kernel
theorem dC_brokenByOpen_49 : decode c_C_brokenByOpen 49 = .ok (.ifCond .eq 5, 3) := by decide +kernel
theorem dC_brokenByOpen_52 : decode c_C_brokenByOpen 52 = .ok (.iconst 4, 1) := by decide +kernel
theorem dC_brokenByOpen_53 : decode c_C_brokenByOpen 53 = .ok (.ireturn, 1) := by decide +kernel
theorem dC_brokenByOpen_54 : decode c_C_brokenByOpen 54 = .ok (.aload_n 0, 1) := by decide +kernel
theorem dC_brokenByOpen_55 : decode c_C_brokenByOpen 55 = .ok (.bipush 8, 2) := by decide +kernel
theorem dC_brokenByOpen_57 : decode c_C_brokenByOpen 57 = .ok (.aload_n 0, 1) := by decide +kernel
theorem dC_brokenByOpen_58 : decode c_C_brokenByOpen 58 = .ok (.getfield 30, 3) := by decide +kernel
theorem dC_brokenByOpen_61 : decode c_C_brokenByOpen 61 = .ok (.aload_n 0, 1) := by decide +kernel
theorem dC_brokenByOpen_62 : decode c_C_brokenByOpen 62 = .ok (.getfield 66, 3) := by decide +kernel
theorem dC_brokenByOpen_65 : decode c_C_brokenByOpen 65 = .ok (.iaload, 1) := by decide +kernel
theorem dC_brokenByOpen_66 : decode c_C_brokenByOpen 66 = .ok (.invokevirtual 58, 3) := by decide +kernel
theorem dC_brokenByOpen_69 : decode c_C_brokenByOpen 69 = .ok (.ifCond .eq 5, 3) := by decide +kernel
theorem dC_brokenByOpen_72 : decode c_C_brokenByOpen 72 = .ok (.iconst 5, 1) := by decide +kernel
theorem dC_brokenByOpen_73 : decode c_C_brokenByOpen 73 = .ok (.ireturn, 1) := by decide +kernel
theorem dC_brokenByOpen_74 : decode c_C_brokenByOpen 74 = .ok (.aload_n 0, 1) := by decide +kernel
theorem dC_brokenByOpen_75 : decode c_C_brokenByOpen 75 = .ok (.bipush 9, 2) := by decide +kernel
theorem dC_brokenByOpen_77 : decode c_C_brokenByOpen 77 = .ok (.aload_n 0, 1) := by decide +kernel
theorem dC_brokenByOpen_78 : decode c_C_brokenByOpen 78 = .ok (.getfield 40, 3) := by decide +kernel
theorem dC_brokenByOpen_81 : decode c_C_brokenByOpen 81 = .ok (.invokevirtual 58, 3) := by decide +kernel
theorem dC_brokenByOpen_84 : decode c_C_brokenByOpen 84 = .ok (.ifCond .eq 8, 3) := by decide +kernel
theorem dC_brokenByOpen_87 : decode c_C_brokenByOpen 87 = .ok (.bipush 6, 2) := by decide +kernel
theorem dC_brokenByOpen_89 : decode c_C_brokenByOpen 89 = .ok (.goto 4, 3) := by decide +kernel
theorem dC_brokenByOpen_92 : decode c_C_brokenByOpen 92 = .ok (.iconst 0, 1) := by decide +kernel
theorem dC_brokenByOpen_93 : decode c_C_brokenByOpen 93 = .ok (.ireturn, 1) := by decide +kernel
theorem dC_brokenByClose_0 : decode c_C_brokenByClose 0 = .ok (.aload_n 0, 1) := by decide +kernel
theorem dC_brokenByClose_1 : decode c_C_brokenByClose 1 = .ok (.getfield 15, 3) := by decide +kernel
theorem dC_brokenByClose_4 : decode c_C_brokenByClose 4 = .ok (.iload_n 1, 1) := by decide +kernel
theorem dC_brokenByClose_5 : decode c_C_brokenByClose 5 = .ok (.iaload, 1) := by decide +kernel
theorem dC_brokenByClose_6 : decode c_C_brokenByClose 6 = .ok (.iconst (-1), 1) := by decide +kernel
theorem dC_brokenByClose_7 : decode c_C_brokenByClose 7 = .ok (.if_icmp .ne 6, 3) := by decide +kernel
theorem dC_brokenByClose_10 : decode c_C_brokenByClose 10 = .ok (.bipush 7, 2) := by decide +kernel
theorem dC_brokenByClose_12 : decode c_C_brokenByClose 12 = .ok (.ireturn, 1) := by decide +kernel
theorem dC_brokenByClose_13 : decode c_C_brokenByClose 13 = .ok (.aload_n 0, 1) := by decide +kernel
theorem dC_brokenByClose_14 : decode c_C_brokenByClose 14 = .ok (.iconst 2, 1) := by decide +kernel
theorem dC_brokenByClose_15 : decode c_C_brokenByClose 15 = .ok (.aload_n 0, 1) := by decide +kernel
theorem dC_brokenByClose_16 : decode c_C_brokenByClose 16 = .ok (.getfield 18, 3) := by decide +kernel
theorem dC_brokenByClose_19 : decode c_C_brokenByClose 19 = .ok (.iload_n 1, 1) := by decide +kernel
theorem dC_brokenByClose_20 : decode c_C_brokenByClose 20 = .ok (.iaload, 1) := by decide +kernel
theorem dC_brokenByClose_21 : decode c_C_brokenByClose 21 = .ok (.invokevirtual 58, 3) := by decide +kernel
theorem dC_brokenByClose_24 : decode c_C_brokenByClose 24 = .ok (.ifCond .eq 6, 3) := by decide +kernel
theorem dC_brokenByClose_27 : decode c_C_brokenByClose 27 = .ok (.bipush 8, 2) := by decide +kernel
theorem dC_brokenByClose_29 : decode c_C_brokenByClose 29 = .ok (.ireturn, 1) := by decide +kernel
theorem dC_brokenByClose_30 : decode c_C_brokenByClose 30 = .ok (.aload_n 0, 1) := by decide +kernel
theorem dC_brokenByClose_31 : decode c_C_brokenByClose 31 = .ok (.iconst 4, 1) := by decide +kernel
theorem dC_brokenByClose_32 : decode c_C_brokenByClose 32 = .ok (.aload_n 0, 1) := by decide +kernel
theorem dC_brokenByClose_33 : decode c_C_brokenByClose 33 = .ok (.getfield 27, 3) := by decide +kernel
theorem dC_brokenByClose_36 : decode c_C_brokenByClose 36 = .ok (.iload_n 1, 1) := by decide +kernel
theorem dC_brokenByClose_37 : decode c_C_brokenByClose 37 = .ok (.iaload, 1) := by decide +kernel
theorem dC_brokenByClose_38 : decode c_C_brokenByClose 38 = .ok (.invokevirtual 58, 3) := by decide +kernel
theorem dC_brokenByClose_41 : decode c_C_brokenByClose 41 = .ok (.ifCond .eq 6, 3) := by decide +kernel
theorem dC_brokenByClose_44 : decode c_C_brokenByClose 44 = .ok (.bipush 9, 2) := by decide +kernel
theorem dC_brokenByClose_46 : decode c_C_brokenByClose 46 = .ok (.ireturn, 1) := by decide +kernel
theorem dC_brokenByClose_47 : decode c_C_brokenByClose 47 = .ok (.aload_n 0, 1) := by decide +kernel
theorem dC_brokenByClose_48 : decode c_C_brokenByClose 48 = .ok (.iconst 5, 1) := by decide +kernel
theorem dC_brokenByClose_49 : decode c_C_brokenByClose 49 = .ok (.aload_n 0, 1) := by decide +kernel
theorem dC_brokenByClose_50 : decode c_C_brokenByClose 50 = .ok (.getfield 24, 3) := by decide +kernel
theorem dC_brokenByClose_53 : decode c_C_brokenByClose 53 = .ok (.iload_n 1, 1) := by decide +kernel
theorem dC_brokenByClose_54 : decode c_C_brokenByClose 54 = .ok (.iaload, 1) := by decide +kernel
theorem dC_brokenByClose_55 : decode c_C_brokenByClose 55 = .ok (.invokevirtual 58, 3) := by decide +kernel
theorem dC_brokenByClose_58 : decode c_C_brokenByClose 58 = .ok (.ifCond .eq 8, 3) := by decide +kernel
theorem dC_brokenByClose_61 : decode c_C_brokenByClose 61 = .ok (.bipush 10, 2) := by decide +kernel
theorem dC_brokenByClose_63 : decode c_C_brokenByClose 63 = .ok (.goto 4, 3) := by decide +kernel
theorem dC_brokenByClose_66 : decode c_C_brokenByClose 66 = .ok (.iconst 0, 1) := by decide +kernel
theorem dC_brokenByClose_67 : decode c_C_brokenByClose 67 = .ok (.ireturn, 1) := by decide +kernel
theorem dC_brokenByAccess_0 : decode c_C_brokenByAccess 0 = .ok (.aload_n 0, 1) := by decide +kernel
theorem dC_brokenByAccess_1 : decode c_C_brokenByAccess 1 = .ok (.getfield 15, 3) := by decide +kernel
theorem dC_brokenByAccess_4 : decode c_C_brokenByAccess 4 = .ok (.iload_n 1, 1) := by decide +kernel
theorem dC_brokenByAccess_5 : decode c_C_brokenByAccess 5 = .ok (.iaload, 1) := by decide +kernel
theorem dC_brokenByAccess_6 : decode c_C_brokenByAccess 6 = .ok (.iload_n 2, 1) := by decide +kernel
theorem dC_brokenByAccess_7 : decode c_C_brokenByAccess 7 = .ok (.if_icmp .eq 6, 3) := by decide +kernel
theorem dC_brokenByAccess_10 : decode c_C_brokenByAccess 10 = .ok (.bipush 11, 2) := by decide +kernel
theorem dC_brokenByAccess_12 : decode c_C_brokenByAccess 12 = .ok (.ireturn, 1) := by decide +kernel
theorem dC_brokenByAccess_13 : decode c_C_brokenByAccess 13 = .ok (.aload_n 0, 1) := by decide +kernel
theorem dC_brokenByAccess_14 : decode c_C_brokenByAccess 14 = .ok (.iconst 0, 1) := by decide +kernel
theorem dC_brokenByAccess_15 : decode c_C_brokenByAccess 15 = .ok (.aload_n 0, 1) := by decide +kernel
theorem dC_brokenByAccess_16 : decode c_C_brokenByAccess 16 = .ok (.getfield 18, 3) := by decide +kernel
theorem dC_brokenByAccess_19 : decode c_C_brokenByAccess 19 = .ok (.iload_n 1, 1) := by decide +kernel
theorem dC_brokenByAccess_20 : decode c_C_brokenByAccess 20 = .ok (.iaload, 1) := by decide +kernel
theorem dC_brokenByAccess_21 : decode c_C_brokenByAccess 21 = .ok (.invokevirtual 58, 3) := by decide +kernel
theorem dC_brokenByAccess_24 : decode c_C_brokenByAccess 24 = .ok (.ifCond .eq 6, 3) := by decide +kernel
theorem dC_brokenByAccess_27 : decode c_C_brokenByAccess 27 = .ok (.bipush 12, 2) := by decide +kernel
theorem dC_brokenByAccess_29 : decode c_C_brokenByAccess 29 = .ok (.ireturn, 1) := by decide +kernel
theorem dC_brokenByAccess_30 : decode c_C_brokenByAccess 30 = .ok (.aload_n 0, 1) := by decide +kernel
theorem dC_brokenByAccess_31 : decode c_C_brokenByAccess 31 = .ok (.bipush 6, 2) := by decide +kernel
theorem dC_brokenByAccess_33 : decode c_C_brokenByAccess 33 = .ok (.aload_n 0, 1) := by decide +kernel
theorem dC_brokenByAccess_34 : decode c_C_brokenByAccess 34 = .ok (.getfield 36, 3) := by decide +kernel
theorem dC_brokenByAccess_37 : decode c_C_brokenByAccess 37 = .ok (.invokevirtual 58, 3) := by decide +kernel
theorem dC_brokenByAccess_40 : decode c_C_brokenByAccess 40 = .ok (.ifCond .eq 8, 3) := by decide +kernel
theorem dC_brokenByAccess_43 : decode c_C_brokenByAccess 43 = .ok (.bipush 13, 2) := by decide +kernel
theorem dC_brokenByAccess_45 : decode c_C_brokenByAccess 45 = .ok (.goto 4, 3) := by decide +kernel
theorem dC_brokenByAccess_48 : decode c_C_brokenByAccess 48 = .ok (.iconst 0, 1) := by decide +kernel
theorem dC_brokenByAccess_49 : decode c_C_brokenByAccess 49 = .ok (.ireturn, 1) := by decide +kernel
theorem dC_brokenByRefresh_0 : decode c_C_brokenByRefresh 0 = .ok (.iconst 0, 1) := by decide +kernel
theorem dC_brokenByRefresh_1 : decode c_C_brokenByRefresh 1 = .ok (.istore_n 1, 1) := by decide +kernel
theorem dC_brokenByRefresh_2 : decode c_C_brokenByRefresh 2 = .ok (.iload_n 1, 1) := by decide +kernel
theorem dC_brokenByRefresh_3 : decode c_C_brokenByRefresh 3 = .ok (.aload_n 0, 1) := by decide +kernel
theorem dC_brokenByRefresh_4 : decode c_C_brokenByRefresh 4 = .ok (.getfield 15, 3) := by decide +kernel
theorem dC_brokenByRefresh_7 : decode c_C_brokenByRefresh 7 = .ok (.arraylength, 1) := by decide +kernel
theorem dC_brokenByRefresh_8 : decode c_C_brokenByRefresh 8 = .ok (.if_icmp .ge 22, 3) := by decide +kernel
theorem dC_brokenByRefresh_11 : decode c_C_brokenByRefresh 11 = .ok (.aload_n 0, 1) := by decide +kernel
theorem dC_brokenByRefresh_12 : decode c_C_brokenByRefresh 12 = .ok (.getfield 15, 3) := by decide +kernel
theorem dC_brokenByRefresh_15 : decode c_C_brokenByRefresh 15 = .ok (.iload_n 1, 1) := by decide +kernel
theorem dC_brokenByRefresh_16 : decode c_C_brokenByRefresh 16 = .ok (.iaload, 1) := by decide +kernel
theorem dC_brokenByRefresh_17 : decode c_C_brokenByRefresh 17 = .ok (.iconst (-1), 1) := by decide +kernel
theorem dC_brokenByRefresh_18 : decode c_C_brokenByRefresh 18 = .ok (.if_icmp .eq 6, 3) := by decide +kernel
theorem dC_brokenByRefresh_21 : decode c_C_brokenByRefresh 21 = .ok (.bipush 14, 2) := by decide +kernel
theorem dC_brokenByRefresh_23 : decode c_C_brokenByRefresh 23 = .ok (.ireturn, 1) := by decide +kernel
theorem dC_brokenByRefresh_24 : decode c_C_brokenByRefresh 24 = .ok (.iinc 1 1, 3) := by decide +kernel
theorem dC_brokenByRefresh_27 : decode c_C_brokenByRefresh 27 = .ok (.goto (-25), 3) := by decide +kernel
theorem dC_brokenByRefresh_30 : decode c_C_brokenByRefresh 30 = .ok (.iconst 0, 1) := by decide +kernel
theorem dC_brokenByRefresh_31 : decode c_C_brokenByRefresh 31 = .ok (.istore_n 1, 1) := by decide +kernel
theorem dC_brokenByRefresh_32 : decode c_C_brokenByRefresh 32 = .ok (.iload_n 1, 1) := by decide +kernel
theorem dC_brokenByRefresh_33 : decode c_C_brokenByRefresh 33 = .ok (.aload_n 0, 1) := by decide +kernel
theorem dC_brokenByRefresh_34 : decode c_C_brokenByRefresh 34 = .ok (.getfield 15, 3) := by decide +kernel
theorem dC_brokenByRefresh_37 : decode c_C_brokenByRefresh 37 = .ok (.arraylength, 1) := by decide +kernel
theorem dC_brokenByRefresh_38 : decode c_C_brokenByRefresh 38 = .ok (.if_icmp .ge 26, 3) := by decide +kernel
theorem dC_brokenByRefresh_41 : decode c_C_brokenByRefresh 41 = .ok (.aload_n 0, 1) := by decide +kernel
theorem dC_brokenByRefresh_42 : decode c_C_brokenByRefresh 42 = .ok (.iconst 1, 1) := by decide +kernel
theorem dC_brokenByRefresh_43 : decode c_C_brokenByRefresh 43 = .ok (.aload_n 0, 1) := by decide +kernel
theorem dC_brokenByRefresh_44 : decode c_C_brokenByRefresh 44 = .ok (.getfield 21, 3) := by decide +kernel
theorem dC_brokenByRefresh_47 : decode c_C_brokenByRefresh 47 = .ok (.iload_n 1, 1) := by decide +kernel
theorem dC_brokenByRefresh_48 : decode c_C_brokenByRefresh 48 = .ok (.iaload, 1) := by decide +kernel
theorem dC_brokenByRefresh_49 : decode c_C_brokenByRefresh 49 = .ok (.invokevirtual 58, 3) := by decide +kernel
theorem dC_brokenByRefresh_52 : decode c_C_brokenByRefresh 52 = .ok (.ifCond .eq 6, 3) := by decide +kernel
theorem dC_brokenByRefresh_55 : decode c_C_brokenByRefresh 55 = .ok (.bipush 15, 2) := by decide +kernel
theorem dC_brokenByRefresh_57 : decode c_C_brokenByRefresh 57 = .ok (.ireturn, 1) := by decide +kernel
theorem dC_brokenByRefresh_58 : decode c_C_brokenByRefresh 58 = .ok (.iinc 1 1, 3) := by decide +kernel
theorem dC_brokenByRefresh_61 : decode c_C_brokenByRefresh 61 = .ok (.goto (-29), 3) := by decide +kernel
theorem dC_brokenByRefresh_64 : decode c_C_brokenByRefresh 64 = .ok (.aload_n 0, 1) := by decide +kernel
theorem dC_brokenByRefresh_65 : decode c_C_brokenByRefresh 65 = .ok (.bipush 9, 2) := by decide +kernel
theorem dC_brokenByRefresh_67 : decode c_C_brokenByRefresh 67 = .ok (.aload_n 0, 1) := by decide +kernel
theorem dC_brokenByRefresh_68 : decode c_C_brokenByRefresh 68 = .ok (.getfield 40, 3) := by decide +kernel
theorem dC_brokenByRefresh_71 : decode c_C_brokenByRefresh 71 = .ok (.invokevirtual 58, 3) := by decide +kernel
theorem dC_brokenByRefresh_74 : decode c_C_brokenByRefresh 74 = .ok (.ifCond .eq 8, 3) := by decide +kernel
theorem dC_brokenByRefresh_77 : decode c_C_brokenByRefresh 77 = .ok (.bipush 16, 2) := by decide +kernel
theorem dC_brokenByRefresh_79 : decode c_C_brokenByRefresh 79 = .ok (.goto 4, 3) := by decide +kernel
theorem dC_brokenByRefresh_82 : decode c_C_brokenByRefresh 82 = .ok (.iconst 0, 1) := by decide +kernel
theorem dC_brokenByRefresh_83 : decode c_C_brokenByRefresh 83 = .ok (.ireturn, 1) := by decide +kernel
theorem dC_give_0 : decode c_C_give 0 = .ok (.aload_n 0, 1) := by decide +kernel
theorem dC_give_1 : decode c_C_give 1 = .ok (.getfield 33, 3) := by decide +kernel
theorem dC_give_4 : decode c_C_give 4 = .ok (.iload_n 1, 1) := by decide +kernel
theorem dC_give_5 : decode c_C_give 5 = .ok (.dup2, 1) := by decide +kernel
theorem dC_give_6 : decode c_C_give 6 = .ok (.iaload, 1) := by decide +kernel
theorem dC_give_7 : decode c_C_give 7 = .ok (.iconst 1, 1) := by decide +kernel
theorem dC_give_8 : decode c_C_give 8 = .ok (.iadd, 1) := by decide +kernel
theorem dC_give_9 : decode c_C_give 9 = .ok (.iastore, 1) := by decide +kernel
theorem dC_give_10 : decode c_C_give 10 = .ok (.iload_n 1, 1) := by decide +kernel
theorem dC_give_11 : decode c_C_give 11 = .ok (.tableswitch 136 0 3 #[29, 74, 94, 115], 29) := by decide +kernel
theorem dC_give_40 : decode c_C_give 40 = .ok (.aload_n 0, 1) := by decide +kernel
theorem dC_give_41 : decode c_C_give 41 = .ok (.getfield 30, 3) := by decide +kernel
theorem dC_give_44 : decode c_C_give 44 = .ok (.aload_n 0, 1) := by decide +kernel
theorem dC_give_45 : decode c_C_give 45 = .ok (.getfield 66, 3) := by decide +kernel
theorem dC_give_48 : decode c_C_give 48 = .ok (.aload_n 0, 1) := by decide +kernel
theorem dC_give_49 : decode c_C_give 49 = .ok (.getfield 69, 3) := by decide +kernel
theorem dC_give_52 : decode c_C_give 52 = .ok (.iastore, 1) := by decide +kernel
theorem dC_give_53 : decode c_C_give 53 = .ok (.aload_n 0, 1) := by decide +kernel
theorem dC_give_54 : decode c_C_give 54 = .ok (.aload_n 0, 1) := by decide +kernel
theorem dC_give_55 : decode c_C_give 55 = .ok (.getfield 66, 3) := by decide +kernel
theorem dC_give_58 : decode c_C_give 58 = .ok (.iconst 1, 1) := by decide +kernel
theorem dC_give_59 : decode c_C_give 59 = .ok (.iadd, 1) := by decide +kernel
theorem dC_give_60 : decode c_C_give 60 = .ok (.iconst 4, 1) := by decide +kernel
theorem dC_give_61 : decode c_C_give 61 = .ok (.irem, 1) := by decide +kernel
theorem dC_give_62 : decode c_C_give 62 = .ok (.putfield 66, 3) := by decide +kernel
theorem dC_give_65 : decode c_C_give 65 = .ok (.aload_n 0, 1) := by decide +kernel
theorem dC_give_66 : decode c_C_give 66 = .ok (.getfield 18, 3) := by decide +kernel
theorem dC_give_69 : decode c_C_give 69 = .ok (.iload_n 2, 1) := by decide +kernel
theorem dC_give_70 : decode c_C_give 70 = .ok (.aload_n 0, 1) := by decide +kernel
theorem dC_give_71 : decode c_C_give 71 = .ok (.getfield 69, 3) := by decide +kernel
theorem dC_give_74 : decode c_C_give 74 = .ok (.iastore, 1) := by decide +kernel
theorem dC_give_75 : decode c_C_give 75 = .ok (.aload_n 0, 1) := by decide +kernel
theorem dC_give_76 : decode c_C_give 76 = .ok (.getfield 15, 3) := by decide +kernel
theorem dC_give_79 : decode c_C_give 79 = .ok (.iload_n 2, 1) := by decide +kernel
theorem dC_give_80 : decode c_C_give 80 = .ok (.iload_n 3, 1) := by decide +kernel
theorem dC_give_81 : decode c_C_give 81 = .ok (.iastore, 1) := by decide +kernel
theorem dC_give_82 : decode c_C_give 82 = .ok (.goto 73, 3) := by decide +kernel
theorem dC_give_85 : decode c_C_give 85 = .ok (.aload_n 0, 1) := by decide +kernel
theorem dC_give_86 : decode c_C_give 86 = .ok (.getfield 21, 3) := by decide +kernel
theorem dC_give_89 : decode c_C_give 89 = .ok (.iload_n 2, 1) := by decide +kernel
theorem dC_give_90 : decode c_C_give 90 = .ok (.aload_n 0, 1) := by decide +kernel
theorem dC_give_91 : decode c_C_give 91 = .ok (.getfield 69, 3) := by decide +kernel
theorem dC_give_94 : decode c_C_give 94 = .ok (.iastore, 1) := by decide +kernel
theorem dC_give_95 : decode c_C_give 95 = .ok (.aload_n 0, 1) := by decide +kernel
theorem dC_give_96 : decode c_C_give 96 = .ok (.getfield 15, 3) := by decide +kernel
theorem dC_give_99 : decode c_C_give 99 = .ok (.iload_n 2, 1) := by decide +kernel
theorem dC_give_100 : decode c_C_give 100 = .ok (.iconst (-1), 1) := by decide +kernel
theorem dC_give_101 : decode c_C_give 101 = .ok (.iastore, 1) := by decide +kernel
theorem dC_give_102 : decode c_C_give 102 = .ok (.goto 53, 3) := by decide +kernel
theorem dC_give_105 : decode c_C_give 105 = .ok (.aload_n 0, 1) := by decide +kernel
theorem dC_give_106 : decode c_C_give 106 = .ok (.getfield 24, 3) := by decide +kernel
theorem dC_give_109 : decode c_C_give 109 = .ok (.iload_n 2, 1) := by decide +kernel
theorem dC_give_110 : decode c_C_give 110 = .ok (.aload_n 0, 1) := by decide +kernel
theorem dC_give_111 : decode c_C_give 111 = .ok (.getfield 69, 3) := by decide +kernel
theorem dC_give_114 : decode c_C_give 114 = .ok (.iastore, 1) := by decide +kernel
theorem dC_give_115 : decode c_C_give 115 = .ok (.aload_n 0, 1) := by decide +kernel
theorem dC_give_116 : decode c_C_give 116 = .ok (.aload_n 0, 1) := by decide +kernel
theorem dC_give_117 : decode c_C_give 117 = .ok (.getfield 69, 3) := by decide +kernel
theorem dC_give_120 : decode c_C_give 120 = .ok (.putfield 36, 3) := by decide +kernel
theorem dC_give_123 : decode c_C_give 123 = .ok (.goto 32, 3) := by decide +kernel
theorem dC_give_126 : decode c_C_give 126 = .ok (.aload_n 0, 1) := by decide +kernel
theorem dC_give_127 : decode c_C_give 127 = .ok (.getfield 27, 3) := by decide +kernel
theorem dC_give_130 : decode c_C_give 130 = .ok (.iload_n 2, 1) := by decide +kernel
theorem dC_give_131 : decode c_C_give 131 = .ok (.aload_n 0, 1) := by decide +kernel
theorem dC_give_132 : decode c_C_give 132 = .ok (.getfield 69, 3) := by decide +kernel
theorem dC_give_135 : decode c_C_give 135 = .ok (.iastore, 1) := by decide +kernel
theorem dC_give_136 : decode c_C_give 136 = .ok (.aload_n 0, 1) := by decide +kernel
theorem dC_give_137 : decode c_C_give 137 = .ok (.aload_n 0, 1) := by decide +kernel
theorem dC_give_138 : decode c_C_give 138 = .ok (.getfield 69, 3) := by decide +kernel
theorem dC_give_141 : decode c_C_give 141 = .ok (.putfield 36, 3) := by decide +kernel
theorem dC_give_144 : decode c_C_give 144 = .ok (.goto 11, 3) := by decide +kernel
theorem dC_give_147 : decode c_C_give 147 = .ok (.aload_n 0, 1) := by decide +kernel
theorem dC_give_148 : decode c_C_give 148 = .ok (.aload_n 0, 1) := by decide +kernel
theorem dC_give_149 : decode c_C_give 149 = .ok (.getfield 69, 3) := by decide +kernel
theorem dC_give_152 : decode c_C_give 152 = .ok (.putfield 40, 3) := by decide +kernel
theorem dC_give_155 : decode c_C_give 155 = .ok (.return_, 1) := by decide +kernel
theorem dC_isTooSoonForOthers_0 : decode c_C_isTooSoonForOthers 0 = .ok (.iconst 0, 1) := by decide +kernel
theorem dC_isTooSoonForOthers_1 : decode c_C_isTooSoonForOthers 1 = .ok (.istore_n 2, 1) := by decide +kernel
theorem dC_isTooSoonForOthers_2 : decode c_C_isTooSoonForOthers 2 = .ok (.iload_n 2, 1) := by decide +kernel
theorem dC_isTooSoonForOthers_3 : decode c_C_isTooSoonForOthers 3 = .ok (.aload_n 0, 1) := by decide +kernel
theorem dC_isTooSoonForOthers_4 : decode c_C_isTooSoonForOthers 4 = .ok (.getfield 18, 3) := by decide +kernel
theorem dC_isTooSoonForOthers_7 : decode c_C_isTooSoonForOthers 7 = .ok (.arraylength, 1) := by decide +kernel
theorem dC_isTooSoonForOthers_8 : decode c_C_isTooSoonForOthers 8 = .ok (.if_icmp .ge 31, 3) := by decide +kernel
theorem dC_isTooSoonForOthers_11 : decode c_C_isTooSoonForOthers 11 = .ok (.iload_n 2, 1) := by decide +kernel
theorem dC_isTooSoonForOthers_12 : decode c_C_isTooSoonForOthers 12 = .ok (.iload_n 1, 1) := by decide +kernel
theorem dC_isTooSoonForOthers_13 : decode c_C_isTooSoonForOthers 13 = .ok (.if_icmp .eq 20, 3) := by decide +kernel
theorem dC_isTooSoonForOthers_16 : decode c_C_isTooSoonForOthers 16 = .ok (.aload_n 0, 1) := by decide +kernel
theorem dC_isTooSoonForOthers_17 : decode c_C_isTooSoonForOthers 17 = .ok (.bipush 7, 2) := by decide +kernel
theorem dC_isTooSoonForOthers_19 : decode c_C_isTooSoonForOthers 19 = .ok (.aload_n 0, 1) := by decide +kernel
theorem dC_isTooSoonForOthers_20 : decode c_C_isTooSoonForOthers 20 = .ok (.getfield 18, 3) := by decide +kernel
theorem dC_isTooSoonForOthers_23 : decode c_C_isTooSoonForOthers 23 = .ok (.iload_n 2, 1) := by decide +kernel
theorem dC_isTooSoonForOthers_24 : decode c_C_isTooSoonForOthers 24 = .ok (.iaload, 1) := by decide +kernel
theorem dC_isTooSoonForOthers_25 : decode c_C_isTooSoonForOthers 25 = .ok (.invokevirtual 58, 3) := by decide +kernel
theorem dC_isTooSoonForOthers_28 : decode c_C_isTooSoonForOthers 28 = .ok (.ifCond .eq 5, 3) := by decide +kernel
theorem dC_isTooSoonForOthers_31 : decode c_C_isTooSoonForOthers 31 = .ok (.iconst 1, 1) := by decide +kernel
theorem dC_isTooSoonForOthers_32 : decode c_C_isTooSoonForOthers 32 = .ok (.ireturn, 1) := by decide +kernel
theorem dC_isTooSoonForOthers_33 : decode c_C_isTooSoonForOthers 33 = .ok (.iinc 2 1, 3) := by decide +kernel
theorem dC_isTooSoonForOthers_36 : decode c_C_isTooSoonForOthers 36 = .ok (.goto (-34), 3) := by decide +kernel
theorem dC_isTooSoonForOthers_39 : decode c_C_isTooSoonForOthers 39 = .ok (.iconst 0, 1) := by decide +kernel
theorem dC_isTooSoonForOthers_40 : decode c_C_isTooSoonForOthers 40 = .ok (.ireturn, 1) := by decide +kernel
theorem dC_isTooSoon_0 : decode c_C_isTooSoon 0 = .ok (.iload_n 2, 1) := by decide +kernel
theorem dC_isTooSoon_1 : decode c_C_isTooSoon 1 = .ok (.iconst (-1), 1) := by decide +kernel
theorem dC_isTooSoon_2 : decode c_C_isTooSoon 2 = .ok (.if_icmp .eq 22, 3) := by decide +kernel
theorem dC_isTooSoon_5 : decode c_C_isTooSoon 5 = .ok (.aload_n 0, 1) := by decide +kernel
theorem dC_isTooSoon_6 : decode c_C_isTooSoon 6 = .ok (.getfield 69, 3) := by decide +kernel
theorem dC_isTooSoon_9 : decode c_C_isTooSoon 9 = .ok (.iload_n 2, 1) := by decide +kernel
theorem dC_isTooSoon_10 : decode c_C_isTooSoon 10 = .ok (.isub, 1) := by decide +kernel
theorem dC_isTooSoon_11 : decode c_C_isTooSoon 11 = .ok (.aload_n 0, 1) := by decide +kernel
theorem dC_isTooSoon_12 : decode c_C_isTooSoon 12 = .ok (.getfield 9, 3) := by decide +kernel
theorem dC_isTooSoon_15 : decode c_C_isTooSoon 15 = .ok (.iload_n 1, 1) := by decide +kernel
theorem dC_isTooSoon_16 : decode c_C_isTooSoon 16 = .ok (.iaload, 1) := by decide +kernel
theorem dC_isTooSoon_17 : decode c_C_isTooSoon 17 = .ok (.if_icmp .ge 7, 3) := by decide +kernel
theorem dC_isTooSoon_20 : decode c_C_isTooSoon 20 = .ok (.iconst 1, 1) := by decide +kernel
theorem dC_isTooSoon_21 : decode c_C_isTooSoon 21 = .ok (.goto 4, 3) := by decide +kernel
theorem dC_isTooSoon_24 : decode c_C_isTooSoon 24 = .ok (.iconst 0, 1) := by decide +kernel
theorem dC_isTooSoon_25 : decode c_C_isTooSoon 25 = .ok (.ireturn, 1) := by decide +kernel
