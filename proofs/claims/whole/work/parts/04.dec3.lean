theorem dX6_spanNow_11 : decode cX6_spanNow 11 = .ok (.goto 4, 3) := by decide +kernel
theorem dX6_spanNow_14 : decode cX6_spanNow 14 = .ok (.iconst 0, 1) := by decide +kernel
theorem dX6_spanNow_15 : decode cX6_spanNow 15 = .ok (.ireturn, 1) := by decide +kernel
theorem dX6_makespan_0 : decode cX6_makespan 0 = .ok (.aload_n 0, 1) := by decide +kernel
theorem dX6_makespan_1 : decode cX6_makespan 1 = .ok (.iconst 0, 1) := by decide +kernel
theorem dX6_makespan_2 : decode cX6_makespan 2 = .ok (.putfield 51, 3) := by decide +kernel
theorem dX6_makespan_5 : decode cX6_makespan 5 = .ok (.aload_n 0, 1) := by decide +kernel
theorem dX6_makespan_6 : decode cX6_makespan 6 = .ok (.invokevirtual 288, 3) := by decide +kernel
theorem dX6_makespan_9 : decode cX6_makespan 9 = .ok (.ireturn, 1) := by decide +kernel
theorem dX6_jobCost_0 : decode cX6_jobCost 0 = .ok (.aload_n 0, 1) := by decide +kernel
theorem dX6_jobCost_1 : decode cX6_jobCost 1 = .ok (.iconst 0, 1) := by decide +kernel
theorem dX6_jobCost_2 : decode cX6_jobCost 2 = .ok (.putfield 51, 3) := by decide +kernel
theorem dX6_jobCost_5 : decode cX6_jobCost 5 = .ok (.aload_n 0, 1) := by decide +kernel
theorem dX6_jobCost_6 : decode cX6_jobCost 6 = .ok (.iload_n 1, 1) := by decide +kernel
theorem dX6_jobCost_7 : decode cX6_jobCost 7 = .ok (.invokevirtual 269, 3) := by decide +kernel
theorem dX6_jobCost_10 : decode cX6_jobCost 10 = .ok (.ifCond .ne 10, 3) := by decide +kernel
theorem dX6_jobCost_13 : decode cX6_jobCost 13 = .ok (.aload_n 0, 1) := by decide +kernel
theorem dX6_jobCost_14 : decode cX6_jobCost 14 = .ok (.invokevirtual 217, 3) := by decide +kernel
theorem dX6_jobCost_17 : decode cX6_jobCost 17 = .ok (.ifCond .ne 7, 3) := by decide +kernel
theorem dX6_jobCost_20 : decode cX6_jobCost 20 = .ok (.iconst 0, 1) := by decide +kernel
theorem dX6_jobCost_21 : decode cX6_jobCost 21 = .ok (.goto 8, 3) := by decide +kernel
theorem dX6_jobCost_24 : decode cX6_jobCost 24 = .ok (.aload_n 0, 1) := by decide +kernel
theorem dX6_jobCost_25 : decode cX6_jobCost 25 = .ok (.iload_n 1, 1) := by decide +kernel
theorem dX6_jobCost_26 : decode cX6_jobCost 26 = .ok (.invokevirtual 238, 3) := by decide +kernel
theorem dX6_jobCost_29 : decode cX6_jobCost 29 = .ok (.ireturn, 1) := by decide +kernel
theorem dX6_planCost_0 : decode cX6_planCost 0 = .ok (.aload_n 0, 1) := by decide +kernel
theorem dX6_planCost_1 : decode cX6_planCost 1 = .ok (.iconst 0, 1) := by decide +kernel
theorem dX6_planCost_2 : decode cX6_planCost 2 = .ok (.putfield 51, 3) := by decide +kernel
theorem dX6_planCost_5 : decode cX6_planCost 5 = .ok (.aload_n 0, 1) := by decide +kernel
theorem dX6_planCost_6 : decode cX6_planCost 6 = .ok (.invokevirtual 217, 3) := by decide +kernel
theorem dX6_planCost_9 : decode cX6_planCost 9 = .ok (.ifCond .eq 10, 3) := by decide +kernel
theorem dX6_planCost_12 : decode cX6_planCost 12 = .ok (.aload_n 0, 1) := by decide +kernel
theorem dX6_planCost_13 : decode cX6_planCost 13 = .ok (.invokevirtual 250, 3) := by decide +kernel
theorem dX6_planCost_16 : decode cX6_planCost 16 = .ok (.goto 4, 3) := by decide +kernel
theorem dX6_planCost_19 : decode cX6_planCost 19 = .ok (.iconst 0, 1) := by decide +kernel
theorem dX6_planCost_20 : decode cX6_planCost 20 = .ok (.ireturn, 1) := by decide +kernel
theorem dX6_blockedTime_0 : decode cX6_blockedTime 0 = .ok (.aload_n 0, 1) := by decide +kernel
theorem dX6_blockedTime_1 : decode cX6_blockedTime 1 = .ok (.iconst 0, 1) := by decide +kernel
theorem dX6_blockedTime_2 : decode cX6_blockedTime 2 = .ok (.putfield 51, 3) := by decide +kernel
theorem dX6_blockedTime_5 : decode cX6_blockedTime 5 = .ok (.aload_n 0, 1) := by decide +kernel
theorem dX6_blockedTime_6 : decode cX6_blockedTime 6 = .ok (.iload_n 1, 1) := by decide +kernel
theorem dX6_blockedTime_7 : decode cX6_blockedTime 7 = .ok (.invokevirtual 272, 3) := by decide +kernel
theorem dX6_blockedTime_10 : decode cX6_blockedTime 10 = .ok (.ifCond .ne 10, 3) := by decide +kernel
theorem dX6_blockedTime_13 : decode cX6_blockedTime 13 = .ok (.aload_n 0, 1) := by decide +kernel
theorem dX6_blockedTime_14 : decode cX6_blockedTime 14 = .ok (.invokevirtual 217, 3) := by decide +kernel
theorem dX6_blockedTime_17 : decode cX6_blockedTime 17 = .ok (.ifCond .ne 5, 3) := by decide +kernel
theorem dX6_blockedTime_20 : decode cX6_blockedTime 20 = .ok (.iconst 0, 1) := by decide +kernel
theorem dX6_blockedTime_21 : decode cX6_blockedTime 21 = .ok (.ireturn, 1) := by decide +kernel
theorem dX6_blockedTime_22 : decode cX6_blockedTime 22 = .ok (.iconst 0, 1) := by decide +kernel
theorem dX6_blockedTime_23 : decode cX6_blockedTime 23 = .ok (.istore_n 2, 1) := by decide +kernel
theorem dX6_blockedTime_24 : decode cX6_blockedTime 24 = .ok (.iconst 0, 1) := by decide +kernel
theorem dX6_blockedTime_25 : decode cX6_blockedTime 25 = .ok (.istore_n 3, 1) := by decide +kernel
theorem dX6_blockedTime_26 : decode cX6_blockedTime 26 = .ok (.iload_n 3, 1) := by decide +kernel
theorem dX6_blockedTime_27 : decode cX6_blockedTime 27 = .ok (.aload_n 0, 1) := by decide +kernel
theorem dX6_blockedTime_28 : decode cX6_blockedTime 28 = .ok (.getfield 17, 3) := by decide +kernel
theorem dX6_blockedTime_31 : decode cX6_blockedTime 31 = .ok (.iload_n 1, 1) := by decide +kernel
theorem dX6_blockedTime_32 : decode cX6_blockedTime 32 = .ok (.invokestatic 158, 3) := by decide +kernel
theorem dX6_blockedTime_35 : decode cX6_blockedTime 35 = .ok (.iconst 2, 1) := by decide +kernel
theorem dX6_blockedTime_36 : decode cX6_blockedTime 36 = .ok (.iadd, 1) := by decide +kernel
theorem dX6_blockedTime_37 : decode cX6_blockedTime 37 = .ok (.iaload, 1) := by decide +kernel
theorem dX6_blockedTime_38 : decode cX6_blockedTime 38 = .ok (.if_icmp .ge 48, 3) := by decide +kernel
theorem dX6_blockedTime_41 : decode cX6_blockedTime 41 = .ok (.aload_n 0, 1) := by decide +kernel
theorem dX6_blockedTime_42 : decode cX6_blockedTime 42 = .ok (.getfield 17, 3) := by decide +kernel
theorem dX6_blockedTime_45 : decode cX6_blockedTime 45 = .ok (.iload_n 1, 1) := by decide +kernel
theorem dX6_blockedTime_46 : decode cX6_blockedTime 46 = .ok (.invokestatic 158, 3) := by decide +kernel
theorem dX6_blockedTime_49 : decode cX6_blockedTime 49 = .ok (.iconst 3, 1) := by decide +kernel
theorem dX6_blockedTime_50 : decode cX6_blockedTime 50 = .ok (.iadd, 1) := by decide +kernel
theorem dX6_blockedTime_51 : decode cX6_blockedTime 51 = .ok (.iload_n 3, 1) := by decide +kernel
theorem dX6_blockedTime_52 : decode cX6_blockedTime 52 = .ok (.iadd, 1) := by decide +kernel
theorem dX6_blockedTime_53 : decode cX6_blockedTime 53 = .ok (.iaload, 1) := by decide +kernel
theorem dX6_blockedTime_54 : decode cX6_blockedTime 54 = .ok (.istore 4, 2) := by decide +kernel
theorem dX6_blockedTime_56 : decode cX6_blockedTime 56 = .ok (.iload_n 2, 1) := by decide +kernel
theorem dX6_blockedTime_57 : decode cX6_blockedTime 57 = .ok (.aload_n 0, 1) := by decide +kernel
theorem dX6_blockedTime_58 : decode cX6_blockedTime 58 = .ok (.iload 4, 2) := by decide +kernel
theorem dX6_blockedTime_60 : decode cX6_blockedTime 60 = .ok (.invokevirtual 285, 3) := by decide +kernel
theorem dX6_blockedTime_63 : decode cX6_blockedTime 63 = .ok (.aload_n 0, 1) := by decide +kernel
theorem dX6_blockedTime_64 : decode cX6_blockedTime 64 = .ok (.getfield 37, 3) := by decide +kernel
theorem dX6_blockedTime_67 : decode cX6_blockedTime 67 = .ok (.iload 4, 2) := by decide +kernel
theorem dX6_blockedTime_69 : decode cX6_blockedTime 69 = .ok (.iaload, 1) := by decide +kernel
theorem dX6_blockedTime_70 : decode cX6_blockedTime 70 = .ok (.isub, 1) := by decide +kernel
theorem dX6_blockedTime_71 : decode cX6_blockedTime 71 = .ok (.aload_n 0, 1) := by decide +kernel
theorem dX6_blockedTime_72 : decode cX6_blockedTime 72 = .ok (.iload 4, 2) := by decide +kernel
theorem dX6_blockedTime_74 : decode cX6_blockedTime 74 = .ok (.invokevirtual 202, 3) := by decide +kernel
theorem dX6_blockedTime_77 : decode cX6_blockedTime 77 = .ok (.isub, 1) := by decide +kernel
theorem dX6_blockedTime_78 : decode cX6_blockedTime 78 = .ok (.iadd, 1) := by decide +kernel
theorem dX6_blockedTime_79 : decode cX6_blockedTime 79 = .ok (.istore_n 2, 1) := by decide +kernel
theorem dX6_blockedTime_80 : decode cX6_blockedTime 80 = .ok (.iinc 3 1, 3) := by decide +kernel
theorem dX6_blockedTime_83 : decode cX6_blockedTime 83 = .ok (.goto (-57), 3) := by decide +kernel
theorem dX6_blockedTime_86 : decode cX6_blockedTime 86 = .ok (.iload_n 2, 1) := by decide +kernel
theorem dX6_blockedTime_87 : decode cX6_blockedTime 87 = .ok (.ireturn, 1) := by decide +kernel
theorem dX6_criticalLength_0 : decode cX6_criticalLength 0 = .ok (.aload_n 0, 1) := by decide +kernel
theorem dX6_criticalLength_1 : decode cX6_criticalLength 1 = .ok (.iconst 0, 1) := by decide +kernel
theorem dX6_criticalLength_2 : decode cX6_criticalLength 2 = .ok (.putfield 51, 3) := by decide +kernel
theorem dX6_criticalLength_5 : decode cX6_criticalLength 5 = .ok (.aload_n 0, 1) := by decide +kernel
theorem dX6_criticalLength_6 : decode cX6_criticalLength 6 = .ok (.invokevirtual 291, 3) := by decide +kernel
theorem dX6_criticalLength_9 : decode cX6_criticalLength 9 = .ok (.aload_n 0, 1) := by decide +kernel
theorem dX6_criticalLength_10 : decode cX6_criticalLength 10 = .ok (.getfield 263, 3) := by decide +kernel
theorem dX6_criticalLength_13 : decode cX6_criticalLength 13 = .ok (.ireturn, 1) := by decide +kernel
theorem dX6_critical_0 : decode cX6_critical 0 = .ok (.aload_n 0, 1) := by decide +kernel
theorem dX6_critical_1 : decode cX6_critical 1 = .ok (.iconst 0, 1) := by decide +kernel
theorem dX6_critical_2 : decode cX6_critical 2 = .ok (.putfield 51, 3) := by decide +kernel
theorem dX6_critical_5 : decode cX6_critical 5 = .ok (.aload_n 0, 1) := by decide +kernel
theorem dX6_critical_6 : decode cX6_critical 6 = .ok (.invokevirtual 291, 3) := by decide +kernel
theorem dX6_critical_9 : decode cX6_critical 9 = .ok (.aload_n 0, 1) := by decide +kernel
theorem dX6_critical_10 : decode cX6_critical 10 = .ok (.iload_n 1, 1) := by decide +kernel
theorem dX6_critical_11 : decode cX6_critical 11 = .ok (.iconst 0, 1) := by decide +kernel
theorem dX6_critical_12 : decode cX6_critical 12 = .ok (.aload_n 0, 1) := by decide +kernel
theorem dX6_critical_13 : decode cX6_critical 13 = .ok (.getfield 263, 3) := by decide +kernel
theorem dX6_critical_16 : decode cX6_critical 16 = .ok (.iconst 1, 1) := by decide +kernel
theorem dX6_critical_17 : decode cX6_critical 17 = .ok (.isub, 1) := by decide +kernel
theorem dX6_critical_18 : decode cX6_critical 18 = .ok (.invokestatic 73, 3) := by decide +kernel
theorem dX6_critical_21 : decode cX6_critical 21 = .ok (.ifCond .ne 7, 3) := by decide +kernel
theorem dX6_critical_24 : decode cX6_critical 24 = .ok (.iconst 1, 1) := by decide +kernel
theorem dX6_critical_25 : decode cX6_critical 25 = .ok (.goto 4, 3) := by decide +kernel
theorem dX6_critical_28 : decode cX6_critical 28 = .ok (.iconst 0, 1) := by decide +kernel
theorem dX6_critical_29 : decode cX6_critical 29 = .ok (.iconst 1, 1) := by decide +kernel
theorem dX6_critical_30 : decode cX6_critical 30 = .ok (.invokevirtual 174, 3) := by decide +kernel
theorem dX6_critical_33 : decode cX6_critical 33 = .ok (.ifCond .eq 7, 3) := by decide +kernel
theorem dX6_critical_36 : decode cX6_critical 36 = .ok (.iconst 0, 1) := by decide +kernel
theorem dX6_critical_37 : decode cX6_critical 37 = .ok (.goto 12, 3) := by decide +kernel
theorem dX6_critical_40 : decode cX6_critical 40 = .ok (.aload_n 0, 1) := by decide +kernel
theorem dX6_critical_41 : decode cX6_critical 41 = .ok (.getfield 48, 3) := by decide +kernel
theorem dX6_critical_44 : decode cX6_critical 44 = .ok (.iload_n 1, 1) := by decide +kernel
theorem dX6_critical_45 : decode cX6_critical 45 = .ok (.iaload, 1) := by decide +kernel
theorem dX6_critical_46 : decode cX6_critical 46 = .ok (.invokestatic 282, 3) := by decide +kernel
theorem dX6_critical_49 : decode cX6_critical 49 = .ok (.ireturn, 1) := by decide +kernel
theorem dX6_blockCount_0 : decode cX6_blockCount 0 = .ok (.aload_n 0, 1) := by decide +kernel
theorem dX6_blockCount_1 : decode cX6_blockCount 1 = .ok (.iconst 0, 1) := by decide +kernel
theorem dX6_blockCount_2 : decode cX6_blockCount 2 = .ok (.putfield 51, 3) := by decide +kernel
theorem dX6_blockCount_5 : decode cX6_blockCount 5 = .ok (.aload_n 0, 1) := by decide +kernel
theorem dX6_blockCount_6 : decode cX6_blockCount 6 = .ok (.invokevirtual 291, 3) := by decide +kernel
theorem dX6_blockCount_9 : decode cX6_blockCount 9 = .ok (.iconst 0, 1) := by decide +kernel
theorem dX6_blockCount_10 : decode cX6_blockCount 10 = .ok (.istore_n 1, 1) := by decide +kernel
theorem dX6_blockCount_11 : decode cX6_blockCount 11 = .ok (.iconst 0, 1) := by decide +kernel
theorem dX6_blockCount_12 : decode cX6_blockCount 12 = .ok (.istore_n 2, 1) := by decide +kernel
theorem dX6_blockCount_13 : decode cX6_blockCount 13 = .ok (.iload_n 2, 1) := by decide +kernel
theorem dX6_blockCount_14 : decode cX6_blockCount 14 = .ok (.aload_n 0, 1) := by decide +kernel
theorem dX6_blockCount_15 : decode cX6_blockCount 15 = .ok (.getfield 263, 3) := by decide +kernel
theorem dX6_blockCount_18 : decode cX6_blockCount 18 = .ok (.if_icmp .ge 46, 3) := by decide +kernel
theorem dX6_blockCount_21 : decode cX6_blockCount 21 = .ok (.iload_n 1, 1) := by decide +kernel
theorem dX6_blockCount_22 : decode cX6_blockCount 22 = .ok (.iload_n 2, 1) := by decide +kernel
theorem dX6_blockCount_23 : decode cX6_blockCount 23 = .ok (.ifCond .eq 28, 3) := by decide +kernel
theorem dX6_blockCount_26 : decode cX6_blockCount 26 = .ok (.aload_n 0, 1) := by decide +kernel
theorem dX6_blockCount_27 : decode cX6_blockCount 27 = .ok (.aload_n 0, 1) := by decide +kernel
theorem dX6_blockCount_28 : decode cX6_blockCount 28 = .ok (.getfield 48, 3) := by decide +kernel
theorem dX6_blockCount_31 : decode cX6_blockCount 31 = .ok (.iload_n 2, 1) := by decide +kernel
theorem dX6_blockCount_32 : decode cX6_blockCount 32 = .ok (.iaload, 1) := by decide +kernel
theorem dX6_blockCount_33 : decode cX6_blockCount 33 = .ok (.invokevirtual 193, 3) := by decide +kernel
theorem dX6_blockCount_36 : decode cX6_blockCount 36 = .ok (.aload_n 0, 1) := by decide +kernel
theorem dX6_blockCount_37 : decode cX6_blockCount 37 = .ok (.aload_n 0, 1) := by decide +kernel
theorem dX6_blockCount_38 : decode cX6_blockCount 38 = .ok (.getfield 48, 3) := by decide +kernel
theorem dX6_blockCount_41 : decode cX6_blockCount 41 = .ok (.iload_n 2, 1) := by decide +kernel
theorem dX6_blockCount_42 : decode cX6_blockCount 42 = .ok (.iconst 1, 1) := by decide +kernel
theorem dX6_blockCount_43 : decode cX6_blockCount 43 = .ok (.isub, 1) := by decide +kernel
theorem dX6_blockCount_44 : decode cX6_blockCount 44 = .ok (.iaload, 1) := by decide +kernel
theorem dX6_blockCount_45 : decode cX6_blockCount 45 = .ok (.invokevirtual 193, 3) := by decide +kernel
theorem dX6_blockCount_48 : decode cX6_blockCount 48 = .ok (.if_icmp .eq 7, 3) := by decide +kernel
theorem dX6_blockCount_51 : decode cX6_blockCount 51 = .ok (.iconst 1, 1) := by decide +kernel
theorem dX6_blockCount_52 : decode cX6_blockCount 52 = .ok (.goto 4, 3) := by decide +kernel
theorem dX6_blockCount_55 : decode cX6_blockCount 55 = .ok (.iconst 0, 1) := by decide +kernel
theorem dX6_blockCount_56 : decode cX6_blockCount 56 = .ok (.iadd, 1) := by decide +kernel
theorem dX6_blockCount_57 : decode cX6_blockCount 57 = .ok (.istore_n 1, 1) := by decide +kernel
theorem dX6_blockCount_58 : decode cX6_blockCount 58 = .ok (.iinc 2 1, 3) := by decide +kernel
theorem dX6_blockCount_61 : decode cX6_blockCount 61 = .ok (.goto (-48), 3) := by decide +kernel
theorem dX6_blockCount_64 : decode cX6_blockCount 64 = .ok (.iload_n 1, 1) := by decide +kernel
theorem dX6_blockCount_65 : decode cX6_blockCount 65 = .ok (.ireturn, 1) := by decide +kernel
theorem dX6_longestBlock_0 : decode cX6_longestBlock 0 = .ok (.aload_n 0, 1) := by decide +kernel
theorem dX6_longestBlock_1 : decode cX6_longestBlock 1 = .ok (.iconst 0, 1) := by decide +kernel
theorem dX6_longestBlock_2 : decode cX6_longestBlock 2 = .ok (.putfield 51, 3) := by decide +kernel
theorem dX6_longestBlock_5 : decode cX6_longestBlock 5 = .ok (.aload_n 0, 1) := by decide +kernel
theorem dX6_longestBlock_6 : decode cX6_longestBlock 6 = .ok (.invokevirtual 291, 3) := by decide +kernel
theorem dX6_longestBlock_9 : decode cX6_longestBlock 9 = .ok (.iconst 0, 1) := by decide +kernel
theorem dX6_longestBlock_10 : decode cX6_longestBlock 10 = .ok (.istore_n 1, 1) := by decide +kernel
theorem dX6_longestBlock_11 : decode cX6_longestBlock 11 = .ok (.iconst 0, 1) := by decide +kernel
theorem dX6_longestBlock_12 : decode cX6_longestBlock 12 = .ok (.istore_n 2, 1) := by decide +kernel
theorem dX6_longestBlock_13 : decode cX6_longestBlock 13 = .ok (.iconst 0, 1) := by decide +kernel
theorem dX6_longestBlock_14 : decode cX6_longestBlock 14 = .ok (.istore_n 3, 1) := by decide +kernel
theorem dX6_longestBlock_15 : decode cX6_longestBlock 15 = .ok (.iload_n 3, 1) := by decide +kernel
theorem dX6_longestBlock_16 : decode cX6_longestBlock 16 = .ok (.aload_n 0, 1) := by decide +kernel
theorem dX6_longestBlock_17 : decode cX6_longestBlock 17 = .ok (.getfield 263, 3) := by decide +kernel
theorem dX6_longestBlock_20 : decode cX6_longestBlock 20 = .ok (.if_icmp .ge 52, 3) := by decide +kernel
theorem dX6_longestBlock_23 : decode cX6_longestBlock 23 = .ok (.iload_n 3, 1) := by decide +kernel
theorem dX6_longestBlock_24 : decode cX6_longestBlock 24 = .ok (.ifCond .eq 28, 3) := by decide +kernel
theorem dX6_longestBlock_27 : decode cX6_longestBlock 27 = .ok (.aload_n 0, 1) := by decide +kernel
theorem dX6_longestBlock_28 : decode cX6_longestBlock 28 = .ok (.aload_n 0, 1) := by decide +kernel
theorem dX6_longestBlock_29 : decode cX6_longestBlock 29 = .ok (.getfield 48, 3) := by decide +kernel
theorem dX6_longestBlock_32 : decode cX6_longestBlock 32 = .ok (.iload_n 3, 1) := by decide +kernel
theorem dX6_longestBlock_33 : decode cX6_longestBlock 33 = .ok (.iaload, 1) := by decide +kernel
theorem dX6_longestBlock_34 : decode cX6_longestBlock 34 = .ok (.invokevirtual 193, 3) := by decide +kernel
theorem dX6_longestBlock_37 : decode cX6_longestBlock 37 = .ok (.aload_n 0, 1) := by decide +kernel
theorem dX6_longestBlock_38 : decode cX6_longestBlock 38 = .ok (.aload_n 0, 1) := by decide +kernel
theorem dX6_longestBlock_39 : decode cX6_longestBlock 39 = .ok (.getfield 48, 3) := by decide +kernel
theorem dX6_longestBlock_42 : decode cX6_longestBlock 42 = .ok (.iload_n 3, 1) := by decide +kernel
theorem dX6_longestBlock_43 : decode cX6_longestBlock 43 = .ok (.iconst 1, 1) := by decide +kernel
theorem dX6_longestBlock_44 : decode cX6_longestBlock 44 = .ok (.isub, 1) := by decide +kernel
theorem dX6_longestBlock_45 : decode cX6_longestBlock 45 = .ok (.iaload, 1) := by decide +kernel
theorem dX6_longestBlock_46 : decode cX6_longestBlock 46 = .ok (.invokevirtual 193, 3) := by decide +kernel
theorem dX6_longestBlock_49 : decode cX6_longestBlock 49 = .ok (.if_icmp .eq 7, 3) := by decide +kernel
theorem dX6_longestBlock_52 : decode cX6_longestBlock 52 = .ok (.iconst 1, 1) := by decide +kernel
theorem dX6_longestBlock_53 : decode cX6_longestBlock 53 = .ok (.goto 6, 3) := by decide +kernel
theorem dX6_longestBlock_56 : decode cX6_longestBlock 56 = .ok (.iload_n 2, 1) := by decide +kernel
theorem dX6_longestBlock_57 : decode cX6_longestBlock 57 = .ok (.iconst 1, 1) := by decide +kernel
theorem dX6_longestBlock_58 : decode cX6_longestBlock 58 = .ok (.iadd, 1) := by decide +kernel
theorem dX6_longestBlock_59 : decode cX6_longestBlock 59 = .ok (.istore_n 2, 1) := by decide +kernel
theorem dX6_longestBlock_60 : decode cX6_longestBlock 60 = .ok (.iload_n 1, 1) := by decide +kernel
theorem dX6_longestBlock_61 : decode cX6_longestBlock 61 = .ok (.iload_n 2, 1) := by decide +kernel
theorem dX6_longestBlock_62 : decode cX6_longestBlock 62 = .ok (.invokestatic 205, 3) := by decide +kernel
theorem dX6_longestBlock_65 : decode cX6_longestBlock 65 = .ok (.istore_n 1, 1) := by decide +kernel
theorem dX6_longestBlock_66 : decode cX6_longestBlock 66 = .ok (.iinc 3 1, 3) := by decide +kernel
theorem dX6_longestBlock_69 : decode cX6_longestBlock 69 = .ok (.goto (-54), 3) := by decide +kernel
theorem dX6_longestBlock_72 : decode cX6_longestBlock 72 = .ok (.iload_n 1, 1) := by decide +kernel
theorem dX6_longestBlock_73 : decode cX6_longestBlock 73 = .ok (.ireturn, 1) := by decide +kernel
theorem dX6_spanAfter_0 : decode cX6_spanAfter 0 = .ok (.aload_n 0, 1) := by decide +kernel
theorem dX6_spanAfter_1 : decode cX6_spanAfter 1 = .ok (.iload_n 1, 1) := by decide +kernel
theorem dX6_spanAfter_2 : decode cX6_spanAfter 2 = .ok (.iload_n 2, 1) := by decide +kernel
theorem dX6_spanAfter_3 : decode cX6_spanAfter 3 = .ok (.invokevirtual 241, 3) := by decide +kernel
theorem dX6_spanAfter_6 : decode cX6_spanAfter 6 = .ok (.aload_n 0, 1) := by decide +kernel
theorem dX6_spanAfter_7 : decode cX6_spanAfter 7 = .ok (.invokevirtual 244, 3) := by decide +kernel
theorem dX6_spanAfter_10 : decode cX6_spanAfter 10 = .ok (.ifCond .eq 7, 3) := by decide +kernel
theorem dX6_spanAfter_13 : decode cX6_spanAfter 13 = .ok (.iconst (-1), 1) := by decide +kernel
theorem dX6_spanAfter_14 : decode cX6_spanAfter 14 = .ok (.goto 7, 3) := by decide +kernel
theorem dX6_spanAfter_17 : decode cX6_spanAfter 17 = .ok (.aload_n 0, 1) := by decide +kernel
theorem dX6_spanAfter_18 : decode cX6_spanAfter 18 = .ok (.invokevirtual 247, 3) := by decide +kernel
theorem dX6_spanAfter_21 : decode cX6_spanAfter 21 = .ok (.istore_n 3, 1) := by decide +kernel
theorem dX6_spanAfter_22 : decode cX6_spanAfter 22 = .ok (.aload_n 0, 1) := by decide +kernel
theorem dX6_spanAfter_23 : decode cX6_spanAfter 23 = .ok (.iload_n 1, 1) := by decide +kernel
theorem dX6_spanAfter_24 : decode cX6_spanAfter 24 = .ok (.iload_n 2, 1) := by decide +kernel
theorem dX6_spanAfter_25 : decode cX6_spanAfter 25 = .ok (.invokevirtual 241, 3) := by decide +kernel
theorem dX6_spanAfter_28 : decode cX6_spanAfter 28 = .ok (.iload_n 3, 1) := by decide +kernel
theorem dX6_spanAfter_29 : decode cX6_spanAfter 29 = .ok (.ireturn, 1) := by decide +kernel
theorem dX6_deadlocks_0 : decode cX6_deadlocks 0 = .ok (.aload_n 0, 1) := by decide +kernel
theorem dX6_deadlocks_1 : decode cX6_deadlocks 1 = .ok (.iconst 0, 1) := by decide +kernel
theorem dX6_deadlocks_2 : decode cX6_deadlocks 2 = .ok (.putfield 51, 3) := by decide +kernel
theorem dX6_deadlocks_5 : decode cX6_deadlocks 5 = .ok (.aload_n 0, 1) := by decide +kernel
theorem dX6_deadlocks_6 : decode cX6_deadlocks 6 = .ok (.iload_n 1, 1) := by decide +kernel
theorem dX6_deadlocks_7 : decode cX6_deadlocks 7 = .ok (.iload_n 2, 1) := by decide +kernel
theorem dX6_deadlocks_8 : decode cX6_deadlocks 8 = .ok (.invokevirtual 294, 3) := by decide +kernel
theorem dX6_deadlocks_11 : decode cX6_deadlocks 11 = .ok (.ifCond .ne 17, 3) := by decide +kernel
theorem dX6_deadlocks_14 : decode cX6_deadlocks 14 = .ok (.aload_n 0, 1) := by decide +kernel
theorem dX6_deadlocks_15 : decode cX6_deadlocks 15 = .ok (.iload_n 1, 1) := by decide +kernel
theorem dX6_deadlocks_16 : decode cX6_deadlocks 16 = .ok (.iload_n 2, 1) := by decide +kernel
theorem dX6_deadlocks_17 : decode cX6_deadlocks 17 = .ok (.invokevirtual 297, 3) := by decide +kernel
theorem dX6_deadlocks_20 : decode cX6_deadlocks 20 = .ok (.iconst (-1), 1) := by decide +kernel
theorem dX6_deadlocks_21 : decode cX6_deadlocks 21 = .ok (.if_icmp .ne 7, 3) := by decide +kernel
theorem dX6_deadlocks_24 : decode cX6_deadlocks 24 = .ok (.iconst 1, 1) := by decide +kernel
theorem dX6_deadlocks_25 : decode cX6_deadlocks 25 = .ok (.goto 4, 3) := by decide +kernel
theorem dX6_deadlocks_28 : decode cX6_deadlocks 28 = .ok (.iconst 0, 1) := by decide +kernel
theorem dX6_deadlocks_29 : decode cX6_deadlocks 29 = .ok (.ireturn, 1) := by decide +kernel
theorem dX6_makespanAfter_0 : decode cX6_makespanAfter 0 = .ok (.aload_n 0, 1) := by decide +kernel
theorem dX6_makespanAfter_1 : decode cX6_makespanAfter 1 = .ok (.iconst 0, 1) := by decide +kernel
theorem dX6_makespanAfter_2 : decode cX6_makespanAfter 2 = .ok (.putfield 51, 3) := by decide +kernel
theorem dX6_makespanAfter_5 : decode cX6_makespanAfter 5 = .ok (.aload_n 0, 1) := by decide +kernel
theorem dX6_makespanAfter_6 : decode cX6_makespanAfter 6 = .ok (.iload_n 1, 1) := by decide +kernel
theorem dX6_makespanAfter_7 : decode cX6_makespanAfter 7 = .ok (.iload_n 2, 1) := by decide +kernel
theorem dX6_makespanAfter_8 : decode cX6_makespanAfter 8 = .ok (.invokevirtual 294, 3) := by decide +kernel
theorem dX6_makespanAfter_11 : decode cX6_makespanAfter 11 = .ok (.ifCond .eq 7, 3) := by decide +kernel
theorem dX6_makespanAfter_14 : decode cX6_makespanAfter 14 = .ok (.iconst 0, 1) := by decide +kernel
theorem dX6_makespanAfter_15 : decode cX6_makespanAfter 15 = .ok (.goto 9, 3) := by decide +kernel
theorem dX6_makespanAfter_18 : decode cX6_makespanAfter 18 = .ok (.aload_n 0, 1) := by decide +kernel
theorem dX6_makespanAfter_19 : decode cX6_makespanAfter 19 = .ok (.iload_n 1, 1) := by decide +kernel
theorem dX6_makespanAfter_20 : decode cX6_makespanAfter 20 = .ok (.iload_n 2, 1) := by decide +kernel
theorem dX6_makespanAfter_21 : decode cX6_makespanAfter 21 = .ok (.invokevirtual 297, 3) := by decide +kernel
theorem dX6_makespanAfter_24 : decode cX6_makespanAfter 24 = .ok (.ireturn, 1) := by decide +kernel
theorem dX6_bestSwap_0 : decode cX6_bestSwap 0 = .ok (.aload_n 0, 1) := by decide +kernel
theorem dX6_bestSwap_1 : decode cX6_bestSwap 1 = .ok (.iconst 0, 1) := by decide +kernel
theorem dX6_bestSwap_2 : decode cX6_bestSwap 2 = .ok (.putfield 51, 3) := by decide +kernel
theorem dX6_bestSwap_5 : decode cX6_bestSwap 5 = .ok (.aload_n 0, 1) := by decide +kernel
theorem dX6_bestSwap_6 : decode cX6_bestSwap 6 = .ok (.invokevirtual 300, 3) := by decide +kernel
theorem dX6_bestSwap_9 : decode cX6_bestSwap 9 = .ok (.ireturn, 1) := by decide +kernel
theorem dX6_remember_0 : decode cX6_remember 0 = .ok (.aload_n 0, 1) := by decide +kernel
theorem dX6_remember_1 : decode cX6_remember 1 = .ok (.getfield 303, 3) := by decide +kernel
theorem dX6_remember_4 : decode cX6_remember 4 = .ok (.bipush 8, 2) := by decide +kernel
theorem dX6_remember_6 : decode cX6_remember 6 = .ok (.if_icmp .ne 44, 3) := by decide +kernel
theorem dX6_remember_9 : decode cX6_remember 9 = .ok (.iconst 1, 1) := by decide +kernel
theorem dX6_remember_10 : decode cX6_remember 10 = .ok (.istore_n 1, 1) := by decide +kernel
theorem dX6_remember_11 : decode cX6_remember 11 = .ok (.iload_n 1, 1) := by decide +kernel
theorem dX6_remember_12 : decode cX6_remember 12 = .ok (.bipush 8, 2) := by decide +kernel
theorem dX6_remember_14 : decode cX6_remember 14 = .ok (.if_icmp .ge 26, 3) := by decide +kernel
theorem dX6_remember_17 : decode cX6_remember 17 = .ok (.aload_n 0, 1) := by decide +kernel
theorem dX6_remember_18 : decode cX6_remember 18 = .ok (.getfield 28, 3) := by decide +kernel
theorem dX6_remember_21 : decode cX6_remember 21 = .ok (.iload_n 1, 1) := by decide +kernel
theorem dX6_remember_22 : decode cX6_remember 22 = .ok (.aaload, 1) := by decide +kernel
theorem dX6_remember_23 : decode cX6_remember 23 = .ok (.aload_n 0, 1) := by decide +kernel
theorem dX6_remember_24 : decode cX6_remember 24 = .ok (.getfield 28, 3) := by decide +kernel
theorem dX6_remember_27 : decode cX6_remember 27 = .ok (.iload_n 1, 1) := by decide +kernel
theorem dX6_remember_28 : decode cX6_remember 28 = .ok (.iconst 1, 1) := by decide +kernel
theorem dX6_remember_29 : decode cX6_remember 29 = .ok (.isub, 1) := by decide +kernel
theorem dX6_remember_30 : decode cX6_remember 30 = .ok (.aaload, 1) := by decide +kernel
theorem dX6_remember_31 : decode cX6_remember 31 = .ok (.invokestatic 186, 3) := by decide +kernel
theorem dX6_remember_34 : decode cX6_remember 34 = .ok (.iinc 1 1, 3) := by decide +kernel
theorem dX6_remember_37 : decode cX6_remember 37 = .ok (.goto (-26), 3) := by decide +kernel
theorem dX6_remember_40 : decode cX6_remember 40 = .ok (.aload_n 0, 1) := by decide +kernel
theorem dX6_remember_41 : decode cX6_remember 41 = .ok (.dup, 1) := by decide +kernel
theorem dX6_remember_42 : decode cX6_remember 42 = .ok (.getfield 303, 3) := by decide +kernel
theorem dX6_remember_45 : decode cX6_remember 45 = .ok (.iconst 1, 1) := by decide +kernel
theorem dX6_remember_46 : decode cX6_remember 46 = .ok (.isub, 1) := by decide +kernel
theorem dX6_remember_47 : decode cX6_remember 47 = .ok (.putfield 303, 3) := by decide +kernel
theorem dX6_remember_50 : decode cX6_remember 50 = .ok (.aload_n 0, 1) := by decide +kernel
theorem dX6_remember_51 : decode cX6_remember 51 = .ok (.getfield 17, 3) := by decide +kernel
theorem dX6_remember_54 : decode cX6_remember 54 = .ok (.aload_n 0, 1) := by decide +kernel
theorem dX6_remember_55 : decode cX6_remember 55 = .ok (.getfield 28, 3) := by decide +kernel
theorem dX6_remember_58 : decode cX6_remember 58 = .ok (.aload_n 0, 1) := by decide +kernel
theorem dX6_remember_59 : decode cX6_remember 59 = .ok (.getfield 303, 3) := by decide +kernel
theorem dX6_remember_62 : decode cX6_remember 62 = .ok (.aaload, 1) := by decide +kernel
theorem dX6_remember_63 : decode cX6_remember 63 = .ok (.invokestatic 186, 3) := by decide +kernel
theorem dX6_remember_66 : decode cX6_remember 66 = .ok (.aload_n 0, 1) := by decide +kernel
theorem dX6_remember_67 : decode cX6_remember 67 = .ok (.dup, 1) := by decide +kernel
theorem dX6_remember_68 : decode cX6_remember 68 = .ok (.getfield 303, 3) := by decide +kernel
theorem dX6_remember_71 : decode cX6_remember 71 = .ok (.iconst 1, 1) := by decide +kernel
theorem dX6_remember_72 : decode cX6_remember 72 = .ok (.iadd, 1) := by decide +kernel
theorem dX6_remember_73 : decode cX6_remember 73 = .ok (.putfield 303, 3) := by decide +kernel
theorem dX6_remember_76 : decode cX6_remember 76 = .ok (.return_, 1) := by decide +kernel
theorem dX6_swap_0 : decode cX6_swap 0 = .ok (.aload_n 0, 1) := by decide +kernel
theorem dX6_swap_1 : decode cX6_swap 1 = .ok (.iconst 0, 1) := by decide +kernel
theorem dX6_swap_2 : decode cX6_swap 2 = .ok (.putfield 51, 3) := by decide +kernel
theorem dX6_swap_5 : decode cX6_swap 5 = .ok (.aload_n 0, 1) := by decide +kernel
theorem dX6_swap_6 : decode cX6_swap 6 = .ok (.iload_n 1, 1) := by decide +kernel
theorem dX6_swap_7 : decode cX6_swap 7 = .ok (.iload_n 2, 1) := by decide +kernel
theorem dX6_swap_8 : decode cX6_swap 8 = .ok (.invokevirtual 294, 3) := by decide +kernel
theorem dX6_swap_11 : decode cX6_swap 11 = .ok (.ifCond .ne 26, 3) := by decide +kernel
theorem dX6_swap_14 : decode cX6_swap 14 = .ok (.aload_n 0, 1) := by decide +kernel
theorem dX6_swap_15 : decode cX6_swap 15 = .ok (.aload_n 0, 1) := by decide +kernel
theorem dX6_swap_16 : decode cX6_swap 16 = .ok (.iload_n 1, 1) := by decide +kernel
theorem dX6_swap_17 : decode cX6_swap 17 = .ok (.iload_n 2, 1) := by decide +kernel
theorem dX6_swap_18 : decode cX6_swap 18 = .ok (.invokevirtual 297, 3) := by decide +kernel
theorem dX6_swap_21 : decode cX6_swap 21 = .ok (.iconst (-1), 1) := by decide +kernel
theorem dX6_swap_22 : decode cX6_swap 22 = .ok (.if_icmp .ne 7, 3) := by decide +kernel
theorem dX6_swap_25 : decode cX6_swap 25 = .ok (.iconst 1, 1) := by decide +kernel
theorem dX6_swap_26 : decode cX6_swap 26 = .ok (.goto 4, 3) := by decide +kernel
theorem dX6_swap_29 : decode cX6_swap 29 = .ok (.iconst 0, 1) := by decide +kernel
theorem dX6_swap_30 : decode cX6_swap 30 = .ok (.iconst 2, 1) := by decide +kernel
theorem dX6_swap_31 : decode cX6_swap 31 = .ok (.invokevirtual 174, 3) := by decide +kernel
theorem dX6_swap_34 : decode cX6_swap 34 = .ok (.ifCond .eq 5, 3) := by decide +kernel
theorem dX6_swap_37 : decode cX6_swap 37 = .ok (.iconst 0, 1) := by decide +kernel
theorem dX6_swap_38 : decode cX6_swap 38 = .ok (.ireturn, 1) := by decide +kernel
theorem dX6_swap_39 : decode cX6_swap 39 = .ok (.aload_n 0, 1) := by decide +kernel
theorem dX6_swap_40 : decode cX6_swap 40 = .ok (.invokevirtual 183, 3) := by decide +kernel
theorem dX6_swap_43 : decode cX6_swap 43 = .ok (.aload_n 0, 1) := by decide +kernel
theorem dX6_swap_44 : decode cX6_swap 44 = .ok (.iload_n 1, 1) := by decide +kernel
theorem dX6_swap_45 : decode cX6_swap 45 = .ok (.iload_n 2, 1) := by decide +kernel
theorem dX6_swap_46 : decode cX6_swap 46 = .ok (.invokevirtual 241, 3) := by decide +kernel
theorem dX6_swap_49 : decode cX6_swap 49 = .ok (.aload_n 0, 1) := by decide +kernel
theorem dX6_swap_50 : decode cX6_swap 50 = .ok (.invokevirtual 288, 3) := by decide +kernel
theorem dX6_swap_53 : decode cX6_swap 53 = .ok (.ireturn, 1) := by decide +kernel
theorem dX6_improve_0 : decode cX6_improve 0 = .ok (.aload_n 0, 1) := by decide +kernel
theorem dX6_improve_1 : decode cX6_improve 1 = .ok (.iconst 0, 1) := by decide +kernel
theorem dX6_improve_2 : decode cX6_improve 2 = .ok (.putfield 51, 3) := by decide +kernel
theorem dX6_improve_5 : decode cX6_improve 5 = .ok (.aload_n 0, 1) := by decide +kernel
theorem dX6_improve_6 : decode cX6_improve 6 = .ok (.iload_n 1, 1) := by decide +kernel
theorem dX6_improve_7 : decode cX6_improve 7 = .ok (.iconst 1, 1) := by decide +kernel
theorem dX6_improve_8 : decode cX6_improve 8 = .ok (.bipush 20, 2) := by decide +kernel
theorem dX6_improve_10 : decode cX6_improve 10 = .ok (.invokestatic 73, 3) := by decide +kernel
theorem dX6_improve_13 : decode cX6_improve 13 = .ok (.ifCond .ne 7, 3) := by decide +kernel
theorem dX6_improve_16 : decode cX6_improve 16 = .ok (.iconst 1, 1) := by decide +kernel
theorem dX6_improve_17 : decode cX6_improve 17 = .ok (.goto 4, 3) := by decide +kernel
theorem dX6_improve_20 : decode cX6_improve 20 = .ok (.iconst 0, 1) := by decide +kernel
theorem dX6_improve_21 : decode cX6_improve 21 = .ok (.iconst 1, 1) := by decide +kernel
theorem dX6_improve_22 : decode cX6_improve 22 = .ok (.invokevirtual 174, 3) := by decide +kernel
theorem dX6_improve_25 : decode cX6_improve 25 = .ok (.ifCond .eq 5, 3) := by decide +kernel
theorem dX6_improve_28 : decode cX6_improve 28 = .ok (.iconst 0, 1) := by decide +kernel
theorem dX6_improve_29 : decode cX6_improve 29 = .ok (.ireturn, 1) := by decide +kernel
theorem dX6_improve_30 : decode cX6_improve 30 = .ok (.aload_n 0, 1) := by decide +kernel
theorem dX6_improve_31 : decode cX6_improve 31 = .ok (.invokevirtual 183, 3) := by decide +kernel
theorem dX6_improve_34 : decode cX6_improve 34 = .ok (.iconst 0, 1) := by decide +kernel
theorem dX6_improve_35 : decode cX6_improve 35 = .ok (.istore_n 2, 1) := by decide +kernel
theorem dX6_improve_36 : decode cX6_improve 36 = .ok (.iload_n 2, 1) := by decide +kernel
theorem dX6_improve_37 : decode cX6_improve 37 = .ok (.iload_n 1, 1) := by decide +kernel
theorem dX6_improve_38 : decode cX6_improve 38 = .ok (.if_icmp .ge 65, 3) := by decide +kernel
theorem dX6_improve_41 : decode cX6_improve 41 = .ok (.aload_n 0, 1) := by decide +kernel
theorem dX6_improve_42 : decode cX6_improve 42 = .ok (.invokevirtual 288, 3) := by decide +kernel
theorem dX6_improve_45 : decode cX6_improve 45 = .ok (.istore_n 3, 1) := by decide +kernel
theorem dX6_improve_46 : decode cX6_improve 46 = .ok (.aload_n 0, 1) := by decide +kernel
theorem dX6_improve_47 : decode cX6_improve 47 = .ok (.invokevirtual 250, 3) := by decide +kernel
theorem dX6_improve_50 : decode cX6_improve 50 = .ok (.istore 4, 2) := by decide +kernel
theorem dX6_improve_52 : decode cX6_improve 52 = .ok (.aload_n 0, 1) := by decide +kernel
theorem dX6_improve_53 : decode cX6_improve 53 = .ok (.invokevirtual 300, 3) := by decide +kernel
theorem dX6_improve_56 : decode cX6_improve 56 = .ok (.istore 5, 2) := by decide +kernel
theorem dX6_improve_58 : decode cX6_improve 58 = .ok (.iload 5, 2) := by decide +kernel
theorem dX6_improve_60 : decode cX6_improve 60 = .ok (.iconst (-1), 1) := by decide +kernel
theorem dX6_improve_61 : decode cX6_improve 61 = .ok (.if_icmp .eq 20, 3) := by decide +kernel
theorem dX6_improve_64 : decode cX6_improve 64 = .ok (.aload_n 0, 1) := by decide +kernel
theorem dX6_improve_65 : decode cX6_improve 65 = .ok (.getfield 253, 3) := by decide +kernel
theorem dX6_improve_68 : decode cX6_improve 68 = .ok (.aload_n 0, 1) := by decide +kernel
theorem dX6_improve_69 : decode cX6_improve 69 = .ok (.getfield 256, 3) := by decide +kernel
theorem dX6_improve_72 : decode cX6_improve 72 = .ok (.iload_n 3, 1) := by decide +kernel
theorem dX6_improve_73 : decode cX6_improve 73 = .ok (.iload 4, 2) := by decide +kernel
theorem dX6_improve_75 : decode cX6_improve 75 = .ok (.invokestatic 259, 3) := by decide +kernel
theorem dX6_improve_78 : decode cX6_improve 78 = .ok (.ifCond .ne 5, 3) := by decide +kernel
theorem dX6_improve_81 : decode cX6_improve 81 = .ok (.iload_n 2, 1) := by decide +kernel
theorem dX6_improve_82 : decode cX6_improve 82 = .ok (.ireturn, 1) := by decide +kernel
theorem dX6_improve_83 : decode cX6_improve 83 = .ok (.aload_n 0, 1) := by decide +kernel
theorem dX6_improve_84 : decode cX6_improve 84 = .ok (.iload 5, 2) := by decide +kernel
theorem dX6_improve_86 : decode cX6_improve 86 = .ok (.bipush 100, 2) := by decide +kernel
theorem dX6_improve_88 : decode cX6_improve 88 = .ok (.idiv, 1) := by decide +kernel
theorem dX6_improve_89 : decode cX6_improve 89 = .ok (.iload 5, 2) := by decide +kernel
theorem dX6_improve_91 : decode cX6_improve 91 = .ok (.bipush 100, 2) := by decide +kernel
theorem dX6_improve_93 : decode cX6_improve 93 = .ok (.irem, 1) := by decide +kernel
theorem dX6_improve_94 : decode cX6_improve 94 = .ok (.invokevirtual 241, 3) := by decide +kernel
theorem dX6_improve_97 : decode cX6_improve 97 = .ok (.iinc 2 1, 3) := by decide +kernel
theorem dX6_improve_100 : decode cX6_improve 100 = .ok (.goto (-64), 3) := by decide +kernel
theorem dX6_improve_103 : decode cX6_improve 103 = .ok (.iload_n 1, 1) := by decide +kernel
theorem dX6_improve_104 : decode cX6_improve 104 = .ok (.ireturn, 1) := by decide +kernel
theorem dX6_bring_0 : decode cX6_bring 0 = .ok (.aload_n 0, 1) := by decide +kernel
theorem dX6_bring_1 : decode cX6_bring 1 = .ok (.iload_n 1, 1) := by decide +kernel
theorem dX6_bring_2 : decode cX6_bring 2 = .ok (.invokevirtual 193, 3) := by decide +kernel
theorem dX6_bring_5 : decode cX6_bring 5 = .ok (.istore_n 3, 1) := by decide +kernel
theorem dX6_bring_6 : decode cX6_bring 6 = .ok (.aload_n 0, 1) := by decide +kernel
theorem dX6_bring_7 : decode cX6_bring 7 = .ok (.iload_n 1, 1) := by decide +kernel
theorem dX6_bring_8 : decode cX6_bring 8 = .ok (.invokevirtual 279, 3) := by decide +kernel
theorem dX6_bring_11 : decode cX6_bring 11 = .ok (.istore 4, 2) := by decide +kernel
theorem dX6_bring_13 : decode cX6_bring 13 = .ok (.iload 4, 2) := by decide +kernel
theorem dX6_bring_15 : decode cX6_bring 15 = .ok (.iload_n 2, 1) := by decide +kernel
theorem dX6_bring_16 : decode cX6_bring 16 = .ok (.if_icmp .ge 16, 3) := by decide +kernel
theorem dX6_bring_19 : decode cX6_bring 19 = .ok (.aload_n 0, 1) := by decide +kernel
theorem dX6_bring_20 : decode cX6_bring 20 = .ok (.iload_n 3, 1) := by decide +kernel
theorem dX6_bring_21 : decode cX6_bring 21 = .ok (.iload 4, 2) := by decide +kernel
theorem dX6_bring_23 : decode cX6_bring 23 = .ok (.invokevirtual 241, 3) := by decide +kernel
theorem dX6_bring_26 : decode cX6_bring 26 = .ok (.iinc 4 1, 3) := by decide +kernel
theorem dX6_bring_29 : decode cX6_bring 29 = .ok (.goto (-16), 3) := by decide +kernel
theorem dX6_bring_32 : decode cX6_bring 32 = .ok (.iload 4, 2) := by decide +kernel
theorem dX6_bring_34 : decode cX6_bring 34 = .ok (.iload_n 2, 1) := by decide +kernel
theorem dX6_bring_35 : decode cX6_bring 35 = .ok (.if_icmp .le 18, 3) := by decide +kernel
theorem dX6_bring_38 : decode cX6_bring 38 = .ok (.aload_n 0, 1) := by decide +kernel
theorem dX6_bring_39 : decode cX6_bring 39 = .ok (.iload_n 3, 1) := by decide +kernel
theorem dX6_bring_40 : decode cX6_bring 40 = .ok (.iload 4, 2) := by decide +kernel
theorem dX6_bring_42 : decode cX6_bring 42 = .ok (.iconst 1, 1) := by decide +kernel
theorem dX6_bring_43 : decode cX6_bring 43 = .ok (.isub, 1) := by decide +kernel
theorem dX6_bring_44 : decode cX6_bring 44 = .ok (.invokevirtual 241, 3) := by decide +kernel
theorem dX6_bring_47 : decode cX6_bring 47 = .ok (.iinc 4 (-1), 3) := by decide +kernel
theorem dX6_bring_50 : decode cX6_bring 50 = .ok (.goto (-18), 3) := by decide +kernel
theorem dX6_bring_53 : decode cX6_bring 53 = .ok (.return_, 1) := by decide +kernel
theorem dX6_place_0 : decode cX6_place 0 = .ok (.aload_n 0, 1) := by decide +kernel
theorem dX6_place_1 : decode cX6_place 1 = .ok (.iconst 0, 1) := by decide +kernel
theorem dX6_place_2 : decode cX6_place 2 = .ok (.putfield 51, 3) := by decide +kernel
theorem dX6_place_5 : decode cX6_place 5 = .ok (.aload_n 0, 1) := by decide +kernel
theorem dX6_place_6 : decode cX6_place 6 = .ok (.iload_n 1, 1) := by decide +kernel
theorem dX6_place_7 : decode cX6_place 7 = .ok (.iload_n 2, 1) := by decide +kernel
theorem dX6_place_8 : decode cX6_place 8 = .ok (.invokevirtual 275, 3) := by decide +kernel
theorem dX6_place_11 : decode cX6_place 11 = .ok (.ifCond .eq 5, 3) := by decide +kernel
theorem dX6_place_14 : decode cX6_place 14 = .ok (.iconst 0, 1) := by decide +kernel
theorem dX6_place_15 : decode cX6_place 15 = .ok (.ireturn, 1) := by decide +kernel
theorem dX6_place_16 : decode cX6_place 16 = .ok (.bipush 6, 2) := by decide +kernel
theorem dX6_place_18 : decode cX6_place 18 = .ok (.iload_n 1, 1) := by decide +kernel
theorem dX6_place_19 : decode cX6_place 19 = .ok (.imul, 1) := by decide +kernel
theorem dX6_place_20 : decode cX6_place 20 = .ok (.iload_n 2, 1) := by decide +kernel
theorem dX6_place_21 : decode cX6_place 21 = .ok (.iadd, 1) := by decide +kernel
theorem dX6_place_22 : decode cX6_place 22 = .ok (.istore 4, 2) := by decide +kernel
theorem dX6_place_24 : decode cX6_place 24 = .ok (.aload_n 0, 1) := by decide +kernel
theorem dX6_place_25 : decode cX6_place 25 = .ok (.iload_n 3, 1) := by decide +kernel
theorem dX6_place_26 : decode cX6_place 26 = .ok (.iconst 0, 1) := by decide +kernel
theorem dX6_place_27 : decode cX6_place 27 = .ok (.aload_n 0, 1) := by decide +kernel
theorem dX6_place_28 : decode cX6_place 28 = .ok (.getfield 17, 3) := by decide +kernel
theorem dX6_place_31 : decode cX6_place 31 = .ok (.aload_n 0, 1) := by decide +kernel
theorem dX6_place_32 : decode cX6_place 32 = .ok (.iload 4, 2) := by decide +kernel
theorem dX6_place_34 : decode cX6_place 34 = .ok (.invokevirtual 193, 3) := by decide +kernel
theorem dX6_place_37 : decode cX6_place 37 = .ok (.invokestatic 158, 3) := by decide +kernel
theorem dX6_place_40 : decode cX6_place 40 = .ok (.iconst 2, 1) := by decide +kernel
theorem dX6_place_41 : decode cX6_place 41 = .ok (.iadd, 1) := by decide +kernel
theorem dX6_place_42 : decode cX6_place 42 = .ok (.iaload, 1) := by decide +kernel
theorem dX6_place_43 : decode cX6_place 43 = .ok (.iconst 1, 1) := by decide +kernel
theorem dX6_place_44 : decode cX6_place 44 = .ok (.isub, 1) := by decide +kernel
theorem dX6_place_45 : decode cX6_place 45 = .ok (.invokestatic 73, 3) := by decide +kernel
theorem dX6_place_48 : decode cX6_place 48 = .ok (.ifCond .ne 7, 3) := by decide +kernel
theorem dX6_place_51 : decode cX6_place 51 = .ok (.iconst 1, 1) := by decide +kernel
theorem dX6_place_52 : decode cX6_place 52 = .ok (.goto 4, 3) := by decide +kernel
theorem dX6_place_55 : decode cX6_place 55 = .ok (.iconst 0, 1) := by decide +kernel
theorem dX6_place_56 : decode cX6_place 56 = .ok (.iconst 1, 1) := by decide +kernel
theorem dX6_place_57 : decode cX6_place 57 = .ok (.invokevirtual 174, 3) := by decide +kernel
theorem dX6_place_60 : decode cX6_place 60 = .ok (.ifCond .eq 5, 3) := by decide +kernel
theorem dX6_place_63 : decode cX6_place 63 = .ok (.iconst 0, 1) := by decide +kernel
theorem dX6_place_64 : decode cX6_place 64 = .ok (.ireturn, 1) := by decide +kernel
theorem dX6_place_65 : decode cX6_place 65 = .ok (.aload_n 0, 1) := by decide +kernel
theorem dX6_place_66 : decode cX6_place 66 = .ok (.getfield 17, 3) := by decide +kernel
theorem dX6_place_69 : decode cX6_place 69 = .ok (.aload_n 0, 1) := by decide +kernel
theorem dX6_place_70 : decode cX6_place 70 = .ok (.getfield 23, 3) := by decide +kernel
theorem dX6_place_73 : decode cX6_place 73 = .ok (.invokestatic 186, 3) := by decide +kernel
theorem dX6_place_76 : decode cX6_place 76 = .ok (.aload_n 0, 1) := by decide +kernel
theorem dX6_place_77 : decode cX6_place 77 = .ok (.iload 4, 2) := by decide +kernel
theorem dX6_place_79 : decode cX6_place 79 = .ok (.iload_n 3, 1) := by decide +kernel
theorem dX6_place_80 : decode cX6_place 80 = .ok (.invokevirtual 306, 3) := by decide +kernel
theorem dX6_place_83 : decode cX6_place 83 = .ok (.aload_n 0, 1) := by decide +kernel
theorem dX6_place_84 : decode cX6_place 84 = .ok (.invokevirtual 244, 3) := by decide +kernel
theorem dX6_place_87 : decode cX6_place 87 = .ok (.istore 5, 2) := by decide +kernel
theorem dX6_place_89 : decode cX6_place 89 = .ok (.aload_n 0, 1) := by decide +kernel
theorem dX6_place_90 : decode cX6_place 90 = .ok (.getfield 23, 3) := by decide +kernel
theorem dX6_place_93 : decode cX6_place 93 = .ok (.aload_n 0, 1) := by decide +kernel
theorem dX6_place_94 : decode cX6_place 94 = .ok (.getfield 17, 3) := by decide +kernel
theorem dX6_place_97 : decode cX6_place 97 = .ok (.invokestatic 186, 3) := by decide +kernel
theorem dX6_place_100 : decode cX6_place 100 = .ok (.aload_n 0, 1) := by decide +kernel
theorem dX6_place_101 : decode cX6_place 101 = .ok (.iload 5, 2) := by decide +kernel
theorem dX6_place_103 : decode cX6_place 103 = .ok (.iconst 2, 1) := by decide +kernel
theorem dX6_place_104 : decode cX6_place 104 = .ok (.invokevirtual 174, 3) := by decide +kernel
theorem dX6_place_107 : decode cX6_place 107 = .ok (.ifCond .eq 5, 3) := by decide +kernel
theorem dX6_place_110 : decode cX6_place 110 = .ok (.iconst 0, 1) := by decide +kernel
theorem dX6_place_111 : decode cX6_place 111 = .ok (.ireturn, 1) := by decide +kernel
theorem dX6_place_112 : decode cX6_place 112 = .ok (.aload_n 0, 1) := by decide +kernel
theorem dX6_place_113 : decode cX6_place 113 = .ok (.invokevirtual 183, 3) := by decide +kernel
theorem dX6_place_116 : decode cX6_place 116 = .ok (.aload_n 0, 1) := by decide +kernel
theorem dX6_place_117 : decode cX6_place 117 = .ok (.iload 4, 2) := by decide +kernel
theorem dX6_place_119 : decode cX6_place 119 = .ok (.iload_n 3, 1) := by decide +kernel
theorem dX6_place_120 : decode cX6_place 120 = .ok (.invokevirtual 306, 3) := by decide +kernel
theorem dX6_place_123 : decode cX6_place 123 = .ok (.aload_n 0, 1) := by decide +kernel
theorem dX6_place_124 : decode cX6_place 124 = .ok (.invokevirtual 288, 3) := by decide +kernel
theorem dX6_place_127 : decode cX6_place 127 = .ok (.ireturn, 1) := by decide +kernel
theorem dX6_setDuration_0 : decode cX6_setDuration 0 = .ok (.aload_n 0, 1) := by decide +kernel
theorem dX6_setDuration_1 : decode cX6_setDuration 1 = .ok (.iconst 0, 1) := by decide +kernel
theorem dX6_setDuration_2 : decode cX6_setDuration 2 = .ok (.putfield 51, 3) := by decide +kernel
theorem dX6_setDuration_5 : decode cX6_setDuration 5 = .ok (.aload_n 0, 1) := by decide +kernel
theorem dX6_setDuration_6 : decode cX6_setDuration 6 = .ok (.iload_n 1, 1) := by decide +kernel
theorem dX6_setDuration_7 : decode cX6_setDuration 7 = .ok (.iload_n 2, 1) := by decide +kernel
theorem dX6_setDuration_8 : decode cX6_setDuration 8 = .ok (.invokevirtual 275, 3) := by decide +kernel
theorem dX6_setDuration_11 : decode cX6_setDuration 11 = .ok (.ifCond .ne 26, 3) := by decide +kernel
theorem dX6_setDuration_14 : decode cX6_setDuration 14 = .ok (.aload_n 0, 1) := by decide +kernel
theorem dX6_setDuration_15 : decode cX6_setDuration 15 = .ok (.iload_n 3, 1) := by decide +kernel
theorem dX6_setDuration_16 : decode cX6_setDuration 16 = .ok (.iconst 1, 1) := by decide +kernel
theorem dX6_setDuration_17 : decode cX6_setDuration 17 = .ok (.bipush 99, 2) := by decide +kernel
theorem dX6_setDuration_19 : decode cX6_setDuration 19 = .ok (.invokestatic 73, 3) := by decide +kernel
theorem dX6_setDuration_22 : decode cX6_setDuration 22 = .ok (.ifCond .ne 7, 3) := by decide +kernel
theorem dX6_setDuration_25 : decode cX6_setDuration 25 = .ok (.iconst 1, 1) := by decide +kernel
theorem dX6_setDuration_26 : decode cX6_setDuration 26 = .ok (.goto 4, 3) := by decide +kernel
theorem dX6_setDuration_29 : decode cX6_setDuration 29 = .ok (.iconst 0, 1) := by decide +kernel
theorem dX6_setDuration_30 : decode cX6_setDuration 30 = .ok (.iconst 2, 1) := by decide +kernel
theorem dX6_setDuration_31 : decode cX6_setDuration 31 = .ok (.invokevirtual 174, 3) := by decide +kernel
theorem dX6_setDuration_34 : decode cX6_setDuration 34 = .ok (.ifCond .eq 5, 3) := by decide +kernel
theorem dX6_setDuration_37 : decode cX6_setDuration 37 = .ok (.iconst 0, 1) := by decide +kernel
theorem dX6_setDuration_38 : decode cX6_setDuration 38 = .ok (.ireturn, 1) := by decide +kernel
theorem dX6_setDuration_39 : decode cX6_setDuration 39 = .ok (.aload_n 0, 1) := by decide +kernel
theorem dX6_setDuration_40 : decode cX6_setDuration 40 = .ok (.invokevirtual 183, 3) := by decide +kernel
theorem dX6_setDuration_43 : decode cX6_setDuration 43 = .ok (.bipush 6, 2) := by decide +kernel
theorem dX6_setDuration_45 : decode cX6_setDuration 45 = .ok (.iload_n 1, 1) := by decide +kernel
theorem dX6_setDuration_46 : decode cX6_setDuration 46 = .ok (.imul, 1) := by decide +kernel
theorem dX6_setDuration_47 : decode cX6_setDuration 47 = .ok (.iload_n 2, 1) := by decide +kernel
theorem dX6_setDuration_48 : decode cX6_setDuration 48 = .ok (.iadd, 1) := by decide +kernel
theorem dX6_setDuration_49 : decode cX6_setDuration 49 = .ok (.invokestatic 155, 3) := by decide +kernel
theorem dX6_setDuration_52 : decode cX6_setDuration 52 = .ok (.iconst 1, 1) := by decide +kernel
theorem dX6_setDuration_53 : decode cX6_setDuration 53 = .ok (.iadd, 1) := by decide +kernel
theorem dX6_setDuration_54 : decode cX6_setDuration 54 = .ok (.istore 4, 2) := by decide +kernel
theorem dX6_setDuration_56 : decode cX6_setDuration 56 = .ok (.aload_n 0, 1) := by decide +kernel
theorem dX6_setDuration_57 : decode cX6_setDuration 57 = .ok (.getfield 17, 3) := by decide +kernel
theorem dX6_setDuration_60 : decode cX6_setDuration 60 = .ok (.iload 4, 2) := by decide +kernel
theorem dX6_setDuration_62 : decode cX6_setDuration 62 = .ok (.iaload, 1) := by decide +kernel
theorem dX6_setDuration_63 : decode cX6_setDuration 63 = .ok (.istore 5, 2) := by decide +kernel
theorem dX6_setDuration_65 : decode cX6_setDuration 65 = .ok (.aload_n 0, 1) := by decide +kernel
theorem dX6_setDuration_66 : decode cX6_setDuration 66 = .ok (.getfield 17, 3) := by decide +kernel
theorem dX6_setDuration_69 : decode cX6_setDuration 69 = .ok (.iload 4, 2) := by decide +kernel
theorem dX6_setDuration_71 : decode cX6_setDuration 71 = .ok (.iload_n 3, 1) := by decide +kernel
theorem dX6_setDuration_72 : decode cX6_setDuration 72 = .ok (.iastore, 1) := by decide +kernel
theorem dX6_setDuration_73 : decode cX6_setDuration 73 = .ok (.iload 5, 2) := by decide +kernel
theorem dX6_setDuration_75 : decode cX6_setDuration 75 = .ok (.ireturn, 1) := by decide +kernel
theorem dX6_restart_0 : decode cX6_restart 0 = .ok (.aload_n 0, 1) := by decide +kernel
theorem dX6_restart_1 : decode cX6_restart 1 = .ok (.iconst 0, 1) := by decide +kernel
theorem dX6_restart_2 : decode cX6_restart 2 = .ok (.putfield 51, 3) := by decide +kernel
theorem dX6_restart_5 : decode cX6_restart 5 = .ok (.aload_n 0, 1) := by decide +kernel
theorem dX6_restart_6 : decode cX6_restart 6 = .ok (.invokevirtual 183, 3) := by decide +kernel
theorem dX6_restart_9 : decode cX6_restart 9 = .ok (.aload_n 0, 1) := by decide +kernel
theorem dX6_restart_10 : decode cX6_restart 10 = .ok (.invokevirtual 190, 3) := by decide +kernel
theorem dX6_restart_13 : decode cX6_restart 13 = .ok (.aload_n 0, 1) := by decide +kernel
theorem dX6_restart_14 : decode cX6_restart 14 = .ok (.invokevirtual 288, 3) := by decide +kernel
theorem dX6_restart_17 : decode cX6_restart 17 = .ok (.ireturn, 1) := by decide +kernel
theorem dX6_undo_0 : decode cX6_undo 0 = .ok (.aload_n 0, 1) := by decide +kernel
theorem dX6_undo_1 : decode cX6_undo 1 = .ok (.iconst 0, 1) := by decide +kernel
theorem dX6_undo_2 : decode cX6_undo 2 = .ok (.putfield 51, 3) := by decide +kernel
theorem dX6_undo_5 : decode cX6_undo 5 = .ok (.aload_n 0, 1) := by decide +kernel
theorem dX6_undo_6 : decode cX6_undo 6 = .ok (.getfield 303, 3) := by decide +kernel
theorem dX6_undo_9 : decode cX6_undo 9 = .ok (.ifCond .ne 5, 3) := by decide +kernel
theorem dX6_undo_12 : decode cX6_undo 12 = .ok (.iconst (-1), 1) := by decide +kernel
theorem dX6_undo_13 : decode cX6_undo 13 = .ok (.ireturn, 1) := by decide +kernel
theorem dX6_undo_14 : decode cX6_undo 14 = .ok (.aload_n 0, 1) := by decide +kernel
theorem dX6_undo_15 : decode cX6_undo 15 = .ok (.dup, 1) := by decide +kernel
theorem dX6_undo_16 : decode cX6_undo 16 = .ok (.getfield 303, 3) := by decide +kernel
theorem dX6_undo_19 : decode cX6_undo 19 = .ok (.iconst 1, 1) := by decide +kernel
theorem dX6_undo_20 : decode cX6_undo 20 = .ok (.isub, 1) := by decide +kernel
theorem dX6_undo_21 : decode cX6_undo 21 = .ok (.putfield 303, 3) := by decide +kernel
theorem dX6_undo_24 : decode cX6_undo 24 = .ok (.aload_n 0, 1) := by decide +kernel
theorem dX6_undo_25 : decode cX6_undo 25 = .ok (.getfield 28, 3) := by decide +kernel
theorem dX6_undo_28 : decode cX6_undo 28 = .ok (.aload_n 0, 1) := by decide +kernel
theorem dX6_undo_29 : decode cX6_undo 29 = .ok (.getfield 303, 3) := by decide +kernel
theorem dX6_undo_32 : decode cX6_undo 32 = .ok (.aaload, 1) := by decide +kernel
theorem dX6_undo_33 : decode cX6_undo 33 = .ok (.aload_n 0, 1) := by decide +kernel
theorem dX6_undo_34 : decode cX6_undo 34 = .ok (.getfield 17, 3) := by decide +kernel
theorem dX6_undo_37 : decode cX6_undo 37 = .ok (.invokestatic 186, 3) := by decide +kernel
theorem dX6_undo_40 : decode cX6_undo 40 = .ok (.aload_n 0, 1) := by decide +kernel
theorem dX6_undo_41 : decode cX6_undo 41 = .ok (.getfield 303, 3) := by decide +kernel
theorem dX6_undo_44 : decode cX6_undo 44 = .ok (.ireturn, 1) := by decide +kernel
theorem dX6_checksum_0 : decode cX6_checksum 0 = .ok (.aload_n 0, 1) := by decide +kernel
theorem dX6_checksum_1 : decode cX6_checksum 1 = .ok (.iconst 0, 1) := by decide +kernel
theorem dX6_checksum_2 : decode cX6_checksum 2 = .ok (.putfield 51, 3) := by decide +kernel
theorem dX6_checksum_5 : decode cX6_checksum 5 = .ok (.aload_n 0, 1) := by decide +kernel
theorem dX6_checksum_6 : decode cX6_checksum 6 = .ok (.invokevirtual 288, 3) := by decide +kernel
theorem dX6_checksum_9 : decode cX6_checksum 9 = .ok (.i2l, 1) := by decide +kernel
theorem dX6_checksum_10 : decode cX6_checksum 10 = .ok (.lstore_n 1, 1) := by decide +kernel
theorem dX6_checksum_11 : decode cX6_checksum 11 = .ok (.ldc2_w 309, 3) := by decide +kernel
theorem dX6_checksum_14 : decode cX6_checksum 14 = .ok (.lload_n 1, 1) := by decide +kernel
theorem dX6_checksum_15 : decode cX6_checksum 15 = .ok (.lmul, 1) := by decide +kernel
theorem dX6_checksum_16 : decode cX6_checksum 16 = .ok (.aload_n 0, 1) := by decide +kernel
theorem dX6_checksum_17 : decode cX6_checksum 17 = .ok (.invokevirtual 250, 3) := by decide +kernel
theorem dX6_checksum_20 : decode cX6_checksum 20 = .ok (.i2l, 1) := by decide +kernel
theorem dX6_checksum_21 : decode cX6_checksum 21 = .ok (.ladd, 1) := by decide +kernel
theorem dX6_checksum_22 : decode cX6_checksum 22 = .ok (.lstore_n 1, 1) := by decide +kernel
theorem dX6_checksum_23 : decode cX6_checksum 23 = .ok (.iconst 0, 1) := by decide +kernel
theorem dX6_checksum_24 : decode cX6_checksum 24 = .ok (.istore_n 3, 1) := by decide +kernel
theorem dX6_checksum_25 : decode cX6_checksum 25 = .ok (.iload_n 3, 1) := by decide +kernel
theorem dX6_checksum_26 : decode cX6_checksum 26 = .ok (.aload_n 0, 1) := by decide +kernel
theorem dX6_checksum_27 : decode cX6_checksum 27 = .ok (.getfield 17, 3) := by decide +kernel
theorem dX6_checksum_30 : decode cX6_checksum 30 = .ok (.iconst 0, 1) := by decide +kernel
theorem dX6_checksum_31 : decode cX6_checksum 31 = .ok (.iaload, 1) := by decide +kernel
theorem dX6_checksum_32 : decode cX6_checksum 32 = .ok (.if_icmp .ge 59, 3) := by decide +kernel
theorem dX6_checksum_35 : decode cX6_checksum 35 = .ok (.iconst 0, 1) := by decide +kernel
theorem dX6_checksum_36 : decode cX6_checksum 36 = .ok (.istore 4, 2) := by decide +kernel
theorem dX6_checksum_38 : decode cX6_checksum 38 = .ok (.iload 4, 2) := by decide +kernel
theorem dX6_checksum_40 : decode cX6_checksum 40 = .ok (.aload_n 0, 1) := by decide +kernel
theorem dX6_checksum_41 : decode cX6_checksum 41 = .ok (.getfield 17, 3) := by decide +kernel
theorem dX6_checksum_44 : decode cX6_checksum 44 = .ok (.iload_n 3, 1) := by decide +kernel
theorem dX6_checksum_45 : decode cX6_checksum 45 = .ok (.invokestatic 158, 3) := by decide +kernel
theorem dX6_checksum_48 : decode cX6_checksum 48 = .ok (.iconst 2, 1) := by decide +kernel
theorem dX6_checksum_49 : decode cX6_checksum 49 = .ok (.iadd, 1) := by decide +kernel
theorem dX6_checksum_50 : decode cX6_checksum 50 = .ok (.iaload, 1) := by decide +kernel
theorem dX6_checksum_51 : decode cX6_checksum 51 = .ok (.if_icmp .ge 34, 3) := by decide +kernel
theorem dX6_checksum_54 : decode cX6_checksum 54 = .ok (.ldc2_w 309, 3) := by decide +kernel
theorem dX6_checksum_57 : decode cX6_checksum 57 = .ok (.lload_n 1, 1) := by decide +kernel
theorem dX6_checksum_58 : decode cX6_checksum 58 = .ok (.lmul, 1) := by decide +kernel
theorem dX6_checksum_59 : decode cX6_checksum 59 = .ok (.aload_n 0, 1) := by decide +kernel
theorem dX6_checksum_60 : decode cX6_checksum 60 = .ok (.getfield 17, 3) := by decide +kernel
theorem dX6_checksum_63 : decode cX6_checksum 63 = .ok (.iload_n 3, 1) := by decide +kernel
theorem dX6_checksum_64 : decode cX6_checksum 64 = .ok (.invokestatic 158, 3) := by decide +kernel
theorem dX6_checksum_67 : decode cX6_checksum 67 = .ok (.iconst 3, 1) := by decide +kernel
theorem dX6_checksum_68 : decode cX6_checksum 68 = .ok (.iadd, 1) := by decide +kernel
theorem dX6_checksum_69 : decode cX6_checksum 69 = .ok (.iload 4, 2) := by decide +kernel
theorem dX6_checksum_71 : decode cX6_checksum 71 = .ok (.iadd, 1) := by decide +kernel
theorem dX6_checksum_72 : decode cX6_checksum 72 = .ok (.iaload, 1) := by decide +kernel
theorem dX6_checksum_73 : decode cX6_checksum 73 = .ok (.invokestatic 282, 3) := by decide +kernel
theorem dX6_checksum_76 : decode cX6_checksum 76 = .ok (.i2l, 1) := by decide +kernel
theorem dX6_checksum_77 : decode cX6_checksum 77 = .ok (.ladd, 1) := by decide +kernel
theorem dX6_checksum_78 : decode cX6_checksum 78 = .ok (.lstore_n 1, 1) := by decide +kernel
theorem dX6_checksum_79 : decode cX6_checksum 79 = .ok (.iinc 4 1, 3) := by decide +kernel
theorem dX6_checksum_82 : decode cX6_checksum 82 = .ok (.goto (-44), 3) := by decide +kernel
theorem dX6_checksum_85 : decode cX6_checksum 85 = .ok (.iinc 3 1, 3) := by decide +kernel
theorem dX6_checksum_88 : decode cX6_checksum 88 = .ok (.goto (-63), 3) := by decide +kernel
theorem dX6_checksum_91 : decode cX6_checksum 91 = .ok (.iconst 0, 1) := by decide +kernel
theorem dX6_checksum_92 : decode cX6_checksum 92 = .ok (.istore_n 3, 1) := by decide +kernel
theorem dX6_checksum_93 : decode cX6_checksum 93 = .ok (.iload_n 3, 1) := by decide +kernel
theorem dX6_checksum_94 : decode cX6_checksum 94 = .ok (.bipush 36, 2) := by decide +kernel
theorem dX6_checksum_96 : decode cX6_checksum 96 = .ok (.if_icmp .ge 31, 3) := by decide +kernel
theorem dX6_checksum_99 : decode cX6_checksum 99 = .ok (.aload_n 0, 1) := by decide +kernel
theorem dX6_checksum_100 : decode cX6_checksum 100 = .ok (.iload_n 3, 1) := by decide +kernel
theorem dX6_checksum_101 : decode cX6_checksum 101 = .ok (.invokevirtual 211, 3) := by decide +kernel
theorem dX6_checksum_104 : decode cX6_checksum 104 = .ok (.ifCond .eq 17, 3) := by decide +kernel
theorem dX6_checksum_107 : decode cX6_checksum 107 = .ok (.ldc2_w 309, 3) := by decide +kernel
theorem dX6_checksum_110 : decode cX6_checksum 110 = .ok (.lload_n 1, 1) := by decide +kernel
theorem dX6_checksum_111 : decode cX6_checksum 111 = .ok (.lmul, 1) := by decide +kernel
theorem dX6_checksum_112 : decode cX6_checksum 112 = .ok (.aload_n 0, 1) := by decide +kernel
theorem dX6_checksum_113 : decode cX6_checksum 113 = .ok (.getfield 37, 3) := by decide +kernel
theorem dX6_checksum_116 : decode cX6_checksum 116 = .ok (.iload_n 3, 1) := by decide +kernel
theorem dX6_checksum_117 : decode cX6_checksum 117 = .ok (.iaload, 1) := by decide +kernel
theorem dX6_checksum_118 : decode cX6_checksum 118 = .ok (.i2l, 1) := by decide +kernel
theorem dX6_checksum_119 : decode cX6_checksum 119 = .ok (.ladd, 1) := by decide +kernel
theorem dX6_checksum_120 : decode cX6_checksum 120 = .ok (.lstore_n 1, 1) := by decide +kernel
theorem dX6_checksum_121 : decode cX6_checksum 121 = .ok (.iinc 3 1, 3) := by decide +kernel
theorem dX6_checksum_124 : decode cX6_checksum 124 = .ok (.goto (-31), 3) := by decide +kernel
theorem dX6_checksum_127 : decode cX6_checksum 127 = .ok (.lload_n 1, 1) := by decide +kernel
theorem dX6_checksum_128 : decode cX6_checksum 128 = .ok (.lreturn, 1) := by decide +kernel
theorem dJ9_max_7cf53_0 : decode cJ9_max_7cf53 0 = .ok (.iload_n 0, 1) := by decide +kernel
theorem dJ9_max_7cf53_1 : decode cJ9_max_7cf53 1 = .ok (.iload_n 1, 1) := by decide +kernel
theorem dJ9_max_7cf53_2 : decode cJ9_max_7cf53 2 = .ok (.if_icmp .lt 7, 3) := by decide +kernel
theorem dJ9_max_7cf53_5 : decode cJ9_max_7cf53 5 = .ok (.iload_n 0, 1) := by decide +kernel
theorem dJ9_max_7cf53_6 : decode cJ9_max_7cf53 6 = .ok (.goto 4, 3) := by decide +kernel
theorem dJ9_max_7cf53_9 : decode cJ9_max_7cf53 9 = .ok (.iload_n 1, 1) := by decide +kernel
theorem dJ9_max_7cf53_10 : decode cJ9_max_7cf53 10 = .ok (.ireturn, 1) := by decide +kernel
theorem dJ9_min_7cf53_0 : decode cJ9_min_7cf53 0 = .ok (.iload_n 0, 1) := by decide +kernel
theorem dJ9_min_7cf53_1 : decode cJ9_min_7cf53 1 = .ok (.iload_n 1, 1) := by decide +kernel
theorem dJ9_min_7cf53_2 : decode cJ9_min_7cf53 2 = .ok (.if_icmp .gt 7, 3) := by decide +kernel
theorem dJ9_min_7cf53_5 : decode cJ9_min_7cf53 5 = .ok (.iload_n 0, 1) := by decide +kernel
theorem dJ9_min_7cf53_6 : decode cJ9_min_7cf53 6 = .ok (.goto 4, 3) := by decide +kernel
theorem dJ9_min_7cf53_9 : decode cJ9_min_7cf53 9 = .ok (.iload_n 1, 1) := by decide +kernel
theorem dJ9_min_7cf53_10 : decode cJ9_min_7cf53 10 = .ok (.ireturn, 1) := by decide +kernel
theorem dJ0_length_8abf5_0 : decode cJ0_length_8abf5 0 = .ok (.aload_n 0, 1) := by decide +kernel
theorem dJ0_length_8abf5_1 : decode cJ0_length_8abf5 1 = .ok (.getfield 9, 3) := by decide +kernel
theorem dJ0_length_8abf5_4 : decode cJ0_length_8abf5 4 = .ok (.arraylength, 1) := by decide +kernel
theorem dJ0_length_8abf5_5 : decode cJ0_length_8abf5 5 = .ok (.aload_n 0, 1) := by decide +kernel
theorem dJ0_length_8abf5_6 : decode cJ0_length_8abf5 6 = .ok (.invokevirtual 335, 3) := by decide +kernel
theorem dJ0_length_8abf5_9 : decode cJ0_length_8abf5 9 = .ok (.ishr, 1) := by decide +kernel
theorem dJ0_length_8abf5_10 : decode cJ0_length_8abf5 10 = .ok (.ireturn, 1) := by decide +kernel
theorem dJ0_charAt_5068e_0 : decode cJ0_charAt_5068e 0 = .ok (.aload_n 0, 1) := by decide +kernel
theorem dJ0_charAt_5068e_1 : decode cJ0_charAt_5068e 1 = .ok (.invokevirtual 492, 3) := by decide +kernel
theorem dJ0_charAt_5068e_4 : decode cJ0_charAt_5068e 4 = .ok (.ifCond .eq 12, 3) := by decide +kernel
theorem dJ0_charAt_5068e_7 : decode cJ0_charAt_5068e 7 = .ok (.aload_n 0, 1) := by decide +kernel
theorem dJ0_charAt_5068e_8 : decode cJ0_charAt_5068e 8 = .ok (.getfield 9, 3) := by decide +kernel
theorem dJ0_charAt_5068e_11 : decode cJ0_charAt_5068e 11 = .ok (.iload_n 1, 1) := by decide +kernel
theorem dJ0_charAt_5068e_12 : decode cJ0_charAt_5068e 12 = .ok (.invokestatic 495, 3) := by decide +kernel
theorem dJ0_charAt_5068e_15 : decode cJ0_charAt_5068e 15 = .ok (.ireturn, 1) := by decide +kernel
theorem dJ0_charAt_5068e_16 : decode cJ0_charAt_5068e 16 = .ok (.aload_n 0, 1) := by decide +kernel
theorem dJ0_charAt_5068e_17 : decode cJ0_charAt_5068e 17 = .ok (.getfield 9, 3) := by decide +kernel
theorem dJ0_charAt_5068e_20 : decode cJ0_charAt_5068e 20 = .ok (.iload_n 1, 1) := by decide +kernel
theorem dJ0_charAt_5068e_21 : decode cJ0_charAt_5068e 21 = .ok (.invokestatic 498, 3) := by decide +kernel
theorem dJ0_charAt_5068e_24 : decode cJ0_charAt_5068e 24 = .ok (.ireturn, 1) := by decide +kernel
theorem dJ0_coder_7d493_0 : decode cJ0_coder_7d493 0 = .ok (.getstatic 38, 3) := by decide +kernel
theorem dJ0_coder_7d493_3 : decode cJ0_coder_7d493 3 = .ok (.ifCond .eq 10, 3) := by decide +kernel
theorem dJ0_coder_7d493_6 : decode cJ0_coder_7d493 6 = .ok (.aload_n 0, 1) := by decide +kernel
theorem dJ0_coder_7d493_7 : decode cJ0_coder_7d493 7 = .ok (.getfield 15, 3) := by decide +kernel
theorem dJ0_coder_7d493_10 : decode cJ0_coder_7d493 10 = .ok (.goto 4, 3) := by decide +kernel
theorem dJ0_coder_7d493_13 : decode cJ0_coder_7d493 13 = .ok (.iconst 1, 1) := by decide +kernel
theorem dJ0_coder_7d493_14 : decode cJ0_coder_7d493 14 = .ok (.ireturn, 1) := by decide +kernel
theorem dJ0_isLatin1_aae02_0 : decode cJ0_isLatin1_aae02 0 = .ok (.getstatic 38, 3) := by decide +kernel
theorem dJ0_isLatin1_aae02_3 : decode cJ0_isLatin1_aae02 3 = .ok (.ifCond .eq 14, 3) := by decide +kernel
theorem dJ0_isLatin1_aae02_6 : decode cJ0_isLatin1_aae02 6 = .ok (.aload_n 0, 1) := by decide +kernel
theorem dJ0_isLatin1_aae02_7 : decode cJ0_isLatin1_aae02 7 = .ok (.getfield 15, 3) := by decide +kernel
theorem dJ0_isLatin1_aae02_10 : decode cJ0_isLatin1_aae02 10 = .ok (.ifCond .ne 7, 3) := by decide +kernel
theorem dJ0_isLatin1_aae02_13 : decode cJ0_isLatin1_aae02 13 = .ok (.iconst 1, 1) := by decide +kernel
theorem dJ0_isLatin1_aae02_14 : decode cJ0_isLatin1_aae02 14 = .ok (.goto 4, 3) := by decide +kernel
theorem dJ0_isLatin1_aae02_17 : decode cJ0_isLatin1_aae02 17 = .ok (.iconst 0, 1) := by decide +kernel
theorem dJ0_isLatin1_aae02_18 : decode cJ0_isLatin1_aae02 18 = .ok (.ireturn, 1) := by decide +kernel
theorem dJ0_checkIndex_df160_0 : decode cJ0_checkIndex_df160 0 = .ok (.iload_n 0, 1) := by decide +kernel
theorem dJ0_checkIndex_df160_1 : decode cJ0_checkIndex_df160 1 = .ok (.iload_n 1, 1) := by decide +kernel
theorem dJ0_checkIndex_df160_2 : decode cJ0_checkIndex_df160 2 = .ok (.getstatic 1053, 3) := by decide +kernel
theorem dJ0_checkIndex_df160_5 : decode cJ0_checkIndex_df160 5 = .ok (.invokestatic 1059, 3) := by decide +kernel
theorem dJ0_checkIndex_df160_8 : decode cJ0_checkIndex_df160 8 = .ok (.pop, 1) := by decide +kernel
theorem dJ0_checkIndex_df160_9 : decode cJ0_checkIndex_df160 9 = .ok (.return_, 1) := by decide +kernel
theorem dJ1_charAt_3b067_0 : decode cJ1_charAt_3b067 0 = .ok (.iload_n 1, 1) := by decide +kernel
theorem dJ1_charAt_3b067_1 : decode cJ1_charAt_3b067 1 = .ok (.aload_n 0, 1) := by decide +kernel
theorem dJ1_charAt_3b067_2 : decode cJ1_charAt_3b067 2 = .ok (.arraylength, 1) := by decide +kernel
theorem dJ1_charAt_3b067_3 : decode cJ1_charAt_3b067 3 = .ok (.invokestatic 9, 3) := by decide +kernel
theorem dJ1_charAt_3b067_6 : decode cJ1_charAt_3b067 6 = .ok (.aload_n 0, 1) := by decide +kernel
theorem dJ1_charAt_3b067_7 : decode cJ1_charAt_3b067 7 = .ok (.iload_n 1, 1) := by decide +kernel
theorem dJ1_charAt_3b067_8 : decode cJ1_charAt_3b067 8 = .ok (.baload, 1) := by decide +kernel
theorem dJ1_charAt_3b067_9 : decode cJ1_charAt_3b067 9 = .ok (.sipush 255, 3) := by decide +kernel
theorem dJ1_charAt_3b067_12 : decode cJ1_charAt_3b067 12 = .ok (.iand, 1) := by decide +kernel
theorem dJ1_charAt_3b067_13 : decode cJ1_charAt_3b067 13 = .ok (.i2c, 1) := by decide +kernel
theorem dJ1_charAt_3b067_14 : decode cJ1_charAt_3b067 14 = .ok (.ireturn, 1) := by decide +kernel
theorem dJ2_getChar_3b067_0 : decode cJ2_getChar_3b067 0 = .ok (.getstatic 44, 3) := by decide +kernel
theorem dJ2_getChar_3b067_3 : decode cJ2_getChar_3b067 3 = .ok (.ifCond .ne 25, 3) := by decide +kernel
theorem dJ2_getChar_3b067_6 : decode cJ2_getChar_3b067 6 = .ok (.iload_n 1, 1) := by decide +kernel
theorem dJ2_getChar_3b067_7 : decode cJ2_getChar_3b067 7 = .ok (.ifCond .lt 11, 3) := by decide +kernel
theorem dJ2_getChar_3b067_10 : decode cJ2_getChar_3b067 10 = .ok (.iload_n 1, 1) := by decide +kernel
theorem dJ2_getChar_3b067_11 : decode cJ2_getChar_3b067 11 = .ok (.aload_n 0, 1) := by decide +kernel
theorem dJ2_getChar_3b067_12 : decode cJ2_getChar_3b067 12 = .ok (.invokestatic 48, 3) := by decide +kernel
theorem dJ2_getChar_3b067_15 : decode cJ2_getChar_3b067 15 = .ok (.if_icmp .lt 13, 3) := by decide +kernel
theorem dJ2_getChar_3b067_18 : decode cJ2_getChar_3b067 18 = .ok (.new 52, 3) := by decide +kernel
theorem dJ2_getChar_3b067_21 : decode cJ2_getChar_3b067 21 = .ok (.dup, 1) := by decide +kernel
theorem dJ2_getChar_3b067_22 : decode cJ2_getChar_3b067 22 = .ok (.ldc 54, 2) := by decide +kernel
theorem dJ2_getChar_3b067_24 : decode cJ2_getChar_3b067 24 = .ok (.invokespecial 56, 3) := by decide +kernel
theorem dJ2_getChar_3b067_27 : decode cJ2_getChar_3b067 27 = .ok (.athrow, 1) := by decide +kernel
theorem dJ2_getChar_3b067_28 : decode cJ2_getChar_3b067 28 = .ok (.iload_n 1, 1) := by decide +kernel
theorem dJ2_getChar_3b067_29 : decode cJ2_getChar_3b067 29 = .ok (.iconst 1, 1) := by decide +kernel
theorem dJ2_getChar_3b067_30 : decode cJ2_getChar_3b067 30 = .ok (.ishl, 1) := by decide +kernel
theorem dJ2_getChar_3b067_31 : decode cJ2_getChar_3b067 31 = .ok (.istore_n 1, 1) := by decide +kernel
theorem dJ2_getChar_3b067_32 : decode cJ2_getChar_3b067 32 = .ok (.aload_n 0, 1) := by decide +kernel
theorem dJ2_getChar_3b067_33 : decode cJ2_getChar_3b067 33 = .ok (.iload_n 1, 1) := by decide +kernel
theorem dJ2_getChar_3b067_34 : decode cJ2_getChar_3b067 34 = .ok (.iinc 1 1, 3) := by decide +kernel
theorem dJ2_getChar_3b067_37 : decode cJ2_getChar_3b067 37 = .ok (.baload, 1) := by decide +kernel
theorem dJ2_getChar_3b067_38 : decode cJ2_getChar_3b067 38 = .ok (.sipush 255, 3) := by decide +kernel
theorem dJ2_getChar_3b067_41 : decode cJ2_getChar_3b067 41 = .ok (.iand, 1) := by decide +kernel
theorem dJ2_getChar_3b067_42 : decode cJ2_getChar_3b067 42 = .ok (.getstatic 59, 3) := by decide +kernel
theorem dJ2_getChar_3b067_45 : decode cJ2_getChar_3b067 45 = .ok (.ishl, 1) := by decide +kernel
theorem dJ2_getChar_3b067_46 : decode cJ2_getChar_3b067 46 = .ok (.aload_n 0, 1) := by decide +kernel
theorem dJ2_getChar_3b067_47 : decode cJ2_getChar_3b067 47 = .ok (.iload_n 1, 1) := by decide +kernel
theorem dJ2_getChar_3b067_48 : decode cJ2_getChar_3b067 48 = .ok (.baload, 1) := by decide +kernel
theorem dJ2_getChar_3b067_49 : decode cJ2_getChar_3b067 49 = .ok (.sipush 255, 3) := by decide +kernel
theorem dJ2_getChar_3b067_52 : decode cJ2_getChar_3b067 52 = .ok (.iand, 1) := by decide +kernel
theorem dJ2_getChar_3b067_53 : decode cJ2_getChar_3b067 53 = .ok (.getstatic 63, 3) := by decide +kernel
theorem dJ2_getChar_3b067_56 : decode cJ2_getChar_3b067 56 = .ok (.ishl, 1) := by decide +kernel
theorem dJ2_getChar_3b067_57 : decode cJ2_getChar_3b067 57 = .ok (.ior, 1) := by decide +kernel
theorem dJ2_getChar_3b067_58 : decode cJ2_getChar_3b067 58 = .ok (.i2c, 1) := by decide +kernel
theorem dJ2_getChar_3b067_59 : decode cJ2_getChar_3b067 59 = .ok (.ireturn, 1) := by decide +kernel
theorem dJ2_length_9d52b_0 : decode cJ2_length_9d52b 0 = .ok (.aload_n 0, 1) := by decide +kernel
theorem dJ2_length_9d52b_1 : decode cJ2_length_9d52b 1 = .ok (.arraylength, 1) := by decide +kernel
theorem dJ2_length_9d52b_2 : decode cJ2_length_9d52b 2 = .ok (.iconst 1, 1) := by decide +kernel
theorem dJ2_length_9d52b_3 : decode cJ2_length_9d52b 3 = .ok (.ishr, 1) := by decide +kernel
theorem dJ2_length_9d52b_4 : decode cJ2_length_9d52b 4 = .ok (.ireturn, 1) := by decide +kernel
theorem dJ2_charAt_3b067_0 : decode cJ2_charAt_3b067 0 = .ok (.iload_n 1, 1) := by decide +kernel
theorem dJ2_charAt_3b067_1 : decode cJ2_charAt_3b067 1 = .ok (.aload_n 0, 1) := by decide +kernel
theorem dJ2_charAt_3b067_2 : decode cJ2_charAt_3b067 2 = .ok (.invokestatic 67, 3) := by decide +kernel
theorem dJ2_charAt_3b067_5 : decode cJ2_charAt_3b067 5 = .ok (.aload_n 0, 1) := by decide +kernel
theorem dJ2_charAt_3b067_6 : decode cJ2_charAt_3b067 6 = .ok (.iload_n 1, 1) := by decide +kernel
theorem dJ2_charAt_3b067_7 : decode cJ2_charAt_3b067 7 = .ok (.invokestatic 71, 3) := by decide +kernel
theorem dJ2_charAt_3b067_10 : decode cJ2_charAt_3b067 10 = .ok (.ireturn, 1) := by decide +kernel
theorem dJ2_checkIndex_2214a_0 : decode cJ2_checkIndex_2214a 0 = .ok (.iload_n 0, 1) := by decide +kernel
theorem dJ2_checkIndex_2214a_1 : decode cJ2_checkIndex_2214a 1 = .ok (.aload_n 1, 1) := by decide +kernel
theorem dJ2_checkIndex_2214a_2 : decode cJ2_checkIndex_2214a 2 = .ok (.invokestatic 48, 3) := by decide +kernel
theorem dJ2_checkIndex_2214a_5 : decode cJ2_checkIndex_2214a 5 = .ok (.invokestatic 414, 3) := by decide +kernel
theorem dJ2_checkIndex_2214a_8 : decode cJ2_checkIndex_2214a 8 = .ok (.return_, 1) := by decide +kernel
theorem dJ7_copyOf_59c91_0 : decode cJ7_copyOf_59c91 0 = .ok (.iload_n 1, 1) := by decide +kernel
theorem dJ7_copyOf_59c91_1 : decode cJ7_copyOf_59c91 1 = .ok (.aload_n 0, 1) := by decide +kernel
theorem dJ7_copyOf_59c91_2 : decode cJ7_copyOf_59c91 2 = .ok (.arraylength, 1) := by decide +kernel
theorem dJ7_copyOf_59c91_3 : decode cJ7_copyOf_59c91 3 = .ok (.if_icmp .ne 11, 3) := by decide +kernel
theorem dJ7_copyOf_59c91_6 : decode cJ7_copyOf_59c91 6 = .ok (.aload_n 0, 1) := by decide +kernel
theorem dJ7_copyOf_59c91_7 : decode cJ7_copyOf_59c91 7 = .ok (.invokevirtual 316, 3) := by decide +kernel
theorem dJ7_copyOf_59c91_10 : decode cJ7_copyOf_59c91 10 = .ok (.checkcast 317, 3) := by decide +kernel
theorem dJ7_copyOf_59c91_13 : decode cJ7_copyOf_59c91 13 = .ok (.areturn, 1) := by decide +kernel
theorem dJ7_copyOf_59c91_14 : decode cJ7_copyOf_59c91 14 = .ok (.iload_n 1, 1) := by decide +kernel
theorem dJ7_copyOf_59c91_15 : decode cJ7_copyOf_59c91 15 = .ok (.newarray .int, 2) := by decide +kernel
theorem dJ7_copyOf_59c91_17 : decode cJ7_copyOf_59c91 17 = .ok (.astore_n 2, 1) := by decide +kernel
theorem dJ7_copyOf_59c91_18 : decode cJ7_copyOf_59c91 18 = .ok (.aload_n 0, 1) := by decide +kernel
theorem dJ7_copyOf_59c91_19 : decode cJ7_copyOf_59c91 19 = .ok (.iconst 0, 1) := by decide +kernel
theorem dJ7_copyOf_59c91_20 : decode cJ7_copyOf_59c91 20 = .ok (.aload_n 2, 1) := by decide +kernel
theorem dJ7_copyOf_59c91_21 : decode cJ7_copyOf_59c91 21 = .ok (.iconst 0, 1) := by decide +kernel
theorem dJ7_copyOf_59c91_22 : decode cJ7_copyOf_59c91 22 = .ok (.aload_n 0, 1) := by decide +kernel
theorem dJ7_copyOf_59c91_23 : decode cJ7_copyOf_59c91 23 = .ok (.arraylength, 1) := by decide +kernel
theorem dJ7_copyOf_59c91_24 : decode cJ7_copyOf_59c91 24 = .ok (.iload_n 1, 1) := by decide +kernel
theorem dJ7_copyOf_59c91_25 : decode cJ7_copyOf_59c91 25 = .ok (.invokestatic 304, 3) := by decide +kernel
theorem dJ7_copyOf_59c91_28 : decode cJ7_copyOf_59c91 28 = .ok (.invokestatic 150, 3) := by decide +kernel
theorem dJ7_copyOf_59c91_31 : decode cJ7_copyOf_59c91 31 = .ok (.aload_n 2, 1) := by decide +kernel
theorem dJ7_copyOf_59c91_32 : decode cJ7_copyOf_59c91 32 = .ok (.areturn, 1) := by decide +kernel
theorem dJ3_checkIndex_8e157_0 : decode cJ3_checkIndex_8e157 0 = .ok (.iload_n 0, 1) := by decide +kernel
theorem dJ3_checkIndex_8e157_1 : decode cJ3_checkIndex_8e157 1 = .ok (.ifCond .lt 8, 3) := by decide +kernel
theorem dJ3_checkIndex_8e157_4 : decode cJ3_checkIndex_8e157 4 = .ok (.iload_n 0, 1) := by decide +kernel
theorem dJ3_checkIndex_8e157_5 : decode cJ3_checkIndex_8e157 5 = .ok (.iload_n 1, 1) := by decide +kernel
theorem dJ3_checkIndex_8e157_6 : decode cJ3_checkIndex_8e157 6 = .ok (.if_icmp .lt 10, 3) := by decide +kernel
theorem dJ3_checkIndex_8e157_9 : decode cJ3_checkIndex_8e157 9 = .ok (.aload_n 2, 1) := by decide +kernel
theorem dJ3_checkIndex_8e157_10 : decode cJ3_checkIndex_8e157 10 = .ok (.iload_n 0, 1) := by decide +kernel
theorem dJ3_checkIndex_8e157_11 : decode cJ3_checkIndex_8e157 11 = .ok (.iload_n 1, 1) := by decide +kernel
theorem dJ3_checkIndex_8e157_12 : decode cJ3_checkIndex_8e157 12 = .ok (.invokestatic 95, 3) := by decide +kernel
theorem dJ3_checkIndex_8e157_15 : decode cJ3_checkIndex_8e157 15 = .ok (.athrow, 1) := by decide +kernel
theorem dJ3_checkIndex_8e157_16 : decode cJ3_checkIndex_8e157 16 = .ok (.iload_n 0, 1) := by decide +kernel
theorem dJ3_checkIndex_8e157_17 : decode cJ3_checkIndex_8e157 17 = .ok (.ireturn, 1) := by decide +kernel
theorem dL_load_0 : decode cL_load 0 = .ok (.aload_n 2, 1) := by decide +kernel
theorem dL_load_1 : decode cL_load 1 = .ok (.iconst 0, 1) := by decide +kernel
theorem dL_load_2 : decode cL_load 2 = .ok (.aload_n 0, 1) := by decide +kernel
theorem dL_load_3 : decode cL_load 3 = .ok (.iload_n 1, 1) := by decide +kernel
theorem dL_load_4 : decode cL_load 4 = .ok (.invokevirtual 7, 3) := by decide +kernel
theorem dL_load_7 : decode cL_load 7 = .ok (.i2l, 1) := by decide +kernel
theorem dL_load_8 : decode cL_load 8 = .ok (.lastore, 1) := by decide +kernel
theorem dL_load_9 : decode cL_load 9 = .ok (.goto 6, 3) := by decide +kernel
theorem dL_load_12 : decode cL_load 12 = .ok (.astore_n 3, 1) := by decide +kernel
theorem dL_load_13 : decode cL_load 13 = .ok (.iconst 1, 1) := by decide +kernel
theorem dL_load_14 : decode cL_load 14 = .ok (.ireturn, 1) := by decide +kernel
theorem dL_load_15 : decode cL_load 15 = .ok (.iconst 0, 1) := by decide +kernel
theorem dL_load_16 : decode cL_load 16 = .ok (.ireturn, 1) := by decide +kernel
theorem dL_operationCount_0 : decode cL_operationCount 0 = .ok (.aload_n 2, 1) := by decide +kernel
theorem dL_operationCount_1 : decode cL_operationCount 1 = .ok (.iconst 0, 1) := by decide +kernel
theorem dL_operationCount_2 : decode cL_operationCount 2 = .ok (.aload_n 0, 1) := by decide +kernel
theorem dL_operationCount_3 : decode cL_operationCount 3 = .ok (.iload_n 1, 1) := by decide +kernel
theorem dL_operationCount_4 : decode cL_operationCount 4 = .ok (.invokevirtual 15, 3) := by decide +kernel
theorem dL_operationCount_7 : decode cL_operationCount 7 = .ok (.i2l, 1) := by decide +kernel
theorem dL_operationCount_8 : decode cL_operationCount 8 = .ok (.lastore, 1) := by decide +kernel
theorem dL_operationCount_9 : decode cL_operationCount 9 = .ok (.goto 6, 3) := by decide +kernel
theorem dL_operationCount_12 : decode cL_operationCount 12 = .ok (.astore_n 3, 1) := by decide +kernel
theorem dL_operationCount_13 : decode cL_operationCount 13 = .ok (.iconst 1, 1) := by decide +kernel
theorem dL_operationCount_14 : decode cL_operationCount 14 = .ok (.ireturn, 1) := by decide +kernel
theorem dL_operationCount_15 : decode cL_operationCount 15 = .ok (.iconst 0, 1) := by decide +kernel
theorem dL_operationCount_16 : decode cL_operationCount 16 = .ok (.ireturn, 1) := by decide +kernel
theorem dL_operation_0 : decode cL_operation 0 = .ok (.aload 4, 2) := by decide +kernel
theorem dL_operation_2 : decode cL_operation 2 = .ok (.iconst 0, 1) := by decide +kernel
theorem dL_operation_3 : decode cL_operation 3 = .ok (.aload_n 0, 1) := by decide +kernel
theorem dL_operation_4 : decode cL_operation 4 = .ok (.iload_n 1, 1) := by decide +kernel
theorem dL_operation_5 : decode cL_operation 5 = .ok (.iload_n 2, 1) := by decide +kernel
theorem dL_operation_6 : decode cL_operation 6 = .ok (.iload_n 3, 1) := by decide +kernel
theorem dL_operation_7 : decode cL_operation 7 = .ok (.invokevirtual 20, 3) := by decide +kernel
theorem dL_operation_10 : decode cL_operation 10 = .ok (.i2l, 1) := by decide +kernel
theorem dL_operation_11 : decode cL_operation 11 = .ok (.lastore, 1) := by decide +kernel
theorem dL_operation_12 : decode cL_operation 12 = .ok (.goto 11, 3) := by decide +kernel
theorem dL_operation_15 : decode cL_operation 15 = .ok (.astore 5, 2) := by decide +kernel
theorem dL_operation_17 : decode cL_operation 17 = .ok (.iconst 1, 1) := by decide +kernel
theorem dL_operation_18 : decode cL_operation 18 = .ok (.ireturn, 1) := by decide +kernel
theorem dL_operation_19 : decode cL_operation 19 = .ok (.astore 5, 2) := by decide +kernel
theorem dL_operation_21 : decode cL_operation 21 = .ok (.iconst 2, 1) := by decide +kernel
theorem dL_operation_22 : decode cL_operation 22 = .ok (.ireturn, 1) := by decide +kernel
theorem dL_operation_23 : decode cL_operation 23 = .ok (.iconst 0, 1) := by decide +kernel
theorem dL_operation_24 : decode cL_operation 24 = .ok (.ireturn, 1) := by decide +kernel
theorem dL_orderLength_0 : decode cL_orderLength 0 = .ok (.aload_n 2, 1) := by decide +kernel
theorem dL_orderLength_1 : decode cL_orderLength 1 = .ok (.iconst 0, 1) := by decide +kernel
theorem dL_orderLength_2 : decode cL_orderLength 2 = .ok (.aload_n 0, 1) := by decide +kernel
theorem dL_orderLength_3 : decode cL_orderLength 3 = .ok (.iload_n 1, 1) := by decide +kernel
theorem dL_orderLength_4 : decode cL_orderLength 4 = .ok (.invokevirtual 24, 3) := by decide +kernel
theorem dL_orderLength_7 : decode cL_orderLength 7 = .ok (.i2l, 1) := by decide +kernel
theorem dL_orderLength_8 : decode cL_orderLength 8 = .ok (.lastore, 1) := by decide +kernel
theorem dL_orderLength_9 : decode cL_orderLength 9 = .ok (.goto 6, 3) := by decide +kernel
theorem dL_orderLength_12 : decode cL_orderLength 12 = .ok (.astore_n 3, 1) := by decide +kernel
theorem dL_orderLength_13 : decode cL_orderLength 13 = .ok (.iconst 1, 1) := by decide +kernel
theorem dL_orderLength_14 : decode cL_orderLength 14 = .ok (.ireturn, 1) := by decide +kernel
theorem dL_orderLength_15 : decode cL_orderLength 15 = .ok (.iconst 0, 1) := by decide +kernel
theorem dL_orderLength_16 : decode cL_orderLength 16 = .ok (.ireturn, 1) := by decide +kernel
theorem dL_orderAt_0 : decode cL_orderAt 0 = .ok (.aload_n 3, 1) := by decide +kernel
theorem dL_orderAt_1 : decode cL_orderAt 1 = .ok (.iconst 0, 1) := by decide +kernel
theorem dL_orderAt_2 : decode cL_orderAt 2 = .ok (.aload_n 0, 1) := by decide +kernel
theorem dL_orderAt_3 : decode cL_orderAt 3 = .ok (.iload_n 1, 1) := by decide +kernel
theorem dL_orderAt_4 : decode cL_orderAt 4 = .ok (.iload_n 2, 1) := by decide +kernel
theorem dL_orderAt_5 : decode cL_orderAt 5 = .ok (.invokevirtual 27, 3) := by decide +kernel
theorem dL_orderAt_8 : decode cL_orderAt 8 = .ok (.i2l, 1) := by decide +kernel
theorem dL_orderAt_9 : decode cL_orderAt 9 = .ok (.lastore, 1) := by decide +kernel
theorem dL_orderAt_10 : decode cL_orderAt 10 = .ok (.goto 7, 3) := by decide +kernel
theorem dL_orderAt_13 : decode cL_orderAt 13 = .ok (.astore 4, 2) := by decide +kernel
theorem dL_orderAt_15 : decode cL_orderAt 15 = .ok (.iconst 1, 1) := by decide +kernel
theorem dL_orderAt_16 : decode cL_orderAt 16 = .ok (.ireturn, 1) := by decide +kernel
theorem dL_orderAt_17 : decode cL_orderAt 17 = .ok (.iconst 0, 1) := by decide +kernel
theorem dL_orderAt_18 : decode cL_orderAt 18 = .ok (.ireturn, 1) := by decide +kernel
theorem dL_start_0 : decode cL_start 0 = .ok (.aload_n 3, 1) := by decide +kernel
theorem dL_start_1 : decode cL_start 1 = .ok (.iconst 0, 1) := by decide +kernel
theorem dL_start_2 : decode cL_start 2 = .ok (.aload_n 0, 1) := by decide +kernel
theorem dL_start_3 : decode cL_start 3 = .ok (.iload_n 1, 1) := by decide +kernel
theorem dL_start_4 : decode cL_start 4 = .ok (.iload_n 2, 1) := by decide +kernel
theorem dL_start_5 : decode cL_start 5 = .ok (.invokevirtual 31, 3) := by decide +kernel
theorem dL_start_8 : decode cL_start 8 = .ok (.i2l, 1) := by decide +kernel
theorem dL_start_9 : decode cL_start 9 = .ok (.lastore, 1) := by decide +kernel
theorem dL_start_10 : decode cL_start 10 = .ok (.goto 7, 3) := by decide +kernel
theorem dL_start_13 : decode cL_start 13 = .ok (.astore 4, 2) := by decide +kernel
theorem dL_start_15 : decode cL_start 15 = .ok (.iconst 1, 1) := by decide +kernel
theorem dL_start_16 : decode cL_start 16 = .ok (.ireturn, 1) := by decide +kernel
theorem dL_start_17 : decode cL_start 17 = .ok (.iconst 0, 1) := by decide +kernel
theorem dL_start_18 : decode cL_start 18 = .ok (.ireturn, 1) := by decide +kernel
theorem dL_leave_0 : decode cL_leave 0 = .ok (.aload_n 3, 1) := by decide +kernel
theorem dL_leave_1 : decode cL_leave 1 = .ok (.iconst 0, 1) := by decide +kernel
theorem dL_leave_2 : decode cL_leave 2 = .ok (.aload_n 0, 1) := by decide +kernel
theorem dL_leave_3 : decode cL_leave 3 = .ok (.iload_n 1, 1) := by decide +kernel
theorem dL_leave_4 : decode cL_leave 4 = .ok (.iload_n 2, 1) := by decide +kernel
theorem dL_leave_5 : decode cL_leave 5 = .ok (.invokevirtual 34, 3) := by decide +kernel
theorem dL_leave_8 : decode cL_leave 8 = .ok (.i2l, 1) := by decide +kernel
theorem dL_leave_9 : decode cL_leave 9 = .ok (.lastore, 1) := by decide +kernel
theorem dL_leave_10 : decode cL_leave 10 = .ok (.goto 7, 3) := by decide +kernel
theorem dL_leave_13 : decode cL_leave 13 = .ok (.astore 4, 2) := by decide +kernel
theorem dL_leave_15 : decode cL_leave 15 = .ok (.iconst 1, 1) := by decide +kernel
theorem dL_leave_16 : decode cL_leave 16 = .ok (.ireturn, 1) := by decide +kernel
theorem dL_leave_17 : decode cL_leave 17 = .ok (.iconst 0, 1) := by decide +kernel
theorem dL_leave_18 : decode cL_leave 18 = .ok (.ireturn, 1) := by decide +kernel
theorem dL_completion_0 : decode cL_completion 0 = .ok (.aload_n 2, 1) := by decide +kernel
theorem dL_completion_1 : decode cL_completion 1 = .ok (.iconst 0, 1) := by decide +kernel
theorem dL_completion_2 : decode cL_completion 2 = .ok (.aload_n 0, 1) := by decide +kernel
theorem dL_completion_3 : decode cL_completion 3 = .ok (.iload_n 1, 1) := by decide +kernel
theorem dL_completion_4 : decode cL_completion 4 = .ok (.invokevirtual 37, 3) := by decide +kernel
theorem dL_completion_7 : decode cL_completion 7 = .ok (.i2l, 1) := by decide +kernel
theorem dL_completion_8 : decode cL_completion 8 = .ok (.lastore, 1) := by decide +kernel
theorem dL_completion_9 : decode cL_completion 9 = .ok (.goto 6, 3) := by decide +kernel
theorem dL_completion_12 : decode cL_completion 12 = .ok (.astore_n 3, 1) := by decide +kernel
theorem dL_completion_13 : decode cL_completion 13 = .ok (.iconst 1, 1) := by decide +kernel
theorem dL_completion_14 : decode cL_completion 14 = .ok (.ireturn, 1) := by decide +kernel
theorem dL_completion_15 : decode cL_completion 15 = .ok (.iconst 0, 1) := by decide +kernel
theorem dL_completion_16 : decode cL_completion 16 = .ok (.ireturn, 1) := by decide +kernel
theorem dL_jobCost_0 : decode cL_jobCost 0 = .ok (.aload_n 2, 1) := by decide +kernel
theorem dL_jobCost_1 : decode cL_jobCost 1 = .ok (.iconst 0, 1) := by decide +kernel
theorem dL_jobCost_2 : decode cL_jobCost 2 = .ok (.aload_n 0, 1) := by decide +kernel
theorem dL_jobCost_3 : decode cL_jobCost 3 = .ok (.iload_n 1, 1) := by decide +kernel
theorem dL_jobCost_4 : decode cL_jobCost 4 = .ok (.invokevirtual 40, 3) := by decide +kernel
theorem dL_jobCost_7 : decode cL_jobCost 7 = .ok (.i2l, 1) := by decide +kernel
theorem dL_jobCost_8 : decode cL_jobCost 8 = .ok (.lastore, 1) := by decide +kernel
theorem dL_jobCost_9 : decode cL_jobCost 9 = .ok (.goto 6, 3) := by decide +kernel
theorem dL_jobCost_12 : decode cL_jobCost 12 = .ok (.astore_n 3, 1) := by decide +kernel
theorem dL_jobCost_13 : decode cL_jobCost 13 = .ok (.iconst 1, 1) := by decide +kernel
theorem dL_jobCost_14 : decode cL_jobCost 14 = .ok (.ireturn, 1) := by decide +kernel
theorem dL_jobCost_15 : decode cL_jobCost 15 = .ok (.iconst 0, 1) := by decide +kernel
theorem dL_jobCost_16 : decode cL_jobCost 16 = .ok (.ireturn, 1) := by decide +kernel
theorem dL_blockedTime_0 : decode cL_blockedTime 0 = .ok (.aload_n 2, 1) := by decide +kernel
theorem dL_blockedTime_1 : decode cL_blockedTime 1 = .ok (.iconst 0, 1) := by decide +kernel
theorem dL_blockedTime_2 : decode cL_blockedTime 2 = .ok (.aload_n 0, 1) := by decide +kernel
theorem dL_blockedTime_3 : decode cL_blockedTime 3 = .ok (.iload_n 1, 1) := by decide +kernel
theorem dL_blockedTime_4 : decode cL_blockedTime 4 = .ok (.invokevirtual 43, 3) := by decide +kernel
theorem dL_blockedTime_7 : decode cL_blockedTime 7 = .ok (.i2l, 1) := by decide +kernel
theorem dL_blockedTime_8 : decode cL_blockedTime 8 = .ok (.lastore, 1) := by decide +kernel
theorem dL_blockedTime_9 : decode cL_blockedTime 9 = .ok (.goto 6, 3) := by decide +kernel
theorem dL_blockedTime_12 : decode cL_blockedTime 12 = .ok (.astore_n 3, 1) := by decide +kernel
theorem dL_blockedTime_13 : decode cL_blockedTime 13 = .ok (.iconst 1, 1) := by decide +kernel
theorem dL_blockedTime_14 : decode cL_blockedTime 14 = .ok (.ireturn, 1) := by decide +kernel
theorem dL_blockedTime_15 : decode cL_blockedTime 15 = .ok (.iconst 0, 1) := by decide +kernel
theorem dL_blockedTime_16 : decode cL_blockedTime 16 = .ok (.ireturn, 1) := by decide +kernel
theorem dL_critical_0 : decode cL_critical 0 = .ok (.aload_n 2, 1) := by decide +kernel
theorem dL_critical_1 : decode cL_critical 1 = .ok (.iconst 0, 1) := by decide +kernel
theorem dL_critical_2 : decode cL_critical 2 = .ok (.aload_n 0, 1) := by decide +kernel
theorem dL_critical_3 : decode cL_critical 3 = .ok (.iload_n 1, 1) := by decide +kernel
theorem dL_critical_4 : decode cL_critical 4 = .ok (.invokevirtual 46, 3) := by decide +kernel
theorem dL_critical_7 : decode cL_critical 7 = .ok (.i2l, 1) := by decide +kernel
theorem dL_critical_8 : decode cL_critical 8 = .ok (.lastore, 1) := by decide +kernel
theorem dL_critical_9 : decode cL_critical 9 = .ok (.goto 6, 3) := by decide +kernel
theorem dL_critical_12 : decode cL_critical 12 = .ok (.astore_n 3, 1) := by decide +kernel
theorem dL_critical_13 : decode cL_critical 13 = .ok (.iconst 1, 1) := by decide +kernel
theorem dL_critical_14 : decode cL_critical 14 = .ok (.ireturn, 1) := by decide +kernel
theorem dL_critical_15 : decode cL_critical 15 = .ok (.iconst 0, 1) := by decide +kernel
theorem dL_critical_16 : decode cL_critical 16 = .ok (.ireturn, 1) := by decide +kernel
theorem dL_deadlocks_0 : decode cL_deadlocks 0 = .ok (.aload_n 3, 1) := by decide +kernel
theorem dL_deadlocks_1 : decode cL_deadlocks 1 = .ok (.iconst 0, 1) := by decide +kernel
theorem dL_deadlocks_2 : decode cL_deadlocks 2 = .ok (.aload_n 0, 1) := by decide +kernel
theorem dL_deadlocks_3 : decode cL_deadlocks 3 = .ok (.iload_n 1, 1) := by decide +kernel
theorem dL_deadlocks_4 : decode cL_deadlocks 4 = .ok (.iload_n 2, 1) := by decide +kernel
theorem dL_deadlocks_5 : decode cL_deadlocks 5 = .ok (.invokevirtual 51, 3) := by decide +kernel
theorem dL_deadlocks_8 : decode cL_deadlocks 8 = .ok (.ifCond .eq 7, 3) := by decide +kernel
theorem dL_deadlocks_11 : decode cL_deadlocks 11 = .ok (.lconst 1, 1) := by decide +kernel
theorem dL_deadlocks_12 : decode cL_deadlocks 12 = .ok (.goto 4, 3) := by decide +kernel
theorem dL_deadlocks_15 : decode cL_deadlocks 15 = .ok (.lconst 0, 1) := by decide +kernel
theorem dL_deadlocks_16 : decode cL_deadlocks 16 = .ok (.lastore, 1) := by decide +kernel
theorem dL_deadlocks_17 : decode cL_deadlocks 17 = .ok (.goto 7, 3) := by decide +kernel
theorem dL_deadlocks_20 : decode cL_deadlocks 20 = .ok (.astore 4, 2) := by decide +kernel
theorem dL_deadlocks_22 : decode cL_deadlocks 22 = .ok (.iconst 1, 1) := by decide +kernel
theorem dL_deadlocks_23 : decode cL_deadlocks 23 = .ok (.ireturn, 1) := by decide +kernel
theorem dL_deadlocks_24 : decode cL_deadlocks 24 = .ok (.iconst 0, 1) := by decide +kernel
theorem dL_deadlocks_25 : decode cL_deadlocks 25 = .ok (.ireturn, 1) := by decide +kernel
theorem dL_makespanAfter_0 : decode cL_makespanAfter 0 = .ok (.aload_n 3, 1) := by decide +kernel
theorem dL_makespanAfter_1 : decode cL_makespanAfter 1 = .ok (.iconst 0, 1) := by decide +kernel
theorem dL_makespanAfter_2 : decode cL_makespanAfter 2 = .ok (.aload_n 0, 1) := by decide +kernel
theorem dL_makespanAfter_3 : decode cL_makespanAfter 3 = .ok (.iload_n 1, 1) := by decide +kernel
theorem dL_makespanAfter_4 : decode cL_makespanAfter 4 = .ok (.iload_n 2, 1) := by decide +kernel
theorem dL_makespanAfter_5 : decode cL_makespanAfter 5 = .ok (.invokevirtual 55, 3) := by decide +kernel
theorem dL_makespanAfter_8 : decode cL_makespanAfter 8 = .ok (.i2l, 1) := by decide +kernel
theorem dL_makespanAfter_9 : decode cL_makespanAfter 9 = .ok (.lastore, 1) := by decide +kernel
theorem dL_makespanAfter_10 : decode cL_makespanAfter 10 = .ok (.goto 7, 3) := by decide +kernel
theorem dL_makespanAfter_13 : decode cL_makespanAfter 13 = .ok (.astore 4, 2) := by decide +kernel
theorem dL_makespanAfter_15 : decode cL_makespanAfter 15 = .ok (.iconst 1, 1) := by decide +kernel
theorem dL_makespanAfter_16 : decode cL_makespanAfter 16 = .ok (.ireturn, 1) := by decide +kernel
theorem dL_makespanAfter_17 : decode cL_makespanAfter 17 = .ok (.iconst 0, 1) := by decide +kernel
theorem dL_makespanAfter_18 : decode cL_makespanAfter 18 = .ok (.ireturn, 1) := by decide +kernel
theorem dL_swap_0 : decode cL_swap 0 = .ok (.aload_n 3, 1) := by decide +kernel
theorem dL_swap_1 : decode cL_swap 1 = .ok (.iconst 0, 1) := by decide +kernel
theorem dL_swap_2 : decode cL_swap 2 = .ok (.aload_n 0, 1) := by decide +kernel
theorem dL_swap_3 : decode cL_swap 3 = .ok (.iload_n 1, 1) := by decide +kernel
theorem dL_swap_4 : decode cL_swap 4 = .ok (.iload_n 2, 1) := by decide +kernel
theorem dL_swap_5 : decode cL_swap 5 = .ok (.invokevirtual 58, 3) := by decide +kernel
theorem dL_swap_8 : decode cL_swap 8 = .ok (.i2l, 1) := by decide +kernel
theorem dL_swap_9 : decode cL_swap 9 = .ok (.lastore, 1) := by decide +kernel
theorem dL_swap_10 : decode cL_swap 10 = .ok (.goto 11, 3) := by decide +kernel
theorem dL_swap_13 : decode cL_swap 13 = .ok (.astore 4, 2) := by decide +kernel
theorem dL_swap_15 : decode cL_swap 15 = .ok (.iconst 1, 1) := by decide +kernel
theorem dL_swap_16 : decode cL_swap 16 = .ok (.ireturn, 1) := by decide +kernel
theorem dL_swap_17 : decode cL_swap 17 = .ok (.astore 4, 2) := by decide +kernel
theorem dL_swap_19 : decode cL_swap 19 = .ok (.iconst 2, 1) := by decide +kernel
theorem dL_swap_20 : decode cL_swap 20 = .ok (.ireturn, 1) := by decide +kernel
theorem dL_swap_21 : decode cL_swap 21 = .ok (.iconst 0, 1) := by decide +kernel
theorem dL_swap_22 : decode cL_swap 22 = .ok (.ireturn, 1) := by decide +kernel
theorem dL_improve_0 : decode cL_improve 0 = .ok (.aload_n 2, 1) := by decide +kernel
theorem dL_improve_1 : decode cL_improve 1 = .ok (.iconst 0, 1) := by decide +kernel
theorem dL_improve_2 : decode cL_improve 2 = .ok (.aload_n 0, 1) := by decide +kernel
theorem dL_improve_3 : decode cL_improve 3 = .ok (.iload_n 1, 1) := by decide +kernel
theorem dL_improve_4 : decode cL_improve 4 = .ok (.invokevirtual 63, 3) := by decide +kernel
theorem dL_improve_7 : decode cL_improve 7 = .ok (.i2l, 1) := by decide +kernel
theorem dL_improve_8 : decode cL_improve 8 = .ok (.lastore, 1) := by decide +kernel
theorem dL_improve_9 : decode cL_improve 9 = .ok (.goto 6, 3) := by decide +kernel
theorem dL_improve_12 : decode cL_improve 12 = .ok (.astore_n 3, 1) := by decide +kernel
theorem dL_improve_13 : decode cL_improve 13 = .ok (.iconst 1, 1) := by decide +kernel
theorem dL_improve_14 : decode cL_improve 14 = .ok (.ireturn, 1) := by decide +kernel
theorem dL_improve_15 : decode cL_improve 15 = .ok (.iconst 0, 1) := by decide +kernel
theorem dL_improve_16 : decode cL_improve 16 = .ok (.ireturn, 1) := by decide +kernel
theorem dL_place_0 : decode cL_place 0 = .ok (.aload 4, 2) := by decide +kernel
theorem dL_place_2 : decode cL_place 2 = .ok (.iconst 0, 1) := by decide +kernel
theorem dL_place_3 : decode cL_place 3 = .ok (.aload_n 0, 1) := by decide +kernel
theorem dL_place_4 : decode cL_place 4 = .ok (.iload_n 1, 1) := by decide +kernel
theorem dL_place_5 : decode cL_place 5 = .ok (.iload_n 2, 1) := by decide +kernel
theorem dL_place_6 : decode cL_place 6 = .ok (.iload_n 3, 1) := by decide +kernel
theorem dL_place_7 : decode cL_place 7 = .ok (.invokevirtual 66, 3) := by decide +kernel
theorem dL_place_10 : decode cL_place 10 = .ok (.i2l, 1) := by decide +kernel
theorem dL_place_11 : decode cL_place 11 = .ok (.lastore, 1) := by decide +kernel
theorem dL_place_12 : decode cL_place 12 = .ok (.goto 11, 3) := by decide +kernel
theorem dL_place_15 : decode cL_place 15 = .ok (.astore 5, 2) := by decide +kernel
theorem dL_place_17 : decode cL_place 17 = .ok (.iconst 1, 1) := by decide +kernel
theorem dL_place_18 : decode cL_place 18 = .ok (.ireturn, 1) := by decide +kernel
theorem dL_place_19 : decode cL_place 19 = .ok (.astore 5, 2) := by decide +kernel
theorem dL_place_21 : decode cL_place 21 = .ok (.iconst 2, 1) := by decide +kernel
theorem dL_place_22 : decode cL_place 22 = .ok (.ireturn, 1) := by decide +kernel
theorem dL_place_23 : decode cL_place 23 = .ok (.iconst 0, 1) := by decide +kernel
theorem dL_place_24 : decode cL_place 24 = .ok (.ireturn, 1) := by decide +kernel
theorem dL_setDuration_0 : decode cL_setDuration 0 = .ok (.aload 4, 2) := by decide +kernel
theorem dL_setDuration_2 : decode cL_setDuration 2 = .ok (.iconst 0, 1) := by decide +kernel
theorem dL_setDuration_3 : decode cL_setDuration 3 = .ok (.aload_n 0, 1) := by decide +kernel
theorem dL_setDuration_4 : decode cL_setDuration 4 = .ok (.iload_n 1, 1) := by decide +kernel
theorem dL_setDuration_5 : decode cL_setDuration 5 = .ok (.iload_n 2, 1) := by decide +kernel
theorem dL_setDuration_6 : decode cL_setDuration 6 = .ok (.iload_n 3, 1) := by decide +kernel
theorem dL_setDuration_7 : decode cL_setDuration 7 = .ok (.invokevirtual 69, 3) := by decide +kernel
theorem dL_setDuration_10 : decode cL_setDuration 10 = .ok (.i2l, 1) := by decide +kernel
theorem dL_setDuration_11 : decode cL_setDuration 11 = .ok (.lastore, 1) := by decide +kernel
theorem dL_setDuration_12 : decode cL_setDuration 12 = .ok (.goto 11, 3) := by decide +kernel
theorem dL_setDuration_15 : decode cL_setDuration 15 = .ok (.astore 5, 2) := by decide +kernel
theorem dL_setDuration_17 : decode cL_setDuration 17 = .ok (.iconst 1, 1) := by decide +kernel
theorem dL_setDuration_18 : decode cL_setDuration 18 = .ok (.ireturn, 1) := by decide +kernel
theorem dL_setDuration_19 : decode cL_setDuration 19 = .ok (.astore 5, 2) := by decide +kernel
theorem dL_setDuration_21 : decode cL_setDuration 21 = .ok (.iconst 2, 1) := by decide +kernel
theorem dL_setDuration_22 : decode cL_setDuration 22 = .ok (.ireturn, 1) := by decide +kernel
theorem dL_setDuration_23 : decode cL_setDuration 23 = .ok (.iconst 0, 1) := by decide +kernel
theorem dL_setDuration_24 : decode cL_setDuration 24 = .ok (.ireturn, 1) := by decide +kernel
theorem dL_law_0 : decode cL_law 0 = .ok (.new 8, 3) := by decide +kernel
theorem dL_law_3 : decode cL_law 3 = .ok (.dup, 1) := by decide +kernel
theorem dL_law_4 : decode cL_law 4 = .ok (.invokespecial 72, 3) := by decide +kernel
theorem dL_law_7 : decode cL_law 7 = .ok (.astore_n 1, 1) := by decide +kernel
theorem dL_law_8 : decode cL_law 8 = .ok (.new 73, 3) := by decide +kernel
theorem dL_law_11 : decode cL_law 11 = .ok (.dup, 1) := by decide +kernel
theorem dL_law_12 : decode cL_law 12 = .ok (.invokespecial 75, 3) := by decide +kernel
theorem dL_law_15 : decode cL_law 15 = .ok (.astore_n 2, 1) := by decide +kernel
theorem dL_law_16 : decode cL_law 16 = .ok (.iconst 1, 1) := by decide +kernel
theorem dL_law_17 : decode cL_law 17 = .ok (.newarray .long, 2) := by decide +kernel
theorem dL_law_19 : decode cL_law 19 = .ok (.astore_n 3, 1) := by decide +kernel
theorem dL_law_20 : decode cL_law 20 = .ok (.iconst 0, 1) := by decide +kernel
theorem dL_law_21 : decode cL_law 21 = .ok (.istore 4, 2) := by decide +kernel
theorem dL_law_23 : decode cL_law 23 = .ok (.iload 4, 2) := by decide +kernel
theorem dL_law_25 : decode cL_law 25 = .ok (.aload_n 0, 1) := by decide +kernel
theorem dL_law_26 : decode cL_law 26 = .ok (.arraylength, 1) := by decide +kernel
theorem dL_law_27 : decode cL_law 27 = .ok (.bipush 6, 2) := by decide +kernel
theorem dL_law_29 : decode cL_law 29 = .ok (.isub, 1) := by decide +kernel
theorem dL_law_30 : decode cL_law 30 = .ok (.if_icmp .gt 1485, 3) := by decide +kernel
theorem dL_law_33 : decode cL_law 33 = .ok (.aload_n 0, 1) := by decide +kernel
theorem dL_law_34 : decode cL_law 34 = .ok (.iload 4, 2) := by decide +kernel
theorem dL_law_36 : decode cL_law 36 = .ok (.iaload, 1) := by decide +kernel
theorem dL_law_37 : decode cL_law 37 = .ok (.bipush 31, 2) := by decide +kernel
theorem dL_law_39 : decode cL_law 39 = .ok (.iand, 1) := by decide +kernel
theorem dL_law_40 : decode cL_law 40 = .ok (.tableswitch 1469 0 29 #[136, 209, 265, 278, 291, 304, 360, 440, 496, 564, 632, 700, 756, 769, 825, 838, 894, 907, 963, 976, 989, 1064, 1132, 1145, 1213, 1269, 1349, 1429, 1442, 1455], 136) := by decide +kernel
theorem dL_law_176 : decode cL_law 176 = .ok (.aload_n 1, 1) := by decide +kernel
theorem dL_law_177 : decode cL_law 177 = .ok (.aload_n 0, 1) := by decide +kernel
theorem dL_law_178 : decode cL_law 178 = .ok (.iload 4, 2) := by decide +kernel
theorem dL_law_180 : decode cL_law 180 = .ok (.iconst 1, 1) := by decide +kernel
theorem dL_law_181 : decode cL_law 181 = .ok (.iadd, 1) := by decide +kernel
theorem dL_law_182 : decode cL_law 182 = .ok (.iaload, 1) := by decide +kernel
theorem dL_law_183 : decode cL_law 183 = .ok (.aload_n 0, 1) := by decide +kernel
theorem dL_law_184 : decode cL_law 184 = .ok (.iload 4, 2) := by decide +kernel
theorem dL_law_186 : decode cL_law 186 = .ok (.iconst 2, 1) := by decide +kernel
theorem dL_law_187 : decode cL_law 187 = .ok (.iadd, 1) := by decide +kernel
theorem dL_law_188 : decode cL_law 188 = .ok (.iaload, 1) := by decide +kernel
theorem dL_law_189 : decode cL_law 189 = .ok (.aload_n 0, 1) := by decide +kernel
theorem dL_law_190 : decode cL_law 190 = .ok (.iload 4, 2) := by decide +kernel
theorem dL_law_192 : decode cL_law 192 = .ok (.iconst 3, 1) := by decide +kernel
theorem dL_law_193 : decode cL_law 193 = .ok (.iadd, 1) := by decide +kernel
theorem dL_law_194 : decode cL_law 194 = .ok (.iaload, 1) := by decide +kernel
theorem dL_law_195 : decode cL_law 195 = .ok (.aload_n 0, 1) := by decide +kernel
theorem dL_law_196 : decode cL_law 196 = .ok (.iload 4, 2) := by decide +kernel
theorem dL_law_198 : decode cL_law 198 = .ok (.iconst 4, 1) := by decide +kernel
theorem dL_law_199 : decode cL_law 199 = .ok (.iadd, 1) := by decide +kernel
theorem dL_law_200 : decode cL_law 200 = .ok (.iaload, 1) := by decide +kernel
theorem dL_law_201 : decode cL_law 201 = .ok (.aload_n 0, 1) := by decide +kernel
theorem dL_law_202 : decode cL_law 202 = .ok (.iload 4, 2) := by decide +kernel
theorem dL_law_204 : decode cL_law 204 = .ok (.iconst 5, 1) := by decide +kernel
theorem dL_law_205 : decode cL_law 205 = .ok (.iadd, 1) := by decide +kernel
theorem dL_law_206 : decode cL_law 206 = .ok (.iaload, 1) := by decide +kernel
theorem dL_law_207 : decode cL_law 207 = .ok (.invokevirtual 76, 3) := by decide +kernel
theorem dL_law_210 : decode cL_law 210 = .ok (.aload_n 2, 1) := by decide +kernel
theorem dL_law_211 : decode cL_law 211 = .ok (.aload_n 0, 1) := by decide +kernel
theorem dL_law_212 : decode cL_law 212 = .ok (.iload 4, 2) := by decide +kernel
theorem dL_law_214 : decode cL_law 214 = .ok (.iconst 1, 1) := by decide +kernel
theorem dL_law_215 : decode cL_law 215 = .ok (.iadd, 1) := by decide +kernel
theorem dL_law_216 : decode cL_law 216 = .ok (.iaload, 1) := by decide +kernel
theorem dL_law_217 : decode cL_law 217 = .ok (.aload_n 0, 1) := by decide +kernel
theorem dL_law_218 : decode cL_law 218 = .ok (.iload 4, 2) := by decide +kernel
theorem dL_law_220 : decode cL_law 220 = .ok (.iconst 2, 1) := by decide +kernel
theorem dL_law_221 : decode cL_law 221 = .ok (.iadd, 1) := by decide +kernel
theorem dL_law_222 : decode cL_law 222 = .ok (.iaload, 1) := by decide +kernel
theorem dL_law_223 : decode cL_law 223 = .ok (.aload_n 0, 1) := by decide +kernel
theorem dL_law_224 : decode cL_law 224 = .ok (.iload 4, 2) := by decide +kernel
theorem dL_law_226 : decode cL_law 226 = .ok (.iconst 3, 1) := by decide +kernel
theorem dL_law_227 : decode cL_law 227 = .ok (.iadd, 1) := by decide +kernel
theorem dL_law_228 : decode cL_law 228 = .ok (.iaload, 1) := by decide +kernel
theorem dL_law_229 : decode cL_law 229 = .ok (.aload_n 0, 1) := by decide +kernel
theorem dL_law_230 : decode cL_law 230 = .ok (.iload 4, 2) := by decide +kernel
theorem dL_law_232 : decode cL_law 232 = .ok (.iconst 4, 1) := by decide +kernel
theorem dL_law_233 : decode cL_law 233 = .ok (.iadd, 1) := by decide +kernel
theorem dL_law_234 : decode cL_law 234 = .ok (.iaload, 1) := by decide +kernel
theorem dL_law_235 : decode cL_law 235 = .ok (.aload_n 0, 1) := by decide +kernel
theorem dL_law_236 : decode cL_law 236 = .ok (.iload 4, 2) := by decide +kernel
theorem dL_law_238 : decode cL_law 238 = .ok (.iconst 5, 1) := by decide +kernel
theorem dL_law_239 : decode cL_law 239 = .ok (.iadd, 1) := by decide +kernel
theorem dL_law_240 : decode cL_law 240 = .ok (.iaload, 1) := by decide +kernel
theorem dL_law_241 : decode cL_law 241 = .ok (.invokevirtual 80, 3) := by decide +kernel
theorem dL_law_244 : decode cL_law 244 = .ok (.if_icmp .eq 1265, 3) := by decide +kernel
theorem dL_law_247 : decode cL_law 247 = .ok (.iconst 0, 1) := by decide +kernel
theorem dL_law_248 : decode cL_law 248 = .ok (.ireturn, 1) := by decide +kernel
theorem dL_law_249 : decode cL_law 249 = .ok (.aload_n 1, 1) := by decide +kernel
theorem dL_law_250 : decode cL_law 250 = .ok (.aload_n 0, 1) := by decide +kernel
theorem dL_law_251 : decode cL_law 251 = .ok (.iload 4, 2) := by decide +kernel
theorem dL_law_253 : decode cL_law 253 = .ok (.iconst 1, 1) := by decide +kernel
theorem dL_law_254 : decode cL_law 254 = .ok (.iadd, 1) := by decide +kernel
theorem dL_law_255 : decode cL_law 255 = .ok (.iaload, 1) := by decide +kernel
theorem dL_law_256 : decode cL_law 256 = .ok (.aload_n 3, 1) := by decide +kernel
theorem dL_law_257 : decode cL_law 257 = .ok (.invokestatic 81, 3) := by decide +kernel
theorem dL_law_260 : decode cL_law 260 = .ok (.istore 5, 2) := by decide +kernel
theorem dL_law_262 : decode cL_law 262 = .ok (.aload_n 2, 1) := by decide +kernel
theorem dL_law_263 : decode cL_law 263 = .ok (.aload_n 0, 1) := by decide +kernel
theorem dL_law_264 : decode cL_law 264 = .ok (.iload 4, 2) := by decide +kernel
theorem dL_law_266 : decode cL_law 266 = .ok (.iconst 1, 1) := by decide +kernel
theorem dL_law_267 : decode cL_law 267 = .ok (.iadd, 1) := by decide +kernel
theorem dL_law_268 : decode cL_law 268 = .ok (.iaload, 1) := by decide +kernel
theorem dL_law_269 : decode cL_law 269 = .ok (.invokevirtual 86, 3) := by decide +kernel
theorem dL_law_272 : decode cL_law 272 = .ok (.istore 6, 2) := by decide +kernel
theorem dL_law_274 : decode cL_law 274 = .ok (.aload_n 2, 1) := by decide +kernel
theorem dL_law_275 : decode cL_law 275 = .ok (.invokevirtual 87, 3) := by decide +kernel
theorem dL_law_278 : decode cL_law 278 = .ok (.iload 5, 2) := by decide +kernel
theorem dL_law_280 : decode cL_law 280 = .ok (.if_icmp .eq 5, 3) := by decide +kernel
theorem dL_law_283 : decode cL_law 283 = .ok (.iconst 0, 1) := by decide +kernel
theorem dL_law_284 : decode cL_law 284 = .ok (.ireturn, 1) := by decide +kernel
theorem dL_law_285 : decode cL_law 285 = .ok (.iload 5, 2) := by decide +kernel
theorem dL_law_287 : decode cL_law 287 = .ok (.ifCond .ne 15, 3) := by decide +kernel
theorem dL_law_290 : decode cL_law 290 = .ok (.aload_n 3, 1) := by decide +kernel
theorem dL_law_291 : decode cL_law 291 = .ok (.iconst 0, 1) := by decide +kernel
theorem dL_law_292 : decode cL_law 292 = .ok (.laload, 1) := by decide +kernel
theorem dL_law_293 : decode cL_law 293 = .ok (.iload 6, 2) := by decide +kernel
theorem dL_law_295 : decode cL_law 295 = .ok (.i2l, 1) := by decide +kernel
theorem dL_law_296 : decode cL_law 296 = .ok (.lcmp, 1) := by decide +kernel
theorem dL_law_297 : decode cL_law 297 = .ok (.ifCond .eq 5, 3) := by decide +kernel
theorem dL_law_300 : decode cL_law 300 = .ok (.iconst 0, 1) := by decide +kernel
theorem dL_law_301 : decode cL_law 301 = .ok (.ireturn, 1) := by decide +kernel
theorem dL_law_302 : decode cL_law 302 = .ok (.goto 1207, 3) := by decide +kernel
theorem dL_law_305 : decode cL_law 305 = .ok (.aload_n 1, 1) := by decide +kernel
theorem dL_law_306 : decode cL_law 306 = .ok (.invokevirtual 91, 3) := by decide +kernel
theorem dL_law_309 : decode cL_law 309 = .ok (.aload_n 2, 1) := by decide +kernel
theorem dL_law_310 : decode cL_law 310 = .ok (.invokevirtual 94, 3) := by decide +kernel
theorem dL_law_313 : decode cL_law 313 = .ok (.if_icmp .eq 1196, 3) := by decide +kernel
theorem dL_law_316 : decode cL_law 316 = .ok (.iconst 0, 1) := by decide +kernel
theorem dL_law_317 : decode cL_law 317 = .ok (.ireturn, 1) := by decide +kernel
theorem dL_law_318 : decode cL_law 318 = .ok (.aload_n 1, 1) := by decide +kernel
theorem dL_law_319 : decode cL_law 319 = .ok (.invokevirtual 95, 3) := by decide +kernel
theorem dL_law_322 : decode cL_law 322 = .ok (.aload_n 2, 1) := by decide +kernel
theorem dL_law_323 : decode cL_law 323 = .ok (.invokevirtual 98, 3) := by decide +kernel
theorem dL_law_326 : decode cL_law 326 = .ok (.if_icmp .eq 1183, 3) := by decide +kernel
theorem dL_law_329 : decode cL_law 329 = .ok (.iconst 0, 1) := by decide +kernel
theorem dL_law_330 : decode cL_law 330 = .ok (.ireturn, 1) := by decide +kernel
theorem dL_law_331 : decode cL_law 331 = .ok (.aload_n 1, 1) := by decide +kernel
theorem dL_law_332 : decode cL_law 332 = .ok (.invokevirtual 99, 3) := by decide +kernel
theorem dL_law_335 : decode cL_law 335 = .ok (.aload_n 2, 1) := by decide +kernel
theorem dL_law_336 : decode cL_law 336 = .ok (.invokevirtual 102, 3) := by decide +kernel
theorem dL_law_339 : decode cL_law 339 = .ok (.if_icmp .eq 1170, 3) := by decide +kernel
theorem dL_law_342 : decode cL_law 342 = .ok (.iconst 0, 1) := by decide +kernel
theorem dL_law_343 : decode cL_law 343 = .ok (.ireturn, 1) := by decide +kernel
theorem dL_law_344 : decode cL_law 344 = .ok (.aload_n 1, 1) := by decide +kernel
theorem dL_law_345 : decode cL_law 345 = .ok (.aload_n 0, 1) := by decide +kernel
theorem dL_law_346 : decode cL_law 346 = .ok (.iload 4, 2) := by decide +kernel
theorem dL_law_348 : decode cL_law 348 = .ok (.iconst 1, 1) := by decide +kernel
theorem dL_law_349 : decode cL_law 349 = .ok (.iadd, 1) := by decide +kernel
theorem dL_law_350 : decode cL_law 350 = .ok (.iaload, 1) := by decide +kernel
theorem dL_law_351 : decode cL_law 351 = .ok (.aload_n 3, 1) := by decide +kernel
theorem dL_law_352 : decode cL_law 352 = .ok (.invokestatic 103, 3) := by decide +kernel
theorem dL_law_355 : decode cL_law 355 = .ok (.istore 5, 2) := by decide +kernel
theorem dL_law_357 : decode cL_law 357 = .ok (.aload_n 2, 1) := by decide +kernel
theorem dL_law_358 : decode cL_law 358 = .ok (.aload_n 0, 1) := by decide +kernel
theorem dL_law_359 : decode cL_law 359 = .ok (.iload 4, 2) := by decide +kernel
theorem dL_law_361 : decode cL_law 361 = .ok (.iconst 1, 1) := by decide +kernel
theorem dL_law_362 : decode cL_law 362 = .ok (.iadd, 1) := by decide +kernel
theorem dL_law_363 : decode cL_law 363 = .ok (.iaload, 1) := by decide +kernel
theorem dL_law_364 : decode cL_law 364 = .ok (.invokevirtual 105, 3) := by decide +kernel
theorem dL_law_367 : decode cL_law 367 = .ok (.istore 6, 2) := by decide +kernel
theorem dL_law_369 : decode cL_law 369 = .ok (.aload_n 2, 1) := by decide +kernel
theorem dL_law_370 : decode cL_law 370 = .ok (.invokevirtual 87, 3) := by decide +kernel
theorem dL_law_373 : decode cL_law 373 = .ok (.iload 5, 2) := by decide +kernel
theorem dL_law_375 : decode cL_law 375 = .ok (.if_icmp .eq 5, 3) := by decide +kernel
theorem dL_law_378 : decode cL_law 378 = .ok (.iconst 0, 1) := by decide +kernel
theorem dL_law_379 : decode cL_law 379 = .ok (.ireturn, 1) := by decide +kernel
theorem dL_law_380 : decode cL_law 380 = .ok (.iload 5, 2) := by decide +kernel
theorem dL_law_382 : decode cL_law 382 = .ok (.ifCond .ne 15, 3) := by decide +kernel
theorem dL_law_385 : decode cL_law 385 = .ok (.aload_n 3, 1) := by decide +kernel
theorem dL_law_386 : decode cL_law 386 = .ok (.iconst 0, 1) := by decide +kernel
theorem dL_law_387 : decode cL_law 387 = .ok (.laload, 1) := by decide +kernel
theorem dL_law_388 : decode cL_law 388 = .ok (.iload 6, 2) := by decide +kernel
theorem dL_law_390 : decode cL_law 390 = .ok (.i2l, 1) := by decide +kernel
theorem dL_law_391 : decode cL_law 391 = .ok (.lcmp, 1) := by decide +kernel
theorem dL_law_392 : decode cL_law 392 = .ok (.ifCond .eq 5, 3) := by decide +kernel
theorem dL_law_395 : decode cL_law 395 = .ok (.iconst 0, 1) := by decide +kernel
theorem dL_law_396 : decode cL_law 396 = .ok (.ireturn, 1) := by decide +kernel
theorem dL_law_397 : decode cL_law 397 = .ok (.goto 1112, 3) := by decide +kernel
theorem dL_law_400 : decode cL_law 400 = .ok (.aload_n 1, 1) := by decide +kernel
theorem dL_law_401 : decode cL_law 401 = .ok (.aload_n 0, 1) := by decide +kernel
theorem dL_law_402 : decode cL_law 402 = .ok (.iload 4, 2) := by decide +kernel
theorem dL_law_404 : decode cL_law 404 = .ok (.iconst 1, 1) := by decide +kernel
theorem dL_law_405 : decode cL_law 405 = .ok (.iadd, 1) := by decide +kernel
theorem dL_law_406 : decode cL_law 406 = .ok (.iaload, 1) := by decide +kernel
theorem dL_law_407 : decode cL_law 407 = .ok (.aload_n 0, 1) := by decide +kernel
theorem dL_law_408 : decode cL_law 408 = .ok (.iload 4, 2) := by decide +kernel
theorem dL_law_410 : decode cL_law 410 = .ok (.iconst 2, 1) := by decide +kernel
theorem dL_law_411 : decode cL_law 411 = .ok (.iadd, 1) := by decide +kernel
theorem dL_law_412 : decode cL_law 412 = .ok (.iaload, 1) := by decide +kernel
theorem dL_law_413 : decode cL_law 413 = .ok (.aload_n 0, 1) := by decide +kernel
theorem dL_law_414 : decode cL_law 414 = .ok (.iload 4, 2) := by decide +kernel
theorem dL_law_416 : decode cL_law 416 = .ok (.iconst 3, 1) := by decide +kernel
theorem dL_law_417 : decode cL_law 417 = .ok (.iadd, 1) := by decide +kernel
theorem dL_law_418 : decode cL_law 418 = .ok (.iaload, 1) := by decide +kernel
theorem dL_law_419 : decode cL_law 419 = .ok (.aload_n 3, 1) := by decide +kernel
theorem dL_law_420 : decode cL_law 420 = .ok (.invokestatic 106, 3) := by decide +kernel
theorem dL_law_423 : decode cL_law 423 = .ok (.istore 5, 2) := by decide +kernel
theorem dL_law_425 : decode cL_law 425 = .ok (.aload_n 2, 1) := by decide +kernel
theorem dL_law_426 : decode cL_law 426 = .ok (.aload_n 0, 1) := by decide +kernel
theorem dL_law_427 : decode cL_law 427 = .ok (.iload 4, 2) := by decide +kernel
theorem dL_law_429 : decode cL_law 429 = .ok (.iconst 1, 1) := by decide +kernel
theorem dL_law_430 : decode cL_law 430 = .ok (.iadd, 1) := by decide +kernel
theorem dL_law_431 : decode cL_law 431 = .ok (.iaload, 1) := by decide +kernel
theorem dL_law_432 : decode cL_law 432 = .ok (.aload_n 0, 1) := by decide +kernel
theorem dL_law_433 : decode cL_law 433 = .ok (.iload 4, 2) := by decide +kernel
theorem dL_law_435 : decode cL_law 435 = .ok (.iconst 2, 1) := by decide +kernel
theorem dL_law_436 : decode cL_law 436 = .ok (.iadd, 1) := by decide +kernel
theorem dL_law_437 : decode cL_law 437 = .ok (.iaload, 1) := by decide +kernel
theorem dL_law_438 : decode cL_law 438 = .ok (.aload_n 0, 1) := by decide +kernel
theorem dL_law_439 : decode cL_law 439 = .ok (.iload 4, 2) := by decide +kernel
theorem dL_law_441 : decode cL_law 441 = .ok (.iconst 3, 1) := by decide +kernel
theorem dL_law_442 : decode cL_law 442 = .ok (.iadd, 1) := by decide +kernel
theorem dL_law_443 : decode cL_law 443 = .ok (.iaload, 1) := by decide +kernel
theorem dL_law_444 : decode cL_law 444 = .ok (.invokevirtual 109, 3) := by decide +kernel
theorem dL_law_447 : decode cL_law 447 = .ok (.istore 6, 2) := by decide +kernel
theorem dL_law_449 : decode cL_law 449 = .ok (.aload_n 2, 1) := by decide +kernel
theorem dL_law_450 : decode cL_law 450 = .ok (.invokevirtual 87, 3) := by decide +kernel
theorem dL_law_453 : decode cL_law 453 = .ok (.iload 5, 2) := by decide +kernel
theorem dL_law_455 : decode cL_law 455 = .ok (.if_icmp .eq 5, 3) := by decide +kernel
theorem dL_law_458 : decode cL_law 458 = .ok (.iconst 0, 1) := by decide +kernel
theorem dL_law_459 : decode cL_law 459 = .ok (.ireturn, 1) := by decide +kernel
theorem dL_law_460 : decode cL_law 460 = .ok (.iload 5, 2) := by decide +kernel
theorem dL_law_462 : decode cL_law 462 = .ok (.ifCond .ne 15, 3) := by decide +kernel
theorem dL_law_465 : decode cL_law 465 = .ok (.aload_n 3, 1) := by decide +kernel
theorem dL_law_466 : decode cL_law 466 = .ok (.iconst 0, 1) := by decide +kernel
theorem dL_law_467 : decode cL_law 467 = .ok (.laload, 1) := by decide +kernel
theorem dL_law_468 : decode cL_law 468 = .ok (.iload 6, 2) := by decide +kernel
theorem dL_law_470 : decode cL_law 470 = .ok (.i2l, 1) := by decide +kernel
theorem dL_law_471 : decode cL_law 471 = .ok (.lcmp, 1) := by decide +kernel
theorem dL_law_472 : decode cL_law 472 = .ok (.ifCond .eq 5, 3) := by decide +kernel
theorem dL_law_475 : decode cL_law 475 = .ok (.iconst 0, 1) := by decide +kernel
theorem dL_law_476 : decode cL_law 476 = .ok (.ireturn, 1) := by decide +kernel
theorem dL_law_477 : decode cL_law 477 = .ok (.goto 1032, 3) := by decide +kernel
theorem dL_law_480 : decode cL_law 480 = .ok (.aload_n 1, 1) := by decide +kernel
theorem dL_law_481 : decode cL_law 481 = .ok (.aload_n 0, 1) := by decide +kernel
theorem dL_law_482 : decode cL_law 482 = .ok (.iload 4, 2) := by decide +kernel
theorem dL_law_484 : decode cL_law 484 = .ok (.iconst 1, 1) := by decide +kernel
theorem dL_law_485 : decode cL_law 485 = .ok (.iadd, 1) := by decide +kernel
theorem dL_law_486 : decode cL_law 486 = .ok (.iaload, 1) := by decide +kernel
theorem dL_law_487 : decode cL_law 487 = .ok (.aload_n 3, 1) := by decide +kernel
theorem dL_law_488 : decode cL_law 488 = .ok (.invokestatic 110, 3) := by decide +kernel
theorem dL_law_491 : decode cL_law 491 = .ok (.istore 5, 2) := by decide +kernel
theorem dL_law_493 : decode cL_law 493 = .ok (.aload_n 2, 1) := by decide +kernel
theorem dL_law_494 : decode cL_law 494 = .ok (.aload_n 0, 1) := by decide +kernel
theorem dL_law_495 : decode cL_law 495 = .ok (.iload 4, 2) := by decide +kernel
theorem dL_law_497 : decode cL_law 497 = .ok (.iconst 1, 1) := by decide +kernel
theorem dL_law_498 : decode cL_law 498 = .ok (.iadd, 1) := by decide +kernel
theorem dL_law_499 : decode cL_law 499 = .ok (.iaload, 1) := by decide +kernel
theorem dL_law_500 : decode cL_law 500 = .ok (.invokevirtual 112, 3) := by decide +kernel
theorem dL_law_503 : decode cL_law 503 = .ok (.istore 6, 2) := by decide +kernel
theorem dL_law_505 : decode cL_law 505 = .ok (.aload_n 2, 1) := by decide +kernel
theorem dL_law_506 : decode cL_law 506 = .ok (.invokevirtual 87, 3) := by decide +kernel
theorem dL_law_509 : decode cL_law 509 = .ok (.iload 5, 2) := by decide +kernel
theorem dL_law_511 : decode cL_law 511 = .ok (.if_icmp .eq 5, 3) := by decide +kernel
theorem dL_law_514 : decode cL_law 514 = .ok (.iconst 0, 1) := by decide +kernel
theorem dL_law_515 : decode cL_law 515 = .ok (.ireturn, 1) := by decide +kernel
theorem dL_law_516 : decode cL_law 516 = .ok (.iload 5, 2) := by decide +kernel
theorem dL_law_518 : decode cL_law 518 = .ok (.ifCond .ne 15, 3) := by decide +kernel
theorem dL_law_521 : decode cL_law 521 = .ok (.aload_n 3, 1) := by decide +kernel
theorem dL_law_522 : decode cL_law 522 = .ok (.iconst 0, 1) := by decide +kernel
theorem dL_law_523 : decode cL_law 523 = .ok (.laload, 1) := by decide +kernel
theorem dL_law_524 : decode cL_law 524 = .ok (.iload 6, 2) := by decide +kernel
theorem dL_law_526 : decode cL_law 526 = .ok (.i2l, 1) := by decide +kernel
theorem dL_law_527 : decode cL_law 527 = .ok (.lcmp, 1) := by decide +kernel
theorem dL_law_528 : decode cL_law 528 = .ok (.ifCond .eq 5, 3) := by decide +kernel
theorem dL_law_531 : decode cL_law 531 = .ok (.iconst 0, 1) := by decide +kernel
theorem dL_law_532 : decode cL_law 532 = .ok (.ireturn, 1) := by decide +kernel
theorem dL_law_533 : decode cL_law 533 = .ok (.goto 976, 3) := by decide +kernel
theorem dL_law_536 : decode cL_law 536 = .ok (.aload_n 1, 1) := by decide +kernel
theorem dL_law_537 : decode cL_law 537 = .ok (.aload_n 0, 1) := by decide +kernel
theorem dL_law_538 : decode cL_law 538 = .ok (.iload 4, 2) := by decide +kernel
theorem dL_law_540 : decode cL_law 540 = .ok (.iconst 1, 1) := by decide +kernel
theorem dL_law_541 : decode cL_law 541 = .ok (.iadd, 1) := by decide +kernel
theorem dL_law_542 : decode cL_law 542 = .ok (.iaload, 1) := by decide +kernel
theorem dL_law_543 : decode cL_law 543 = .ok (.aload_n 0, 1) := by decide +kernel
theorem dL_law_544 : decode cL_law 544 = .ok (.iload 4, 2) := by decide +kernel
theorem dL_law_546 : decode cL_law 546 = .ok (.iconst 2, 1) := by decide +kernel
theorem dL_law_547 : decode cL_law 547 = .ok (.iadd, 1) := by decide +kernel
theorem dL_law_548 : decode cL_law 548 = .ok (.iaload, 1) := by decide +kernel
theorem dL_law_549 : decode cL_law 549 = .ok (.aload_n 3, 1) := by decide +kernel
theorem dL_law_550 : decode cL_law 550 = .ok (.invokestatic 113, 3) := by decide +kernel
theorem dL_law_553 : decode cL_law 553 = .ok (.istore 5, 2) := by decide +kernel
theorem dL_law_555 : decode cL_law 555 = .ok (.aload_n 2, 1) := by decide +kernel
theorem dL_law_556 : decode cL_law 556 = .ok (.aload_n 0, 1) := by decide +kernel
theorem dL_law_557 : decode cL_law 557 = .ok (.iload 4, 2) := by decide +kernel
theorem dL_law_559 : decode cL_law 559 = .ok (.iconst 1, 1) := by decide +kernel
theorem dL_law_560 : decode cL_law 560 = .ok (.iadd, 1) := by decide +kernel
theorem dL_law_561 : decode cL_law 561 = .ok (.iaload, 1) := by decide +kernel
theorem dL_law_562 : decode cL_law 562 = .ok (.aload_n 0, 1) := by decide +kernel
theorem dL_law_563 : decode cL_law 563 = .ok (.iload 4, 2) := by decide +kernel
theorem dL_law_565 : decode cL_law 565 = .ok (.iconst 2, 1) := by decide +kernel
theorem dL_law_566 : decode cL_law 566 = .ok (.iadd, 1) := by decide +kernel
theorem dL_law_567 : decode cL_law 567 = .ok (.iaload, 1) := by decide +kernel
theorem dL_law_568 : decode cL_law 568 = .ok (.invokevirtual 116, 3) := by decide +kernel
theorem dL_law_571 : decode cL_law 571 = .ok (.istore 6, 2) := by decide +kernel
theorem dL_law_573 : decode cL_law 573 = .ok (.aload_n 2, 1) := by decide +kernel
theorem dL_law_574 : decode cL_law 574 = .ok (.invokevirtual 87, 3) := by decide +kernel
theorem dL_law_577 : decode cL_law 577 = .ok (.iload 5, 2) := by decide +kernel
theorem dL_law_579 : decode cL_law 579 = .ok (.if_icmp .eq 5, 3) := by decide +kernel
theorem dL_law_582 : decode cL_law 582 = .ok (.iconst 0, 1) := by decide +kernel
theorem dL_law_583 : decode cL_law 583 = .ok (.ireturn, 1) := by decide +kernel
theorem dL_law_584 : decode cL_law 584 = .ok (.iload 5, 2) := by decide +kernel
theorem dL_law_586 : decode cL_law 586 = .ok (.ifCond .ne 15, 3) := by decide +kernel
theorem dL_law_589 : decode cL_law 589 = .ok (.aload_n 3, 1) := by decide +kernel
theorem dL_law_590 : decode cL_law 590 = .ok (.iconst 0, 1) := by decide +kernel
theorem dL_law_591 : decode cL_law 591 = .ok (.laload, 1) := by decide +kernel
theorem dL_law_592 : decode cL_law 592 = .ok (.iload 6, 2) := by decide +kernel
theorem dL_law_594 : decode cL_law 594 = .ok (.i2l, 1) := by decide +kernel
theorem dL_law_595 : decode cL_law 595 = .ok (.lcmp, 1) := by decide +kernel
theorem dL_law_596 : decode cL_law 596 = .ok (.ifCond .eq 5, 3) := by decide +kernel
theorem dL_law_599 : decode cL_law 599 = .ok (.iconst 0, 1) := by decide +kernel
theorem dL_law_600 : decode cL_law 600 = .ok (.ireturn, 1) := by decide +kernel
theorem dL_law_601 : decode cL_law 601 = .ok (.goto 908, 3) := by decide +kernel
theorem dL_law_604 : decode cL_law 604 = .ok (.aload_n 1, 1) := by decide +kernel
theorem dL_law_605 : decode cL_law 605 = .ok (.aload_n 0, 1) := by decide +kernel
theorem dL_law_606 : decode cL_law 606 = .ok (.iload 4, 2) := by decide +kernel
theorem dL_law_608 : decode cL_law 608 = .ok (.iconst 1, 1) := by decide +kernel
theorem dL_law_609 : decode cL_law 609 = .ok (.iadd, 1) := by decide +kernel
theorem dL_law_610 : decode cL_law 610 = .ok (.iaload, 1) := by decide +kernel
theorem dL_law_611 : decode cL_law 611 = .ok (.aload_n 0, 1) := by decide +kernel
theorem dL_law_612 : decode cL_law 612 = .ok (.iload 4, 2) := by decide +kernel
theorem dL_law_614 : decode cL_law 614 = .ok (.iconst 2, 1) := by decide +kernel
theorem dL_law_615 : decode cL_law 615 = .ok (.iadd, 1) := by decide +kernel
theorem dL_law_616 : decode cL_law 616 = .ok (.iaload, 1) := by decide +kernel
theorem dL_law_617 : decode cL_law 617 = .ok (.aload_n 3, 1) := by decide +kernel
theorem dL_law_618 : decode cL_law 618 = .ok (.invokestatic 117, 3) := by decide +kernel
theorem dL_law_621 : decode cL_law 621 = .ok (.istore 5, 2) := by decide +kernel
theorem dL_law_623 : decode cL_law 623 = .ok (.aload_n 2, 1) := by decide +kernel
theorem dL_law_624 : decode cL_law 624 = .ok (.aload_n 0, 1) := by decide +kernel
theorem dL_law_625 : decode cL_law 625 = .ok (.iload 4, 2) := by decide +kernel
theorem dL_law_627 : decode cL_law 627 = .ok (.iconst 1, 1) := by decide +kernel
theorem dL_law_628 : decode cL_law 628 = .ok (.iadd, 1) := by decide +kernel
theorem dL_law_629 : decode cL_law 629 = .ok (.iaload, 1) := by decide +kernel
theorem dL_law_630 : decode cL_law 630 = .ok (.aload_n 0, 1) := by decide +kernel
theorem dL_law_631 : decode cL_law 631 = .ok (.iload 4, 2) := by decide +kernel
theorem dL_law_633 : decode cL_law 633 = .ok (.iconst 2, 1) := by decide +kernel
theorem dL_law_634 : decode cL_law 634 = .ok (.iadd, 1) := by decide +kernel
theorem dL_law_635 : decode cL_law 635 = .ok (.iaload, 1) := by decide +kernel
theorem dL_law_636 : decode cL_law 636 = .ok (.invokevirtual 119, 3) := by decide +kernel
theorem dL_law_639 : decode cL_law 639 = .ok (.istore 6, 2) := by decide +kernel
theorem dL_law_641 : decode cL_law 641 = .ok (.aload_n 2, 1) := by decide +kernel
theorem dL_law_642 : decode cL_law 642 = .ok (.invokevirtual 87, 3) := by decide +kernel
theorem dL_law_645 : decode cL_law 645 = .ok (.iload 5, 2) := by decide +kernel
theorem dL_law_647 : decode cL_law 647 = .ok (.if_icmp .eq 5, 3) := by decide +kernel
theorem dL_law_650 : decode cL_law 650 = .ok (.iconst 0, 1) := by decide +kernel
theorem dL_law_651 : decode cL_law 651 = .ok (.ireturn, 1) := by decide +kernel
theorem dL_law_652 : decode cL_law 652 = .ok (.iload 5, 2) := by decide +kernel
theorem dL_law_654 : decode cL_law 654 = .ok (.ifCond .ne 15, 3) := by decide +kernel
theorem dL_law_657 : decode cL_law 657 = .ok (.aload_n 3, 1) := by decide +kernel
theorem dL_law_658 : decode cL_law 658 = .ok (.iconst 0, 1) := by decide +kernel
theorem dL_law_659 : decode cL_law 659 = .ok (.laload, 1) := by decide +kernel
theorem dL_law_660 : decode cL_law 660 = .ok (.iload 6, 2) := by decide +kernel
theorem dL_law_662 : decode cL_law 662 = .ok (.i2l, 1) := by decide +kernel
theorem dL_law_663 : decode cL_law 663 = .ok (.lcmp, 1) := by decide +kernel
theorem dL_law_664 : decode cL_law 664 = .ok (.ifCond .eq 5, 3) := by decide +kernel
theorem dL_law_667 : decode cL_law 667 = .ok (.iconst 0, 1) := by decide +kernel
theorem dL_law_668 : decode cL_law 668 = .ok (.ireturn, 1) := by decide +kernel
theorem dL_law_669 : decode cL_law 669 = .ok (.goto 840, 3) := by decide +kernel
theorem dL_law_672 : decode cL_law 672 = .ok (.aload_n 1, 1) := by decide +kernel
theorem dL_law_673 : decode cL_law 673 = .ok (.aload_n 0, 1) := by decide +kernel
theorem dL_law_674 : decode cL_law 674 = .ok (.iload 4, 2) := by decide +kernel
theorem dL_law_676 : decode cL_law 676 = .ok (.iconst 1, 1) := by decide +kernel
theorem dL_law_677 : decode cL_law 677 = .ok (.iadd, 1) := by decide +kernel
theorem dL_law_678 : decode cL_law 678 = .ok (.iaload, 1) := by decide +kernel
theorem dL_law_679 : decode cL_law 679 = .ok (.aload_n 0, 1) := by decide +kernel
theorem dL_law_680 : decode cL_law 680 = .ok (.iload 4, 2) := by decide +kernel
theorem dL_law_682 : decode cL_law 682 = .ok (.iconst 2, 1) := by decide +kernel
theorem dL_law_683 : decode cL_law 683 = .ok (.iadd, 1) := by decide +kernel
theorem dL_law_684 : decode cL_law 684 = .ok (.iaload, 1) := by decide +kernel
theorem dL_law_685 : decode cL_law 685 = .ok (.aload_n 3, 1) := by decide +kernel
theorem dL_law_686 : decode cL_law 686 = .ok (.invokestatic 120, 3) := by decide +kernel
theorem dL_law_689 : decode cL_law 689 = .ok (.istore 5, 2) := by decide +kernel
theorem dL_law_691 : decode cL_law 691 = .ok (.aload_n 2, 1) := by decide +kernel
theorem dL_law_692 : decode cL_law 692 = .ok (.aload_n 0, 1) := by decide +kernel
theorem dL_law_693 : decode cL_law 693 = .ok (.iload 4, 2) := by decide +kernel
theorem dL_law_695 : decode cL_law 695 = .ok (.iconst 1, 1) := by decide +kernel
theorem dL_law_696 : decode cL_law 696 = .ok (.iadd, 1) := by decide +kernel
theorem dL_law_697 : decode cL_law 697 = .ok (.iaload, 1) := by decide +kernel
theorem dL_law_698 : decode cL_law 698 = .ok (.aload_n 0, 1) := by decide +kernel
theorem dL_law_699 : decode cL_law 699 = .ok (.iload 4, 2) := by decide +kernel
theorem dL_law_701 : decode cL_law 701 = .ok (.iconst 2, 1) := by decide +kernel
theorem dL_law_702 : decode cL_law 702 = .ok (.iadd, 1) := by decide +kernel
theorem dL_law_703 : decode cL_law 703 = .ok (.iaload, 1) := by decide +kernel
theorem dL_law_704 : decode cL_law 704 = .ok (.invokevirtual 122, 3) := by decide +kernel
theorem dL_law_707 : decode cL_law 707 = .ok (.istore 6, 2) := by decide +kernel
theorem dL_law_709 : decode cL_law 709 = .ok (.aload_n 2, 1) := by decide +kernel
theorem dL_law_710 : decode cL_law 710 = .ok (.invokevirtual 87, 3) := by decide +kernel
theorem dL_law_713 : decode cL_law 713 = .ok (.iload 5, 2) := by decide +kernel
theorem dL_law_715 : decode cL_law 715 = .ok (.if_icmp .eq 5, 3) := by decide +kernel
theorem dL_law_718 : decode cL_law 718 = .ok (.iconst 0, 1) := by decide +kernel
theorem dL_law_719 : decode cL_law 719 = .ok (.ireturn, 1) := by decide +kernel
theorem dL_law_720 : decode cL_law 720 = .ok (.iload 5, 2) := by decide +kernel
theorem dL_law_722 : decode cL_law 722 = .ok (.ifCond .ne 15, 3) := by decide +kernel
theorem dL_law_725 : decode cL_law 725 = .ok (.aload_n 3, 1) := by decide +kernel
theorem dL_law_726 : decode cL_law 726 = .ok (.iconst 0, 1) := by decide +kernel
theorem dL_law_727 : decode cL_law 727 = .ok (.laload, 1) := by decide +kernel
theorem dL_law_728 : decode cL_law 728 = .ok (.iload 6, 2) := by decide +kernel
theorem dL_law_730 : decode cL_law 730 = .ok (.i2l, 1) := by decide +kernel
theorem dL_law_731 : decode cL_law 731 = .ok (.lcmp, 1) := by decide +kernel
theorem dL_law_732 : decode cL_law 732 = .ok (.ifCond .eq 5, 3) := by decide +kernel
theorem dL_law_735 : decode cL_law 735 = .ok (.iconst 0, 1) := by decide +kernel
theorem dL_law_736 : decode cL_law 736 = .ok (.ireturn, 1) := by decide +kernel
theorem dL_law_737 : decode cL_law 737 = .ok (.goto 772, 3) := by decide +kernel
theorem dL_law_740 : decode cL_law 740 = .ok (.aload_n 1, 1) := by decide +kernel
theorem dL_law_741 : decode cL_law 741 = .ok (.aload_n 0, 1) := by decide +kernel
theorem dL_law_742 : decode cL_law 742 = .ok (.iload 4, 2) := by decide +kernel
theorem dL_law_744 : decode cL_law 744 = .ok (.iconst 1, 1) := by decide +kernel
theorem dL_law_745 : decode cL_law 745 = .ok (.iadd, 1) := by decide +kernel
theorem dL_law_746 : decode cL_law 746 = .ok (.iaload, 1) := by decide +kernel
theorem dL_law_747 : decode cL_law 747 = .ok (.aload_n 3, 1) := by decide +kernel
theorem dL_law_748 : decode cL_law 748 = .ok (.invokestatic 123, 3) := by decide +kernel
theorem dL_law_751 : decode cL_law 751 = .ok (.istore 5, 2) := by decide +kernel
theorem dL_law_753 : decode cL_law 753 = .ok (.aload_n 2, 1) := by decide +kernel
theorem dL_law_754 : decode cL_law 754 = .ok (.aload_n 0, 1) := by decide +kernel
theorem dL_law_755 : decode cL_law 755 = .ok (.iload 4, 2) := by decide +kernel
theorem dL_law_757 : decode cL_law 757 = .ok (.iconst 1, 1) := by decide +kernel
theorem dL_law_758 : decode cL_law 758 = .ok (.iadd, 1) := by decide +kernel
theorem dL_law_759 : decode cL_law 759 = .ok (.iaload, 1) := by decide +kernel
theorem dL_law_760 : decode cL_law 760 = .ok (.invokevirtual 125, 3) := by decide +kernel
theorem dL_law_763 : decode cL_law 763 = .ok (.istore 6, 2) := by decide +kernel
theorem dL_law_765 : decode cL_law 765 = .ok (.aload_n 2, 1) := by decide +kernel
theorem dL_law_766 : decode cL_law 766 = .ok (.invokevirtual 87, 3) := by decide +kernel
theorem dL_law_769 : decode cL_law 769 = .ok (.iload 5, 2) := by decide +kernel
theorem dL_law_771 : decode cL_law 771 = .ok (.if_icmp .eq 5, 3) := by decide +kernel
theorem dL_law_774 : decode cL_law 774 = .ok (.iconst 0, 1) := by decide +kernel
theorem dL_law_775 : decode cL_law 775 = .ok (.ireturn, 1) := by decide +kernel
theorem dL_law_776 : decode cL_law 776 = .ok (.iload 5, 2) := by decide +kernel
theorem dL_law_778 : decode cL_law 778 = .ok (.ifCond .ne 15, 3) := by decide +kernel
theorem dL_law_781 : decode cL_law 781 = .ok (.aload_n 3, 1) := by decide +kernel
theorem dL_law_782 : decode cL_law 782 = .ok (.iconst 0, 1) := by decide +kernel
theorem dL_law_783 : decode cL_law 783 = .ok (.laload, 1) := by decide +kernel
theorem dL_law_784 : decode cL_law 784 = .ok (.iload 6, 2) := by decide +kernel
theorem dL_law_786 : decode cL_law 786 = .ok (.i2l, 1) := by decide +kernel
theorem dL_law_787 : decode cL_law 787 = .ok (.lcmp, 1) := by decide +kernel
theorem dL_law_788 : decode cL_law 788 = .ok (.ifCond .eq 5, 3) := by decide +kernel
theorem dL_law_791 : decode cL_law 791 = .ok (.iconst 0, 1) := by decide +kernel
theorem dL_law_792 : decode cL_law 792 = .ok (.ireturn, 1) := by decide +kernel
theorem dL_law_793 : decode cL_law 793 = .ok (.goto 716, 3) := by decide +kernel
theorem dL_law_796 : decode cL_law 796 = .ok (.aload_n 1, 1) := by decide +kernel
theorem dL_law_797 : decode cL_law 797 = .ok (.invokevirtual 126, 3) := by decide +kernel
theorem dL_law_800 : decode cL_law 800 = .ok (.aload_n 2, 1) := by decide +kernel
theorem dL_law_801 : decode cL_law 801 = .ok (.invokevirtual 129, 3) := by decide +kernel
theorem dL_law_804 : decode cL_law 804 = .ok (.if_icmp .eq 705, 3) := by decide +kernel
theorem dL_law_807 : decode cL_law 807 = .ok (.iconst 0, 1) := by decide +kernel
theorem dL_law_808 : decode cL_law 808 = .ok (.ireturn, 1) := by decide +kernel
theorem dL_law_809 : decode cL_law 809 = .ok (.aload_n 1, 1) := by decide +kernel
theorem dL_law_810 : decode cL_law 810 = .ok (.aload_n 0, 1) := by decide +kernel
theorem dL_law_811 : decode cL_law 811 = .ok (.iload 4, 2) := by decide +kernel
theorem dL_law_813 : decode cL_law 813 = .ok (.iconst 1, 1) := by decide +kernel
theorem dL_law_814 : decode cL_law 814 = .ok (.iadd, 1) := by decide +kernel
theorem dL_law_815 : decode cL_law 815 = .ok (.iaload, 1) := by decide +kernel
theorem dL_law_816 : decode cL_law 816 = .ok (.aload_n 3, 1) := by decide +kernel
theorem dL_law_817 : decode cL_law 817 = .ok (.invokestatic 130, 3) := by decide +kernel
theorem dL_law_820 : decode cL_law 820 = .ok (.istore 5, 2) := by decide +kernel
theorem dL_law_822 : decode cL_law 822 = .ok (.aload_n 2, 1) := by decide +kernel
theorem dL_law_823 : decode cL_law 823 = .ok (.aload_n 0, 1) := by decide +kernel
theorem dL_law_824 : decode cL_law 824 = .ok (.iload 4, 2) := by decide +kernel
theorem dL_law_826 : decode cL_law 826 = .ok (.iconst 1, 1) := by decide +kernel
theorem dL_law_827 : decode cL_law 827 = .ok (.iadd, 1) := by decide +kernel
theorem dL_law_828 : decode cL_law 828 = .ok (.iaload, 1) := by decide +kernel
theorem dL_law_829 : decode cL_law 829 = .ok (.invokevirtual 132, 3) := by decide +kernel
theorem dL_law_832 : decode cL_law 832 = .ok (.istore 6, 2) := by decide +kernel
theorem dL_law_834 : decode cL_law 834 = .ok (.aload_n 2, 1) := by decide +kernel
theorem dL_law_835 : decode cL_law 835 = .ok (.invokevirtual 87, 3) := by decide +kernel
theorem dL_law_838 : decode cL_law 838 = .ok (.iload 5, 2) := by decide +kernel
theorem dL_law_840 : decode cL_law 840 = .ok (.if_icmp .eq 5, 3) := by decide +kernel
theorem dL_law_843 : decode cL_law 843 = .ok (.iconst 0, 1) := by decide +kernel
theorem dL_law_844 : decode cL_law 844 = .ok (.ireturn, 1) := by decide +kernel
theorem dL_law_845 : decode cL_law 845 = .ok (.iload 5, 2) := by decide +kernel
theorem dL_law_847 : decode cL_law 847 = .ok (.ifCond .ne 15, 3) := by decide +kernel
theorem dL_law_850 : decode cL_law 850 = .ok (.aload_n 3, 1) := by decide +kernel
theorem dL_law_851 : decode cL_law 851 = .ok (.iconst 0, 1) := by decide +kernel
theorem dL_law_852 : decode cL_law 852 = .ok (.laload, 1) := by decide +kernel
theorem dL_law_853 : decode cL_law 853 = .ok (.iload 6, 2) := by decide +kernel
theorem dL_law_855 : decode cL_law 855 = .ok (.i2l, 1) := by decide +kernel
theorem dL_law_856 : decode cL_law 856 = .ok (.lcmp, 1) := by decide +kernel
theorem dL_law_857 : decode cL_law 857 = .ok (.ifCond .eq 5, 3) := by decide +kernel
theorem dL_law_860 : decode cL_law 860 = .ok (.iconst 0, 1) := by decide +kernel
theorem dL_law_861 : decode cL_law 861 = .ok (.ireturn, 1) := by decide +kernel
theorem dL_law_862 : decode cL_law 862 = .ok (.goto 647, 3) := by decide +kernel
theorem dL_law_865 : decode cL_law 865 = .ok (.aload_n 1, 1) := by decide +kernel
theorem dL_law_866 : decode cL_law 866 = .ok (.invokevirtual 133, 3) := by decide +kernel
theorem dL_law_869 : decode cL_law 869 = .ok (.aload_n 2, 1) := by decide +kernel
theorem dL_law_870 : decode cL_law 870 = .ok (.invokevirtual 136, 3) := by decide +kernel
theorem dL_law_873 : decode cL_law 873 = .ok (.if_icmp .eq 636, 3) := by decide +kernel
theorem dL_law_876 : decode cL_law 876 = .ok (.iconst 0, 1) := by decide +kernel
theorem dL_law_877 : decode cL_law 877 = .ok (.ireturn, 1) := by decide +kernel
theorem dL_law_878 : decode cL_law 878 = .ok (.aload_n 1, 1) := by decide +kernel
theorem dL_law_879 : decode cL_law 879 = .ok (.aload_n 0, 1) := by decide +kernel
theorem dL_law_880 : decode cL_law 880 = .ok (.iload 4, 2) := by decide +kernel
theorem dL_law_882 : decode cL_law 882 = .ok (.iconst 1, 1) := by decide +kernel
theorem dL_law_883 : decode cL_law 883 = .ok (.iadd, 1) := by decide +kernel
theorem dL_law_884 : decode cL_law 884 = .ok (.iaload, 1) := by decide +kernel
theorem dL_law_885 : decode cL_law 885 = .ok (.aload_n 3, 1) := by decide +kernel
theorem dL_law_886 : decode cL_law 886 = .ok (.invokestatic 137, 3) := by decide +kernel
theorem dL_law_889 : decode cL_law 889 = .ok (.istore 5, 2) := by decide +kernel
theorem dL_law_891 : decode cL_law 891 = .ok (.aload_n 2, 1) := by decide +kernel
theorem dL_law_892 : decode cL_law 892 = .ok (.aload_n 0, 1) := by decide +kernel
theorem dL_law_893 : decode cL_law 893 = .ok (.iload 4, 2) := by decide +kernel
theorem dL_law_895 : decode cL_law 895 = .ok (.iconst 1, 1) := by decide +kernel
theorem dL_law_896 : decode cL_law 896 = .ok (.iadd, 1) := by decide +kernel
theorem dL_law_897 : decode cL_law 897 = .ok (.iaload, 1) := by decide +kernel
theorem dL_law_898 : decode cL_law 898 = .ok (.invokevirtual 139, 3) := by decide +kernel
theorem dL_law_901 : decode cL_law 901 = .ok (.istore 6, 2) := by decide +kernel
theorem dL_law_903 : decode cL_law 903 = .ok (.aload_n 2, 1) := by decide +kernel
theorem dL_law_904 : decode cL_law 904 = .ok (.invokevirtual 87, 3) := by decide +kernel
theorem dL_law_907 : decode cL_law 907 = .ok (.iload 5, 2) := by decide +kernel
theorem dL_law_909 : decode cL_law 909 = .ok (.if_icmp .eq 5, 3) := by decide +kernel
theorem dL_law_912 : decode cL_law 912 = .ok (.iconst 0, 1) := by decide +kernel
theorem dL_law_913 : decode cL_law 913 = .ok (.ireturn, 1) := by decide +kernel
theorem dL_law_914 : decode cL_law 914 = .ok (.iload 5, 2) := by decide +kernel
theorem dL_law_916 : decode cL_law 916 = .ok (.ifCond .ne 15, 3) := by decide +kernel
theorem dL_law_919 : decode cL_law 919 = .ok (.aload_n 3, 1) := by decide +kernel
theorem dL_law_920 : decode cL_law 920 = .ok (.iconst 0, 1) := by decide +kernel
theorem dL_law_921 : decode cL_law 921 = .ok (.laload, 1) := by decide +kernel
theorem dL_law_922 : decode cL_law 922 = .ok (.iload 6, 2) := by decide +kernel
theorem dL_law_924 : decode cL_law 924 = .ok (.i2l, 1) := by decide +kernel
theorem dL_law_925 : decode cL_law 925 = .ok (.lcmp, 1) := by decide +kernel
theorem dL_law_926 : decode cL_law 926 = .ok (.ifCond .eq 5, 3) := by decide +kernel
theorem dL_law_929 : decode cL_law 929 = .ok (.iconst 0, 1) := by decide +kernel
theorem dL_law_930 : decode cL_law 930 = .ok (.ireturn, 1) := by decide +kernel
theorem dL_law_931 : decode cL_law 931 = .ok (.goto 578, 3) := by decide +kernel
theorem dL_law_934 : decode cL_law 934 = .ok (.aload_n 1, 1) := by decide +kernel
theorem dL_law_935 : decode cL_law 935 = .ok (.invokevirtual 140, 3) := by decide +kernel
theorem dL_law_938 : decode cL_law 938 = .ok (.aload_n 2, 1) := by decide +kernel
theorem dL_law_939 : decode cL_law 939 = .ok (.invokevirtual 143, 3) := by decide +kernel
theorem dL_law_942 : decode cL_law 942 = .ok (.if_icmp .eq 567, 3) := by decide +kernel
theorem dL_law_945 : decode cL_law 945 = .ok (.iconst 0, 1) := by decide +kernel
theorem dL_law_946 : decode cL_law 946 = .ok (.ireturn, 1) := by decide +kernel
theorem dL_law_947 : decode cL_law 947 = .ok (.aload_n 1, 1) := by decide +kernel
theorem dL_law_948 : decode cL_law 948 = .ok (.aload_n 0, 1) := by decide +kernel
theorem dL_law_949 : decode cL_law 949 = .ok (.iload 4, 2) := by decide +kernel
theorem dL_law_951 : decode cL_law 951 = .ok (.iconst 1, 1) := by decide +kernel
theorem dL_law_952 : decode cL_law 952 = .ok (.iadd, 1) := by decide +kernel
theorem dL_law_953 : decode cL_law 953 = .ok (.iaload, 1) := by decide +kernel
theorem dL_law_954 : decode cL_law 954 = .ok (.aload_n 3, 1) := by decide +kernel
theorem dL_law_955 : decode cL_law 955 = .ok (.invokestatic 144, 3) := by decide +kernel
theorem dL_law_958 : decode cL_law 958 = .ok (.istore 5, 2) := by decide +kernel
theorem dL_law_960 : decode cL_law 960 = .ok (.aload_n 2, 1) := by decide +kernel
theorem dL_law_961 : decode cL_law 961 = .ok (.aload_n 0, 1) := by decide +kernel
theorem dL_law_962 : decode cL_law 962 = .ok (.iload 4, 2) := by decide +kernel
theorem dL_law_964 : decode cL_law 964 = .ok (.iconst 1, 1) := by decide +kernel
theorem dL_law_965 : decode cL_law 965 = .ok (.iadd, 1) := by decide +kernel
theorem dL_law_966 : decode cL_law 966 = .ok (.iaload, 1) := by decide +kernel
theorem dL_law_967 : decode cL_law 967 = .ok (.invokevirtual 146, 3) := by decide +kernel
theorem dL_law_970 : decode cL_law 970 = .ok (.istore 6, 2) := by decide +kernel
theorem dL_law_972 : decode cL_law 972 = .ok (.aload_n 2, 1) := by decide +kernel
theorem dL_law_973 : decode cL_law 973 = .ok (.invokevirtual 87, 3) := by decide +kernel
theorem dL_law_976 : decode cL_law 976 = .ok (.iload 5, 2) := by decide +kernel
theorem dL_law_978 : decode cL_law 978 = .ok (.if_icmp .eq 5, 3) := by decide +kernel
theorem dL_law_981 : decode cL_law 981 = .ok (.iconst 0, 1) := by decide +kernel
theorem dL_law_982 : decode cL_law 982 = .ok (.ireturn, 1) := by decide +kernel
theorem dL_law_983 : decode cL_law 983 = .ok (.iload 5, 2) := by decide +kernel
theorem dL_law_985 : decode cL_law 985 = .ok (.ifCond .ne 15, 3) := by decide +kernel
theorem dL_law_988 : decode cL_law 988 = .ok (.aload_n 3, 1) := by decide +kernel
theorem dL_law_989 : decode cL_law 989 = .ok (.iconst 0, 1) := by decide +kernel
theorem dL_law_990 : decode cL_law 990 = .ok (.laload, 1) := by decide +kernel
theorem dL_law_991 : decode cL_law 991 = .ok (.iload 6, 2) := by decide +kernel
theorem dL_law_993 : decode cL_law 993 = .ok (.i2l, 1) := by decide +kernel
theorem dL_law_994 : decode cL_law 994 = .ok (.lcmp, 1) := by decide +kernel
theorem dL_law_995 : decode cL_law 995 = .ok (.ifCond .eq 5, 3) := by decide +kernel
theorem dL_law_998 : decode cL_law 998 = .ok (.iconst 0, 1) := by decide +kernel
theorem dL_law_999 : decode cL_law 999 = .ok (.ireturn, 1) := by decide +kernel
theorem dL_law_1000 : decode cL_law 1000 = .ok (.goto 509, 3) := by decide +kernel
theorem dL_law_1003 : decode cL_law 1003 = .ok (.aload_n 1, 1) := by decide +kernel
theorem dL_law_1004 : decode cL_law 1004 = .ok (.invokevirtual 147, 3) := by decide +kernel
theorem dL_law_1007 : decode cL_law 1007 = .ok (.aload_n 2, 1) := by decide +kernel
theorem dL_law_1008 : decode cL_law 1008 = .ok (.invokevirtual 150, 3) := by decide +kernel
theorem dL_law_1011 : decode cL_law 1011 = .ok (.if_icmp .eq 498, 3) := by decide +kernel
theorem dL_law_1014 : decode cL_law 1014 = .ok (.iconst 0, 1) := by decide +kernel
theorem dL_law_1015 : decode cL_law 1015 = .ok (.ireturn, 1) := by decide +kernel
theorem dL_law_1016 : decode cL_law 1016 = .ok (.aload_n 1, 1) := by decide +kernel
theorem dL_law_1017 : decode cL_law 1017 = .ok (.invokevirtual 151, 3) := by decide +kernel
theorem dL_law_1020 : decode cL_law 1020 = .ok (.aload_n 2, 1) := by decide +kernel
theorem dL_law_1021 : decode cL_law 1021 = .ok (.invokevirtual 154, 3) := by decide +kernel
theorem dL_law_1024 : decode cL_law 1024 = .ok (.if_icmp .eq 485, 3) := by decide +kernel
theorem dL_law_1027 : decode cL_law 1027 = .ok (.iconst 0, 1) := by decide +kernel
theorem dL_law_1028 : decode cL_law 1028 = .ok (.ireturn, 1) := by decide +kernel
theorem dL_law_1029 : decode cL_law 1029 = .ok (.aload_n 1, 1) := by decide +kernel
theorem dL_law_1030 : decode cL_law 1030 = .ok (.aload_n 0, 1) := by decide +kernel
theorem dL_law_1031 : decode cL_law 1031 = .ok (.iload 4, 2) := by decide +kernel
theorem dL_law_1033 : decode cL_law 1033 = .ok (.iconst 1, 1) := by decide +kernel
theorem dL_law_1034 : decode cL_law 1034 = .ok (.iadd, 1) := by decide +kernel
theorem dL_law_1035 : decode cL_law 1035 = .ok (.iaload, 1) := by decide +kernel
theorem dL_law_1036 : decode cL_law 1036 = .ok (.aload_n 0, 1) := by decide +kernel
theorem dL_law_1037 : decode cL_law 1037 = .ok (.iload 4, 2) := by decide +kernel
theorem dL_law_1039 : decode cL_law 1039 = .ok (.iconst 2, 1) := by decide +kernel
theorem dL_law_1040 : decode cL_law 1040 = .ok (.iadd, 1) := by decide +kernel
theorem dL_law_1041 : decode cL_law 1041 = .ok (.iaload, 1) := by decide +kernel
theorem dL_law_1042 : decode cL_law 1042 = .ok (.aload_n 3, 1) := by decide +kernel
theorem dL_law_1043 : decode cL_law 1043 = .ok (.invokestatic 155, 3) := by decide +kernel
theorem dL_law_1046 : decode cL_law 1046 = .ok (.istore 5, 2) := by decide +kernel
theorem dL_law_1048 : decode cL_law 1048 = .ok (.aload_n 2, 1) := by decide +kernel
theorem dL_law_1049 : decode cL_law 1049 = .ok (.aload_n 0, 1) := by decide +kernel
theorem dL_law_1050 : decode cL_law 1050 = .ok (.iload 4, 2) := by decide +kernel
theorem dL_law_1052 : decode cL_law 1052 = .ok (.iconst 1, 1) := by decide +kernel
theorem dL_law_1053 : decode cL_law 1053 = .ok (.iadd, 1) := by decide +kernel
theorem dL_law_1054 : decode cL_law 1054 = .ok (.iaload, 1) := by decide +kernel
theorem dL_law_1055 : decode cL_law 1055 = .ok (.aload_n 0, 1) := by decide +kernel
theorem dL_law_1056 : decode cL_law 1056 = .ok (.iload 4, 2) := by decide +kernel
theorem dL_law_1058 : decode cL_law 1058 = .ok (.iconst 2, 1) := by decide +kernel
theorem dL_law_1059 : decode cL_law 1059 = .ok (.iadd, 1) := by decide +kernel
theorem dL_law_1060 : decode cL_law 1060 = .ok (.iaload, 1) := by decide +kernel
theorem dL_law_1061 : decode cL_law 1061 = .ok (.invokevirtual 157, 3) := by decide +kernel
theorem dL_law_1064 : decode cL_law 1064 = .ok (.istore 6, 2) := by decide +kernel
theorem dL_law_1066 : decode cL_law 1066 = .ok (.aload_n 2, 1) := by decide +kernel
theorem dL_law_1067 : decode cL_law 1067 = .ok (.invokevirtual 87, 3) := by decide +kernel
theorem dL_law_1070 : decode cL_law 1070 = .ok (.iload 5, 2) := by decide +kernel
theorem dL_law_1072 : decode cL_law 1072 = .ok (.if_icmp .eq 5, 3) := by decide +kernel
theorem dL_law_1075 : decode cL_law 1075 = .ok (.iconst 0, 1) := by decide +kernel
theorem dL_law_1076 : decode cL_law 1076 = .ok (.ireturn, 1) := by decide +kernel
theorem dL_law_1077 : decode cL_law 1077 = .ok (.iload 5, 2) := by decide +kernel
theorem dL_law_1079 : decode cL_law 1079 = .ok (.ifCond .ne 22, 3) := by decide +kernel
theorem dL_law_1082 : decode cL_law 1082 = .ok (.aload_n 3, 1) := by decide +kernel
theorem dL_law_1083 : decode cL_law 1083 = .ok (.iconst 0, 1) := by decide +kernel
theorem dL_law_1084 : decode cL_law 1084 = .ok (.laload, 1) := by decide +kernel
theorem dL_law_1085 : decode cL_law 1085 = .ok (.iload 6, 2) := by decide +kernel
theorem dL_law_1087 : decode cL_law 1087 = .ok (.ifCond .eq 7, 3) := by decide +kernel
theorem dL_law_1090 : decode cL_law 1090 = .ok (.lconst 1, 1) := by decide +kernel
theorem dL_law_1091 : decode cL_law 1091 = .ok (.goto 4, 3) := by decide +kernel
theorem dL_law_1094 : decode cL_law 1094 = .ok (.lconst 0, 1) := by decide +kernel
theorem dL_law_1095 : decode cL_law 1095 = .ok (.lcmp, 1) := by decide +kernel
theorem dL_law_1096 : decode cL_law 1096 = .ok (.ifCond .eq 5, 3) := by decide +kernel
theorem dL_law_1099 : decode cL_law 1099 = .ok (.iconst 0, 1) := by decide +kernel
theorem dL_law_1100 : decode cL_law 1100 = .ok (.ireturn, 1) := by decide +kernel
theorem dL_law_1101 : decode cL_law 1101 = .ok (.goto 408, 3) := by decide +kernel
theorem dL_law_1104 : decode cL_law 1104 = .ok (.aload_n 1, 1) := by decide +kernel
theorem dL_law_1105 : decode cL_law 1105 = .ok (.aload_n 0, 1) := by decide +kernel
theorem dL_law_1106 : decode cL_law 1106 = .ok (.iload 4, 2) := by decide +kernel
theorem dL_law_1108 : decode cL_law 1108 = .ok (.iconst 1, 1) := by decide +kernel
theorem dL_law_1109 : decode cL_law 1109 = .ok (.iadd, 1) := by decide +kernel
theorem dL_law_1110 : decode cL_law 1110 = .ok (.iaload, 1) := by decide +kernel
theorem dL_law_1111 : decode cL_law 1111 = .ok (.aload_n 0, 1) := by decide +kernel
theorem dL_law_1112 : decode cL_law 1112 = .ok (.iload 4, 2) := by decide +kernel
theorem dL_law_1114 : decode cL_law 1114 = .ok (.iconst 2, 1) := by decide +kernel
theorem dL_law_1115 : decode cL_law 1115 = .ok (.iadd, 1) := by decide +kernel
theorem dL_law_1116 : decode cL_law 1116 = .ok (.iaload, 1) := by decide +kernel
theorem dL_law_1117 : decode cL_law 1117 = .ok (.aload_n 3, 1) := by decide +kernel
theorem dL_law_1118 : decode cL_law 1118 = .ok (.invokestatic 158, 3) := by decide +kernel
theorem dL_law_1121 : decode cL_law 1121 = .ok (.istore 5, 2) := by decide +kernel
theorem dL_law_1123 : decode cL_law 1123 = .ok (.aload_n 2, 1) := by decide +kernel
theorem dL_law_1124 : decode cL_law 1124 = .ok (.aload_n 0, 1) := by decide +kernel
theorem dL_law_1125 : decode cL_law 1125 = .ok (.iload 4, 2) := by decide +kernel
theorem dL_law_1127 : decode cL_law 1127 = .ok (.iconst 1, 1) := by decide +kernel
theorem dL_law_1128 : decode cL_law 1128 = .ok (.iadd, 1) := by decide +kernel
theorem dL_law_1129 : decode cL_law 1129 = .ok (.iaload, 1) := by decide +kernel
theorem dL_law_1130 : decode cL_law 1130 = .ok (.aload_n 0, 1) := by decide +kernel
theorem dL_law_1131 : decode cL_law 1131 = .ok (.iload 4, 2) := by decide +kernel
theorem dL_law_1133 : decode cL_law 1133 = .ok (.iconst 2, 1) := by decide +kernel
theorem dL_law_1134 : decode cL_law 1134 = .ok (.iadd, 1) := by decide +kernel
theorem dL_law_1135 : decode cL_law 1135 = .ok (.iaload, 1) := by decide +kernel
theorem dL_law_1136 : decode cL_law 1136 = .ok (.invokevirtual 160, 3) := by decide +kernel
theorem dL_law_1139 : decode cL_law 1139 = .ok (.istore 6, 2) := by decide +kernel
theorem dL_law_1141 : decode cL_law 1141 = .ok (.aload_n 2, 1) := by decide +kernel
theorem dL_law_1142 : decode cL_law 1142 = .ok (.invokevirtual 87, 3) := by decide +kernel
theorem dL_law_1145 : decode cL_law 1145 = .ok (.iload 5, 2) := by decide +kernel
theorem dL_law_1147 : decode cL_law 1147 = .ok (.if_icmp .eq 5, 3) := by decide +kernel
theorem dL_law_1150 : decode cL_law 1150 = .ok (.iconst 0, 1) := by decide +kernel
theorem dL_law_1151 : decode cL_law 1151 = .ok (.ireturn, 1) := by decide +kernel
theorem dL_law_1152 : decode cL_law 1152 = .ok (.iload 5, 2) := by decide +kernel
theorem dL_law_1154 : decode cL_law 1154 = .ok (.ifCond .ne 15, 3) := by decide +kernel
theorem dL_law_1157 : decode cL_law 1157 = .ok (.aload_n 3, 1) := by decide +kernel
theorem dL_law_1158 : decode cL_law 1158 = .ok (.iconst 0, 1) := by decide +kernel
theorem dL_law_1159 : decode cL_law 1159 = .ok (.laload, 1) := by decide +kernel
theorem dL_law_1160 : decode cL_law 1160 = .ok (.iload 6, 2) := by decide +kernel
theorem dL_law_1162 : decode cL_law 1162 = .ok (.i2l, 1) := by decide +kernel
theorem dL_law_1163 : decode cL_law 1163 = .ok (.lcmp, 1) := by decide +kernel
theorem dL_law_1164 : decode cL_law 1164 = .ok (.ifCond .eq 5, 3) := by decide +kernel
theorem dL_law_1167 : decode cL_law 1167 = .ok (.iconst 0, 1) := by decide +kernel
theorem dL_law_1168 : decode cL_law 1168 = .ok (.ireturn, 1) := by decide +kernel
theorem dL_law_1169 : decode cL_law 1169 = .ok (.goto 340, 3) := by decide +kernel
theorem dL_law_1172 : decode cL_law 1172 = .ok (.aload_n 1, 1) := by decide +kernel
theorem dL_law_1173 : decode cL_law 1173 = .ok (.invokevirtual 161, 3) := by decide +kernel
theorem dL_law_1176 : decode cL_law 1176 = .ok (.aload_n 2, 1) := by decide +kernel
theorem dL_law_1177 : decode cL_law 1177 = .ok (.invokevirtual 164, 3) := by decide +kernel
theorem dL_law_1180 : decode cL_law 1180 = .ok (.if_icmp .eq 329, 3) := by decide +kernel
theorem dL_law_1183 : decode cL_law 1183 = .ok (.iconst 0, 1) := by decide +kernel
theorem dL_law_1184 : decode cL_law 1184 = .ok (.ireturn, 1) := by decide +kernel
theorem dL_law_1185 : decode cL_law 1185 = .ok (.aload_n 1, 1) := by decide +kernel
theorem dL_law_1186 : decode cL_law 1186 = .ok (.aload_n 0, 1) := by decide +kernel
theorem dL_law_1187 : decode cL_law 1187 = .ok (.iload 4, 2) := by decide +kernel
theorem dL_law_1189 : decode cL_law 1189 = .ok (.iconst 1, 1) := by decide +kernel
theorem dL_law_1190 : decode cL_law 1190 = .ok (.iadd, 1) := by decide +kernel
theorem dL_law_1191 : decode cL_law 1191 = .ok (.iaload, 1) := by decide +kernel
theorem dL_law_1192 : decode cL_law 1192 = .ok (.aload_n 0, 1) := by decide +kernel
theorem dL_law_1193 : decode cL_law 1193 = .ok (.iload 4, 2) := by decide +kernel
theorem dL_law_1195 : decode cL_law 1195 = .ok (.iconst 2, 1) := by decide +kernel
theorem dL_law_1196 : decode cL_law 1196 = .ok (.iadd, 1) := by decide +kernel
theorem dL_law_1197 : decode cL_law 1197 = .ok (.iaload, 1) := by decide +kernel
theorem dL_law_1198 : decode cL_law 1198 = .ok (.aload_n 3, 1) := by decide +kernel
theorem dL_law_1199 : decode cL_law 1199 = .ok (.invokestatic 165, 3) := by decide +kernel
theorem dL_law_1202 : decode cL_law 1202 = .ok (.istore 5, 2) := by decide +kernel
theorem dL_law_1204 : decode cL_law 1204 = .ok (.aload_n 2, 1) := by decide +kernel
theorem dL_law_1205 : decode cL_law 1205 = .ok (.aload_n 0, 1) := by decide +kernel
theorem dL_law_1206 : decode cL_law 1206 = .ok (.iload 4, 2) := by decide +kernel
theorem dL_law_1208 : decode cL_law 1208 = .ok (.iconst 1, 1) := by decide +kernel
theorem dL_law_1209 : decode cL_law 1209 = .ok (.iadd, 1) := by decide +kernel
theorem dL_law_1210 : decode cL_law 1210 = .ok (.iaload, 1) := by decide +kernel
theorem dL_law_1211 : decode cL_law 1211 = .ok (.aload_n 0, 1) := by decide +kernel
theorem dL_law_1212 : decode cL_law 1212 = .ok (.iload 4, 2) := by decide +kernel
theorem dL_law_1214 : decode cL_law 1214 = .ok (.iconst 2, 1) := by decide +kernel
theorem dL_law_1215 : decode cL_law 1215 = .ok (.iadd, 1) := by decide +kernel
theorem dL_law_1216 : decode cL_law 1216 = .ok (.iaload, 1) := by decide +kernel
theorem dL_law_1217 : decode cL_law 1217 = .ok (.invokevirtual 167, 3) := by decide +kernel
theorem dL_law_1220 : decode cL_law 1220 = .ok (.istore 6, 2) := by decide +kernel
theorem dL_law_1222 : decode cL_law 1222 = .ok (.aload_n 2, 1) := by decide +kernel
theorem dL_law_1223 : decode cL_law 1223 = .ok (.invokevirtual 87, 3) := by decide +kernel
theorem dL_law_1226 : decode cL_law 1226 = .ok (.iload 5, 2) := by decide +kernel
theorem dL_law_1228 : decode cL_law 1228 = .ok (.if_icmp .eq 5, 3) := by decide +kernel
theorem dL_law_1231 : decode cL_law 1231 = .ok (.iconst 0, 1) := by decide +kernel
theorem dL_law_1232 : decode cL_law 1232 = .ok (.ireturn, 1) := by decide +kernel
theorem dL_law_1233 : decode cL_law 1233 = .ok (.iload 5, 2) := by decide +kernel
theorem dL_law_1235 : decode cL_law 1235 = .ok (.ifCond .ne 15, 3) := by decide +kernel
theorem dL_law_1238 : decode cL_law 1238 = .ok (.aload_n 3, 1) := by decide +kernel
theorem dL_law_1239 : decode cL_law 1239 = .ok (.iconst 0, 1) := by decide +kernel
theorem dL_law_1240 : decode cL_law 1240 = .ok (.laload, 1) := by decide +kernel
theorem dL_law_1241 : decode cL_law 1241 = .ok (.iload 6, 2) := by decide +kernel
theorem dL_law_1243 : decode cL_law 1243 = .ok (.i2l, 1) := by decide +kernel
theorem dL_law_1244 : decode cL_law 1244 = .ok (.lcmp, 1) := by decide +kernel
theorem dL_law_1245 : decode cL_law 1245 = .ok (.ifCond .eq 5, 3) := by decide +kernel
theorem dL_law_1248 : decode cL_law 1248 = .ok (.iconst 0, 1) := by decide +kernel
theorem dL_law_1249 : decode cL_law 1249 = .ok (.ireturn, 1) := by decide +kernel
theorem dL_law_1250 : decode cL_law 1250 = .ok (.goto 259, 3) := by decide +kernel
theorem dL_law_1253 : decode cL_law 1253 = .ok (.aload_n 1, 1) := by decide +kernel
theorem dL_law_1254 : decode cL_law 1254 = .ok (.aload_n 0, 1) := by decide +kernel
theorem dL_law_1255 : decode cL_law 1255 = .ok (.iload 4, 2) := by decide +kernel
theorem dL_law_1257 : decode cL_law 1257 = .ok (.iconst 1, 1) := by decide +kernel
theorem dL_law_1258 : decode cL_law 1258 = .ok (.iadd, 1) := by decide +kernel
theorem dL_law_1259 : decode cL_law 1259 = .ok (.iaload, 1) := by decide +kernel
theorem dL_law_1260 : decode cL_law 1260 = .ok (.aload_n 3, 1) := by decide +kernel
theorem dL_law_1261 : decode cL_law 1261 = .ok (.invokestatic 168, 3) := by decide +kernel
theorem dL_law_1264 : decode cL_law 1264 = .ok (.istore 5, 2) := by decide +kernel
theorem dL_law_1266 : decode cL_law 1266 = .ok (.aload_n 2, 1) := by decide +kernel
theorem dL_law_1267 : decode cL_law 1267 = .ok (.aload_n 0, 1) := by decide +kernel
theorem dL_law_1268 : decode cL_law 1268 = .ok (.iload 4, 2) := by decide +kernel
theorem dL_law_1270 : decode cL_law 1270 = .ok (.iconst 1, 1) := by decide +kernel
theorem dL_law_1271 : decode cL_law 1271 = .ok (.iadd, 1) := by decide +kernel
theorem dL_law_1272 : decode cL_law 1272 = .ok (.iaload, 1) := by decide +kernel
theorem dL_law_1273 : decode cL_law 1273 = .ok (.invokevirtual 170, 3) := by decide +kernel
theorem dL_law_1276 : decode cL_law 1276 = .ok (.istore 6, 2) := by decide +kernel
theorem dL_law_1278 : decode cL_law 1278 = .ok (.aload_n 2, 1) := by decide +kernel
theorem dL_law_1279 : decode cL_law 1279 = .ok (.invokevirtual 87, 3) := by decide +kernel
theorem dL_law_1282 : decode cL_law 1282 = .ok (.iload 5, 2) := by decide +kernel
theorem dL_law_1284 : decode cL_law 1284 = .ok (.if_icmp .eq 5, 3) := by decide +kernel
theorem dL_law_1287 : decode cL_law 1287 = .ok (.iconst 0, 1) := by decide +kernel
theorem dL_law_1288 : decode cL_law 1288 = .ok (.ireturn, 1) := by decide +kernel
theorem dL_law_1289 : decode cL_law 1289 = .ok (.iload 5, 2) := by decide +kernel
theorem dL_law_1291 : decode cL_law 1291 = .ok (.ifCond .ne 15, 3) := by decide +kernel
theorem dL_law_1294 : decode cL_law 1294 = .ok (.aload_n 3, 1) := by decide +kernel
theorem dL_law_1295 : decode cL_law 1295 = .ok (.iconst 0, 1) := by decide +kernel
theorem dL_law_1296 : decode cL_law 1296 = .ok (.laload, 1) := by decide +kernel
theorem dL_law_1297 : decode cL_law 1297 = .ok (.iload 6, 2) := by decide +kernel
theorem dL_law_1299 : decode cL_law 1299 = .ok (.i2l, 1) := by decide +kernel
theorem dL_law_1300 : decode cL_law 1300 = .ok (.lcmp, 1) := by decide +kernel
theorem dL_law_1301 : decode cL_law 1301 = .ok (.ifCond .eq 5, 3) := by decide +kernel
theorem dL_law_1304 : decode cL_law 1304 = .ok (.iconst 0, 1) := by decide +kernel
theorem dL_law_1305 : decode cL_law 1305 = .ok (.ireturn, 1) := by decide +kernel
theorem dL_law_1306 : decode cL_law 1306 = .ok (.goto 203, 3) := by decide +kernel
theorem dL_law_1309 : decode cL_law 1309 = .ok (.aload_n 1, 1) := by decide +kernel
theorem dL_law_1310 : decode cL_law 1310 = .ok (.aload_n 0, 1) := by decide +kernel
theorem dL_law_1311 : decode cL_law 1311 = .ok (.iload 4, 2) := by decide +kernel
theorem dL_law_1313 : decode cL_law 1313 = .ok (.iconst 1, 1) := by decide +kernel
theorem dL_law_1314 : decode cL_law 1314 = .ok (.iadd, 1) := by decide +kernel
theorem dL_law_1315 : decode cL_law 1315 = .ok (.iaload, 1) := by decide +kernel
theorem dL_law_1316 : decode cL_law 1316 = .ok (.aload_n 0, 1) := by decide +kernel
theorem dL_law_1317 : decode cL_law 1317 = .ok (.iload 4, 2) := by decide +kernel
theorem dL_law_1319 : decode cL_law 1319 = .ok (.iconst 2, 1) := by decide +kernel
theorem dL_law_1320 : decode cL_law 1320 = .ok (.iadd, 1) := by decide +kernel
theorem dL_law_1321 : decode cL_law 1321 = .ok (.iaload, 1) := by decide +kernel
theorem dL_law_1322 : decode cL_law 1322 = .ok (.aload_n 0, 1) := by decide +kernel
theorem dL_law_1323 : decode cL_law 1323 = .ok (.iload 4, 2) := by decide +kernel
theorem dL_law_1325 : decode cL_law 1325 = .ok (.iconst 3, 1) := by decide +kernel
theorem dL_law_1326 : decode cL_law 1326 = .ok (.iadd, 1) := by decide +kernel
theorem dL_law_1327 : decode cL_law 1327 = .ok (.iaload, 1) := by decide +kernel
theorem dL_law_1328 : decode cL_law 1328 = .ok (.aload_n 3, 1) := by decide +kernel
theorem dL_law_1329 : decode cL_law 1329 = .ok (.invokestatic 171, 3) := by decide +kernel
theorem dL_law_1332 : decode cL_law 1332 = .ok (.istore 5, 2) := by decide +kernel
theorem dL_law_1334 : decode cL_law 1334 = .ok (.aload_n 2, 1) := by decide +kernel
theorem dL_law_1335 : decode cL_law 1335 = .ok (.aload_n 0, 1) := by decide +kernel
theorem dL_law_1336 : decode cL_law 1336 = .ok (.iload 4, 2) := by decide +kernel
theorem dL_law_1338 : decode cL_law 1338 = .ok (.iconst 1, 1) := by decide +kernel
theorem dL_law_1339 : decode cL_law 1339 = .ok (.iadd, 1) := by decide +kernel
theorem dL_law_1340 : decode cL_law 1340 = .ok (.iaload, 1) := by decide +kernel
theorem dL_law_1341 : decode cL_law 1341 = .ok (.aload_n 0, 1) := by decide +kernel
theorem dL_law_1342 : decode cL_law 1342 = .ok (.iload 4, 2) := by decide +kernel
theorem dL_law_1344 : decode cL_law 1344 = .ok (.iconst 2, 1) := by decide +kernel
theorem dL_law_1345 : decode cL_law 1345 = .ok (.iadd, 1) := by decide +kernel
theorem dL_law_1346 : decode cL_law 1346 = .ok (.iaload, 1) := by decide +kernel
theorem dL_law_1347 : decode cL_law 1347 = .ok (.aload_n 0, 1) := by decide +kernel
theorem dL_law_1348 : decode cL_law 1348 = .ok (.iload 4, 2) := by decide +kernel
theorem dL_law_1350 : decode cL_law 1350 = .ok (.iconst 3, 1) := by decide +kernel
theorem dL_law_1351 : decode cL_law 1351 = .ok (.iadd, 1) := by decide +kernel
theorem dL_law_1352 : decode cL_law 1352 = .ok (.iaload, 1) := by decide +kernel
theorem dL_law_1353 : decode cL_law 1353 = .ok (.invokevirtual 173, 3) := by decide +kernel
theorem dL_law_1356 : decode cL_law 1356 = .ok (.istore 6, 2) := by decide +kernel
theorem dL_law_1358 : decode cL_law 1358 = .ok (.aload_n 2, 1) := by decide +kernel
theorem dL_law_1359 : decode cL_law 1359 = .ok (.invokevirtual 87, 3) := by decide +kernel
theorem dL_law_1362 : decode cL_law 1362 = .ok (.iload 5, 2) := by decide +kernel
theorem dL_law_1364 : decode cL_law 1364 = .ok (.if_icmp .eq 5, 3) := by decide +kernel
theorem dL_law_1367 : decode cL_law 1367 = .ok (.iconst 0, 1) := by decide +kernel
theorem dL_law_1368 : decode cL_law 1368 = .ok (.ireturn, 1) := by decide +kernel
theorem dL_law_1369 : decode cL_law 1369 = .ok (.iload 5, 2) := by decide +kernel
theorem dL_law_1371 : decode cL_law 1371 = .ok (.ifCond .ne 15, 3) := by decide +kernel
theorem dL_law_1374 : decode cL_law 1374 = .ok (.aload_n 3, 1) := by decide +kernel
theorem dL_law_1375 : decode cL_law 1375 = .ok (.iconst 0, 1) := by decide +kernel
theorem dL_law_1376 : decode cL_law 1376 = .ok (.laload, 1) := by decide +kernel
theorem dL_law_1377 : decode cL_law 1377 = .ok (.iload 6, 2) := by decide +kernel
theorem dL_law_1379 : decode cL_law 1379 = .ok (.i2l, 1) := by decide +kernel
theorem dL_law_1380 : decode cL_law 1380 = .ok (.lcmp, 1) := by decide +kernel
theorem dL_law_1381 : decode cL_law 1381 = .ok (.ifCond .eq 5, 3) := by decide +kernel
theorem dL_law_1384 : decode cL_law 1384 = .ok (.iconst 0, 1) := by decide +kernel
theorem dL_law_1385 : decode cL_law 1385 = .ok (.ireturn, 1) := by decide +kernel
theorem dL_law_1386 : decode cL_law 1386 = .ok (.goto 123, 3) := by decide +kernel
theorem dL_law_1389 : decode cL_law 1389 = .ok (.aload_n 1, 1) := by decide +kernel
theorem dL_law_1390 : decode cL_law 1390 = .ok (.aload_n 0, 1) := by decide +kernel
theorem dL_law_1391 : decode cL_law 1391 = .ok (.iload 4, 2) := by decide +kernel
theorem dL_law_1393 : decode cL_law 1393 = .ok (.iconst 1, 1) := by decide +kernel
theorem dL_law_1394 : decode cL_law 1394 = .ok (.iadd, 1) := by decide +kernel
theorem dL_law_1395 : decode cL_law 1395 = .ok (.iaload, 1) := by decide +kernel
theorem dL_law_1396 : decode cL_law 1396 = .ok (.aload_n 0, 1) := by decide +kernel
theorem dL_law_1397 : decode cL_law 1397 = .ok (.iload 4, 2) := by decide +kernel
theorem dL_law_1399 : decode cL_law 1399 = .ok (.iconst 2, 1) := by decide +kernel
theorem dL_law_1400 : decode cL_law 1400 = .ok (.iadd, 1) := by decide +kernel
theorem dL_law_1401 : decode cL_law 1401 = .ok (.iaload, 1) := by decide +kernel
theorem dL_law_1402 : decode cL_law 1402 = .ok (.aload_n 0, 1) := by decide +kernel
theorem dL_law_1403 : decode cL_law 1403 = .ok (.iload 4, 2) := by decide +kernel
theorem dL_law_1405 : decode cL_law 1405 = .ok (.iconst 3, 1) := by decide +kernel
theorem dL_law_1406 : decode cL_law 1406 = .ok (.iadd, 1) := by decide +kernel
theorem dL_law_1407 : decode cL_law 1407 = .ok (.iaload, 1) := by decide +kernel
theorem dL_law_1408 : decode cL_law 1408 = .ok (.aload_n 3, 1) := by decide +kernel
theorem dL_law_1409 : decode cL_law 1409 = .ok (.invokestatic 174, 3) := by decide +kernel
theorem dL_law_1412 : decode cL_law 1412 = .ok (.istore 5, 2) := by decide +kernel
theorem dL_law_1414 : decode cL_law 1414 = .ok (.aload_n 2, 1) := by decide +kernel
theorem dL_law_1415 : decode cL_law 1415 = .ok (.aload_n 0, 1) := by decide +kernel
theorem dL_law_1416 : decode cL_law 1416 = .ok (.iload 4, 2) := by decide +kernel
theorem dL_law_1418 : decode cL_law 1418 = .ok (.iconst 1, 1) := by decide +kernel
theorem dL_law_1419 : decode cL_law 1419 = .ok (.iadd, 1) := by decide +kernel
theorem dL_law_1420 : decode cL_law 1420 = .ok (.iaload, 1) := by decide +kernel
theorem dL_law_1421 : decode cL_law 1421 = .ok (.aload_n 0, 1) := by decide +kernel
theorem dL_law_1422 : decode cL_law 1422 = .ok (.iload 4, 2) := by decide +kernel
theorem dL_law_1424 : decode cL_law 1424 = .ok (.iconst 2, 1) := by decide +kernel
theorem dL_law_1425 : decode cL_law 1425 = .ok (.iadd, 1) := by decide +kernel
theorem dL_law_1426 : decode cL_law 1426 = .ok (.iaload, 1) := by decide +kernel
theorem dL_law_1427 : decode cL_law 1427 = .ok (.aload_n 0, 1) := by decide +kernel
theorem dL_law_1428 : decode cL_law 1428 = .ok (.iload 4, 2) := by decide +kernel
theorem dL_law_1430 : decode cL_law 1430 = .ok (.iconst 3, 1) := by decide +kernel
theorem dL_law_1431 : decode cL_law 1431 = .ok (.iadd, 1) := by decide +kernel
theorem dL_law_1432 : decode cL_law 1432 = .ok (.iaload, 1) := by decide +kernel
theorem dL_law_1433 : decode cL_law 1433 = .ok (.invokevirtual 176, 3) := by decide +kernel
theorem dL_law_1436 : decode cL_law 1436 = .ok (.istore 6, 2) := by decide +kernel
theorem dL_law_1438 : decode cL_law 1438 = .ok (.aload_n 2, 1) := by decide +kernel
theorem dL_law_1439 : decode cL_law 1439 = .ok (.invokevirtual 87, 3) := by decide +kernel
theorem dL_law_1442 : decode cL_law 1442 = .ok (.iload 5, 2) := by decide +kernel
theorem dL_law_1444 : decode cL_law 1444 = .ok (.if_icmp .eq 5, 3) := by decide +kernel
theorem dL_law_1447 : decode cL_law 1447 = .ok (.iconst 0, 1) := by decide +kernel
theorem dL_law_1448 : decode cL_law 1448 = .ok (.ireturn, 1) := by decide +kernel
theorem dL_law_1449 : decode cL_law 1449 = .ok (.iload 5, 2) := by decide +kernel
theorem dL_law_1451 : decode cL_law 1451 = .ok (.ifCond .ne 15, 3) := by decide +kernel
theorem dL_law_1454 : decode cL_law 1454 = .ok (.aload_n 3, 1) := by decide +kernel
theorem dL_law_1455 : decode cL_law 1455 = .ok (.iconst 0, 1) := by decide +kernel
theorem dL_law_1456 : decode cL_law 1456 = .ok (.laload, 1) := by decide +kernel
theorem dL_law_1457 : decode cL_law 1457 = .ok (.iload 6, 2) := by decide +kernel
theorem dL_law_1459 : decode cL_law 1459 = .ok (.i2l, 1) := by decide +kernel
theorem dL_law_1460 : decode cL_law 1460 = .ok (.lcmp, 1) := by decide +kernel
theorem dL_law_1461 : decode cL_law 1461 = .ok (.ifCond .eq 5, 3) := by decide +kernel
theorem dL_law_1464 : decode cL_law 1464 = .ok (.iconst 0, 1) := by decide +kernel
theorem dL_law_1465 : decode cL_law 1465 = .ok (.ireturn, 1) := by decide +kernel
theorem dL_law_1466 : decode cL_law 1466 = .ok (.goto 43, 3) := by decide +kernel
theorem dL_law_1469 : decode cL_law 1469 = .ok (.aload_n 1, 1) := by decide +kernel
theorem dL_law_1470 : decode cL_law 1470 = .ok (.invokevirtual 177, 3) := by decide +kernel
theorem dL_law_1473 : decode cL_law 1473 = .ok (.aload_n 2, 1) := by decide +kernel
theorem dL_law_1474 : decode cL_law 1474 = .ok (.invokevirtual 180, 3) := by decide +kernel
theorem dL_law_1477 : decode cL_law 1477 = .ok (.if_icmp .eq 32, 3) := by decide +kernel
theorem dL_law_1480 : decode cL_law 1480 = .ok (.iconst 0, 1) := by decide +kernel
theorem dL_law_1481 : decode cL_law 1481 = .ok (.ireturn, 1) := by decide +kernel
theorem dL_law_1482 : decode cL_law 1482 = .ok (.aload_n 1, 1) := by decide +kernel
theorem dL_law_1483 : decode cL_law 1483 = .ok (.invokevirtual 181, 3) := by decide +kernel
theorem dL_law_1486 : decode cL_law 1486 = .ok (.aload_n 2, 1) := by decide +kernel
theorem dL_law_1487 : decode cL_law 1487 = .ok (.invokevirtual 184, 3) := by decide +kernel
theorem dL_law_1490 : decode cL_law 1490 = .ok (.if_icmp .eq 19, 3) := by decide +kernel
theorem dL_law_1493 : decode cL_law 1493 = .ok (.iconst 0, 1) := by decide +kernel
theorem dL_law_1494 : decode cL_law 1494 = .ok (.ireturn, 1) := by decide +kernel
theorem dL_law_1495 : decode cL_law 1495 = .ok (.aload_n 1, 1) := by decide +kernel
theorem dL_law_1496 : decode cL_law 1496 = .ok (.invokevirtual 185, 3) := by decide +kernel
theorem dL_law_1499 : decode cL_law 1499 = .ok (.aload_n 2, 1) := by decide +kernel
theorem dL_law_1500 : decode cL_law 1500 = .ok (.invokevirtual 189, 3) := by decide +kernel
theorem dL_law_1503 : decode cL_law 1503 = .ok (.lcmp, 1) := by decide +kernel
theorem dL_law_1504 : decode cL_law 1504 = .ok (.ifCond .eq 5, 3) := by decide +kernel
theorem dL_law_1507 : decode cL_law 1507 = .ok (.iconst 0, 1) := by decide +kernel
theorem dL_law_1508 : decode cL_law 1508 = .ok (.ireturn, 1) := by decide +kernel
theorem dL_law_1509 : decode cL_law 1509 = .ok (.iinc 4 6, 3) := by decide +kernel
theorem dL_law_1512 : decode cL_law 1512 = .ok (.goto (-1489), 3) := by decide +kernel
theorem dL_law_1515 : decode cL_law 1515 = .ok (.iconst 1, 1) := by decide +kernel
theorem dL_law_1516 : decode cL_law 1516 = .ok (.ireturn, 1) := by decide +kernel
