theorem dX5_place_71 : decode cX5_place 71 = .ok (.getfield 55, 3) := by decide +kernel
theorem dX5_place_74 : decode cX5_place 74 = .ok (.iload 5, 2) := by decide +kernel
theorem dX5_place_76 : decode cX5_place 76 = .ok (.aload_n 0, 1) := by decide +kernel
theorem dX5_place_77 : decode cX5_place 77 = .ok (.getfield 51, 3) := by decide +kernel
theorem dX5_place_80 : decode cX5_place 80 = .ok (.iload 4, 2) := by decide +kernel
theorem dX5_place_82 : decode cX5_place 82 = .ok (.invokevirtual 123, 3) := by decide +kernel
theorem dX5_place_85 : decode cX5_place 85 = .ok (.iload_n 3, 1) := by decide +kernel
theorem dX5_place_86 : decode cX5_place 86 = .ok (.invokevirtual 226, 3) := by decide +kernel
theorem dX5_place_89 : decode cX5_place 89 = .ok (.aload_n 0, 1) := by decide +kernel
theorem dX5_place_90 : decode cX5_place 90 = .ok (.getfield 52, 3) := by decide +kernel
theorem dX5_place_93 : decode cX5_place 93 = .ok (.invokevirtual 88, 3) := by decide +kernel
theorem dX5_place_96 : decode cX5_place 96 = .ok (.ifCond .ne 13, 3) := by decide +kernel
theorem dX5_place_99 : decode cX5_place 99 = .ok (.new 201, 3) := by decide +kernel
theorem dX5_place_102 : decode cX5_place 102 = .ok (.dup, 1) := by decide +kernel
theorem dX5_place_103 : decode cX5_place 103 = .ok (.ldc 230, 2) := by decide +kernel
theorem dX5_place_105 : decode cX5_place 105 = .ok (.invokespecial 205, 3) := by decide +kernel
theorem dX5_place_108 : decode cX5_place 108 = .ok (.athrow, 1) := by decide +kernel
theorem dX5_place_109 : decode cX5_place 109 = .ok (.aload_n 0, 1) := by decide +kernel
theorem dX5_place_110 : decode cX5_place 110 = .ok (.invokevirtual 82, 3) := by decide +kernel
theorem dX5_place_113 : decode cX5_place 113 = .ok (.aload_n 0, 1) := by decide +kernel
theorem dX5_place_114 : decode cX5_place 114 = .ok (.invokevirtual 206, 3) := by decide +kernel
theorem dX5_place_117 : decode cX5_place 117 = .ok (.aload_n 0, 1) := by decide +kernel
theorem dX5_place_118 : decode cX5_place 118 = .ok (.getfield 43, 3) := by decide +kernel
theorem dX5_place_121 : decode cX5_place 121 = .ok (.invokevirtual 155, 3) := by decide +kernel
theorem dX5_place_124 : decode cX5_place 124 = .ok (.ireturn, 1) := by decide +kernel
theorem dX5_setDuration_0 : decode cX5_setDuration 0 = .ok (.aload_n 0, 1) := by decide +kernel
theorem dX5_setDuration_1 : decode cX5_setDuration 1 = .ok (.iload_n 1, 1) := by decide +kernel
theorem dX5_setDuration_2 : decode cX5_setDuration 2 = .ok (.iload_n 2, 1) := by decide +kernel
theorem dX5_setDuration_3 : decode cX5_setDuration 3 = .ok (.invokevirtual 110, 3) := by decide +kernel
theorem dX5_setDuration_6 : decode cX5_setDuration 6 = .ok (.iload_n 3, 1) := by decide +kernel
theorem dX5_setDuration_7 : decode cX5_setDuration 7 = .ok (.iconst 1, 1) := by decide +kernel
theorem dX5_setDuration_8 : decode cX5_setDuration 8 = .ok (.if_icmp .lt 9, 3) := by decide +kernel
theorem dX5_setDuration_11 : decode cX5_setDuration 11 = .ok (.iload_n 3, 1) := by decide +kernel
theorem dX5_setDuration_12 : decode cX5_setDuration 12 = .ok (.bipush 99, 2) := by decide +kernel
theorem dX5_setDuration_14 : decode cX5_setDuration 14 = .ok (.if_icmp .le 13, 3) := by decide +kernel
theorem dX5_setDuration_17 : decode cX5_setDuration 17 = .ok (.new 67, 3) := by decide +kernel
theorem dX5_setDuration_20 : decode cX5_setDuration 20 = .ok (.dup, 1) := by decide +kernel
theorem dX5_setDuration_21 : decode cX5_setDuration 21 = .ok (.ldc 232, 2) := by decide +kernel
theorem dX5_setDuration_23 : decode cX5_setDuration 23 = .ok (.invokespecial 71, 3) := by decide +kernel
theorem dX5_setDuration_26 : decode cX5_setDuration 26 = .ok (.athrow, 1) := by decide +kernel
theorem dX5_setDuration_27 : decode cX5_setDuration 27 = .ok (.iload_n 1, 1) := by decide +kernel
theorem dX5_setDuration_28 : decode cX5_setDuration 28 = .ok (.iload_n 2, 1) := by decide +kernel
theorem dX5_setDuration_29 : decode cX5_setDuration 29 = .ok (.invokestatic 113, 3) := by decide +kernel
theorem dX5_setDuration_32 : decode cX5_setDuration 32 = .ok (.istore 4, 2) := by decide +kernel
theorem dX5_setDuration_34 : decode cX5_setDuration 34 = .ok (.aload_n 0, 1) := by decide +kernel
theorem dX5_setDuration_35 : decode cX5_setDuration 35 = .ok (.getfield 51, 3) := by decide +kernel
theorem dX5_setDuration_38 : decode cX5_setDuration 38 = .ok (.getfield 120, 3) := by decide +kernel
theorem dX5_setDuration_41 : decode cX5_setDuration 41 = .ok (.iload 4, 2) := by decide +kernel
theorem dX5_setDuration_43 : decode cX5_setDuration 43 = .ok (.iaload, 1) := by decide +kernel
theorem dX5_setDuration_44 : decode cX5_setDuration 44 = .ok (.istore 5, 2) := by decide +kernel
theorem dX5_setDuration_46 : decode cX5_setDuration 46 = .ok (.aload_n 0, 1) := by decide +kernel
theorem dX5_setDuration_47 : decode cX5_setDuration 47 = .ok (.invokevirtual 82, 3) := by decide +kernel
theorem dX5_setDuration_50 : decode cX5_setDuration 50 = .ok (.aload_n 0, 1) := by decide +kernel
theorem dX5_setDuration_51 : decode cX5_setDuration 51 = .ok (.getfield 51, 3) := by decide +kernel
theorem dX5_setDuration_54 : decode cX5_setDuration 54 = .ok (.getfield 120, 3) := by decide +kernel
theorem dX5_setDuration_57 : decode cX5_setDuration 57 = .ok (.iload 4, 2) := by decide +kernel
theorem dX5_setDuration_59 : decode cX5_setDuration 59 = .ok (.iload_n 3, 1) := by decide +kernel
theorem dX5_setDuration_60 : decode cX5_setDuration 60 = .ok (.iastore, 1) := by decide +kernel
theorem dX5_setDuration_61 : decode cX5_setDuration 61 = .ok (.aload_n 0, 1) := by decide +kernel
theorem dX5_setDuration_62 : decode cX5_setDuration 62 = .ok (.getfield 43, 3) := by decide +kernel
theorem dX5_setDuration_65 : decode cX5_setDuration 65 = .ok (.invokevirtual 88, 3) := by decide +kernel
theorem dX5_setDuration_68 : decode cX5_setDuration 68 = .ok (.pop, 1) := by decide +kernel
theorem dX5_setDuration_69 : decode cX5_setDuration 69 = .ok (.iload 5, 2) := by decide +kernel
theorem dX5_setDuration_71 : decode cX5_setDuration 71 = .ok (.ireturn, 1) := by decide +kernel
theorem dX5_restart_0 : decode cX5_restart 0 = .ok (.aload_n 0, 1) := by decide +kernel
theorem dX5_restart_1 : decode cX5_restart 1 = .ok (.invokevirtual 82, 3) := by decide +kernel
theorem dX5_restart_4 : decode cX5_restart 4 = .ok (.aload_n 0, 1) := by decide +kernel
theorem dX5_restart_5 : decode cX5_restart 5 = .ok (.getfield 51, 3) := by decide +kernel
theorem dX5_restart_8 : decode cX5_restart 8 = .ok (.invokevirtual 234, 3) := by decide +kernel
theorem dX5_restart_11 : decode cX5_restart 11 = .ok (.aload_n 0, 1) := by decide +kernel
theorem dX5_restart_12 : decode cX5_restart 12 = .ok (.getfield 43, 3) := by decide +kernel
theorem dX5_restart_15 : decode cX5_restart 15 = .ok (.invokevirtual 88, 3) := by decide +kernel
theorem dX5_restart_18 : decode cX5_restart 18 = .ok (.pop, 1) := by decide +kernel
theorem dX5_restart_19 : decode cX5_restart 19 = .ok (.aload_n 0, 1) := by decide +kernel
theorem dX5_restart_20 : decode cX5_restart 20 = .ok (.getfield 43, 3) := by decide +kernel
theorem dX5_restart_23 : decode cX5_restart 23 = .ok (.invokevirtual 155, 3) := by decide +kernel
theorem dX5_restart_26 : decode cX5_restart 26 = .ok (.ireturn, 1) := by decide +kernel
theorem dX5_undo_0 : decode cX5_undo 0 = .ok (.aload_n 0, 1) := by decide +kernel
theorem dX5_undo_1 : decode cX5_undo 1 = .ok (.getfield 32, 3) := by decide +kernel
theorem dX5_undo_4 : decode cX5_undo 4 = .ok (.ifCond .gt 5, 3) := by decide +kernel
theorem dX5_undo_7 : decode cX5_undo 7 = .ok (.iconst (-1), 1) := by decide +kernel
theorem dX5_undo_8 : decode cX5_undo 8 = .ok (.ireturn, 1) := by decide +kernel
theorem dX5_undo_9 : decode cX5_undo 9 = .ok (.aload_n 0, 1) := by decide +kernel
theorem dX5_undo_10 : decode cX5_undo 10 = .ok (.dup, 1) := by decide +kernel
theorem dX5_undo_11 : decode cX5_undo 11 = .ok (.getfield 32, 3) := by decide +kernel
theorem dX5_undo_14 : decode cX5_undo 14 = .ok (.iconst 1, 1) := by decide +kernel
theorem dX5_undo_15 : decode cX5_undo 15 = .ok (.isub, 1) := by decide +kernel
theorem dX5_undo_16 : decode cX5_undo 16 = .ok (.putfield 32, 3) := by decide +kernel
theorem dX5_undo_19 : decode cX5_undo 19 = .ok (.aload_n 0, 1) := by decide +kernel
theorem dX5_undo_20 : decode cX5_undo 20 = .ok (.getfield 25, 3) := by decide +kernel
theorem dX5_undo_23 : decode cX5_undo 23 = .ok (.aload_n 0, 1) := by decide +kernel
theorem dX5_undo_24 : decode cX5_undo 24 = .ok (.getfield 29, 3) := by decide +kernel
theorem dX5_undo_27 : decode cX5_undo 27 = .ok (.aload_n 0, 1) := by decide +kernel
theorem dX5_undo_28 : decode cX5_undo 28 = .ok (.getfield 32, 3) := by decide +kernel
theorem dX5_undo_31 : decode cX5_undo 31 = .ok (.iadd, 1) := by decide +kernel
theorem dX5_undo_32 : decode cX5_undo 32 = .ok (.bipush 8, 2) := by decide +kernel
theorem dX5_undo_34 : decode cX5_undo 34 = .ok (.irem, 1) := by decide +kernel
theorem dX5_undo_35 : decode cX5_undo 35 = .ok (.aaload, 1) := by decide +kernel
theorem dX5_undo_36 : decode cX5_undo 36 = .ok (.astore_n 1, 1) := by decide +kernel
theorem dX5_undo_37 : decode cX5_undo 37 = .ok (.aload_n 1, 1) := by decide +kernel
theorem dX5_undo_38 : decode cX5_undo 38 = .ok (.ifnull 19, 3) := by decide +kernel
theorem dX5_undo_41 : decode cX5_undo 41 = .ok (.aload_n 0, 1) := by decide +kernel
theorem dX5_undo_42 : decode cX5_undo 42 = .ok (.getfield 51, 3) := by decide +kernel
theorem dX5_undo_45 : decode cX5_undo 45 = .ok (.aload_n 1, 1) := by decide +kernel
theorem dX5_undo_46 : decode cX5_undo 46 = .ok (.invokevirtual 222, 3) := by decide +kernel
theorem dX5_undo_49 : decode cX5_undo 49 = .ok (.aload_n 0, 1) := by decide +kernel
theorem dX5_undo_50 : decode cX5_undo 50 = .ok (.getfield 43, 3) := by decide +kernel
theorem dX5_undo_53 : decode cX5_undo 53 = .ok (.invokevirtual 88, 3) := by decide +kernel
theorem dX5_undo_56 : decode cX5_undo 56 = .ok (.pop, 1) := by decide +kernel
theorem dX5_undo_57 : decode cX5_undo 57 = .ok (.aload_n 0, 1) := by decide +kernel
theorem dX5_undo_58 : decode cX5_undo 58 = .ok (.getfield 32, 3) := by decide +kernel
theorem dX5_undo_61 : decode cX5_undo 61 = .ok (.ireturn, 1) := by decide +kernel
theorem dX5_checksum_0 : decode cX5_checksum 0 = .ok (.ldc2_w 237, 3) := by decide +kernel
theorem dX5_checksum_3 : decode cX5_checksum 3 = .ok (.aload_n 0, 1) := by decide +kernel
theorem dX5_checksum_4 : decode cX5_checksum 4 = .ok (.getfield 43, 3) := by decide +kernel
theorem dX5_checksum_7 : decode cX5_checksum 7 = .ok (.invokevirtual 155, 3) := by decide +kernel
theorem dX5_checksum_10 : decode cX5_checksum 10 = .ok (.i2l, 1) := by decide +kernel
theorem dX5_checksum_11 : decode cX5_checksum 11 = .ok (.lmul, 1) := by decide +kernel
theorem dX5_checksum_12 : decode cX5_checksum 12 = .ok (.aload_n 0, 1) := by decide +kernel
theorem dX5_checksum_13 : decode cX5_checksum 13 = .ok (.getfield 43, 3) := by decide +kernel
theorem dX5_checksum_16 : decode cX5_checksum 16 = .ok (.invokevirtual 162, 3) := by decide +kernel
theorem dX5_checksum_19 : decode cX5_checksum 19 = .ok (.i2l, 1) := by decide +kernel
theorem dX5_checksum_20 : decode cX5_checksum 20 = .ok (.ladd, 1) := by decide +kernel
theorem dX5_checksum_21 : decode cX5_checksum 21 = .ok (.lstore_n 1, 1) := by decide +kernel
theorem dX5_checksum_22 : decode cX5_checksum 22 = .ok (.iconst 0, 1) := by decide +kernel
theorem dX5_checksum_23 : decode cX5_checksum 23 = .ok (.istore_n 3, 1) := by decide +kernel
theorem dX5_checksum_24 : decode cX5_checksum 24 = .ok (.iload_n 3, 1) := by decide +kernel
theorem dX5_checksum_25 : decode cX5_checksum 25 = .ok (.aload_n 0, 1) := by decide +kernel
theorem dX5_checksum_26 : decode cX5_checksum 26 = .ok (.getfield 51, 3) := by decide +kernel
theorem dX5_checksum_29 : decode cX5_checksum 29 = .ok (.getfield 95, 3) := by decide +kernel
theorem dX5_checksum_32 : decode cX5_checksum 32 = .ok (.getfield 99, 3) := by decide +kernel
theorem dX5_checksum_35 : decode cX5_checksum 35 = .ok (.if_icmp .ge 61, 3) := by decide +kernel
theorem dX5_checksum_38 : decode cX5_checksum 38 = .ok (.iconst 0, 1) := by decide +kernel
theorem dX5_checksum_39 : decode cX5_checksum 39 = .ok (.istore 4, 2) := by decide +kernel
theorem dX5_checksum_41 : decode cX5_checksum 41 = .ok (.iload 4, 2) := by decide +kernel
theorem dX5_checksum_43 : decode cX5_checksum 43 = .ok (.aload_n 0, 1) := by decide +kernel
theorem dX5_checksum_44 : decode cX5_checksum 44 = .ok (.getfield 51, 3) := by decide +kernel
theorem dX5_checksum_47 : decode cX5_checksum 47 = .ok (.getfield 95, 3) := by decide +kernel
theorem dX5_checksum_50 : decode cX5_checksum 50 = .ok (.getfield 132, 3) := by decide +kernel
theorem dX5_checksum_53 : decode cX5_checksum 53 = .ok (.iload_n 3, 1) := by decide +kernel
theorem dX5_checksum_54 : decode cX5_checksum 54 = .ok (.iaload, 1) := by decide +kernel
theorem dX5_checksum_55 : decode cX5_checksum 55 = .ok (.if_icmp .ge 35, 3) := by decide +kernel
theorem dX5_checksum_58 : decode cX5_checksum 58 = .ok (.ldc2_w 237, 3) := by decide +kernel
theorem dX5_checksum_61 : decode cX5_checksum 61 = .ok (.lload_n 1, 1) := by decide +kernel
theorem dX5_checksum_62 : decode cX5_checksum 62 = .ok (.lmul, 1) := by decide +kernel
theorem dX5_checksum_63 : decode cX5_checksum 63 = .ok (.aload_n 0, 1) := by decide +kernel
theorem dX5_checksum_64 : decode cX5_checksum 64 = .ok (.getfield 51, 3) := by decide +kernel
theorem dX5_checksum_67 : decode cX5_checksum 67 = .ok (.getfield 140, 3) := by decide +kernel
theorem dX5_checksum_70 : decode cX5_checksum 70 = .ok (.iload_n 3, 1) := by decide +kernel
theorem dX5_checksum_71 : decode cX5_checksum 71 = .ok (.bipush 6, 2) := by decide +kernel
theorem dX5_checksum_73 : decode cX5_checksum 73 = .ok (.imul, 1) := by decide +kernel
theorem dX5_checksum_74 : decode cX5_checksum 74 = .ok (.iload 4, 2) := by decide +kernel
theorem dX5_checksum_76 : decode cX5_checksum 76 = .ok (.iadd, 1) := by decide +kernel
theorem dX5_checksum_77 : decode cX5_checksum 77 = .ok (.iaload, 1) := by decide +kernel
theorem dX5_checksum_78 : decode cX5_checksum 78 = .ok (.invokestatic 143, 3) := by decide +kernel
theorem dX5_checksum_81 : decode cX5_checksum 81 = .ok (.i2l, 1) := by decide +kernel
theorem dX5_checksum_82 : decode cX5_checksum 82 = .ok (.ladd, 1) := by decide +kernel
theorem dX5_checksum_83 : decode cX5_checksum 83 = .ok (.lstore_n 1, 1) := by decide +kernel
theorem dX5_checksum_84 : decode cX5_checksum 84 = .ok (.iinc 4 1, 3) := by decide +kernel
theorem dX5_checksum_87 : decode cX5_checksum 87 = .ok (.goto (-46), 3) := by decide +kernel
theorem dX5_checksum_90 : decode cX5_checksum 90 = .ok (.iinc 3 1, 3) := by decide +kernel
theorem dX5_checksum_93 : decode cX5_checksum 93 = .ok (.goto (-69), 3) := by decide +kernel
theorem dX5_checksum_96 : decode cX5_checksum 96 = .ok (.iconst 0, 1) := by decide +kernel
theorem dX5_checksum_97 : decode cX5_checksum 97 = .ok (.istore_n 3, 1) := by decide +kernel
theorem dX5_checksum_98 : decode cX5_checksum 98 = .ok (.iload_n 3, 1) := by decide +kernel
theorem dX5_checksum_99 : decode cX5_checksum 99 = .ok (.aload_n 0, 1) := by decide +kernel
theorem dX5_checksum_100 : decode cX5_checksum 100 = .ok (.getfield 51, 3) := by decide +kernel
theorem dX5_checksum_103 : decode cX5_checksum 103 = .ok (.getfield 95, 3) := by decide +kernel
theorem dX5_checksum_106 : decode cX5_checksum 106 = .ok (.getfield 92, 3) := by decide +kernel
theorem dX5_checksum_109 : decode cX5_checksum 109 = .ok (.if_icmp .ge 57, 3) := by decide +kernel
theorem dX5_checksum_112 : decode cX5_checksum 112 = .ok (.iconst 0, 1) := by decide +kernel
theorem dX5_checksum_113 : decode cX5_checksum 113 = .ok (.istore 4, 2) := by decide +kernel
theorem dX5_checksum_115 : decode cX5_checksum 115 = .ok (.iload 4, 2) := by decide +kernel
theorem dX5_checksum_117 : decode cX5_checksum 117 = .ok (.aload_n 0, 1) := by decide +kernel
theorem dX5_checksum_118 : decode cX5_checksum 118 = .ok (.getfield 51, 3) := by decide +kernel
theorem dX5_checksum_121 : decode cX5_checksum 121 = .ok (.getfield 95, 3) := by decide +kernel
theorem dX5_checksum_124 : decode cX5_checksum 124 = .ok (.getfield 106, 3) := by decide +kernel
theorem dX5_checksum_127 : decode cX5_checksum 127 = .ok (.iload_n 3, 1) := by decide +kernel
theorem dX5_checksum_128 : decode cX5_checksum 128 = .ok (.iaload, 1) := by decide +kernel
theorem dX5_checksum_129 : decode cX5_checksum 129 = .ok (.if_icmp .ge 31, 3) := by decide +kernel
theorem dX5_checksum_132 : decode cX5_checksum 132 = .ok (.ldc2_w 237, 3) := by decide +kernel
theorem dX5_checksum_135 : decode cX5_checksum 135 = .ok (.lload_n 1, 1) := by decide +kernel
theorem dX5_checksum_136 : decode cX5_checksum 136 = .ok (.lmul, 1) := by decide +kernel
theorem dX5_checksum_137 : decode cX5_checksum 137 = .ok (.aload_n 0, 1) := by decide +kernel
theorem dX5_checksum_138 : decode cX5_checksum 138 = .ok (.getfield 43, 3) := by decide +kernel
theorem dX5_checksum_141 : decode cX5_checksum 141 = .ok (.getfield 146, 3) := by decide +kernel
theorem dX5_checksum_144 : decode cX5_checksum 144 = .ok (.iload_n 3, 1) := by decide +kernel
theorem dX5_checksum_145 : decode cX5_checksum 145 = .ok (.iload 4, 2) := by decide +kernel
theorem dX5_checksum_147 : decode cX5_checksum 147 = .ok (.invokestatic 113, 3) := by decide +kernel
theorem dX5_checksum_150 : decode cX5_checksum 150 = .ok (.iaload, 1) := by decide +kernel
theorem dX5_checksum_151 : decode cX5_checksum 151 = .ok (.i2l, 1) := by decide +kernel
theorem dX5_checksum_152 : decode cX5_checksum 152 = .ok (.ladd, 1) := by decide +kernel
theorem dX5_checksum_153 : decode cX5_checksum 153 = .ok (.lstore_n 1, 1) := by decide +kernel
theorem dX5_checksum_154 : decode cX5_checksum 154 = .ok (.iinc 4 1, 3) := by decide +kernel
theorem dX5_checksum_157 : decode cX5_checksum 157 = .ok (.goto (-42), 3) := by decide +kernel
theorem dX5_checksum_160 : decode cX5_checksum 160 = .ok (.iinc 3 1, 3) := by decide +kernel
theorem dX5_checksum_163 : decode cX5_checksum 163 = .ok (.goto (-65), 3) := by decide +kernel
theorem dX5_checksum_166 : decode cX5_checksum 166 = .ok (.lload_n 1, 1) := by decide +kernel
theorem dX5_checksum_167 : decode cX5_checksum 167 = .ok (.lreturn, 1) := by decide +kernel
theorem dX5_needMachine_0 : decode cX5_needMachine 0 = .ok (.iload_n 1, 1) := by decide +kernel
theorem dX5_needMachine_1 : decode cX5_needMachine 1 = .ok (.ifCond .lt 17, 3) := by decide +kernel
theorem dX5_needMachine_4 : decode cX5_needMachine 4 = .ok (.iload_n 1, 1) := by decide +kernel
theorem dX5_needMachine_5 : decode cX5_needMachine 5 = .ok (.aload_n 0, 1) := by decide +kernel
theorem dX5_needMachine_6 : decode cX5_needMachine 6 = .ok (.getfield 51, 3) := by decide +kernel
theorem dX5_needMachine_9 : decode cX5_needMachine 9 = .ok (.getfield 95, 3) := by decide +kernel
theorem dX5_needMachine_12 : decode cX5_needMachine 12 = .ok (.getfield 99, 3) := by decide +kernel
theorem dX5_needMachine_15 : decode cX5_needMachine 15 = .ok (.if_icmp .lt 13, 3) := by decide +kernel
theorem dX5_needMachine_18 : decode cX5_needMachine 18 = .ok (.new 135, 3) := by decide +kernel
theorem dX5_needMachine_21 : decode cX5_needMachine 21 = .ok (.dup, 1) := by decide +kernel
theorem dX5_needMachine_22 : decode cX5_needMachine 22 = .ok (.ldc 239, 2) := by decide +kernel
theorem dX5_needMachine_24 : decode cX5_needMachine 24 = .ok (.invokespecial 139, 3) := by decide +kernel
theorem dX5_needMachine_27 : decode cX5_needMachine 27 = .ok (.athrow, 1) := by decide +kernel
theorem dX5_needMachine_28 : decode cX5_needMachine 28 = .ok (.return_, 1) := by decide +kernel
theorem dX5_needJob_0 : decode cX5_needJob 0 = .ok (.iload_n 1, 1) := by decide +kernel
theorem dX5_needJob_1 : decode cX5_needJob 1 = .ok (.ifCond .lt 17, 3) := by decide +kernel
theorem dX5_needJob_4 : decode cX5_needJob 4 = .ok (.iload_n 1, 1) := by decide +kernel
theorem dX5_needJob_5 : decode cX5_needJob 5 = .ok (.aload_n 0, 1) := by decide +kernel
theorem dX5_needJob_6 : decode cX5_needJob 6 = .ok (.getfield 51, 3) := by decide +kernel
theorem dX5_needJob_9 : decode cX5_needJob 9 = .ok (.getfield 95, 3) := by decide +kernel
theorem dX5_needJob_12 : decode cX5_needJob 12 = .ok (.getfield 92, 3) := by decide +kernel
theorem dX5_needJob_15 : decode cX5_needJob 15 = .ok (.if_icmp .lt 13, 3) := by decide +kernel
theorem dX5_needJob_18 : decode cX5_needJob 18 = .ok (.new 135, 3) := by decide +kernel
theorem dX5_needJob_21 : decode cX5_needJob 21 = .ok (.dup, 1) := by decide +kernel
theorem dX5_needJob_22 : decode cX5_needJob 22 = .ok (.ldc 241, 2) := by decide +kernel
theorem dX5_needJob_24 : decode cX5_needJob 24 = .ok (.invokespecial 139, 3) := by decide +kernel
theorem dX5_needJob_27 : decode cX5_needJob 27 = .ok (.athrow, 1) := by decide +kernel
theorem dX5_needJob_28 : decode cX5_needJob 28 = .ok (.return_, 1) := by decide +kernel
theorem dX5_needOperation_0 : decode cX5_needOperation 0 = .ok (.aload_n 0, 1) := by decide +kernel
theorem dX5_needOperation_1 : decode cX5_needOperation 1 = .ok (.iload_n 1, 1) := by decide +kernel
theorem dX5_needOperation_2 : decode cX5_needOperation 2 = .ok (.invokevirtual 102, 3) := by decide +kernel
theorem dX5_needOperation_5 : decode cX5_needOperation 5 = .ok (.iload_n 2, 1) := by decide +kernel
theorem dX5_needOperation_6 : decode cX5_needOperation 6 = .ok (.ifCond .lt 19, 3) := by decide +kernel
theorem dX5_needOperation_9 : decode cX5_needOperation 9 = .ok (.iload_n 2, 1) := by decide +kernel
theorem dX5_needOperation_10 : decode cX5_needOperation 10 = .ok (.aload_n 0, 1) := by decide +kernel
theorem dX5_needOperation_11 : decode cX5_needOperation 11 = .ok (.getfield 51, 3) := by decide +kernel
theorem dX5_needOperation_14 : decode cX5_needOperation 14 = .ok (.getfield 95, 3) := by decide +kernel
theorem dX5_needOperation_17 : decode cX5_needOperation 17 = .ok (.getfield 106, 3) := by decide +kernel
theorem dX5_needOperation_20 : decode cX5_needOperation 20 = .ok (.iload_n 1, 1) := by decide +kernel
theorem dX5_needOperation_21 : decode cX5_needOperation 21 = .ok (.iaload, 1) := by decide +kernel
theorem dX5_needOperation_22 : decode cX5_needOperation 22 = .ok (.if_icmp .lt 13, 3) := by decide +kernel
theorem dX5_needOperation_25 : decode cX5_needOperation 25 = .ok (.new 135, 3) := by decide +kernel
theorem dX5_needOperation_28 : decode cX5_needOperation 28 = .ok (.dup, 1) := by decide +kernel
theorem dX5_needOperation_29 : decode cX5_needOperation 29 = .ok (.ldc 243, 2) := by decide +kernel
theorem dX5_needOperation_31 : decode cX5_needOperation 31 = .ok (.invokespecial 139, 3) := by decide +kernel
theorem dX5_needOperation_34 : decode cX5_needOperation 34 = .ok (.athrow, 1) := by decide +kernel
theorem dX5_needOperation_35 : decode cX5_needOperation 35 = .ok (.return_, 1) := by decide +kernel
theorem dX5_needSwap_0 : decode cX5_needSwap 0 = .ok (.aload_n 0, 1) := by decide +kernel
theorem dX5_needSwap_1 : decode cX5_needSwap 1 = .ok (.iload_n 1, 1) := by decide +kernel
theorem dX5_needSwap_2 : decode cX5_needSwap 2 = .ok (.invokevirtual 129, 3) := by decide +kernel
theorem dX5_needSwap_5 : decode cX5_needSwap 5 = .ok (.iload_n 2, 1) := by decide +kernel
theorem dX5_needSwap_6 : decode cX5_needSwap 6 = .ok (.ifCond .lt 21, 3) := by decide +kernel
theorem dX5_needSwap_9 : decode cX5_needSwap 9 = .ok (.iload_n 2, 1) := by decide +kernel
theorem dX5_needSwap_10 : decode cX5_needSwap 10 = .ok (.aload_n 0, 1) := by decide +kernel
theorem dX5_needSwap_11 : decode cX5_needSwap 11 = .ok (.getfield 51, 3) := by decide +kernel
theorem dX5_needSwap_14 : decode cX5_needSwap 14 = .ok (.getfield 95, 3) := by decide +kernel
theorem dX5_needSwap_17 : decode cX5_needSwap 17 = .ok (.getfield 132, 3) := by decide +kernel
theorem dX5_needSwap_20 : decode cX5_needSwap 20 = .ok (.iload_n 1, 1) := by decide +kernel
theorem dX5_needSwap_21 : decode cX5_needSwap 21 = .ok (.iaload, 1) := by decide +kernel
theorem dX5_needSwap_22 : decode cX5_needSwap 22 = .ok (.iconst 1, 1) := by decide +kernel
theorem dX5_needSwap_23 : decode cX5_needSwap 23 = .ok (.isub, 1) := by decide +kernel
theorem dX5_needSwap_24 : decode cX5_needSwap 24 = .ok (.if_icmp .lt 13, 3) := by decide +kernel
theorem dX5_needSwap_27 : decode cX5_needSwap 27 = .ok (.new 135, 3) := by decide +kernel
theorem dX5_needSwap_30 : decode cX5_needSwap 30 = .ok (.dup, 1) := by decide +kernel
theorem dX5_needSwap_31 : decode cX5_needSwap 31 = .ok (.ldc 245, 2) := by decide +kernel
theorem dX5_needSwap_33 : decode cX5_needSwap 33 = .ok (.invokespecial 139, 3) := by decide +kernel
theorem dX5_needSwap_36 : decode cX5_needSwap 36 = .ok (.athrow, 1) := by decide +kernel
theorem dX5_needSwap_37 : decode cX5_needSwap 37 = .ok (.return_, 1) := by decide +kernel
theorem dX5_remember_0 : decode cX5_remember 0 = .ok (.aload_n 0, 1) := by decide +kernel
theorem dX5_remember_1 : decode cX5_remember 1 = .ok (.getfield 25, 3) := by decide +kernel
theorem dX5_remember_4 : decode cX5_remember 4 = .ok (.aload_n 0, 1) := by decide +kernel
theorem dX5_remember_5 : decode cX5_remember 5 = .ok (.getfield 29, 3) := by decide +kernel
theorem dX5_remember_8 : decode cX5_remember 8 = .ok (.aload_n 0, 1) := by decide +kernel
theorem dX5_remember_9 : decode cX5_remember 9 = .ok (.getfield 32, 3) := by decide +kernel
theorem dX5_remember_12 : decode cX5_remember 12 = .ok (.iadd, 1) := by decide +kernel
theorem dX5_remember_13 : decode cX5_remember 13 = .ok (.bipush 8, 2) := by decide +kernel
theorem dX5_remember_15 : decode cX5_remember 15 = .ok (.irem, 1) := by decide +kernel
theorem dX5_remember_16 : decode cX5_remember 16 = .ok (.aaload, 1) := by decide +kernel
theorem dX5_remember_17 : decode cX5_remember 17 = .ok (.astore_n 1, 1) := by decide +kernel
theorem dX5_remember_18 : decode cX5_remember 18 = .ok (.aload_n 1, 1) := by decide +kernel
theorem dX5_remember_19 : decode cX5_remember 19 = .ok (.ifnull 11, 3) := by decide +kernel
theorem dX5_remember_22 : decode cX5_remember 22 = .ok (.aload_n 1, 1) := by decide +kernel
theorem dX5_remember_23 : decode cX5_remember 23 = .ok (.aload_n 0, 1) := by decide +kernel
theorem dX5_remember_24 : decode cX5_remember 24 = .ok (.getfield 51, 3) := by decide +kernel
theorem dX5_remember_27 : decode cX5_remember 27 = .ok (.invokevirtual 222, 3) := by decide +kernel
theorem dX5_remember_30 : decode cX5_remember 30 = .ok (.aload_n 0, 1) := by decide +kernel
theorem dX5_remember_31 : decode cX5_remember 31 = .ok (.getfield 32, 3) := by decide +kernel
theorem dX5_remember_34 : decode cX5_remember 34 = .ok (.bipush 8, 2) := by decide +kernel
theorem dX5_remember_36 : decode cX5_remember 36 = .ok (.if_icmp .ge 16, 3) := by decide +kernel
theorem dX5_remember_39 : decode cX5_remember 39 = .ok (.aload_n 0, 1) := by decide +kernel
theorem dX5_remember_40 : decode cX5_remember 40 = .ok (.dup, 1) := by decide +kernel
theorem dX5_remember_41 : decode cX5_remember 41 = .ok (.getfield 32, 3) := by decide +kernel
theorem dX5_remember_44 : decode cX5_remember 44 = .ok (.iconst 1, 1) := by decide +kernel
theorem dX5_remember_45 : decode cX5_remember 45 = .ok (.iadd, 1) := by decide +kernel
theorem dX5_remember_46 : decode cX5_remember 46 = .ok (.putfield 32, 3) := by decide +kernel
theorem dX5_remember_49 : decode cX5_remember 49 = .ok (.goto 16, 3) := by decide +kernel
theorem dX5_remember_52 : decode cX5_remember 52 = .ok (.aload_n 0, 1) := by decide +kernel
theorem dX5_remember_53 : decode cX5_remember 53 = .ok (.aload_n 0, 1) := by decide +kernel
theorem dX5_remember_54 : decode cX5_remember 54 = .ok (.getfield 29, 3) := by decide +kernel
theorem dX5_remember_57 : decode cX5_remember 57 = .ok (.iconst 1, 1) := by decide +kernel
theorem dX5_remember_58 : decode cX5_remember 58 = .ok (.iadd, 1) := by decide +kernel
theorem dX5_remember_59 : decode cX5_remember 59 = .ok (.bipush 8, 2) := by decide +kernel
theorem dX5_remember_61 : decode cX5_remember 61 = .ok (.irem, 1) := by decide +kernel
theorem dX5_remember_62 : decode cX5_remember 62 = .ok (.putfield 29, 3) := by decide +kernel
theorem dX5_remember_65 : decode cX5_remember 65 = .ok (.return_, 1) := by decide +kernel
theorem dX5_trySwap_0 : decode cX5_trySwap 0 = .ok (.aload_n 0, 1) := by decide +kernel
theorem dX5_trySwap_1 : decode cX5_trySwap 1 = .ok (.getfield 55, 3) := by decide +kernel
theorem dX5_trySwap_4 : decode cX5_trySwap 4 = .ok (.aload_n 0, 1) := by decide +kernel
theorem dX5_trySwap_5 : decode cX5_trySwap 5 = .ok (.getfield 51, 3) := by decide +kernel
theorem dX5_trySwap_8 : decode cX5_trySwap 8 = .ok (.invokevirtual 222, 3) := by decide +kernel
theorem dX5_trySwap_11 : decode cX5_trySwap 11 = .ok (.aload_n 0, 1) := by decide +kernel
theorem dX5_trySwap_12 : decode cX5_trySwap 12 = .ok (.getfield 55, 3) := by decide +kernel
theorem dX5_trySwap_15 : decode cX5_trySwap 15 = .ok (.iload_n 1, 1) := by decide +kernel
theorem dX5_trySwap_16 : decode cX5_trySwap 16 = .ok (.iload_n 2, 1) := by decide +kernel
theorem dX5_trySwap_17 : decode cX5_trySwap 17 = .ok (.invokevirtual 247, 3) := by decide +kernel
theorem dX5_trySwap_20 : decode cX5_trySwap 20 = .ok (.aload_n 0, 1) := by decide +kernel
theorem dX5_trySwap_21 : decode cX5_trySwap 21 = .ok (.getfield 52, 3) := by decide +kernel
theorem dX5_trySwap_24 : decode cX5_trySwap 24 = .ok (.invokevirtual 88, 3) := by decide +kernel
theorem dX5_trySwap_27 : decode cX5_trySwap 27 = .ok (.ireturn, 1) := by decide +kernel
theorem dX5_adoptTrial_0 : decode cX5_adoptTrial 0 = .ok (.aload_n 0, 1) := by decide +kernel
theorem dX5_adoptTrial_1 : decode cX5_adoptTrial 1 = .ok (.getfield 51, 3) := by decide +kernel
theorem dX5_adoptTrial_4 : decode cX5_adoptTrial 4 = .ok (.aload_n 0, 1) := by decide +kernel
theorem dX5_adoptTrial_5 : decode cX5_adoptTrial 5 = .ok (.getfield 55, 3) := by decide +kernel
theorem dX5_adoptTrial_8 : decode cX5_adoptTrial 8 = .ok (.invokevirtual 222, 3) := by decide +kernel
theorem dX5_adoptTrial_11 : decode cX5_adoptTrial 11 = .ok (.aload_n 0, 1) := by decide +kernel
theorem dX5_adoptTrial_12 : decode cX5_adoptTrial 12 = .ok (.getfield 43, 3) := by decide +kernel
theorem dX5_adoptTrial_15 : decode cX5_adoptTrial 15 = .ok (.invokevirtual 88, 3) := by decide +kernel
theorem dX5_adoptTrial_18 : decode cX5_adoptTrial 18 = .ok (.pop, 1) := by decide +kernel
theorem dX5_adoptTrial_19 : decode cX5_adoptTrial 19 = .ok (.return_, 1) := by decide +kernel
theorem dX5_idOf_0 : decode cX5_idOf 0 = .ok (.iload_n 0, 1) := by decide +kernel
theorem dX5_idOf_1 : decode cX5_idOf 1 = .ok (.bipush 6, 2) := by decide +kernel
theorem dX5_idOf_3 : decode cX5_idOf 3 = .ok (.imul, 1) := by decide +kernel
theorem dX5_idOf_4 : decode cX5_idOf 4 = .ok (.iload_n 1, 1) := by decide +kernel
theorem dX5_idOf_5 : decode cX5_idOf 5 = .ok (.iadd, 1) := by decide +kernel
theorem dX5_idOf_6 : decode cX5_idOf 6 = .ok (.ireturn, 1) := by decide +kernel
theorem dX5_codeOf_0 : decode cX5_codeOf 0 = .ok (.bipush 10, 2) := by decide +kernel
theorem dX5_codeOf_2 : decode cX5_codeOf 2 = .ok (.iload_n 0, 1) := by decide +kernel
theorem dX5_codeOf_3 : decode cX5_codeOf 3 = .ok (.bipush 6, 2) := by decide +kernel
theorem dX5_codeOf_5 : decode cX5_codeOf 5 = .ok (.idiv, 1) := by decide +kernel
theorem dX5_codeOf_6 : decode cX5_codeOf 6 = .ok (.imul, 1) := by decide +kernel
theorem dX5_codeOf_7 : decode cX5_codeOf 7 = .ok (.iload_n 0, 1) := by decide +kernel
theorem dX5_codeOf_8 : decode cX5_codeOf 8 = .ok (.bipush 6, 2) := by decide +kernel
theorem dX5_codeOf_10 : decode cX5_codeOf 10 = .ok (.irem, 1) := by decide +kernel
theorem dX5_codeOf_11 : decode cX5_codeOf 11 = .ok (.iadd, 1) := by decide +kernel
theorem dX5_codeOf_12 : decode cX5_codeOf 12 = .ok (.ireturn, 1) := by decide +kernel
theorem dX6_init_0 : decode cX6_init 0 = .ok (.aload_n 0, 1) := by decide +kernel
theorem dX6_init_1 : decode cX6_init 1 = .ok (.invokespecial 3, 3) := by decide +kernel
theorem dX6_init_4 : decode cX6_init 4 = .ok (.aload_n 0, 1) := by decide +kernel
theorem dX6_init_5 : decode cX6_init 5 = .ok (.sipush 900, 3) := by decide +kernel
theorem dX6_init_8 : decode cX6_init 8 = .ok (.newarray .int, 2) := by decide +kernel
theorem dX6_init_10 : decode cX6_init 10 = .ok (.putfield 9, 3) := by decide +kernel
theorem dX6_init_13 : decode cX6_init 13 = .ok (.aload_n 0, 1) := by decide +kernel
theorem dX6_init_14 : decode cX6_init 14 = .ok (.iconst (-1), 1) := by decide +kernel
theorem dX6_init_15 : decode cX6_init 15 = .ok (.putfield 13, 3) := by decide +kernel
theorem dX6_init_18 : decode cX6_init 18 = .ok (.aload_n 0, 1) := by decide +kernel
theorem dX6_init_19 : decode cX6_init 19 = .ok (.sipush 1655, 3) := by decide +kernel
theorem dX6_init_22 : decode cX6_init 22 = .ok (.newarray .int, 2) := by decide +kernel
theorem dX6_init_24 : decode cX6_init 24 = .ok (.putfield 17, 3) := by decide +kernel
theorem dX6_init_27 : decode cX6_init 27 = .ok (.aload_n 0, 1) := by decide +kernel
theorem dX6_init_28 : decode cX6_init 28 = .ok (.sipush 1655, 3) := by decide +kernel
theorem dX6_init_31 : decode cX6_init 31 = .ok (.newarray .int, 2) := by decide +kernel
theorem dX6_init_33 : decode cX6_init 33 = .ok (.putfield 20, 3) := by decide +kernel
theorem dX6_init_36 : decode cX6_init 36 = .ok (.aload_n 0, 1) := by decide +kernel
theorem dX6_init_37 : decode cX6_init 37 = .ok (.sipush 1655, 3) := by decide +kernel
theorem dX6_init_40 : decode cX6_init 40 = .ok (.newarray .int, 2) := by decide +kernel
theorem dX6_init_42 : decode cX6_init 42 = .ok (.putfield 23, 3) := by decide +kernel
theorem dX6_init_45 : decode cX6_init 45 = .ok (.aload_n 0, 1) := by decide +kernel
theorem dX6_init_46 : decode cX6_init 46 = .ok (.bipush 8, 2) := by decide +kernel
theorem dX6_init_48 : decode cX6_init 48 = .ok (.sipush 1655, 3) := by decide +kernel
theorem dX6_init_51 : decode cX6_init 51 = .ok (.multianewarray 26 2, 4) := by decide +kernel
theorem dX6_init_55 : decode cX6_init 55 = .ok (.putfield 28, 3) := by decide +kernel
theorem dX6_init_58 : decode cX6_init 58 = .ok (.aload_n 0, 1) := by decide +kernel
theorem dX6_init_59 : decode cX6_init 59 = .ok (.bipush 36, 2) := by decide +kernel
theorem dX6_init_61 : decode cX6_init 61 = .ok (.newarray .int, 2) := by decide +kernel
theorem dX6_init_63 : decode cX6_init 63 = .ok (.putfield 31, 3) := by decide +kernel
theorem dX6_init_66 : decode cX6_init 66 = .ok (.aload_n 0, 1) := by decide +kernel
theorem dX6_init_67 : decode cX6_init 67 = .ok (.bipush 36, 2) := by decide +kernel
theorem dX6_init_69 : decode cX6_init 69 = .ok (.newarray .int, 2) := by decide +kernel
theorem dX6_init_71 : decode cX6_init 71 = .ok (.putfield 34, 3) := by decide +kernel
theorem dX6_init_74 : decode cX6_init 74 = .ok (.aload_n 0, 1) := by decide +kernel
theorem dX6_init_75 : decode cX6_init 75 = .ok (.bipush 36, 2) := by decide +kernel
theorem dX6_init_77 : decode cX6_init 77 = .ok (.newarray .int, 2) := by decide +kernel
theorem dX6_init_79 : decode cX6_init 79 = .ok (.putfield 37, 3) := by decide +kernel
theorem dX6_init_82 : decode cX6_init 82 = .ok (.aload_n 0, 1) := by decide +kernel
theorem dX6_init_83 : decode cX6_init 83 = .ok (.bipush 36, 2) := by decide +kernel
theorem dX6_init_85 : decode cX6_init 85 = .ok (.newarray .boolean, 2) := by decide +kernel
theorem dX6_init_87 : decode cX6_init 87 = .ok (.putfield 40, 3) := by decide +kernel
theorem dX6_init_90 : decode cX6_init 90 = .ok (.aload_n 0, 1) := by decide +kernel
theorem dX6_init_91 : decode cX6_init 91 = .ok (.sipush 1500, 3) := by decide +kernel
theorem dX6_init_94 : decode cX6_init 94 = .ok (.newarray .long, 2) := by decide +kernel
theorem dX6_init_96 : decode cX6_init 96 = .ok (.putfield 44, 3) := by decide +kernel
theorem dX6_init_99 : decode cX6_init 99 = .ok (.aload_n 0, 1) := by decide +kernel
theorem dX6_init_100 : decode cX6_init 100 = .ok (.bipush 36, 2) := by decide +kernel
theorem dX6_init_102 : decode cX6_init 102 = .ok (.newarray .int, 2) := by decide +kernel
theorem dX6_init_104 : decode cX6_init 104 = .ok (.putfield 48, 3) := by decide +kernel
theorem dX6_init_107 : decode cX6_init 107 = .ok (.return_, 1) := by decide +kernel
theorem dX6_thrown_0 : decode cX6_thrown 0 = .ok (.aload_n 0, 1) := by decide +kernel
theorem dX6_thrown_1 : decode cX6_thrown 1 = .ok (.getfield 51, 3) := by decide +kernel
theorem dX6_thrown_4 : decode cX6_thrown 4 = .ok (.ireturn, 1) := by decide +kernel
theorem dX6_fails_0 : decode cX6_fails 0 = .ok (.iload_n 1, 1) := by decide +kernel
theorem dX6_fails_1 : decode cX6_fails 1 = .ok (.ifCond .eq 15, 3) := by decide +kernel
theorem dX6_fails_4 : decode cX6_fails 4 = .ok (.aload_n 0, 1) := by decide +kernel
theorem dX6_fails_5 : decode cX6_fails 5 = .ok (.getfield 51, 3) := by decide +kernel
theorem dX6_fails_8 : decode cX6_fails 8 = .ok (.ifCond .ne 8, 3) := by decide +kernel
theorem dX6_fails_11 : decode cX6_fails 11 = .ok (.aload_n 0, 1) := by decide +kernel
theorem dX6_fails_12 : decode cX6_fails 12 = .ok (.iload_n 2, 1) := by decide +kernel
theorem dX6_fails_13 : decode cX6_fails 13 = .ok (.putfield 51, 3) := by decide +kernel
theorem dX6_fails_16 : decode cX6_fails 16 = .ok (.aload_n 0, 1) := by decide +kernel
theorem dX6_fails_17 : decode cX6_fails 17 = .ok (.getfield 51, 3) := by decide +kernel
theorem dX6_fails_20 : decode cX6_fails 20 = .ok (.ifCond .eq 7, 3) := by decide +kernel
theorem dX6_fails_23 : decode cX6_fails 23 = .ok (.iconst 1, 1) := by decide +kernel
theorem dX6_fails_24 : decode cX6_fails 24 = .ok (.goto 4, 3) := by decide +kernel
theorem dX6_fails_27 : decode cX6_fails 27 = .ok (.iconst 0, 1) := by decide +kernel
theorem dX6_fails_28 : decode cX6_fails 28 = .ok (.ireturn, 1) := by decide +kernel
theorem dX6_in_0 : decode cX6_in 0 = .ok (.iload_n 0, 1) := by decide +kernel
theorem dX6_in_1 : decode cX6_in 1 = .ok (.iload_n 1, 1) := by decide +kernel
theorem dX6_in_2 : decode cX6_in 2 = .ok (.if_icmp .lt 12, 3) := by decide +kernel
theorem dX6_in_5 : decode cX6_in 5 = .ok (.iload_n 0, 1) := by decide +kernel
theorem dX6_in_6 : decode cX6_in 6 = .ok (.iload_n 2, 1) := by decide +kernel
theorem dX6_in_7 : decode cX6_in 7 = .ok (.if_icmp .gt 7, 3) := by decide +kernel
theorem dX6_in_10 : decode cX6_in 10 = .ok (.iconst 1, 1) := by decide +kernel
theorem dX6_in_11 : decode cX6_in 11 = .ok (.goto 4, 3) := by decide +kernel
theorem dX6_in_14 : decode cX6_in 14 = .ok (.iconst 0, 1) := by decide +kernel
theorem dX6_in_15 : decode cX6_in 15 = .ok (.ireturn, 1) := by decide +kernel
theorem dX6_min_0 : decode cX6_min 0 = .ok (.iload_n 0, 1) := by decide +kernel
theorem dX6_min_1 : decode cX6_min 1 = .ok (.iload_n 1, 1) := by decide +kernel
theorem dX6_min_2 : decode cX6_min 2 = .ok (.if_icmp .ge 7, 3) := by decide +kernel
theorem dX6_min_5 : decode cX6_min 5 = .ok (.iload_n 0, 1) := by decide +kernel
theorem dX6_min_6 : decode cX6_min 6 = .ok (.goto 4, 3) := by decide +kernel
theorem dX6_min_9 : decode cX6_min 9 = .ok (.iload_n 1, 1) := by decide +kernel
theorem dX6_min_10 : decode cX6_min 10 = .ok (.ireturn, 1) := by decide +kernel
theorem dX6_max_0 : decode cX6_max 0 = .ok (.iload_n 0, 1) := by decide +kernel
theorem dX6_max_1 : decode cX6_max 1 = .ok (.iload_n 1, 1) := by decide +kernel
theorem dX6_max_2 : decode cX6_max 2 = .ok (.if_icmp .le 7, 3) := by decide +kernel
theorem dX6_max_5 : decode cX6_max 5 = .ok (.iload_n 0, 1) := by decide +kernel
theorem dX6_max_6 : decode cX6_max 6 = .ok (.goto 4, 3) := by decide +kernel
theorem dX6_max_9 : decode cX6_max 9 = .ok (.iload_n 1, 1) := by decide +kernel
theorem dX6_max_10 : decode cX6_max 10 = .ok (.ireturn, 1) := by decide +kernel
theorem dX6_copy_0 : decode cX6_copy 0 = .ok (.iconst 0, 1) := by decide +kernel
theorem dX6_copy_1 : decode cX6_copy 1 = .ok (.istore_n 2, 1) := by decide +kernel
theorem dX6_copy_2 : decode cX6_copy 2 = .ok (.iload_n 2, 1) := by decide +kernel
theorem dX6_copy_3 : decode cX6_copy 3 = .ok (.sipush 1655, 3) := by decide +kernel
theorem dX6_copy_6 : decode cX6_copy 6 = .ok (.if_icmp .ge 15, 3) := by decide +kernel
theorem dX6_copy_9 : decode cX6_copy 9 = .ok (.aload_n 1, 1) := by decide +kernel
theorem dX6_copy_10 : decode cX6_copy 10 = .ok (.iload_n 2, 1) := by decide +kernel
theorem dX6_copy_11 : decode cX6_copy 11 = .ok (.aload_n 0, 1) := by decide +kernel
theorem dX6_copy_12 : decode cX6_copy 12 = .ok (.iload_n 2, 1) := by decide +kernel
theorem dX6_copy_13 : decode cX6_copy 13 = .ok (.iaload, 1) := by decide +kernel
theorem dX6_copy_14 : decode cX6_copy 14 = .ok (.iastore, 1) := by decide +kernel
theorem dX6_copy_15 : decode cX6_copy 15 = .ok (.iinc 2 1, 3) := by decide +kernel
theorem dX6_copy_18 : decode cX6_copy 18 = .ok (.goto (-16), 3) := by decide +kernel
theorem dX6_copy_21 : decode cX6_copy 21 = .ok (.return_, 1) := by decide +kernel
theorem dX6_machine_0 : decode cX6_machine 0 = .ok (.iconst 5, 1) := by decide +kernel
theorem dX6_machine_1 : decode cX6_machine 1 = .ok (.bipush 9, 2) := by decide +kernel
theorem dX6_machine_3 : decode cX6_machine 3 = .ok (.iload_n 0, 1) := by decide +kernel
theorem dX6_machine_4 : decode cX6_machine 4 = .ok (.imul, 1) := by decide +kernel
theorem dX6_machine_5 : decode cX6_machine 5 = .ok (.iadd, 1) := by decide +kernel
theorem dX6_machine_6 : decode cX6_machine 6 = .ok (.ireturn, 1) := by decide +kernel
theorem dX6_job_0 : decode cX6_job 0 = .ok (.bipush 59, 2) := by decide +kernel
theorem dX6_job_2 : decode cX6_job 2 = .ok (.iconst 4, 1) := by decide +kernel
theorem dX6_job_3 : decode cX6_job 3 = .ok (.iload_n 0, 1) := by decide +kernel
theorem dX6_job_4 : decode cX6_job 4 = .ok (.imul, 1) := by decide +kernel
theorem dX6_job_5 : decode cX6_job 5 = .ok (.iadd, 1) := by decide +kernel
theorem dX6_job_6 : decode cX6_job 6 = .ok (.ireturn, 1) := by decide +kernel
theorem dX6_operationAt_0 : decode cX6_operationAt 0 = .ok (.bipush 83, 2) := by decide +kernel
theorem dX6_operationAt_2 : decode cX6_operationAt 2 = .ok (.iconst 2, 1) := by decide +kernel
theorem dX6_operationAt_3 : decode cX6_operationAt 3 = .ok (.iload_n 0, 1) := by decide +kernel
theorem dX6_operationAt_4 : decode cX6_operationAt 4 = .ok (.imul, 1) := by decide +kernel
theorem dX6_operationAt_5 : decode cX6_operationAt 5 = .ok (.iadd, 1) := by decide +kernel
theorem dX6_operationAt_6 : decode cX6_operationAt 6 = .ok (.ireturn, 1) := by decide +kernel
theorem dX6_append_0 : decode cX6_append 0 = .ok (.aload_n 0, 1) := by decide +kernel
theorem dX6_append_1 : decode cX6_append 1 = .ok (.iconst 0, 1) := by decide +kernel
theorem dX6_append_2 : decode cX6_append 2 = .ok (.putfield 51, 3) := by decide +kernel
theorem dX6_append_5 : decode cX6_append 5 = .ok (.aload_n 0, 1) := by decide +kernel
theorem dX6_append_6 : decode cX6_append 6 = .ok (.getfield 54, 3) := by decide +kernel
theorem dX6_append_9 : decode cX6_append 9 = .ok (.bipush 20, 2) := by decide +kernel
theorem dX6_append_11 : decode cX6_append 11 = .ok (.iadd, 1) := by decide +kernel
theorem dX6_append_12 : decode cX6_append 12 = .ok (.sipush 900, 3) := by decide +kernel
theorem dX6_append_15 : decode cX6_append 15 = .ok (.if_icmp .le 5, 3) := by decide +kernel
theorem dX6_append_18 : decode cX6_append 18 = .ok (.iconst (-1), 1) := by decide +kernel
theorem dX6_append_19 : decode cX6_append 19 = .ok (.ireturn, 1) := by decide +kernel
theorem dX6_append_20 : decode cX6_append 20 = .ok (.iconst 0, 1) := by decide +kernel
theorem dX6_append_21 : decode cX6_append 21 = .ok (.istore 6, 2) := by decide +kernel
theorem dX6_append_23 : decode cX6_append 23 = .ok (.iload 6, 2) := by decide +kernel
theorem dX6_append_25 : decode cX6_append 25 = .ok (.bipush 20, 2) := by decide +kernel
theorem dX6_append_27 : decode cX6_append 27 = .ok (.if_icmp .ge 93, 3) := by decide +kernel
theorem dX6_append_30 : decode cX6_append 30 = .ok (.iload 6, 2) := by decide +kernel
theorem dX6_append_32 : decode cX6_append 32 = .ok (.iconst 4, 1) := by decide +kernel
theorem dX6_append_33 : decode cX6_append 33 = .ok (.if_icmp .ge 7, 3) := by decide +kernel
theorem dX6_append_36 : decode cX6_append 36 = .ok (.iload_n 1, 1) := by decide +kernel
theorem dX6_append_37 : decode cX6_append 37 = .ok (.goto 39, 3) := by decide +kernel
theorem dX6_append_40 : decode cX6_append 40 = .ok (.iload 6, 2) := by decide +kernel
theorem dX6_append_42 : decode cX6_append 42 = .ok (.bipush 8, 2) := by decide +kernel
theorem dX6_append_44 : decode cX6_append 44 = .ok (.if_icmp .ge 7, 3) := by decide +kernel
theorem dX6_append_47 : decode cX6_append 47 = .ok (.iload_n 2, 1) := by decide +kernel
theorem dX6_append_48 : decode cX6_append 48 = .ok (.goto 28, 3) := by decide +kernel
theorem dX6_append_51 : decode cX6_append 51 = .ok (.iload 6, 2) := by decide +kernel
theorem dX6_append_53 : decode cX6_append 53 = .ok (.bipush 12, 2) := by decide +kernel
theorem dX6_append_55 : decode cX6_append 55 = .ok (.if_icmp .ge 7, 3) := by decide +kernel
theorem dX6_append_58 : decode cX6_append 58 = .ok (.iload_n 3, 1) := by decide +kernel
theorem dX6_append_59 : decode cX6_append 59 = .ok (.goto 17, 3) := by decide +kernel
theorem dX6_append_62 : decode cX6_append 62 = .ok (.iload 6, 2) := by decide +kernel
theorem dX6_append_64 : decode cX6_append 64 = .ok (.bipush 16, 2) := by decide +kernel
theorem dX6_append_66 : decode cX6_append 66 = .ok (.if_icmp .ge 8, 3) := by decide +kernel
theorem dX6_append_69 : decode cX6_append 69 = .ok (.iload 4, 2) := by decide +kernel
theorem dX6_append_71 : decode cX6_append 71 = .ok (.goto 5, 3) := by decide +kernel
theorem dX6_append_74 : decode cX6_append 74 = .ok (.iload 5, 2) := by decide +kernel
theorem dX6_append_76 : decode cX6_append 76 = .ok (.istore 7, 2) := by decide +kernel
theorem dX6_append_78 : decode cX6_append 78 = .ok (.aload_n 0, 1) := by decide +kernel
theorem dX6_append_79 : decode cX6_append 79 = .ok (.getfield 9, 3) := by decide +kernel
theorem dX6_append_82 : decode cX6_append 82 = .ok (.aload_n 0, 1) := by decide +kernel
theorem dX6_append_83 : decode cX6_append 83 = .ok (.getfield 54, 3) := by decide +kernel
theorem dX6_append_86 : decode cX6_append 86 = .ok (.iload 7, 2) := by decide +kernel
theorem dX6_append_88 : decode cX6_append 88 = .ok (.bipush 24, 2) := by decide +kernel
theorem dX6_append_90 : decode cX6_append 90 = .ok (.bipush 8, 2) := by decide +kernel
theorem dX6_append_92 : decode cX6_append 92 = .ok (.iload 6, 2) := by decide +kernel
theorem dX6_append_94 : decode cX6_append 94 = .ok (.iconst 4, 1) := by decide +kernel
theorem dX6_append_95 : decode cX6_append 95 = .ok (.irem, 1) := by decide +kernel
theorem dX6_append_96 : decode cX6_append 96 = .ok (.imul, 1) := by decide +kernel
theorem dX6_append_97 : decode cX6_append 97 = .ok (.isub, 1) := by decide +kernel
theorem dX6_append_98 : decode cX6_append 98 = .ok (.ishr, 1) := by decide +kernel
theorem dX6_append_99 : decode cX6_append 99 = .ok (.sipush 255, 3) := by decide +kernel
theorem dX6_append_102 : decode cX6_append 102 = .ok (.iand, 1) := by decide +kernel
theorem dX6_append_103 : decode cX6_append 103 = .ok (.iastore, 1) := by decide +kernel
theorem dX6_append_104 : decode cX6_append 104 = .ok (.aload_n 0, 1) := by decide +kernel
theorem dX6_append_105 : decode cX6_append 105 = .ok (.dup, 1) := by decide +kernel
theorem dX6_append_106 : decode cX6_append 106 = .ok (.getfield 54, 3) := by decide +kernel
theorem dX6_append_109 : decode cX6_append 109 = .ok (.iconst 1, 1) := by decide +kernel
theorem dX6_append_110 : decode cX6_append 110 = .ok (.iadd, 1) := by decide +kernel
theorem dX6_append_111 : decode cX6_append 111 = .ok (.putfield 54, 3) := by decide +kernel
theorem dX6_append_114 : decode cX6_append 114 = .ok (.iinc 6 1, 3) := by decide +kernel
theorem dX6_append_117 : decode cX6_append 117 = .ok (.goto (-94), 3) := by decide +kernel
theorem dX6_append_120 : decode cX6_append 120 = .ok (.aload_n 0, 1) := by decide +kernel
theorem dX6_append_121 : decode cX6_append 121 = .ok (.getfield 54, 3) := by decide +kernel
theorem dX6_append_124 : decode cX6_append 124 = .ok (.ireturn, 1) := by decide +kernel
theorem dX6_byteAt_0 : decode cX6_byteAt 0 = .ok (.iload_n 1, 1) := by decide +kernel
theorem dX6_byteAt_1 : decode cX6_byteAt 1 = .ok (.aload_n 0, 1) := by decide +kernel
theorem dX6_byteAt_2 : decode cX6_byteAt 2 = .ok (.getfield 57, 3) := by decide +kernel
theorem dX6_byteAt_5 : decode cX6_byteAt 5 = .ok (.if_icmp .ge 12, 3) := by decide +kernel
theorem dX6_byteAt_8 : decode cX6_byteAt 8 = .ok (.aload_n 0, 1) := by decide +kernel
theorem dX6_byteAt_9 : decode cX6_byteAt 9 = .ok (.getfield 9, 3) := by decide +kernel
theorem dX6_byteAt_12 : decode cX6_byteAt 12 = .ok (.iload_n 1, 1) := by decide +kernel
theorem dX6_byteAt_13 : decode cX6_byteAt 13 = .ok (.iaload, 1) := by decide +kernel
theorem dX6_byteAt_14 : decode cX6_byteAt 14 = .ok (.goto 4, 3) := by decide +kernel
theorem dX6_byteAt_17 : decode cX6_byteAt 17 = .ok (.iconst (-1), 1) := by decide +kernel
theorem dX6_byteAt_18 : decode cX6_byteAt 18 = .ok (.ireturn, 1) := by decide +kernel
theorem dX6_next_0 : decode cX6_next 0 = .ok (.aload_n 0, 1) := by decide +kernel
theorem dX6_next_1 : decode cX6_next 1 = .ok (.aload_n 0, 1) := by decide +kernel
theorem dX6_next_2 : decode cX6_next 2 = .ok (.getfield 60, 3) := by decide +kernel
theorem dX6_next_5 : decode cX6_next 5 = .ok (.invokevirtual 63, 3) := by decide +kernel
theorem dX6_next_8 : decode cX6_next 8 = .ok (.bipush 32, 2) := by decide +kernel
theorem dX6_next_10 : decode cX6_next 10 = .ok (.if_icmp .ne 16, 3) := by decide +kernel
theorem dX6_next_13 : decode cX6_next 13 = .ok (.aload_n 0, 1) := by decide +kernel
theorem dX6_next_14 : decode cX6_next 14 = .ok (.dup, 1) := by decide +kernel
theorem dX6_next_15 : decode cX6_next 15 = .ok (.getfield 60, 3) := by decide +kernel
theorem dX6_next_18 : decode cX6_next 18 = .ok (.iconst 1, 1) := by decide +kernel
theorem dX6_next_19 : decode cX6_next 19 = .ok (.iadd, 1) := by decide +kernel
theorem dX6_next_20 : decode cX6_next 20 = .ok (.putfield 60, 3) := by decide +kernel
theorem dX6_next_23 : decode cX6_next 23 = .ok (.goto (-23), 3) := by decide +kernel
theorem dX6_next_26 : decode cX6_next 26 = .ok (.aload_n 0, 1) := by decide +kernel
theorem dX6_next_27 : decode cX6_next 27 = .ok (.aload_n 0, 1) := by decide +kernel
theorem dX6_next_28 : decode cX6_next 28 = .ok (.getfield 60, 3) := by decide +kernel
theorem dX6_next_31 : decode cX6_next 31 = .ok (.invokevirtual 63, 3) := by decide +kernel
theorem dX6_next_34 : decode cX6_next 34 = .ok (.ireturn, 1) := by decide +kernel
theorem dX6_isGood_0 : decode cX6_isGood 0 = .ok (.aload_n 0, 1) := by decide +kernel
theorem dX6_isGood_1 : decode cX6_isGood 1 = .ok (.getfield 67, 3) := by decide +kernel
theorem dX6_isGood_4 : decode cX6_isGood 4 = .ok (.ifCond .ne 7, 3) := by decide +kernel
theorem dX6_isGood_7 : decode cX6_isGood 7 = .ok (.iconst 1, 1) := by decide +kernel
theorem dX6_isGood_8 : decode cX6_isGood 8 = .ok (.goto 4, 3) := by decide +kernel
theorem dX6_isGood_11 : decode cX6_isGood 11 = .ok (.iconst 0, 1) := by decide +kernel
theorem dX6_isGood_12 : decode cX6_isGood 12 = .ok (.ireturn, 1) := by decide +kernel
theorem dX6_report_0 : decode cX6_report 0 = .ok (.aload_n 0, 1) := by decide +kernel
theorem dX6_report_1 : decode cX6_report 1 = .ok (.getfield 67, 3) := by decide +kernel
theorem dX6_report_4 : decode cX6_report 4 = .ok (.ifCond .eq 4, 3) := by decide +kernel
theorem dX6_report_7 : decode cX6_report 7 = .ok (.return_, 1) := by decide +kernel
theorem dX6_report_8 : decode cX6_report 8 = .ok (.aload_n 0, 1) := by decide +kernel
theorem dX6_report_9 : decode cX6_report 9 = .ok (.iload_n 1, 1) := by decide +kernel
theorem dX6_report_10 : decode cX6_report 10 = .ok (.putfield 67, 3) := by decide +kernel
theorem dX6_report_13 : decode cX6_report 13 = .ok (.aload_n 0, 1) := by decide +kernel
theorem dX6_report_14 : decode cX6_report 14 = .ok (.iload_n 2, 1) := by decide +kernel
theorem dX6_report_15 : decode cX6_report 15 = .ok (.putfield 70, 3) := by decide +kernel
theorem dX6_report_18 : decode cX6_report 18 = .ok (.return_, 1) := by decide +kernel
theorem dX6_isDigit_0 : decode cX6_isDigit 0 = .ok (.iload_n 0, 1) := by decide +kernel
theorem dX6_isDigit_1 : decode cX6_isDigit 1 = .ok (.bipush 48, 2) := by decide +kernel
theorem dX6_isDigit_3 : decode cX6_isDigit 3 = .ok (.bipush 57, 2) := by decide +kernel
theorem dX6_isDigit_5 : decode cX6_isDigit 5 = .ok (.invokestatic 73, 3) := by decide +kernel
theorem dX6_isDigit_8 : decode cX6_isDigit 8 = .ok (.ireturn, 1) := by decide +kernel
theorem dX6_takeWord_0 : decode cX6_takeWord 0 = .ok (.aload_n 0, 1) := by decide +kernel
theorem dX6_takeWord_1 : decode cX6_takeWord 1 = .ok (.invokevirtual 77, 3) := by decide +kernel
theorem dX6_takeWord_4 : decode cX6_takeWord 4 = .ok (.ifCond .ne 5, 3) := by decide +kernel
theorem dX6_takeWord_7 : decode cX6_takeWord 7 = .ok (.iconst 0, 1) := by decide +kernel
theorem dX6_takeWord_8 : decode cX6_takeWord 8 = .ok (.ireturn, 1) := by decide +kernel
theorem dX6_takeWord_9 : decode cX6_takeWord 9 = .ok (.aload_n 0, 1) := by decide +kernel
theorem dX6_takeWord_10 : decode cX6_takeWord 10 = .ok (.invokevirtual 81, 3) := by decide +kernel
theorem dX6_takeWord_13 : decode cX6_takeWord 13 = .ok (.pop, 1) := by decide +kernel
theorem dX6_takeWord_14 : decode cX6_takeWord 14 = .ok (.iconst 0, 1) := by decide +kernel
theorem dX6_takeWord_15 : decode cX6_takeWord 15 = .ok (.istore_n 2, 1) := by decide +kernel
theorem dX6_takeWord_16 : decode cX6_takeWord 16 = .ok (.iload_n 2, 1) := by decide +kernel
theorem dX6_takeWord_17 : decode cX6_takeWord 17 = .ok (.aload_n 1, 1) := by decide +kernel
theorem dX6_takeWord_18 : decode cX6_takeWord 18 = .ok (.invokevirtual 85, 3) := by decide +kernel
theorem dX6_takeWord_21 : decode cX6_takeWord 21 = .ok (.if_icmp .ge 27, 3) := by decide +kernel
theorem dX6_takeWord_24 : decode cX6_takeWord 24 = .ok (.aload_n 0, 1) := by decide +kernel
theorem dX6_takeWord_25 : decode cX6_takeWord 25 = .ok (.aload_n 0, 1) := by decide +kernel
theorem dX6_takeWord_26 : decode cX6_takeWord 26 = .ok (.getfield 60, 3) := by decide +kernel
theorem dX6_takeWord_29 : decode cX6_takeWord 29 = .ok (.iload_n 2, 1) := by decide +kernel
theorem dX6_takeWord_30 : decode cX6_takeWord 30 = .ok (.iadd, 1) := by decide +kernel
theorem dX6_takeWord_31 : decode cX6_takeWord 31 = .ok (.invokevirtual 63, 3) := by decide +kernel
theorem dX6_takeWord_34 : decode cX6_takeWord 34 = .ok (.aload_n 1, 1) := by decide +kernel
theorem dX6_takeWord_35 : decode cX6_takeWord 35 = .ok (.iload_n 2, 1) := by decide +kernel
theorem dX6_takeWord_36 : decode cX6_takeWord 36 = .ok (.invokevirtual 90, 3) := by decide +kernel
theorem dX6_takeWord_39 : decode cX6_takeWord 39 = .ok (.if_icmp .ne 9, 3) := by decide +kernel
theorem dX6_takeWord_42 : decode cX6_takeWord 42 = .ok (.iinc 2 1, 3) := by decide +kernel
theorem dX6_takeWord_45 : decode cX6_takeWord 45 = .ok (.goto (-29), 3) := by decide +kernel
theorem dX6_takeWord_48 : decode cX6_takeWord 48 = .ok (.iload_n 2, 1) := by decide +kernel
theorem dX6_takeWord_49 : decode cX6_takeWord 49 = .ok (.aload_n 1, 1) := by decide +kernel
theorem dX6_takeWord_50 : decode cX6_takeWord 50 = .ok (.invokevirtual 85, 3) := by decide +kernel
theorem dX6_takeWord_53 : decode cX6_takeWord 53 = .ok (.if_icmp .lt 23, 3) := by decide +kernel
theorem dX6_takeWord_56 : decode cX6_takeWord 56 = .ok (.aload_n 0, 1) := by decide +kernel
theorem dX6_takeWord_57 : decode cX6_takeWord 57 = .ok (.aload_n 0, 1) := by decide +kernel
theorem dX6_takeWord_58 : decode cX6_takeWord 58 = .ok (.getfield 60, 3) := by decide +kernel
theorem dX6_takeWord_61 : decode cX6_takeWord 61 = .ok (.iload_n 2, 1) := by decide +kernel
theorem dX6_takeWord_62 : decode cX6_takeWord 62 = .ok (.iadd, 1) := by decide +kernel
theorem dX6_takeWord_63 : decode cX6_takeWord 63 = .ok (.invokevirtual 63, 3) := by decide +kernel
theorem dX6_takeWord_66 : decode cX6_takeWord 66 = .ok (.bipush 97, 2) := by decide +kernel
theorem dX6_takeWord_68 : decode cX6_takeWord 68 = .ok (.bipush 122, 2) := by decide +kernel
theorem dX6_takeWord_70 : decode cX6_takeWord 70 = .ok (.invokestatic 73, 3) := by decide +kernel
theorem dX6_takeWord_73 : decode cX6_takeWord 73 = .ok (.ifCond .eq 5, 3) := by decide +kernel
theorem dX6_takeWord_76 : decode cX6_takeWord 76 = .ok (.iconst 0, 1) := by decide +kernel
theorem dX6_takeWord_77 : decode cX6_takeWord 77 = .ok (.ireturn, 1) := by decide +kernel
theorem dX6_takeWord_78 : decode cX6_takeWord 78 = .ok (.aload_n 0, 1) := by decide +kernel
theorem dX6_takeWord_79 : decode cX6_takeWord 79 = .ok (.dup, 1) := by decide +kernel
theorem dX6_takeWord_80 : decode cX6_takeWord 80 = .ok (.getfield 60, 3) := by decide +kernel
theorem dX6_takeWord_83 : decode cX6_takeWord 83 = .ok (.iload_n 2, 1) := by decide +kernel
theorem dX6_takeWord_84 : decode cX6_takeWord 84 = .ok (.iadd, 1) := by decide +kernel
theorem dX6_takeWord_85 : decode cX6_takeWord 85 = .ok (.putfield 60, 3) := by decide +kernel
theorem dX6_takeWord_88 : decode cX6_takeWord 88 = .ok (.iconst 1, 1) := by decide +kernel
theorem dX6_takeWord_89 : decode cX6_takeWord 89 = .ok (.ireturn, 1) := by decide +kernel
theorem dX6_expect_0 : decode cX6_expect 0 = .ok (.aload_n 0, 1) := by decide +kernel
theorem dX6_expect_1 : decode cX6_expect 1 = .ok (.invokevirtual 77, 3) := by decide +kernel
theorem dX6_expect_4 : decode cX6_expect 4 = .ok (.ifCond .ne 4, 3) := by decide +kernel
theorem dX6_expect_7 : decode cX6_expect 7 = .ok (.return_, 1) := by decide +kernel
theorem dX6_expect_8 : decode cX6_expect 8 = .ok (.aload_n 0, 1) := by decide +kernel
theorem dX6_expect_9 : decode cX6_expect 9 = .ok (.invokevirtual 81, 3) := by decide +kernel
theorem dX6_expect_12 : decode cX6_expect 12 = .ok (.iload_n 1, 1) := by decide +kernel
theorem dX6_expect_13 : decode cX6_expect 13 = .ok (.if_icmp .ne 16, 3) := by decide +kernel
theorem dX6_expect_16 : decode cX6_expect 16 = .ok (.aload_n 0, 1) := by decide +kernel
theorem dX6_expect_17 : decode cX6_expect 17 = .ok (.dup, 1) := by decide +kernel
theorem dX6_expect_18 : decode cX6_expect 18 = .ok (.getfield 60, 3) := by decide +kernel
theorem dX6_expect_21 : decode cX6_expect 21 = .ok (.iconst 1, 1) := by decide +kernel
theorem dX6_expect_22 : decode cX6_expect 22 = .ok (.iadd, 1) := by decide +kernel
theorem dX6_expect_23 : decode cX6_expect 23 = .ok (.putfield 60, 3) := by decide +kernel
theorem dX6_expect_26 : decode cX6_expect 26 = .ok (.goto 13, 3) := by decide +kernel
theorem dX6_expect_29 : decode cX6_expect 29 = .ok (.aload_n 0, 1) := by decide +kernel
theorem dX6_expect_30 : decode cX6_expect 30 = .ok (.bipush (-2), 2) := by decide +kernel
theorem dX6_expect_32 : decode cX6_expect 32 = .ok (.aload_n 0, 1) := by decide +kernel
theorem dX6_expect_33 : decode cX6_expect 33 = .ok (.getfield 60, 3) := by decide +kernel
theorem dX6_expect_36 : decode cX6_expect 36 = .ok (.invokevirtual 94, 3) := by decide +kernel
theorem dX6_expect_39 : decode cX6_expect 39 = .ok (.return_, 1) := by decide +kernel
theorem dX6_number_0 : decode cX6_number 0 = .ok (.aload_n 0, 1) := by decide +kernel
theorem dX6_number_1 : decode cX6_number 1 = .ok (.invokevirtual 77, 3) := by decide +kernel
theorem dX6_number_4 : decode cX6_number 4 = .ok (.ifCond .ne 5, 3) := by decide +kernel
theorem dX6_number_7 : decode cX6_number 7 = .ok (.iconst 0, 1) := by decide +kernel
theorem dX6_number_8 : decode cX6_number 8 = .ok (.ireturn, 1) := by decide +kernel
theorem dX6_number_9 : decode cX6_number 9 = .ok (.aload_n 0, 1) := by decide +kernel
theorem dX6_number_10 : decode cX6_number 10 = .ok (.invokevirtual 81, 3) := by decide +kernel
theorem dX6_number_13 : decode cX6_number 13 = .ok (.invokestatic 98, 3) := by decide +kernel
theorem dX6_number_16 : decode cX6_number 16 = .ok (.ifCond .ne 15, 3) := by decide +kernel
theorem dX6_number_19 : decode cX6_number 19 = .ok (.aload_n 0, 1) := by decide +kernel
theorem dX6_number_20 : decode cX6_number 20 = .ok (.bipush (-2), 2) := by decide +kernel
theorem dX6_number_22 : decode cX6_number 22 = .ok (.aload_n 0, 1) := by decide +kernel
theorem dX6_number_23 : decode cX6_number 23 = .ok (.getfield 60, 3) := by decide +kernel
theorem dX6_number_26 : decode cX6_number 26 = .ok (.invokevirtual 94, 3) := by decide +kernel
theorem dX6_number_29 : decode cX6_number 29 = .ok (.iconst 0, 1) := by decide +kernel
theorem dX6_number_30 : decode cX6_number 30 = .ok (.ireturn, 1) := by decide +kernel
theorem dX6_number_31 : decode cX6_number 31 = .ok (.aload_n 0, 1) := by decide +kernel
theorem dX6_number_32 : decode cX6_number 32 = .ok (.aload_n 0, 1) := by decide +kernel
theorem dX6_number_33 : decode cX6_number 33 = .ok (.getfield 60, 3) := by decide +kernel
theorem dX6_number_36 : decode cX6_number 36 = .ok (.putfield 102, 3) := by decide +kernel
theorem dX6_number_39 : decode cX6_number 39 = .ok (.iconst 0, 1) := by decide +kernel
theorem dX6_number_40 : decode cX6_number 40 = .ok (.istore_n 3, 1) := by decide +kernel
theorem dX6_number_41 : decode cX6_number 41 = .ok (.aload_n 0, 1) := by decide +kernel
theorem dX6_number_42 : decode cX6_number 42 = .ok (.aload_n 0, 1) := by decide +kernel
theorem dX6_number_43 : decode cX6_number 43 = .ok (.getfield 60, 3) := by decide +kernel
theorem dX6_number_46 : decode cX6_number 46 = .ok (.invokevirtual 63, 3) := by decide +kernel
theorem dX6_number_49 : decode cX6_number 49 = .ok (.invokestatic 98, 3) := by decide +kernel
theorem dX6_number_52 : decode cX6_number 52 = .ok (.ifCond .eq 38, 3) := by decide +kernel
theorem dX6_number_55 : decode cX6_number 55 = .ok (.ldc 105, 2) := by decide +kernel
theorem dX6_number_57 : decode cX6_number 57 = .ok (.bipush 10, 2) := by decide +kernel
theorem dX6_number_59 : decode cX6_number 59 = .ok (.iload_n 3, 1) := by decide +kernel
theorem dX6_number_60 : decode cX6_number 60 = .ok (.imul, 1) := by decide +kernel
theorem dX6_number_61 : decode cX6_number 61 = .ok (.aload_n 0, 1) := by decide +kernel
theorem dX6_number_62 : decode cX6_number 62 = .ok (.aload_n 0, 1) := by decide +kernel
theorem dX6_number_63 : decode cX6_number 63 = .ok (.getfield 60, 3) := by decide +kernel
theorem dX6_number_66 : decode cX6_number 66 = .ok (.invokevirtual 63, 3) := by decide +kernel
theorem dX6_number_69 : decode cX6_number 69 = .ok (.iadd, 1) := by decide +kernel
theorem dX6_number_70 : decode cX6_number 70 = .ok (.bipush 48, 2) := by decide +kernel
theorem dX6_number_72 : decode cX6_number 72 = .ok (.isub, 1) := by decide +kernel
theorem dX6_number_73 : decode cX6_number 73 = .ok (.invokestatic 106, 3) := by decide +kernel
theorem dX6_number_76 : decode cX6_number 76 = .ok (.istore_n 3, 1) := by decide +kernel
theorem dX6_number_77 : decode cX6_number 77 = .ok (.aload_n 0, 1) := by decide +kernel
theorem dX6_number_78 : decode cX6_number 78 = .ok (.dup, 1) := by decide +kernel
theorem dX6_number_79 : decode cX6_number 79 = .ok (.getfield 60, 3) := by decide +kernel
theorem dX6_number_82 : decode cX6_number 82 = .ok (.iconst 1, 1) := by decide +kernel
theorem dX6_number_83 : decode cX6_number 83 = .ok (.iadd, 1) := by decide +kernel
theorem dX6_number_84 : decode cX6_number 84 = .ok (.putfield 60, 3) := by decide +kernel
theorem dX6_number_87 : decode cX6_number 87 = .ok (.goto (-46), 3) := by decide +kernel
theorem dX6_number_90 : decode cX6_number 90 = .ok (.iload_n 3, 1) := by decide +kernel
theorem dX6_number_91 : decode cX6_number 91 = .ok (.iload_n 1, 1) := by decide +kernel
theorem dX6_number_92 : decode cX6_number 92 = .ok (.iload_n 2, 1) := by decide +kernel
theorem dX6_number_93 : decode cX6_number 93 = .ok (.invokestatic 73, 3) := by decide +kernel
theorem dX6_number_96 : decode cX6_number 96 = .ok (.ifCond .ne 13, 3) := by decide +kernel
theorem dX6_number_99 : decode cX6_number 99 = .ok (.aload_n 0, 1) := by decide +kernel
theorem dX6_number_100 : decode cX6_number 100 = .ok (.bipush (-3), 2) := by decide +kernel
theorem dX6_number_102 : decode cX6_number 102 = .ok (.aload_n 0, 1) := by decide +kernel
theorem dX6_number_103 : decode cX6_number 103 = .ok (.getfield 102, 3) := by decide +kernel
theorem dX6_number_106 : decode cX6_number 106 = .ok (.invokevirtual 94, 3) := by decide +kernel
theorem dX6_number_109 : decode cX6_number 109 = .ok (.iload_n 3, 1) := by decide +kernel
theorem dX6_number_110 : decode cX6_number 110 = .ok (.ireturn, 1) := by decide +kernel
theorem dX6_emit_0 : decode cX6_emit 0 = .ok (.aload_n 0, 1) := by decide +kernel
theorem dX6_emit_1 : decode cX6_emit 1 = .ok (.invokevirtual 77, 3) := by decide +kernel
theorem dX6_emit_4 : decode cX6_emit 4 = .ok (.ifCond .ne 4, 3) := by decide +kernel
theorem dX6_emit_7 : decode cX6_emit 7 = .ok (.return_, 1) := by decide +kernel
theorem dX6_emit_8 : decode cX6_emit 8 = .ok (.aload_n 0, 1) := by decide +kernel
theorem dX6_emit_9 : decode cX6_emit 9 = .ok (.getfield 20, 3) := by decide +kernel
theorem dX6_emit_12 : decode cX6_emit 12 = .ok (.sipush 155, 3) := by decide +kernel
theorem dX6_emit_15 : decode cX6_emit 15 = .ok (.aload_n 0, 1) := by decide +kernel
theorem dX6_emit_16 : decode cX6_emit 16 = .ok (.getfield 20, 3) := by decide +kernel
theorem dX6_emit_19 : decode cX6_emit 19 = .ok (.iconst 4, 1) := by decide +kernel
theorem dX6_emit_20 : decode cX6_emit 20 = .ok (.iaload, 1) := by decide +kernel
theorem dX6_emit_21 : decode cX6_emit 21 = .ok (.iadd, 1) := by decide +kernel
theorem dX6_emit_22 : decode cX6_emit 22 = .ok (.iload_n 1, 1) := by decide +kernel
theorem dX6_emit_23 : decode cX6_emit 23 = .ok (.iastore, 1) := by decide +kernel
theorem dX6_emit_24 : decode cX6_emit 24 = .ok (.aload_n 0, 1) := by decide +kernel
theorem dX6_emit_25 : decode cX6_emit 25 = .ok (.getfield 20, 3) := by decide +kernel
theorem dX6_emit_28 : decode cX6_emit 28 = .ok (.iconst 4, 1) := by decide +kernel
theorem dX6_emit_29 : decode cX6_emit 29 = .ok (.dup2, 1) := by decide +kernel
theorem dX6_emit_30 : decode cX6_emit 30 = .ok (.iaload, 1) := by decide +kernel
theorem dX6_emit_31 : decode cX6_emit 31 = .ok (.iconst 1, 1) := by decide +kernel
theorem dX6_emit_32 : decode cX6_emit 32 = .ok (.iadd, 1) := by decide +kernel
theorem dX6_emit_33 : decode cX6_emit 33 = .ok (.iastore, 1) := by decide +kernel
theorem dX6_emit_34 : decode cX6_emit 34 = .ok (.return_, 1) := by decide +kernel
theorem dX6_factor_0 : decode cX6_factor 0 = .ok (.aload_n 0, 1) := by decide +kernel
theorem dX6_factor_1 : decode cX6_factor 1 = .ok (.invokevirtual 77, 3) := by decide +kernel
theorem dX6_factor_4 : decode cX6_factor 4 = .ok (.ifCond .ne 4, 3) := by decide +kernel
theorem dX6_factor_7 : decode cX6_factor 7 = .ok (.return_, 1) := by decide +kernel
theorem dX6_factor_8 : decode cX6_factor 8 = .ok (.aload_n 0, 1) := by decide +kernel
theorem dX6_factor_9 : decode cX6_factor 9 = .ok (.invokevirtual 81, 3) := by decide +kernel
theorem dX6_factor_12 : decode cX6_factor 12 = .ok (.istore_n 1, 1) := by decide +kernel
theorem dX6_factor_13 : decode cX6_factor 13 = .ok (.iload_n 1, 1) := by decide +kernel
theorem dX6_factor_14 : decode cX6_factor 14 = .ok (.bipush 40, 2) := by decide +kernel
theorem dX6_factor_16 : decode cX6_factor 16 = .ok (.if_icmp .ne 62, 3) := by decide +kernel
theorem dX6_factor_19 : decode cX6_factor 19 = .ok (.aload_n 0, 1) := by decide +kernel
theorem dX6_factor_20 : decode cX6_factor 20 = .ok (.getfield 110, 3) := by decide +kernel
theorem dX6_factor_23 : decode cX6_factor 23 = .ok (.iconst 4, 1) := by decide +kernel
theorem dX6_factor_24 : decode cX6_factor 24 = .ok (.if_icmp .ne 13, 3) := by decide +kernel
theorem dX6_factor_27 : decode cX6_factor 27 = .ok (.aload_n 0, 1) := by decide +kernel
theorem dX6_factor_28 : decode cX6_factor 28 = .ok (.bipush (-5), 2) := by decide +kernel
theorem dX6_factor_30 : decode cX6_factor 30 = .ok (.aload_n 0, 1) := by decide +kernel
theorem dX6_factor_31 : decode cX6_factor 31 = .ok (.getfield 60, 3) := by decide +kernel
theorem dX6_factor_34 : decode cX6_factor 34 = .ok (.invokevirtual 94, 3) := by decide +kernel
theorem dX6_factor_37 : decode cX6_factor 37 = .ok (.aload_n 0, 1) := by decide +kernel
theorem dX6_factor_38 : decode cX6_factor 38 = .ok (.dup, 1) := by decide +kernel
theorem dX6_factor_39 : decode cX6_factor 39 = .ok (.getfield 60, 3) := by decide +kernel
theorem dX6_factor_42 : decode cX6_factor 42 = .ok (.iconst 1, 1) := by decide +kernel
theorem dX6_factor_43 : decode cX6_factor 43 = .ok (.iadd, 1) := by decide +kernel
theorem dX6_factor_44 : decode cX6_factor 44 = .ok (.putfield 60, 3) := by decide +kernel
theorem dX6_factor_47 : decode cX6_factor 47 = .ok (.aload_n 0, 1) := by decide +kernel
theorem dX6_factor_48 : decode cX6_factor 48 = .ok (.dup, 1) := by decide +kernel
theorem dX6_factor_49 : decode cX6_factor 49 = .ok (.getfield 110, 3) := by decide +kernel
theorem dX6_factor_52 : decode cX6_factor 52 = .ok (.iconst 1, 1) := by decide +kernel
theorem dX6_factor_53 : decode cX6_factor 53 = .ok (.iadd, 1) := by decide +kernel
theorem dX6_factor_54 : decode cX6_factor 54 = .ok (.putfield 110, 3) := by decide +kernel
theorem dX6_factor_57 : decode cX6_factor 57 = .ok (.aload_n 0, 1) := by decide +kernel
theorem dX6_factor_58 : decode cX6_factor 58 = .ok (.invokevirtual 113, 3) := by decide +kernel
theorem dX6_factor_61 : decode cX6_factor 61 = .ok (.aload_n 0, 1) := by decide +kernel
theorem dX6_factor_62 : decode cX6_factor 62 = .ok (.bipush 41, 2) := by decide +kernel
theorem dX6_factor_64 : decode cX6_factor 64 = .ok (.invokevirtual 116, 3) := by decide +kernel
theorem dX6_factor_67 : decode cX6_factor 67 = .ok (.aload_n 0, 1) := by decide +kernel
theorem dX6_factor_68 : decode cX6_factor 68 = .ok (.dup, 1) := by decide +kernel
theorem dX6_factor_69 : decode cX6_factor 69 = .ok (.getfield 110, 3) := by decide +kernel
theorem dX6_factor_72 : decode cX6_factor 72 = .ok (.iconst 1, 1) := by decide +kernel
theorem dX6_factor_73 : decode cX6_factor 73 = .ok (.isub, 1) := by decide +kernel
theorem dX6_factor_74 : decode cX6_factor 74 = .ok (.putfield 110, 3) := by decide +kernel
theorem dX6_factor_77 : decode cX6_factor 77 = .ok (.return_, 1) := by decide +kernel
theorem dX6_factor_78 : decode cX6_factor 78 = .ok (.iload_n 1, 1) := by decide +kernel
theorem dX6_factor_79 : decode cX6_factor 79 = .ok (.invokestatic 98, 3) := by decide +kernel
theorem dX6_factor_82 : decode cX6_factor 82 = .ok (.ifCond .eq 7, 3) := by decide +kernel
theorem dX6_factor_85 : decode cX6_factor 85 = .ok (.iconst (-1), 1) := by decide +kernel
theorem dX6_factor_86 : decode cX6_factor 86 = .ok (.goto 56, 3) := by decide +kernel
theorem dX6_factor_89 : decode cX6_factor 89 = .ok (.aload_n 0, 1) := by decide +kernel
theorem dX6_factor_90 : decode cX6_factor 90 = .ok (.ldc 120, 2) := by decide +kernel
theorem dX6_factor_92 : decode cX6_factor 92 = .ok (.invokevirtual 122, 3) := by decide +kernel
theorem dX6_factor_95 : decode cX6_factor 95 = .ok (.ifCond .eq 7, 3) := by decide +kernel
theorem dX6_factor_98 : decode cX6_factor 98 = .ok (.iconst 0, 1) := by decide +kernel
theorem dX6_factor_99 : decode cX6_factor 99 = .ok (.goto 43, 3) := by decide +kernel
theorem dX6_factor_102 : decode cX6_factor 102 = .ok (.aload_n 0, 1) := by decide +kernel
theorem dX6_factor_103 : decode cX6_factor 103 = .ok (.ldc 126, 2) := by decide +kernel
theorem dX6_factor_105 : decode cX6_factor 105 = .ok (.invokevirtual 122, 3) := by decide +kernel
theorem dX6_factor_108 : decode cX6_factor 108 = .ok (.ifCond .eq 7, 3) := by decide +kernel
theorem dX6_factor_111 : decode cX6_factor 111 = .ok (.iconst 1, 1) := by decide +kernel
theorem dX6_factor_112 : decode cX6_factor 112 = .ok (.goto 30, 3) := by decide +kernel
theorem dX6_factor_115 : decode cX6_factor 115 = .ok (.aload_n 0, 1) := by decide +kernel
theorem dX6_factor_116 : decode cX6_factor 116 = .ok (.ldc 128, 2) := by decide +kernel
theorem dX6_factor_118 : decode cX6_factor 118 = .ok (.invokevirtual 122, 3) := by decide +kernel
theorem dX6_factor_121 : decode cX6_factor 121 = .ok (.ifCond .eq 7, 3) := by decide +kernel
theorem dX6_factor_124 : decode cX6_factor 124 = .ok (.iconst 2, 1) := by decide +kernel
theorem dX6_factor_125 : decode cX6_factor 125 = .ok (.goto 17, 3) := by decide +kernel
theorem dX6_factor_128 : decode cX6_factor 128 = .ok (.aload_n 0, 1) := by decide +kernel
theorem dX6_factor_129 : decode cX6_factor 129 = .ok (.ldc 130, 2) := by decide +kernel
theorem dX6_factor_131 : decode cX6_factor 131 = .ok (.invokevirtual 122, 3) := by decide +kernel
theorem dX6_factor_134 : decode cX6_factor 134 = .ok (.ifCond .eq 7, 3) := by decide +kernel
theorem dX6_factor_137 : decode cX6_factor 137 = .ok (.iconst 3, 1) := by decide +kernel
theorem dX6_factor_138 : decode cX6_factor 138 = .ok (.goto 4, 3) := by decide +kernel
theorem dX6_factor_141 : decode cX6_factor 141 = .ok (.iconst (-1), 1) := by decide +kernel
theorem dX6_factor_142 : decode cX6_factor 142 = .ok (.istore_n 2, 1) := by decide +kernel
theorem dX6_factor_143 : decode cX6_factor 143 = .ok (.iload_n 2, 1) := by decide +kernel
theorem dX6_factor_144 : decode cX6_factor 144 = .ok (.ifCond .ge 14, 3) := by decide +kernel
theorem dX6_factor_147 : decode cX6_factor 147 = .ok (.aload_n 0, 1) := by decide +kernel
theorem dX6_factor_148 : decode cX6_factor 148 = .ok (.iconst 0, 1) := by decide +kernel
theorem dX6_factor_149 : decode cX6_factor 149 = .ok (.sipush 9999, 3) := by decide +kernel
theorem dX6_factor_152 : decode cX6_factor 152 = .ok (.invokevirtual 132, 3) := by decide +kernel
theorem dX6_factor_155 : decode cX6_factor 155 = .ok (.goto 4, 3) := by decide +kernel
theorem dX6_factor_158 : decode cX6_factor 158 = .ok (.iload_n 2, 1) := by decide +kernel
theorem dX6_factor_159 : decode cX6_factor 159 = .ok (.istore_n 3, 1) := by decide +kernel
theorem dX6_factor_160 : decode cX6_factor 160 = .ok (.aload_n 0, 1) := by decide +kernel
theorem dX6_factor_161 : decode cX6_factor 161 = .ok (.iload_n 2, 1) := by decide +kernel
theorem dX6_factor_162 : decode cX6_factor 162 = .ok (.ifCond .ge 7, 3) := by decide +kernel
theorem dX6_factor_165 : decode cX6_factor 165 = .ok (.iconst 0, 1) := by decide +kernel
theorem dX6_factor_166 : decode cX6_factor 166 = .ok (.goto 4, 3) := by decide +kernel
theorem dX6_factor_169 : decode cX6_factor 169 = .ok (.iconst 1, 1) := by decide +kernel
theorem dX6_factor_170 : decode cX6_factor 170 = .ok (.invokevirtual 135, 3) := by decide +kernel
theorem dX6_factor_173 : decode cX6_factor 173 = .ok (.aload_n 0, 1) := by decide +kernel
theorem dX6_factor_174 : decode cX6_factor 174 = .ok (.iload_n 3, 1) := by decide +kernel
theorem dX6_factor_175 : decode cX6_factor 175 = .ok (.invokevirtual 135, 3) := by decide +kernel
theorem dX6_factor_178 : decode cX6_factor 178 = .ok (.return_, 1) := by decide +kernel
theorem dX6_term_0 : decode cX6_term 0 = .ok (.aload_n 0, 1) := by decide +kernel
theorem dX6_term_1 : decode cX6_term 1 = .ok (.invokevirtual 138, 3) := by decide +kernel
theorem dX6_term_4 : decode cX6_term 4 = .ok (.aload_n 0, 1) := by decide +kernel
theorem dX6_term_5 : decode cX6_term 5 = .ok (.invokevirtual 77, 3) := by decide +kernel
theorem dX6_term_8 : decode cX6_term 8 = .ok (.ifCond .eq 66, 3) := by decide +kernel
theorem dX6_term_11 : decode cX6_term 11 = .ok (.aload_n 0, 1) := by decide +kernel
theorem dX6_term_12 : decode cX6_term 12 = .ok (.invokevirtual 81, 3) := by decide +kernel
theorem dX6_term_15 : decode cX6_term 15 = .ok (.bipush 42, 2) := by decide +kernel
theorem dX6_term_17 : decode cX6_term 17 = .ok (.if_icmp .eq 12, 3) := by decide +kernel
theorem dX6_term_20 : decode cX6_term 20 = .ok (.aload_n 0, 1) := by decide +kernel
theorem dX6_term_21 : decode cX6_term 21 = .ok (.invokevirtual 81, 3) := by decide +kernel
theorem dX6_term_24 : decode cX6_term 24 = .ok (.bipush 47, 2) := by decide +kernel
theorem dX6_term_26 : decode cX6_term 26 = .ok (.if_icmp .ne 48, 3) := by decide +kernel
theorem dX6_term_29 : decode cX6_term 29 = .ok (.aload_n 0, 1) := by decide +kernel
theorem dX6_term_30 : decode cX6_term 30 = .ok (.invokevirtual 81, 3) := by decide +kernel
theorem dX6_term_33 : decode cX6_term 33 = .ok (.bipush 42, 2) := by decide +kernel
theorem dX6_term_35 : decode cX6_term 35 = .ok (.if_icmp .ne 7, 3) := by decide +kernel
theorem dX6_term_38 : decode cX6_term 38 = .ok (.iconst 1, 1) := by decide +kernel
theorem dX6_term_39 : decode cX6_term 39 = .ok (.goto 4, 3) := by decide +kernel
theorem dX6_term_42 : decode cX6_term 42 = .ok (.iconst 0, 1) := by decide +kernel
theorem dX6_term_43 : decode cX6_term 43 = .ok (.istore_n 1, 1) := by decide +kernel
theorem dX6_term_44 : decode cX6_term 44 = .ok (.aload_n 0, 1) := by decide +kernel
theorem dX6_term_45 : decode cX6_term 45 = .ok (.dup, 1) := by decide +kernel
theorem dX6_term_46 : decode cX6_term 46 = .ok (.getfield 60, 3) := by decide +kernel
theorem dX6_term_49 : decode cX6_term 49 = .ok (.iconst 1, 1) := by decide +kernel
theorem dX6_term_50 : decode cX6_term 50 = .ok (.iadd, 1) := by decide +kernel
theorem dX6_term_51 : decode cX6_term 51 = .ok (.putfield 60, 3) := by decide +kernel
theorem dX6_term_54 : decode cX6_term 54 = .ok (.aload_n 0, 1) := by decide +kernel
theorem dX6_term_55 : decode cX6_term 55 = .ok (.invokevirtual 138, 3) := by decide +kernel
theorem dX6_term_58 : decode cX6_term 58 = .ok (.aload_n 0, 1) := by decide +kernel
theorem dX6_term_59 : decode cX6_term 59 = .ok (.iload_n 1, 1) := by decide +kernel
theorem dX6_term_60 : decode cX6_term 60 = .ok (.ifCond .eq 7, 3) := by decide +kernel
theorem dX6_term_63 : decode cX6_term 63 = .ok (.iconst 4, 1) := by decide +kernel
theorem dX6_term_64 : decode cX6_term 64 = .ok (.goto 4, 3) := by decide +kernel
theorem dX6_term_67 : decode cX6_term 67 = .ok (.iconst 5, 1) := by decide +kernel
theorem dX6_term_68 : decode cX6_term 68 = .ok (.invokevirtual 135, 3) := by decide +kernel
theorem dX6_term_71 : decode cX6_term 71 = .ok (.goto (-67), 3) := by decide +kernel
theorem dX6_term_74 : decode cX6_term 74 = .ok (.return_, 1) := by decide +kernel
theorem dX6_sum_0 : decode cX6_sum 0 = .ok (.aload_n 0, 1) := by decide +kernel
theorem dX6_sum_1 : decode cX6_sum 1 = .ok (.invokevirtual 141, 3) := by decide +kernel
theorem dX6_sum_4 : decode cX6_sum 4 = .ok (.aload_n 0, 1) := by decide +kernel
theorem dX6_sum_5 : decode cX6_sum 5 = .ok (.invokevirtual 77, 3) := by decide +kernel
theorem dX6_sum_8 : decode cX6_sum 8 = .ok (.ifCond .eq 66, 3) := by decide +kernel
theorem dX6_sum_11 : decode cX6_sum 11 = .ok (.aload_n 0, 1) := by decide +kernel
theorem dX6_sum_12 : decode cX6_sum 12 = .ok (.invokevirtual 81, 3) := by decide +kernel
theorem dX6_sum_15 : decode cX6_sum 15 = .ok (.bipush 43, 2) := by decide +kernel
theorem dX6_sum_17 : decode cX6_sum 17 = .ok (.if_icmp .eq 12, 3) := by decide +kernel
theorem dX6_sum_20 : decode cX6_sum 20 = .ok (.aload_n 0, 1) := by decide +kernel
theorem dX6_sum_21 : decode cX6_sum 21 = .ok (.invokevirtual 81, 3) := by decide +kernel
theorem dX6_sum_24 : decode cX6_sum 24 = .ok (.bipush 45, 2) := by decide +kernel
theorem dX6_sum_26 : decode cX6_sum 26 = .ok (.if_icmp .ne 48, 3) := by decide +kernel
theorem dX6_sum_29 : decode cX6_sum 29 = .ok (.aload_n 0, 1) := by decide +kernel
theorem dX6_sum_30 : decode cX6_sum 30 = .ok (.invokevirtual 81, 3) := by decide +kernel
theorem dX6_sum_33 : decode cX6_sum 33 = .ok (.bipush 43, 2) := by decide +kernel
theorem dX6_sum_35 : decode cX6_sum 35 = .ok (.if_icmp .ne 7, 3) := by decide +kernel
theorem dX6_sum_38 : decode cX6_sum 38 = .ok (.iconst 1, 1) := by decide +kernel
theorem dX6_sum_39 : decode cX6_sum 39 = .ok (.goto 4, 3) := by decide +kernel
theorem dX6_sum_42 : decode cX6_sum 42 = .ok (.iconst 0, 1) := by decide +kernel
theorem dX6_sum_43 : decode cX6_sum 43 = .ok (.istore_n 1, 1) := by decide +kernel
theorem dX6_sum_44 : decode cX6_sum 44 = .ok (.aload_n 0, 1) := by decide +kernel
theorem dX6_sum_45 : decode cX6_sum 45 = .ok (.dup, 1) := by decide +kernel
theorem dX6_sum_46 : decode cX6_sum 46 = .ok (.getfield 60, 3) := by decide +kernel
theorem dX6_sum_49 : decode cX6_sum 49 = .ok (.iconst 1, 1) := by decide +kernel
theorem dX6_sum_50 : decode cX6_sum 50 = .ok (.iadd, 1) := by decide +kernel
theorem dX6_sum_51 : decode cX6_sum 51 = .ok (.putfield 60, 3) := by decide +kernel
theorem dX6_sum_54 : decode cX6_sum 54 = .ok (.aload_n 0, 1) := by decide +kernel
theorem dX6_sum_55 : decode cX6_sum 55 = .ok (.invokevirtual 141, 3) := by decide +kernel
theorem dX6_sum_58 : decode cX6_sum 58 = .ok (.aload_n 0, 1) := by decide +kernel
theorem dX6_sum_59 : decode cX6_sum 59 = .ok (.iload_n 1, 1) := by decide +kernel
theorem dX6_sum_60 : decode cX6_sum 60 = .ok (.ifCond .eq 7, 3) := by decide +kernel
theorem dX6_sum_63 : decode cX6_sum 63 = .ok (.iconst 2, 1) := by decide +kernel
theorem dX6_sum_64 : decode cX6_sum 64 = .ok (.goto 4, 3) := by decide +kernel
theorem dX6_sum_67 : decode cX6_sum 67 = .ok (.iconst 3, 1) := by decide +kernel
theorem dX6_sum_68 : decode cX6_sum 68 = .ok (.invokevirtual 135, 3) := by decide +kernel
theorem dX6_sum_71 : decode cX6_sum 71 = .ok (.goto (-67), 3) := by decide +kernel
theorem dX6_sum_74 : decode cX6_sum 74 = .ok (.return_, 1) := by decide +kernel
theorem dX6_once_0 : decode cX6_once 0 = .ok (.aload_n 0, 1) := by decide +kernel
theorem dX6_once_1 : decode cX6_once 1 = .ok (.getfield 144, 3) := by decide +kernel
theorem dX6_once_4 : decode cX6_once 4 = .ok (.iload_n 1, 1) := by decide +kernel
theorem dX6_once_5 : decode cX6_once 5 = .ok (.ishr, 1) := by decide +kernel
theorem dX6_once_6 : decode cX6_once 6 = .ok (.iconst 1, 1) := by decide +kernel
theorem dX6_once_7 : decode cX6_once 7 = .ok (.iand, 1) := by decide +kernel
theorem dX6_once_8 : decode cX6_once 8 = .ok (.iconst 1, 1) := by decide +kernel
theorem dX6_once_9 : decode cX6_once 9 = .ok (.if_icmp .ne 10, 3) := by decide +kernel
theorem dX6_once_12 : decode cX6_once 12 = .ok (.aload_n 0, 1) := by decide +kernel
theorem dX6_once_13 : decode cX6_once 13 = .ok (.bipush (-2), 2) := by decide +kernel
theorem dX6_once_15 : decode cX6_once 15 = .ok (.iload_n 2, 1) := by decide +kernel
theorem dX6_once_16 : decode cX6_once 16 = .ok (.invokevirtual 94, 3) := by decide +kernel
theorem dX6_once_19 : decode cX6_once 19 = .ok (.aload_n 0, 1) := by decide +kernel
theorem dX6_once_20 : decode cX6_once 20 = .ok (.dup, 1) := by decide +kernel
theorem dX6_once_21 : decode cX6_once 21 = .ok (.getfield 144, 3) := by decide +kernel
theorem dX6_once_24 : decode cX6_once 24 = .ok (.iconst 1, 1) := by decide +kernel
theorem dX6_once_25 : decode cX6_once 25 = .ok (.iload_n 1, 1) := by decide +kernel
theorem dX6_once_26 : decode cX6_once 26 = .ok (.ishl, 1) := by decide +kernel
theorem dX6_once_27 : decode cX6_once 27 = .ok (.ior, 1) := by decide +kernel
theorem dX6_once_28 : decode cX6_once 28 = .ok (.putfield 144, 3) := by decide +kernel
theorem dX6_once_31 : decode cX6_once 31 = .ok (.return_, 1) := by decide +kernel
theorem dX6_readJob_0 : decode cX6_readJob 0 = .ok (.aload_n 0, 1) := by decide +kernel
theorem dX6_readJob_1 : decode cX6_readJob 1 = .ok (.getfield 20, 3) := by decide +kernel
theorem dX6_readJob_4 : decode cX6_readJob 4 = .ok (.iconst 2, 1) := by decide +kernel
theorem dX6_readJob_5 : decode cX6_readJob 5 = .ok (.iaload, 1) := by decide +kernel
theorem dX6_readJob_6 : decode cX6_readJob 6 = .ok (.bipush 6, 2) := by decide +kernel
theorem dX6_readJob_8 : decode cX6_readJob 8 = .ok (.if_icmp .ne 10, 3) := by decide +kernel
theorem dX6_readJob_11 : decode cX6_readJob 11 = .ok (.aload_n 0, 1) := by decide +kernel
theorem dX6_readJob_12 : decode cX6_readJob 12 = .ok (.bipush (-4), 2) := by decide +kernel
theorem dX6_readJob_14 : decode cX6_readJob 14 = .ok (.iload_n 1, 1) := by decide +kernel
theorem dX6_readJob_15 : decode cX6_readJob 15 = .ok (.invokevirtual 94, 3) := by decide +kernel
theorem dX6_readJob_18 : decode cX6_readJob 18 = .ok (.aload_n 0, 1) := by decide +kernel
theorem dX6_readJob_19 : decode cX6_readJob 19 = .ok (.iconst 0, 1) := by decide +kernel
theorem dX6_readJob_20 : decode cX6_readJob 20 = .ok (.sipush 999, 3) := by decide +kernel
theorem dX6_readJob_23 : decode cX6_readJob 23 = .ok (.invokevirtual 132, 3) := by decide +kernel
theorem dX6_readJob_26 : decode cX6_readJob 26 = .ok (.istore_n 2, 1) := by decide +kernel
theorem dX6_readJob_27 : decode cX6_readJob 27 = .ok (.aload_n 0, 1) := by decide +kernel
theorem dX6_readJob_28 : decode cX6_readJob 28 = .ok (.iconst 0, 1) := by decide +kernel
theorem dX6_readJob_29 : decode cX6_readJob 29 = .ok (.sipush 9999, 3) := by decide +kernel
theorem dX6_readJob_32 : decode cX6_readJob 32 = .ok (.invokevirtual 132, 3) := by decide +kernel
theorem dX6_readJob_35 : decode cX6_readJob 35 = .ok (.istore_n 3, 1) := by decide +kernel
theorem dX6_readJob_36 : decode cX6_readJob 36 = .ok (.aload_n 0, 1) := by decide +kernel
theorem dX6_readJob_37 : decode cX6_readJob 37 = .ok (.iconst 0, 1) := by decide +kernel
theorem dX6_readJob_38 : decode cX6_readJob 38 = .ok (.bipush 99, 2) := by decide +kernel
theorem dX6_readJob_40 : decode cX6_readJob 40 = .ok (.invokevirtual 132, 3) := by decide +kernel
theorem dX6_readJob_43 : decode cX6_readJob 43 = .ok (.istore 4, 2) := by decide +kernel
theorem dX6_readJob_45 : decode cX6_readJob 45 = .ok (.aload_n 0, 1) := by decide +kernel
theorem dX6_readJob_46 : decode cX6_readJob 46 = .ok (.invokevirtual 77, 3) := by decide +kernel
theorem dX6_readJob_49 : decode cX6_readJob 49 = .ok (.ifCond .ne 4, 3) := by decide +kernel
theorem dX6_readJob_52 : decode cX6_readJob 52 = .ok (.return_, 1) := by decide +kernel
theorem dX6_readJob_53 : decode cX6_readJob 53 = .ok (.aload_n 0, 1) := by decide +kernel
theorem dX6_readJob_54 : decode cX6_readJob 54 = .ok (.getfield 20, 3) := by decide +kernel
theorem dX6_readJob_57 : decode cX6_readJob 57 = .ok (.iconst 2, 1) := by decide +kernel
theorem dX6_readJob_58 : decode cX6_readJob 58 = .ok (.iaload, 1) := by decide +kernel
theorem dX6_readJob_59 : decode cX6_readJob 59 = .ok (.istore 5, 2) := by decide +kernel
theorem dX6_readJob_61 : decode cX6_readJob 61 = .ok (.iload 5, 2) := by decide +kernel
theorem dX6_readJob_63 : decode cX6_readJob 63 = .ok (.invokestatic 147, 3) := by decide +kernel
theorem dX6_readJob_66 : decode cX6_readJob 66 = .ok (.istore 6, 2) := by decide +kernel
theorem dX6_readJob_68 : decode cX6_readJob 68 = .ok (.aload_n 0, 1) := by decide +kernel
theorem dX6_readJob_69 : decode cX6_readJob 69 = .ok (.getfield 20, 3) := by decide +kernel
theorem dX6_readJob_72 : decode cX6_readJob 72 = .ok (.iload 6, 2) := by decide +kernel
theorem dX6_readJob_74 : decode cX6_readJob 74 = .ok (.iload_n 2, 1) := by decide +kernel
theorem dX6_readJob_75 : decode cX6_readJob 75 = .ok (.iastore, 1) := by decide +kernel
theorem dX6_readJob_76 : decode cX6_readJob 76 = .ok (.aload_n 0, 1) := by decide +kernel
theorem dX6_readJob_77 : decode cX6_readJob 77 = .ok (.getfield 20, 3) := by decide +kernel
theorem dX6_readJob_80 : decode cX6_readJob 80 = .ok (.iload 6, 2) := by decide +kernel
theorem dX6_readJob_82 : decode cX6_readJob 82 = .ok (.iconst 1, 1) := by decide +kernel
theorem dX6_readJob_83 : decode cX6_readJob 83 = .ok (.iadd, 1) := by decide +kernel
theorem dX6_readJob_84 : decode cX6_readJob 84 = .ok (.iload_n 3, 1) := by decide +kernel
theorem dX6_readJob_85 : decode cX6_readJob 85 = .ok (.iastore, 1) := by decide +kernel
theorem dX6_readJob_86 : decode cX6_readJob 86 = .ok (.aload_n 0, 1) := by decide +kernel
theorem dX6_readJob_87 : decode cX6_readJob 87 = .ok (.getfield 20, 3) := by decide +kernel
theorem dX6_readJob_90 : decode cX6_readJob 90 = .ok (.iload 6, 2) := by decide +kernel
theorem dX6_readJob_92 : decode cX6_readJob 92 = .ok (.iconst 2, 1) := by decide +kernel
theorem dX6_readJob_93 : decode cX6_readJob 93 = .ok (.iadd, 1) := by decide +kernel
theorem dX6_readJob_94 : decode cX6_readJob 94 = .ok (.iload 4, 2) := by decide +kernel
theorem dX6_readJob_96 : decode cX6_readJob 96 = .ok (.iastore, 1) := by decide +kernel
theorem dX6_readJob_97 : decode cX6_readJob 97 = .ok (.aload_n 0, 1) := by decide +kernel
theorem dX6_readJob_98 : decode cX6_readJob 98 = .ok (.getfield 20, 3) := by decide +kernel
theorem dX6_readJob_101 : decode cX6_readJob 101 = .ok (.iconst 2, 1) := by decide +kernel
theorem dX6_readJob_102 : decode cX6_readJob 102 = .ok (.dup2, 1) := by decide +kernel
theorem dX6_readJob_103 : decode cX6_readJob 103 = .ok (.iaload, 1) := by decide +kernel
theorem dX6_readJob_104 : decode cX6_readJob 104 = .ok (.iconst 1, 1) := by decide +kernel
theorem dX6_readJob_105 : decode cX6_readJob 105 = .ok (.iadd, 1) := by decide +kernel
theorem dX6_readJob_106 : decode cX6_readJob 106 = .ok (.iastore, 1) := by decide +kernel
theorem dX6_readJob_107 : decode cX6_readJob 107 = .ok (.iconst 1, 1) := by decide +kernel
theorem dX6_readJob_108 : decode cX6_readJob 108 = .ok (.istore 7, 2) := by decide +kernel
theorem dX6_readJob_110 : decode cX6_readJob 110 = .ok (.iload 7, 2) := by decide +kernel
theorem dX6_readJob_112 : decode cX6_readJob 112 = .ok (.ifCond .eq 61, 3) := by decide +kernel
theorem dX6_readJob_115 : decode cX6_readJob 115 = .ok (.aload_n 0, 1) := by decide +kernel
theorem dX6_readJob_116 : decode cX6_readJob 116 = .ok (.invokevirtual 81, 3) := by decide +kernel
theorem dX6_readJob_119 : decode cX6_readJob 119 = .ok (.pop, 1) := by decide +kernel
theorem dX6_readJob_120 : decode cX6_readJob 120 = .ok (.aload_n 0, 1) := by decide +kernel
theorem dX6_readJob_121 : decode cX6_readJob 121 = .ok (.getfield 60, 3) := by decide +kernel
theorem dX6_readJob_124 : decode cX6_readJob 124 = .ok (.istore 8, 2) := by decide +kernel
theorem dX6_readJob_126 : decode cX6_readJob 126 = .ok (.aload_n 0, 1) := by decide +kernel
theorem dX6_readJob_127 : decode cX6_readJob 127 = .ok (.ldc 150, 2) := by decide +kernel
theorem dX6_readJob_129 : decode cX6_readJob 129 = .ok (.invokevirtual 122, 3) := by decide +kernel
theorem dX6_readJob_132 : decode cX6_readJob 132 = .ok (.ifCond .ne 24, 3) := by decide +kernel
theorem dX6_readJob_135 : decode cX6_readJob 135 = .ok (.aload_n 0, 1) := by decide +kernel
theorem dX6_readJob_136 : decode cX6_readJob 136 = .ok (.getfield 20, 3) := by decide +kernel
theorem dX6_readJob_139 : decode cX6_readJob 139 = .ok (.iload 6, 2) := by decide +kernel
theorem dX6_readJob_141 : decode cX6_readJob 141 = .ok (.iconst 3, 1) := by decide +kernel
theorem dX6_readJob_142 : decode cX6_readJob 142 = .ok (.iadd, 1) := by decide +kernel
theorem dX6_readJob_143 : decode cX6_readJob 143 = .ok (.iaload, 1) := by decide +kernel
theorem dX6_readJob_144 : decode cX6_readJob 144 = .ok (.ifCond .ne 11, 3) := by decide +kernel
theorem dX6_readJob_147 : decode cX6_readJob 147 = .ok (.aload_n 0, 1) := by decide +kernel
theorem dX6_readJob_148 : decode cX6_readJob 148 = .ok (.bipush (-2), 2) := by decide +kernel
theorem dX6_readJob_150 : decode cX6_readJob 150 = .ok (.iload 8, 2) := by decide +kernel
theorem dX6_readJob_152 : decode cX6_readJob 152 = .ok (.invokevirtual 94, 3) := by decide +kernel
theorem dX6_readJob_155 : decode cX6_readJob 155 = .ok (.return_, 1) := by decide +kernel
theorem dX6_readJob_156 : decode cX6_readJob 156 = .ok (.aload_n 0, 1) := by decide +kernel
theorem dX6_readJob_157 : decode cX6_readJob 157 = .ok (.iload 5, 2) := by decide +kernel
theorem dX6_readJob_159 : decode cX6_readJob 159 = .ok (.iload 8, 2) := by decide +kernel
theorem dX6_readJob_161 : decode cX6_readJob 161 = .ok (.invokevirtual 152, 3) := by decide +kernel
theorem dX6_readJob_164 : decode cX6_readJob 164 = .ok (.aload_n 0, 1) := by decide +kernel
theorem dX6_readJob_165 : decode cX6_readJob 165 = .ok (.invokevirtual 77, 3) := by decide +kernel
theorem dX6_readJob_168 : decode cX6_readJob 168 = .ok (.istore 7, 2) := by decide +kernel
theorem dX6_readJob_170 : decode cX6_readJob 170 = .ok (.goto (-60), 3) := by decide +kernel
theorem dX6_readJob_173 : decode cX6_readJob 173 = .ok (.return_, 1) := by decide +kernel
theorem dX6_readOperation_0 : decode cX6_readOperation 0 = .ok (.aload_n 0, 1) := by decide +kernel
theorem dX6_readOperation_1 : decode cX6_readOperation 1 = .ok (.getfield 20, 3) := by decide +kernel
theorem dX6_readOperation_4 : decode cX6_readOperation 4 = .ok (.iload_n 1, 1) := by decide +kernel
theorem dX6_readOperation_5 : decode cX6_readOperation 5 = .ok (.invokestatic 147, 3) := by decide +kernel
theorem dX6_readOperation_8 : decode cX6_readOperation 8 = .ok (.iconst 3, 1) := by decide +kernel
theorem dX6_readOperation_9 : decode cX6_readOperation 9 = .ok (.iadd, 1) := by decide +kernel
theorem dX6_readOperation_10 : decode cX6_readOperation 10 = .ok (.iaload, 1) := by decide +kernel
theorem dX6_readOperation_11 : decode cX6_readOperation 11 = .ok (.istore_n 3, 1) := by decide +kernel
theorem dX6_readOperation_12 : decode cX6_readOperation 12 = .ok (.iload_n 3, 1) := by decide +kernel
theorem dX6_readOperation_13 : decode cX6_readOperation 13 = .ok (.bipush 6, 2) := by decide +kernel
theorem dX6_readOperation_15 : decode cX6_readOperation 15 = .ok (.if_icmp .ne 10, 3) := by decide +kernel
theorem dX6_readOperation_18 : decode cX6_readOperation 18 = .ok (.aload_n 0, 1) := by decide +kernel
theorem dX6_readOperation_19 : decode cX6_readOperation 19 = .ok (.bipush (-4), 2) := by decide +kernel
theorem dX6_readOperation_21 : decode cX6_readOperation 21 = .ok (.iload_n 2, 1) := by decide +kernel
theorem dX6_readOperation_22 : decode cX6_readOperation 22 = .ok (.invokevirtual 94, 3) := by decide +kernel
theorem dX6_readOperation_25 : decode cX6_readOperation 25 = .ok (.aload_n 0, 1) := by decide +kernel
theorem dX6_readOperation_26 : decode cX6_readOperation 26 = .ok (.iconst 0, 1) := by decide +kernel
theorem dX6_readOperation_27 : decode cX6_readOperation 27 = .ok (.aload_n 0, 1) := by decide +kernel
theorem dX6_readOperation_28 : decode cX6_readOperation 28 = .ok (.getfield 20, 3) := by decide +kernel
theorem dX6_readOperation_31 : decode cX6_readOperation 31 = .ok (.iconst 0, 1) := by decide +kernel
theorem dX6_readOperation_32 : decode cX6_readOperation 32 = .ok (.iaload, 1) := by decide +kernel
theorem dX6_readOperation_33 : decode cX6_readOperation 33 = .ok (.iconst 1, 1) := by decide +kernel
theorem dX6_readOperation_34 : decode cX6_readOperation 34 = .ok (.isub, 1) := by decide +kernel
theorem dX6_readOperation_35 : decode cX6_readOperation 35 = .ok (.invokevirtual 132, 3) := by decide +kernel
theorem dX6_readOperation_38 : decode cX6_readOperation 38 = .ok (.istore 4, 2) := by decide +kernel
theorem dX6_readOperation_40 : decode cX6_readOperation 40 = .ok (.iconst 0, 1) := by decide +kernel
theorem dX6_readOperation_41 : decode cX6_readOperation 41 = .ok (.istore 5, 2) := by decide +kernel
theorem dX6_readOperation_43 : decode cX6_readOperation 43 = .ok (.iload 5, 2) := by decide +kernel
theorem dX6_readOperation_45 : decode cX6_readOperation 45 = .ok (.iload_n 3, 1) := by decide +kernel
theorem dX6_readOperation_46 : decode cX6_readOperation 46 = .ok (.if_icmp .ge 46, 3) := by decide +kernel
theorem dX6_readOperation_49 : decode cX6_readOperation 49 = .ok (.aload_n 0, 1) := by decide +kernel
theorem dX6_readOperation_50 : decode cX6_readOperation 50 = .ok (.invokevirtual 77, 3) := by decide +kernel
theorem dX6_readOperation_53 : decode cX6_readOperation 53 = .ok (.ifCond .eq 39, 3) := by decide +kernel
theorem dX6_readOperation_56 : decode cX6_readOperation 56 = .ok (.aload_n 0, 1) := by decide +kernel
theorem dX6_readOperation_57 : decode cX6_readOperation 57 = .ok (.getfield 20, 3) := by decide +kernel
theorem dX6_readOperation_60 : decode cX6_readOperation 60 = .ok (.bipush 6, 2) := by decide +kernel
theorem dX6_readOperation_62 : decode cX6_readOperation 62 = .ok (.iload_n 1, 1) := by decide +kernel
theorem dX6_readOperation_63 : decode cX6_readOperation 63 = .ok (.imul, 1) := by decide +kernel
theorem dX6_readOperation_64 : decode cX6_readOperation 64 = .ok (.iload 5, 2) := by decide +kernel
theorem dX6_readOperation_66 : decode cX6_readOperation 66 = .ok (.iadd, 1) := by decide +kernel
theorem dX6_readOperation_67 : decode cX6_readOperation 67 = .ok (.invokestatic 155, 3) := by decide +kernel
theorem dX6_readOperation_70 : decode cX6_readOperation 70 = .ok (.iaload, 1) := by decide +kernel
theorem dX6_readOperation_71 : decode cX6_readOperation 71 = .ok (.iload 4, 2) := by decide +kernel
theorem dX6_readOperation_73 : decode cX6_readOperation 73 = .ok (.if_icmp .ne 13, 3) := by decide +kernel
theorem dX6_readOperation_76 : decode cX6_readOperation 76 = .ok (.aload_n 0, 1) := by decide +kernel
theorem dX6_readOperation_77 : decode cX6_readOperation 77 = .ok (.bipush (-3), 2) := by decide +kernel
theorem dX6_readOperation_79 : decode cX6_readOperation 79 = .ok (.aload_n 0, 1) := by decide +kernel
theorem dX6_readOperation_80 : decode cX6_readOperation 80 = .ok (.getfield 102, 3) := by decide +kernel
theorem dX6_readOperation_83 : decode cX6_readOperation 83 = .ok (.invokevirtual 94, 3) := by decide +kernel
theorem dX6_readOperation_86 : decode cX6_readOperation 86 = .ok (.iinc 5 1, 3) := by decide +kernel
theorem dX6_readOperation_89 : decode cX6_readOperation 89 = .ok (.goto (-46), 3) := by decide +kernel
theorem dX6_readOperation_92 : decode cX6_readOperation 92 = .ok (.aload_n 0, 1) := by decide +kernel
theorem dX6_readOperation_93 : decode cX6_readOperation 93 = .ok (.iconst 1, 1) := by decide +kernel
theorem dX6_readOperation_94 : decode cX6_readOperation 94 = .ok (.bipush 99, 2) := by decide +kernel
theorem dX6_readOperation_96 : decode cX6_readOperation 96 = .ok (.invokevirtual 132, 3) := by decide +kernel
theorem dX6_readOperation_99 : decode cX6_readOperation 99 = .ok (.istore 5, 2) := by decide +kernel
theorem dX6_readOperation_101 : decode cX6_readOperation 101 = .ok (.aload_n 0, 1) := by decide +kernel
theorem dX6_readOperation_102 : decode cX6_readOperation 102 = .ok (.invokevirtual 77, 3) := by decide +kernel
theorem dX6_readOperation_105 : decode cX6_readOperation 105 = .ok (.ifCond .ne 4, 3) := by decide +kernel
theorem dX6_readOperation_108 : decode cX6_readOperation 108 = .ok (.return_, 1) := by decide +kernel
theorem dX6_readOperation_109 : decode cX6_readOperation 109 = .ok (.aload_n 0, 1) := by decide +kernel
theorem dX6_readOperation_110 : decode cX6_readOperation 110 = .ok (.getfield 20, 3) := by decide +kernel
theorem dX6_readOperation_113 : decode cX6_readOperation 113 = .ok (.bipush 6, 2) := by decide +kernel
theorem dX6_readOperation_115 : decode cX6_readOperation 115 = .ok (.iload_n 1, 1) := by decide +kernel
theorem dX6_readOperation_116 : decode cX6_readOperation 116 = .ok (.imul, 1) := by decide +kernel
theorem dX6_readOperation_117 : decode cX6_readOperation 117 = .ok (.iload_n 3, 1) := by decide +kernel
theorem dX6_readOperation_118 : decode cX6_readOperation 118 = .ok (.iadd, 1) := by decide +kernel
theorem dX6_readOperation_119 : decode cX6_readOperation 119 = .ok (.invokestatic 155, 3) := by decide +kernel
theorem dX6_readOperation_122 : decode cX6_readOperation 122 = .ok (.iload 4, 2) := by decide +kernel
theorem dX6_readOperation_124 : decode cX6_readOperation 124 = .ok (.iastore, 1) := by decide +kernel
theorem dX6_readOperation_125 : decode cX6_readOperation 125 = .ok (.aload_n 0, 1) := by decide +kernel
theorem dX6_readOperation_126 : decode cX6_readOperation 126 = .ok (.getfield 20, 3) := by decide +kernel
theorem dX6_readOperation_129 : decode cX6_readOperation 129 = .ok (.bipush 6, 2) := by decide +kernel
theorem dX6_readOperation_131 : decode cX6_readOperation 131 = .ok (.iload_n 1, 1) := by decide +kernel
theorem dX6_readOperation_132 : decode cX6_readOperation 132 = .ok (.imul, 1) := by decide +kernel
theorem dX6_readOperation_133 : decode cX6_readOperation 133 = .ok (.iload_n 3, 1) := by decide +kernel
theorem dX6_readOperation_134 : decode cX6_readOperation 134 = .ok (.iadd, 1) := by decide +kernel
theorem dX6_readOperation_135 : decode cX6_readOperation 135 = .ok (.invokestatic 155, 3) := by decide +kernel
theorem dX6_readOperation_138 : decode cX6_readOperation 138 = .ok (.iconst 1, 1) := by decide +kernel
theorem dX6_readOperation_139 : decode cX6_readOperation 139 = .ok (.iadd, 1) := by decide +kernel
theorem dX6_readOperation_140 : decode cX6_readOperation 140 = .ok (.iload 5, 2) := by decide +kernel
theorem dX6_readOperation_142 : decode cX6_readOperation 142 = .ok (.iastore, 1) := by decide +kernel
theorem dX6_readOperation_143 : decode cX6_readOperation 143 = .ok (.aload_n 0, 1) := by decide +kernel
theorem dX6_readOperation_144 : decode cX6_readOperation 144 = .ok (.getfield 20, 3) := by decide +kernel
theorem dX6_readOperation_147 : decode cX6_readOperation 147 = .ok (.iload_n 1, 1) := by decide +kernel
theorem dX6_readOperation_148 : decode cX6_readOperation 148 = .ok (.invokestatic 147, 3) := by decide +kernel
theorem dX6_readOperation_151 : decode cX6_readOperation 151 = .ok (.iconst 3, 1) := by decide +kernel
theorem dX6_readOperation_152 : decode cX6_readOperation 152 = .ok (.iadd, 1) := by decide +kernel
theorem dX6_readOperation_153 : decode cX6_readOperation 153 = .ok (.dup2, 1) := by decide +kernel
theorem dX6_readOperation_154 : decode cX6_readOperation 154 = .ok (.iaload, 1) := by decide +kernel
theorem dX6_readOperation_155 : decode cX6_readOperation 155 = .ok (.iconst 1, 1) := by decide +kernel
theorem dX6_readOperation_156 : decode cX6_readOperation 156 = .ok (.iadd, 1) := by decide +kernel
theorem dX6_readOperation_157 : decode cX6_readOperation 157 = .ok (.iastore, 1) := by decide +kernel
theorem dX6_readOperation_158 : decode cX6_readOperation 158 = .ok (.return_, 1) := by decide +kernel
theorem dX6_readMachine_0 : decode cX6_readMachine 0 = .ok (.aload_n 0, 1) := by decide +kernel
theorem dX6_readMachine_1 : decode cX6_readMachine 1 = .ok (.iconst 0, 1) := by decide +kernel
theorem dX6_readMachine_2 : decode cX6_readMachine 2 = .ok (.aload_n 0, 1) := by decide +kernel
theorem dX6_readMachine_3 : decode cX6_readMachine 3 = .ok (.getfield 20, 3) := by decide +kernel
theorem dX6_readMachine_6 : decode cX6_readMachine 6 = .ok (.iconst 0, 1) := by decide +kernel
theorem dX6_readMachine_7 : decode cX6_readMachine 7 = .ok (.iaload, 1) := by decide +kernel
theorem dX6_readMachine_8 : decode cX6_readMachine 8 = .ok (.iconst 1, 1) := by decide +kernel
theorem dX6_readMachine_9 : decode cX6_readMachine 9 = .ok (.isub, 1) := by decide +kernel
theorem dX6_readMachine_10 : decode cX6_readMachine 10 = .ok (.invokevirtual 132, 3) := by decide +kernel
theorem dX6_readMachine_13 : decode cX6_readMachine 13 = .ok (.istore_n 1, 1) := by decide +kernel
theorem dX6_readMachine_14 : decode cX6_readMachine 14 = .ok (.aload_n 0, 1) := by decide +kernel
theorem dX6_readMachine_15 : decode cX6_readMachine 15 = .ok (.iconst 0, 1) := by decide +kernel
theorem dX6_readMachine_16 : decode cX6_readMachine 16 = .ok (.iconst 1, 1) := by decide +kernel
theorem dX6_readMachine_17 : decode cX6_readMachine 17 = .ok (.invokevirtual 132, 3) := by decide +kernel
theorem dX6_readMachine_20 : decode cX6_readMachine 20 = .ok (.istore_n 2, 1) := by decide +kernel
theorem dX6_readMachine_21 : decode cX6_readMachine 21 = .ok (.aload_n 0, 1) := by decide +kernel
theorem dX6_readMachine_22 : decode cX6_readMachine 22 = .ok (.iconst 0, 1) := by decide +kernel
theorem dX6_readMachine_23 : decode cX6_readMachine 23 = .ok (.bipush 99, 2) := by decide +kernel
theorem dX6_readMachine_25 : decode cX6_readMachine 25 = .ok (.invokevirtual 132, 3) := by decide +kernel
theorem dX6_readMachine_28 : decode cX6_readMachine 28 = .ok (.istore_n 3, 1) := by decide +kernel
theorem dX6_readMachine_29 : decode cX6_readMachine 29 = .ok (.aload_n 0, 1) := by decide +kernel
theorem dX6_readMachine_30 : decode cX6_readMachine 30 = .ok (.invokevirtual 77, 3) := by decide +kernel
theorem dX6_readMachine_33 : decode cX6_readMachine 33 = .ok (.ifCond .ne 4, 3) := by decide +kernel
theorem dX6_readMachine_36 : decode cX6_readMachine 36 = .ok (.return_, 1) := by decide +kernel
theorem dX6_readMachine_37 : decode cX6_readMachine 37 = .ok (.aload_n 0, 1) := by decide +kernel
theorem dX6_readMachine_38 : decode cX6_readMachine 38 = .ok (.getfield 20, 3) := by decide +kernel
theorem dX6_readMachine_41 : decode cX6_readMachine 41 = .ok (.iload_n 1, 1) := by decide +kernel
theorem dX6_readMachine_42 : decode cX6_readMachine 42 = .ok (.invokestatic 158, 3) := by decide +kernel
theorem dX6_readMachine_45 : decode cX6_readMachine 45 = .ok (.iconst 1, 1) := by decide +kernel
theorem dX6_readMachine_46 : decode cX6_readMachine 46 = .ok (.iload_n 2, 1) := by decide +kernel
theorem dX6_readMachine_47 : decode cX6_readMachine 47 = .ok (.isub, 1) := by decide +kernel
theorem dX6_readMachine_48 : decode cX6_readMachine 48 = .ok (.iastore, 1) := by decide +kernel
theorem dX6_readMachine_49 : decode cX6_readMachine 49 = .ok (.aload_n 0, 1) := by decide +kernel
theorem dX6_readMachine_50 : decode cX6_readMachine 50 = .ok (.getfield 20, 3) := by decide +kernel
theorem dX6_readMachine_53 : decode cX6_readMachine 53 = .ok (.iload_n 1, 1) := by decide +kernel
theorem dX6_readMachine_54 : decode cX6_readMachine 54 = .ok (.invokestatic 158, 3) := by decide +kernel
theorem dX6_readMachine_57 : decode cX6_readMachine 57 = .ok (.iconst 1, 1) := by decide +kernel
theorem dX6_readMachine_58 : decode cX6_readMachine 58 = .ok (.iadd, 1) := by decide +kernel
theorem dX6_readMachine_59 : decode cX6_readMachine 59 = .ok (.iload_n 3, 1) := by decide +kernel
theorem dX6_readMachine_60 : decode cX6_readMachine 60 = .ok (.iastore, 1) := by decide +kernel
theorem dX6_readMachine_61 : decode cX6_readMachine 61 = .ok (.return_, 1) := by decide +kernel
theorem dX6_statement_0 : decode cX6_statement 0 = .ok (.aload_n 0, 1) := by decide +kernel
theorem dX6_statement_1 : decode cX6_statement 1 = .ok (.invokevirtual 81, 3) := by decide +kernel
theorem dX6_statement_4 : decode cX6_statement 4 = .ok (.pop, 1) := by decide +kernel
theorem dX6_statement_5 : decode cX6_statement 5 = .ok (.aload_n 0, 1) := by decide +kernel
theorem dX6_statement_6 : decode cX6_statement 6 = .ok (.getfield 60, 3) := by decide +kernel
theorem dX6_statement_9 : decode cX6_statement 9 = .ok (.istore_n 1, 1) := by decide +kernel
theorem dX6_statement_10 : decode cX6_statement 10 = .ok (.aload_n 0, 1) := by decide +kernel
theorem dX6_statement_11 : decode cX6_statement 11 = .ok (.ldc 161, 2) := by decide +kernel
theorem dX6_statement_13 : decode cX6_statement 13 = .ok (.invokevirtual 122, 3) := by decide +kernel
theorem dX6_statement_16 : decode cX6_statement 16 = .ok (.ifCond .eq 11, 3) := by decide +kernel
theorem dX6_statement_19 : decode cX6_statement 19 = .ok (.aload_n 0, 1) := by decide +kernel
theorem dX6_statement_20 : decode cX6_statement 20 = .ok (.iload_n 1, 1) := by decide +kernel
theorem dX6_statement_21 : decode cX6_statement 21 = .ok (.invokevirtual 162, 3) := by decide +kernel
theorem dX6_statement_24 : decode cX6_statement 24 = .ok (.goto 55, 3) := by decide +kernel
theorem dX6_statement_27 : decode cX6_statement 27 = .ok (.aload_n 0, 1) := by decide +kernel
theorem dX6_statement_28 : decode cX6_statement 28 = .ok (.ldc 165, 2) := by decide +kernel
theorem dX6_statement_30 : decode cX6_statement 30 = .ok (.invokevirtual 122, 3) := by decide +kernel
theorem dX6_statement_33 : decode cX6_statement 33 = .ok (.ifCond .eq 10, 3) := by decide +kernel
theorem dX6_statement_36 : decode cX6_statement 36 = .ok (.aload_n 0, 1) := by decide +kernel
theorem dX6_statement_37 : decode cX6_statement 37 = .ok (.invokevirtual 166, 3) := by decide +kernel
theorem dX6_statement_40 : decode cX6_statement 40 = .ok (.goto 39, 3) := by decide +kernel
theorem dX6_statement_43 : decode cX6_statement 43 = .ok (.aload_n 0, 1) := by decide +kernel
theorem dX6_statement_44 : decode cX6_statement 44 = .ok (.ldc 169, 2) := by decide +kernel
theorem dX6_statement_46 : decode cX6_statement 46 = .ok (.invokevirtual 122, 3) := by decide +kernel
theorem dX6_statement_49 : decode cX6_statement 49 = .ok (.ifCond .eq 23, 3) := by decide +kernel
theorem dX6_statement_52 : decode cX6_statement 52 = .ok (.aload_n 0, 1) := by decide +kernel
theorem dX6_statement_53 : decode cX6_statement 53 = .ok (.iconst 0, 1) := by decide +kernel
theorem dX6_statement_54 : decode cX6_statement 54 = .ok (.iload_n 1, 1) := by decide +kernel
theorem dX6_statement_55 : decode cX6_statement 55 = .ok (.invokevirtual 171, 3) := by decide +kernel
theorem dX6_statement_58 : decode cX6_statement 58 = .ok (.aload_n 0, 1) := by decide +kernel
theorem dX6_statement_59 : decode cX6_statement 59 = .ok (.getfield 20, 3) := by decide +kernel
theorem dX6_statement_62 : decode cX6_statement 62 = .ok (.iconst 3, 1) := by decide +kernel
theorem dX6_statement_63 : decode cX6_statement 63 = .ok (.iconst 1, 1) := by decide +kernel
theorem dX6_statement_64 : decode cX6_statement 64 = .ok (.iastore, 1) := by decide +kernel
theorem dX6_statement_65 : decode cX6_statement 65 = .ok (.aload_n 0, 1) := by decide +kernel
theorem dX6_statement_66 : decode cX6_statement 66 = .ok (.invokevirtual 113, 3) := by decide +kernel
theorem dX6_statement_69 : decode cX6_statement 69 = .ok (.goto 10, 3) := by decide +kernel
theorem dX6_statement_72 : decode cX6_statement 72 = .ok (.aload_n 0, 1) := by decide +kernel
theorem dX6_statement_73 : decode cX6_statement 73 = .ok (.bipush (-2), 2) := by decide +kernel
theorem dX6_statement_75 : decode cX6_statement 75 = .ok (.iload_n 1, 1) := by decide +kernel
theorem dX6_statement_76 : decode cX6_statement 76 = .ok (.invokevirtual 94, 3) := by decide +kernel
theorem dX6_statement_79 : decode cX6_statement 79 = .ok (.aload_n 0, 1) := by decide +kernel
theorem dX6_statement_80 : decode cX6_statement 80 = .ok (.bipush 59, 2) := by decide +kernel
theorem dX6_statement_82 : decode cX6_statement 82 = .ok (.invokevirtual 116, 3) := by decide +kernel
theorem dX6_statement_85 : decode cX6_statement 85 = .ok (.return_, 1) := by decide +kernel
theorem dX6_load_0 : decode cX6_load 0 = .ok (.aload_n 0, 1) := by decide +kernel
theorem dX6_load_1 : decode cX6_load 1 = .ok (.iconst 0, 1) := by decide +kernel
theorem dX6_load_2 : decode cX6_load 2 = .ok (.putfield 51, 3) := by decide +kernel
theorem dX6_load_5 : decode cX6_load 5 = .ok (.aload_n 0, 1) := by decide +kernel
theorem dX6_load_6 : decode cX6_load 6 = .ok (.iload_n 1, 1) := by decide +kernel
theorem dX6_load_7 : decode cX6_load 7 = .ok (.iconst 0, 1) := by decide +kernel
theorem dX6_load_8 : decode cX6_load 8 = .ok (.aload_n 0, 1) := by decide +kernel
theorem dX6_load_9 : decode cX6_load 9 = .ok (.getfield 54, 3) := by decide +kernel
theorem dX6_load_12 : decode cX6_load 12 = .ok (.invokestatic 73, 3) := by decide +kernel
theorem dX6_load_15 : decode cX6_load 15 = .ok (.ifCond .ne 7, 3) := by decide +kernel
theorem dX6_load_18 : decode cX6_load 18 = .ok (.iconst 1, 1) := by decide +kernel
theorem dX6_load_19 : decode cX6_load 19 = .ok (.goto 4, 3) := by decide +kernel
theorem dX6_load_22 : decode cX6_load 22 = .ok (.iconst 0, 1) := by decide +kernel
theorem dX6_load_23 : decode cX6_load 23 = .ok (.iconst 1, 1) := by decide +kernel
theorem dX6_load_24 : decode cX6_load 24 = .ok (.invokevirtual 174, 3) := by decide +kernel
theorem dX6_load_27 : decode cX6_load 27 = .ok (.ifCond .eq 5, 3) := by decide +kernel
theorem dX6_load_30 : decode cX6_load 30 = .ok (.iconst 0, 1) := by decide +kernel
theorem dX6_load_31 : decode cX6_load 31 = .ok (.ireturn, 1) := by decide +kernel
theorem dX6_load_32 : decode cX6_load 32 = .ok (.aload_n 0, 1) := by decide +kernel
theorem dX6_load_33 : decode cX6_load 33 = .ok (.iconst 0, 1) := by decide +kernel
theorem dX6_load_34 : decode cX6_load 34 = .ok (.putfield 54, 3) := by decide +kernel
theorem dX6_load_37 : decode cX6_load 37 = .ok (.aload_n 0, 1) := by decide +kernel
theorem dX6_load_38 : decode cX6_load 38 = .ok (.iload_n 1, 1) := by decide +kernel
theorem dX6_load_39 : decode cX6_load 39 = .ok (.putfield 57, 3) := by decide +kernel
theorem dX6_load_42 : decode cX6_load 42 = .ok (.aload_n 0, 1) := by decide +kernel
theorem dX6_load_43 : decode cX6_load 43 = .ok (.iconst 0, 1) := by decide +kernel
theorem dX6_load_44 : decode cX6_load 44 = .ok (.putfield 60, 3) := by decide +kernel
theorem dX6_load_47 : decode cX6_load 47 = .ok (.aload_n 0, 1) := by decide +kernel
theorem dX6_load_48 : decode cX6_load 48 = .ok (.iconst 0, 1) := by decide +kernel
theorem dX6_load_49 : decode cX6_load 49 = .ok (.putfield 67, 3) := by decide +kernel
theorem dX6_load_52 : decode cX6_load 52 = .ok (.aload_n 0, 1) := by decide +kernel
theorem dX6_load_53 : decode cX6_load 53 = .ok (.iconst (-1), 1) := by decide +kernel
theorem dX6_load_54 : decode cX6_load 54 = .ok (.putfield 70, 3) := by decide +kernel
theorem dX6_load_57 : decode cX6_load 57 = .ok (.aload_n 0, 1) := by decide +kernel
theorem dX6_load_58 : decode cX6_load 58 = .ok (.iconst 0, 1) := by decide +kernel
theorem dX6_load_59 : decode cX6_load 59 = .ok (.putfield 110, 3) := by decide +kernel
theorem dX6_load_62 : decode cX6_load 62 = .ok (.aload_n 0, 1) := by decide +kernel
theorem dX6_load_63 : decode cX6_load 63 = .ok (.iconst 0, 1) := by decide +kernel
theorem dX6_load_64 : decode cX6_load 64 = .ok (.putfield 144, 3) := by decide +kernel
theorem dX6_load_67 : decode cX6_load 67 = .ok (.iconst 0, 1) := by decide +kernel
theorem dX6_load_68 : decode cX6_load 68 = .ok (.istore_n 2, 1) := by decide +kernel
theorem dX6_load_69 : decode cX6_load 69 = .ok (.iload_n 2, 1) := by decide +kernel
theorem dX6_load_70 : decode cX6_load 70 = .ok (.sipush 1655, 3) := by decide +kernel
theorem dX6_load_73 : decode cX6_load 73 = .ok (.if_icmp .ge 16, 3) := by decide +kernel
theorem dX6_load_76 : decode cX6_load 76 = .ok (.aload_n 0, 1) := by decide +kernel
theorem dX6_load_77 : decode cX6_load 77 = .ok (.getfield 20, 3) := by decide +kernel
theorem dX6_load_80 : decode cX6_load 80 = .ok (.iload_n 2, 1) := by decide +kernel
theorem dX6_load_81 : decode cX6_load 81 = .ok (.iconst 0, 1) := by decide +kernel
theorem dX6_load_82 : decode cX6_load 82 = .ok (.iastore, 1) := by decide +kernel
theorem dX6_load_83 : decode cX6_load 83 = .ok (.iinc 2 1, 3) := by decide +kernel
theorem dX6_load_86 : decode cX6_load 86 = .ok (.goto (-17), 3) := by decide +kernel
theorem dX6_load_89 : decode cX6_load 89 = .ok (.aload_n 0, 1) := by decide +kernel
theorem dX6_load_90 : decode cX6_load 90 = .ok (.ldc 178, 2) := by decide +kernel
theorem dX6_load_92 : decode cX6_load 92 = .ok (.invokevirtual 122, 3) := by decide +kernel
theorem dX6_load_95 : decode cX6_load 95 = .ok (.ifCond .ne 13, 3) := by decide +kernel
theorem dX6_load_98 : decode cX6_load 98 = .ok (.aload_n 0, 1) := by decide +kernel
theorem dX6_load_99 : decode cX6_load 99 = .ok (.bipush (-2), 2) := by decide +kernel
theorem dX6_load_101 : decode cX6_load 101 = .ok (.aload_n 0, 1) := by decide +kernel
theorem dX6_load_102 : decode cX6_load 102 = .ok (.getfield 60, 3) := by decide +kernel
theorem dX6_load_105 : decode cX6_load 105 = .ok (.invokevirtual 94, 3) := by decide +kernel
theorem dX6_load_108 : decode cX6_load 108 = .ok (.aload_n 0, 1) := by decide +kernel
theorem dX6_load_109 : decode cX6_load 109 = .ok (.getfield 20, 3) := by decide +kernel
theorem dX6_load_112 : decode cX6_load 112 = .ok (.iconst 0, 1) := by decide +kernel
theorem dX6_load_113 : decode cX6_load 113 = .ok (.aload_n 0, 1) := by decide +kernel
theorem dX6_load_114 : decode cX6_load 114 = .ok (.iconst 1, 1) := by decide +kernel
theorem dX6_load_115 : decode cX6_load 115 = .ok (.bipush 6, 2) := by decide +kernel
theorem dX6_load_117 : decode cX6_load 117 = .ok (.invokevirtual 132, 3) := by decide +kernel
theorem dX6_load_120 : decode cX6_load 120 = .ok (.iastore, 1) := by decide +kernel
theorem dX6_load_121 : decode cX6_load 121 = .ok (.aload_n 0, 1) := by decide +kernel
theorem dX6_load_122 : decode cX6_load 122 = .ok (.getfield 20, 3) := by decide +kernel
theorem dX6_load_125 : decode cX6_load 125 = .ok (.iconst 1, 1) := by decide +kernel
theorem dX6_load_126 : decode cX6_load 126 = .ok (.aload_n 0, 1) := by decide +kernel
theorem dX6_load_127 : decode cX6_load 127 = .ok (.iconst 0, 1) := by decide +kernel
theorem dX6_load_128 : decode cX6_load 128 = .ok (.iconst 1, 1) := by decide +kernel
theorem dX6_load_129 : decode cX6_load 129 = .ok (.invokevirtual 132, 3) := by decide +kernel
theorem dX6_load_132 : decode cX6_load 132 = .ok (.iastore, 1) := by decide +kernel
theorem dX6_load_133 : decode cX6_load 133 = .ok (.aload_n 0, 1) := by decide +kernel
theorem dX6_load_134 : decode cX6_load 134 = .ok (.bipush 59, 2) := by decide +kernel
theorem dX6_load_136 : decode cX6_load 136 = .ok (.invokevirtual 116, 3) := by decide +kernel
theorem dX6_load_139 : decode cX6_load 139 = .ok (.aload_n 0, 1) := by decide +kernel
theorem dX6_load_140 : decode cX6_load 140 = .ok (.invokevirtual 77, 3) := by decide +kernel
theorem dX6_load_143 : decode cX6_load 143 = .ok (.ifCond .eq 18, 3) := by decide +kernel
theorem dX6_load_146 : decode cX6_load 146 = .ok (.aload_n 0, 1) := by decide +kernel
theorem dX6_load_147 : decode cX6_load 147 = .ok (.invokevirtual 81, 3) := by decide +kernel
theorem dX6_load_150 : decode cX6_load 150 = .ok (.iconst (-1), 1) := by decide +kernel
theorem dX6_load_151 : decode cX6_load 151 = .ok (.if_icmp .eq 10, 3) := by decide +kernel
theorem dX6_load_154 : decode cX6_load 154 = .ok (.aload_n 0, 1) := by decide +kernel
theorem dX6_load_155 : decode cX6_load 155 = .ok (.invokevirtual 180, 3) := by decide +kernel
theorem dX6_load_158 : decode cX6_load 158 = .ok (.goto (-19), 3) := by decide +kernel
theorem dX6_load_161 : decode cX6_load 161 = .ok (.aload_n 0, 1) := by decide +kernel
theorem dX6_load_162 : decode cX6_load 162 = .ok (.getfield 20, 3) := by decide +kernel
theorem dX6_load_165 : decode cX6_load 165 = .ok (.iconst 2, 1) := by decide +kernel
theorem dX6_load_166 : decode cX6_load 166 = .ok (.iaload, 1) := by decide +kernel
theorem dX6_load_167 : decode cX6_load 167 = .ok (.ifCond .ne 13, 3) := by decide +kernel
theorem dX6_load_170 : decode cX6_load 170 = .ok (.aload_n 0, 1) := by decide +kernel
theorem dX6_load_171 : decode cX6_load 171 = .ok (.bipush (-2), 2) := by decide +kernel
theorem dX6_load_173 : decode cX6_load 173 = .ok (.aload_n 0, 1) := by decide +kernel
theorem dX6_load_174 : decode cX6_load 174 = .ok (.getfield 57, 3) := by decide +kernel
theorem dX6_load_177 : decode cX6_load 177 = .ok (.invokevirtual 94, 3) := by decide +kernel
theorem dX6_load_180 : decode cX6_load 180 = .ok (.aload_n 0, 1) := by decide +kernel
theorem dX6_load_181 : decode cX6_load 181 = .ok (.aload_n 0, 1) := by decide +kernel
theorem dX6_load_182 : decode cX6_load 182 = .ok (.getfield 70, 3) := by decide +kernel
theorem dX6_load_185 : decode cX6_load 185 = .ok (.putfield 13, 3) := by decide +kernel
theorem dX6_load_188 : decode cX6_load 188 = .ok (.aload_n 0, 1) := by decide +kernel
theorem dX6_load_189 : decode cX6_load 189 = .ok (.invokevirtual 77, 3) := by decide +kernel
theorem dX6_load_192 : decode cX6_load 192 = .ok (.ifCond .ne 8, 3) := by decide +kernel
theorem dX6_load_195 : decode cX6_load 195 = .ok (.aload_n 0, 1) := by decide +kernel
theorem dX6_load_196 : decode cX6_load 196 = .ok (.getfield 67, 3) := by decide +kernel
theorem dX6_load_199 : decode cX6_load 199 = .ok (.ireturn, 1) := by decide +kernel
theorem dX6_load_200 : decode cX6_load 200 = .ok (.aload_n 0, 1) := by decide +kernel
theorem dX6_load_201 : decode cX6_load 201 = .ok (.invokevirtual 183, 3) := by decide +kernel
theorem dX6_load_204 : decode cX6_load 204 = .ok (.aload_n 0, 1) := by decide +kernel
theorem dX6_load_205 : decode cX6_load 205 = .ok (.getfield 20, 3) := by decide +kernel
theorem dX6_load_208 : decode cX6_load 208 = .ok (.aload_n 0, 1) := by decide +kernel
theorem dX6_load_209 : decode cX6_load 209 = .ok (.getfield 17, 3) := by decide +kernel
theorem dX6_load_212 : decode cX6_load 212 = .ok (.invokestatic 186, 3) := by decide +kernel
theorem dX6_load_215 : decode cX6_load 215 = .ok (.aload_n 0, 1) := by decide +kernel
theorem dX6_load_216 : decode cX6_load 216 = .ok (.invokevirtual 190, 3) := by decide +kernel
theorem dX6_load_219 : decode cX6_load 219 = .ok (.aload_n 0, 1) := by decide +kernel
theorem dX6_load_220 : decode cX6_load 220 = .ok (.getfield 17, 3) := by decide +kernel
theorem dX6_load_223 : decode cX6_load 223 = .ok (.iconst 2, 1) := by decide +kernel
theorem dX6_load_224 : decode cX6_load 224 = .ok (.iaload, 1) := by decide +kernel
theorem dX6_load_225 : decode cX6_load 225 = .ok (.ireturn, 1) := by decide +kernel
theorem dX6_errorOffset_0 : decode cX6_errorOffset 0 = .ok (.aload_n 0, 1) := by decide +kernel
theorem dX6_errorOffset_1 : decode cX6_errorOffset 1 = .ok (.iconst 0, 1) := by decide +kernel
theorem dX6_errorOffset_2 : decode cX6_errorOffset 2 = .ok (.putfield 51, 3) := by decide +kernel
theorem dX6_errorOffset_5 : decode cX6_errorOffset 5 = .ok (.aload_n 0, 1) := by decide +kernel
theorem dX6_errorOffset_6 : decode cX6_errorOffset 6 = .ok (.getfield 13, 3) := by decide +kernel
theorem dX6_errorOffset_9 : decode cX6_errorOffset 9 = .ok (.ireturn, 1) := by decide +kernel
theorem dX6_layFirst_0 : decode cX6_layFirst 0 = .ok (.iconst 0, 1) := by decide +kernel
theorem dX6_layFirst_1 : decode cX6_layFirst 1 = .ok (.istore_n 1, 1) := by decide +kernel
theorem dX6_layFirst_2 : decode cX6_layFirst 2 = .ok (.iload_n 1, 1) := by decide +kernel
theorem dX6_layFirst_3 : decode cX6_layFirst 3 = .ok (.aload_n 0, 1) := by decide +kernel
theorem dX6_layFirst_4 : decode cX6_layFirst 4 = .ok (.getfield 17, 3) := by decide +kernel
theorem dX6_layFirst_7 : decode cX6_layFirst 7 = .ok (.iconst 0, 1) := by decide +kernel
theorem dX6_layFirst_8 : decode cX6_layFirst 8 = .ok (.iaload, 1) := by decide +kernel
theorem dX6_layFirst_9 : decode cX6_layFirst 9 = .ok (.if_icmp .ge 21, 3) := by decide +kernel
theorem dX6_layFirst_12 : decode cX6_layFirst 12 = .ok (.aload_n 0, 1) := by decide +kernel
theorem dX6_layFirst_13 : decode cX6_layFirst 13 = .ok (.getfield 17, 3) := by decide +kernel
theorem dX6_layFirst_16 : decode cX6_layFirst 16 = .ok (.iload_n 1, 1) := by decide +kernel
theorem dX6_layFirst_17 : decode cX6_layFirst 17 = .ok (.invokestatic 158, 3) := by decide +kernel
theorem dX6_layFirst_20 : decode cX6_layFirst 20 = .ok (.iconst 2, 1) := by decide +kernel
theorem dX6_layFirst_21 : decode cX6_layFirst 21 = .ok (.iadd, 1) := by decide +kernel
theorem dX6_layFirst_22 : decode cX6_layFirst 22 = .ok (.iconst 0, 1) := by decide +kernel
theorem dX6_layFirst_23 : decode cX6_layFirst 23 = .ok (.iastore, 1) := by decide +kernel
theorem dX6_layFirst_24 : decode cX6_layFirst 24 = .ok (.iinc 1 1, 3) := by decide +kernel
theorem dX6_layFirst_27 : decode cX6_layFirst 27 = .ok (.goto (-25), 3) := by decide +kernel
theorem dX6_layFirst_30 : decode cX6_layFirst 30 = .ok (.iconst 0, 1) := by decide +kernel
theorem dX6_layFirst_31 : decode cX6_layFirst 31 = .ok (.istore_n 1, 1) := by decide +kernel
theorem dX6_layFirst_32 : decode cX6_layFirst 32 = .ok (.iload_n 1, 1) := by decide +kernel
theorem dX6_layFirst_33 : decode cX6_layFirst 33 = .ok (.aload_n 0, 1) := by decide +kernel
theorem dX6_layFirst_34 : decode cX6_layFirst 34 = .ok (.getfield 17, 3) := by decide +kernel
theorem dX6_layFirst_37 : decode cX6_layFirst 37 = .ok (.iconst 2, 1) := by decide +kernel
theorem dX6_layFirst_38 : decode cX6_layFirst 38 = .ok (.iaload, 1) := by decide +kernel
theorem dX6_layFirst_39 : decode cX6_layFirst 39 = .ok (.if_icmp .ge 85, 3) := by decide +kernel
theorem dX6_layFirst_42 : decode cX6_layFirst 42 = .ok (.iconst 0, 1) := by decide +kernel
theorem dX6_layFirst_43 : decode cX6_layFirst 43 = .ok (.istore_n 2, 1) := by decide +kernel
theorem dX6_layFirst_44 : decode cX6_layFirst 44 = .ok (.iload_n 2, 1) := by decide +kernel
theorem dX6_layFirst_45 : decode cX6_layFirst 45 = .ok (.aload_n 0, 1) := by decide +kernel
theorem dX6_layFirst_46 : decode cX6_layFirst 46 = .ok (.getfield 17, 3) := by decide +kernel
theorem dX6_layFirst_49 : decode cX6_layFirst 49 = .ok (.iload_n 1, 1) := by decide +kernel
theorem dX6_layFirst_50 : decode cX6_layFirst 50 = .ok (.invokestatic 147, 3) := by decide +kernel
theorem dX6_layFirst_53 : decode cX6_layFirst 53 = .ok (.iconst 3, 1) := by decide +kernel
theorem dX6_layFirst_54 : decode cX6_layFirst 54 = .ok (.iadd, 1) := by decide +kernel
theorem dX6_layFirst_55 : decode cX6_layFirst 55 = .ok (.iaload, 1) := by decide +kernel
theorem dX6_layFirst_56 : decode cX6_layFirst 56 = .ok (.if_icmp .ge 62, 3) := by decide +kernel
theorem dX6_layFirst_59 : decode cX6_layFirst 59 = .ok (.aload_n 0, 1) := by decide +kernel
theorem dX6_layFirst_60 : decode cX6_layFirst 60 = .ok (.getfield 17, 3) := by decide +kernel
theorem dX6_layFirst_63 : decode cX6_layFirst 63 = .ok (.bipush 6, 2) := by decide +kernel
theorem dX6_layFirst_65 : decode cX6_layFirst 65 = .ok (.iload_n 1, 1) := by decide +kernel
theorem dX6_layFirst_66 : decode cX6_layFirst 66 = .ok (.imul, 1) := by decide +kernel
theorem dX6_layFirst_67 : decode cX6_layFirst 67 = .ok (.iload_n 2, 1) := by decide +kernel
theorem dX6_layFirst_68 : decode cX6_layFirst 68 = .ok (.iadd, 1) := by decide +kernel
theorem dX6_layFirst_69 : decode cX6_layFirst 69 = .ok (.invokestatic 155, 3) := by decide +kernel
theorem dX6_layFirst_72 : decode cX6_layFirst 72 = .ok (.iaload, 1) := by decide +kernel
theorem dX6_layFirst_73 : decode cX6_layFirst 73 = .ok (.invokestatic 158, 3) := by decide +kernel
theorem dX6_layFirst_76 : decode cX6_layFirst 76 = .ok (.istore_n 3, 1) := by decide +kernel
theorem dX6_layFirst_77 : decode cX6_layFirst 77 = .ok (.aload_n 0, 1) := by decide +kernel
theorem dX6_layFirst_78 : decode cX6_layFirst 78 = .ok (.getfield 17, 3) := by decide +kernel
theorem dX6_layFirst_81 : decode cX6_layFirst 81 = .ok (.iload_n 3, 1) := by decide +kernel
theorem dX6_layFirst_82 : decode cX6_layFirst 82 = .ok (.iconst 3, 1) := by decide +kernel
theorem dX6_layFirst_83 : decode cX6_layFirst 83 = .ok (.iadd, 1) := by decide +kernel
theorem dX6_layFirst_84 : decode cX6_layFirst 84 = .ok (.aload_n 0, 1) := by decide +kernel
theorem dX6_layFirst_85 : decode cX6_layFirst 85 = .ok (.getfield 17, 3) := by decide +kernel
theorem dX6_layFirst_88 : decode cX6_layFirst 88 = .ok (.iload_n 3, 1) := by decide +kernel
theorem dX6_layFirst_89 : decode cX6_layFirst 89 = .ok (.iconst 2, 1) := by decide +kernel
theorem dX6_layFirst_90 : decode cX6_layFirst 90 = .ok (.iadd, 1) := by decide +kernel
theorem dX6_layFirst_91 : decode cX6_layFirst 91 = .ok (.iaload, 1) := by decide +kernel
theorem dX6_layFirst_92 : decode cX6_layFirst 92 = .ok (.iadd, 1) := by decide +kernel
theorem dX6_layFirst_93 : decode cX6_layFirst 93 = .ok (.bipush 6, 2) := by decide +kernel
theorem dX6_layFirst_95 : decode cX6_layFirst 95 = .ok (.iload_n 1, 1) := by decide +kernel
theorem dX6_layFirst_96 : decode cX6_layFirst 96 = .ok (.imul, 1) := by decide +kernel
theorem dX6_layFirst_97 : decode cX6_layFirst 97 = .ok (.iload_n 2, 1) := by decide +kernel
theorem dX6_layFirst_98 : decode cX6_layFirst 98 = .ok (.iadd, 1) := by decide +kernel
theorem dX6_layFirst_99 : decode cX6_layFirst 99 = .ok (.iastore, 1) := by decide +kernel
theorem dX6_layFirst_100 : decode cX6_layFirst 100 = .ok (.aload_n 0, 1) := by decide +kernel
theorem dX6_layFirst_101 : decode cX6_layFirst 101 = .ok (.getfield 17, 3) := by decide +kernel
theorem dX6_layFirst_104 : decode cX6_layFirst 104 = .ok (.iload_n 3, 1) := by decide +kernel
theorem dX6_layFirst_105 : decode cX6_layFirst 105 = .ok (.iconst 2, 1) := by decide +kernel
theorem dX6_layFirst_106 : decode cX6_layFirst 106 = .ok (.iadd, 1) := by decide +kernel
theorem dX6_layFirst_107 : decode cX6_layFirst 107 = .ok (.dup2, 1) := by decide +kernel
theorem dX6_layFirst_108 : decode cX6_layFirst 108 = .ok (.iaload, 1) := by decide +kernel
theorem dX6_layFirst_109 : decode cX6_layFirst 109 = .ok (.iconst 1, 1) := by decide +kernel
theorem dX6_layFirst_110 : decode cX6_layFirst 110 = .ok (.iadd, 1) := by decide +kernel
theorem dX6_layFirst_111 : decode cX6_layFirst 111 = .ok (.iastore, 1) := by decide +kernel
theorem dX6_layFirst_112 : decode cX6_layFirst 112 = .ok (.iinc 2 1, 3) := by decide +kernel
theorem dX6_layFirst_115 : decode cX6_layFirst 115 = .ok (.goto (-71), 3) := by decide +kernel
theorem dX6_layFirst_118 : decode cX6_layFirst 118 = .ok (.iinc 1 1, 3) := by decide +kernel
theorem dX6_layFirst_121 : decode cX6_layFirst 121 = .ok (.goto (-89), 3) := by decide +kernel
theorem dX6_layFirst_124 : decode cX6_layFirst 124 = .ok (.return_, 1) := by decide +kernel
theorem dX6_isThere_0 : decode cX6_isThere 0 = .ok (.iload_n 1, 1) := by decide +kernel
theorem dX6_isThere_1 : decode cX6_isThere 1 = .ok (.bipush 6, 2) := by decide +kernel
theorem dX6_isThere_3 : decode cX6_isThere 3 = .ok (.idiv, 1) := by decide +kernel
theorem dX6_isThere_4 : decode cX6_isThere 4 = .ok (.aload_n 0, 1) := by decide +kernel
theorem dX6_isThere_5 : decode cX6_isThere 5 = .ok (.getfield 17, 3) := by decide +kernel
theorem dX6_isThere_8 : decode cX6_isThere 8 = .ok (.iconst 2, 1) := by decide +kernel
theorem dX6_isThere_9 : decode cX6_isThere 9 = .ok (.iaload, 1) := by decide +kernel
theorem dX6_isThere_10 : decode cX6_isThere 10 = .ok (.if_icmp .ge 28, 3) := by decide +kernel
theorem dX6_isThere_13 : decode cX6_isThere 13 = .ok (.iload_n 1, 1) := by decide +kernel
theorem dX6_isThere_14 : decode cX6_isThere 14 = .ok (.bipush 6, 2) := by decide +kernel
theorem dX6_isThere_16 : decode cX6_isThere 16 = .ok (.irem, 1) := by decide +kernel
theorem dX6_isThere_17 : decode cX6_isThere 17 = .ok (.aload_n 0, 1) := by decide +kernel
theorem dX6_isThere_18 : decode cX6_isThere 18 = .ok (.getfield 17, 3) := by decide +kernel
theorem dX6_isThere_21 : decode cX6_isThere 21 = .ok (.iload_n 1, 1) := by decide +kernel
theorem dX6_isThere_22 : decode cX6_isThere 22 = .ok (.bipush 6, 2) := by decide +kernel
theorem dX6_isThere_24 : decode cX6_isThere 24 = .ok (.idiv, 1) := by decide +kernel
theorem dX6_isThere_25 : decode cX6_isThere 25 = .ok (.invokestatic 147, 3) := by decide +kernel
theorem dX6_isThere_28 : decode cX6_isThere 28 = .ok (.iconst 3, 1) := by decide +kernel
theorem dX6_isThere_29 : decode cX6_isThere 29 = .ok (.iadd, 1) := by decide +kernel
theorem dX6_isThere_30 : decode cX6_isThere 30 = .ok (.iaload, 1) := by decide +kernel
theorem dX6_isThere_31 : decode cX6_isThere 31 = .ok (.if_icmp .ge 7, 3) := by decide +kernel
theorem dX6_isThere_34 : decode cX6_isThere 34 = .ok (.iconst 1, 1) := by decide +kernel
theorem dX6_isThere_35 : decode cX6_isThere 35 = .ok (.goto 4, 3) := by decide +kernel
theorem dX6_isThere_38 : decode cX6_isThere 38 = .ok (.iconst 0, 1) := by decide +kernel
theorem dX6_isThere_39 : decode cX6_isThere 39 = .ok (.ireturn, 1) := by decide +kernel
theorem dX6_isLast_0 : decode cX6_isLast 0 = .ok (.iload_n 1, 1) := by decide +kernel
theorem dX6_isLast_1 : decode cX6_isLast 1 = .ok (.bipush 6, 2) := by decide +kernel
theorem dX6_isLast_3 : decode cX6_isLast 3 = .ok (.irem, 1) := by decide +kernel
theorem dX6_isLast_4 : decode cX6_isLast 4 = .ok (.aload_n 0, 1) := by decide +kernel
theorem dX6_isLast_5 : decode cX6_isLast 5 = .ok (.getfield 17, 3) := by decide +kernel
theorem dX6_isLast_8 : decode cX6_isLast 8 = .ok (.iload_n 1, 1) := by decide +kernel
theorem dX6_isLast_9 : decode cX6_isLast 9 = .ok (.bipush 6, 2) := by decide +kernel
theorem dX6_isLast_11 : decode cX6_isLast 11 = .ok (.idiv, 1) := by decide +kernel
theorem dX6_isLast_12 : decode cX6_isLast 12 = .ok (.invokestatic 147, 3) := by decide +kernel
theorem dX6_isLast_15 : decode cX6_isLast 15 = .ok (.iconst 3, 1) := by decide +kernel
theorem dX6_isLast_16 : decode cX6_isLast 16 = .ok (.iadd, 1) := by decide +kernel
theorem dX6_isLast_17 : decode cX6_isLast 17 = .ok (.iaload, 1) := by decide +kernel
theorem dX6_isLast_18 : decode cX6_isLast 18 = .ok (.iconst 1, 1) := by decide +kernel
theorem dX6_isLast_19 : decode cX6_isLast 19 = .ok (.isub, 1) := by decide +kernel
theorem dX6_isLast_20 : decode cX6_isLast 20 = .ok (.if_icmp .ne 7, 3) := by decide +kernel
theorem dX6_isLast_23 : decode cX6_isLast 23 = .ok (.iconst 1, 1) := by decide +kernel
theorem dX6_isLast_24 : decode cX6_isLast 24 = .ok (.goto 4, 3) := by decide +kernel
theorem dX6_isLast_27 : decode cX6_isLast 27 = .ok (.iconst 0, 1) := by decide +kernel
theorem dX6_isLast_28 : decode cX6_isLast 28 = .ok (.ireturn, 1) := by decide +kernel
theorem dX6_machineOf_0 : decode cX6_machineOf 0 = .ok (.aload_n 0, 1) := by decide +kernel
theorem dX6_machineOf_1 : decode cX6_machineOf 1 = .ok (.getfield 17, 3) := by decide +kernel
theorem dX6_machineOf_4 : decode cX6_machineOf 4 = .ok (.iload_n 1, 1) := by decide +kernel
theorem dX6_machineOf_5 : decode cX6_machineOf 5 = .ok (.invokestatic 155, 3) := by decide +kernel
theorem dX6_machineOf_8 : decode cX6_machineOf 8 = .ok (.iaload, 1) := by decide +kernel
theorem dX6_machineOf_9 : decode cX6_machineOf 9 = .ok (.ireturn, 1) := by decide +kernel
theorem dX6_durationOf_0 : decode cX6_durationOf 0 = .ok (.aload_n 0, 1) := by decide +kernel
theorem dX6_durationOf_1 : decode cX6_durationOf 1 = .ok (.getfield 17, 3) := by decide +kernel
theorem dX6_durationOf_4 : decode cX6_durationOf 4 = .ok (.iload_n 1, 1) := by decide +kernel
theorem dX6_durationOf_5 : decode cX6_durationOf 5 = .ok (.invokestatic 155, 3) := by decide +kernel
theorem dX6_durationOf_8 : decode cX6_durationOf 8 = .ok (.iconst 1, 1) := by decide +kernel
theorem dX6_durationOf_9 : decode cX6_durationOf 9 = .ok (.iadd, 1) := by decide +kernel
theorem dX6_durationOf_10 : decode cX6_durationOf 10 = .ok (.iaload, 1) := by decide +kernel
theorem dX6_durationOf_11 : decode cX6_durationOf 11 = .ok (.ireturn, 1) := by decide +kernel
theorem dX6_placeOf_0 : decode cX6_placeOf 0 = .ok (.aload_n 0, 1) := by decide +kernel
theorem dX6_placeOf_1 : decode cX6_placeOf 1 = .ok (.iload_n 1, 1) := by decide +kernel
theorem dX6_placeOf_2 : decode cX6_placeOf 2 = .ok (.invokevirtual 193, 3) := by decide +kernel
theorem dX6_placeOf_5 : decode cX6_placeOf 5 = .ok (.invokestatic 158, 3) := by decide +kernel
theorem dX6_placeOf_8 : decode cX6_placeOf 8 = .ok (.iconst 3, 1) := by decide +kernel
theorem dX6_placeOf_9 : decode cX6_placeOf 9 = .ok (.iadd, 1) := by decide +kernel
theorem dX6_placeOf_10 : decode cX6_placeOf 10 = .ok (.istore_n 2, 1) := by decide +kernel
theorem dX6_placeOf_11 : decode cX6_placeOf 11 = .ok (.iconst 0, 1) := by decide +kernel
theorem dX6_placeOf_12 : decode cX6_placeOf 12 = .ok (.istore_n 3, 1) := by decide +kernel
theorem dX6_placeOf_13 : decode cX6_placeOf 13 = .ok (.aload_n 0, 1) := by decide +kernel
theorem dX6_placeOf_14 : decode cX6_placeOf 14 = .ok (.getfield 17, 3) := by decide +kernel
theorem dX6_placeOf_17 : decode cX6_placeOf 17 = .ok (.iload_n 2, 1) := by decide +kernel
theorem dX6_placeOf_18 : decode cX6_placeOf 18 = .ok (.iload_n 3, 1) := by decide +kernel
theorem dX6_placeOf_19 : decode cX6_placeOf 19 = .ok (.iadd, 1) := by decide +kernel
theorem dX6_placeOf_20 : decode cX6_placeOf 20 = .ok (.iaload, 1) := by decide +kernel
theorem dX6_placeOf_21 : decode cX6_placeOf 21 = .ok (.iload_n 1, 1) := by decide +kernel
theorem dX6_placeOf_22 : decode cX6_placeOf 22 = .ok (.if_icmp .eq 9, 3) := by decide +kernel
theorem dX6_placeOf_25 : decode cX6_placeOf 25 = .ok (.iinc 3 1, 3) := by decide +kernel
theorem dX6_placeOf_28 : decode cX6_placeOf 28 = .ok (.goto (-15), 3) := by decide +kernel
theorem dX6_placeOf_31 : decode cX6_placeOf 31 = .ok (.iload_n 3, 1) := by decide +kernel
theorem dX6_placeOf_32 : decode cX6_placeOf 32 = .ok (.ireturn, 1) := by decide +kernel
theorem dX6_isBlocking_0 : decode cX6_isBlocking 0 = .ok (.aload_n 0, 1) := by decide +kernel
theorem dX6_isBlocking_1 : decode cX6_isBlocking 1 = .ok (.getfield 17, 3) := by decide +kernel
theorem dX6_isBlocking_4 : decode cX6_isBlocking 4 = .ok (.aload_n 0, 1) := by decide +kernel
theorem dX6_isBlocking_5 : decode cX6_isBlocking 5 = .ok (.iload_n 1, 1) := by decide +kernel
theorem dX6_isBlocking_6 : decode cX6_isBlocking 6 = .ok (.invokevirtual 193, 3) := by decide +kernel
theorem dX6_isBlocking_9 : decode cX6_isBlocking 9 = .ok (.invokestatic 158, 3) := by decide +kernel
theorem dX6_isBlocking_12 : decode cX6_isBlocking 12 = .ok (.iaload, 1) := by decide +kernel
theorem dX6_isBlocking_13 : decode cX6_isBlocking 13 = .ok (.ifCond .ne 15, 3) := by decide +kernel
theorem dX6_isBlocking_16 : decode cX6_isBlocking 16 = .ok (.aload_n 0, 1) := by decide +kernel
theorem dX6_isBlocking_17 : decode cX6_isBlocking 17 = .ok (.iload_n 1, 1) := by decide +kernel
theorem dX6_isBlocking_18 : decode cX6_isBlocking 18 = .ok (.invokevirtual 196, 3) := by decide +kernel
theorem dX6_isBlocking_21 : decode cX6_isBlocking 21 = .ok (.ifCond .ne 7, 3) := by decide +kernel
theorem dX6_isBlocking_24 : decode cX6_isBlocking 24 = .ok (.iconst 1, 1) := by decide +kernel
theorem dX6_isBlocking_25 : decode cX6_isBlocking 25 = .ok (.goto 4, 3) := by decide +kernel
theorem dX6_isBlocking_28 : decode cX6_isBlocking 28 = .ok (.iconst 0, 1) := by decide +kernel
theorem dX6_isBlocking_29 : decode cX6_isBlocking 29 = .ok (.ireturn, 1) := by decide +kernel
theorem dX6_layArcs_0 : decode cX6_layArcs 0 = .ok (.iconst 0, 1) := by decide +kernel
theorem dX6_layArcs_1 : decode cX6_layArcs 1 = .ok (.istore_n 1, 1) := by decide +kernel
theorem dX6_layArcs_2 : decode cX6_layArcs 2 = .ok (.iload_n 1, 1) := by decide +kernel
theorem dX6_layArcs_3 : decode cX6_layArcs 3 = .ok (.bipush 36, 2) := by decide +kernel
theorem dX6_layArcs_5 : decode cX6_layArcs 5 = .ok (.if_icmp .ge 16, 3) := by decide +kernel
theorem dX6_layArcs_8 : decode cX6_layArcs 8 = .ok (.aload_n 0, 1) := by decide +kernel
theorem dX6_layArcs_9 : decode cX6_layArcs 9 = .ok (.getfield 31, 3) := by decide +kernel
theorem dX6_layArcs_12 : decode cX6_layArcs 12 = .ok (.iload_n 1, 1) := by decide +kernel
theorem dX6_layArcs_13 : decode cX6_layArcs 13 = .ok (.iconst (-1), 1) := by decide +kernel
theorem dX6_layArcs_14 : decode cX6_layArcs 14 = .ok (.iastore, 1) := by decide +kernel
theorem dX6_layArcs_15 : decode cX6_layArcs 15 = .ok (.iinc 1 1, 3) := by decide +kernel
theorem dX6_layArcs_18 : decode cX6_layArcs 18 = .ok (.goto (-16), 3) := by decide +kernel
theorem dX6_layArcs_21 : decode cX6_layArcs 21 = .ok (.iconst 0, 1) := by decide +kernel
theorem dX6_layArcs_22 : decode cX6_layArcs 22 = .ok (.istore_n 1, 1) := by decide +kernel
theorem dX6_layArcs_23 : decode cX6_layArcs 23 = .ok (.iload_n 1, 1) := by decide +kernel
theorem dX6_layArcs_24 : decode cX6_layArcs 24 = .ok (.aload_n 0, 1) := by decide +kernel
theorem dX6_layArcs_25 : decode cX6_layArcs 25 = .ok (.getfield 17, 3) := by decide +kernel
theorem dX6_layArcs_28 : decode cX6_layArcs 28 = .ok (.iconst 0, 1) := by decide +kernel
theorem dX6_layArcs_29 : decode cX6_layArcs 29 = .ok (.iaload, 1) := by decide +kernel
theorem dX6_layArcs_30 : decode cX6_layArcs 30 = .ok (.if_icmp .ge 120, 3) := by decide +kernel
theorem dX6_layArcs_33 : decode cX6_layArcs 33 = .ok (.iload_n 1, 1) := by decide +kernel
theorem dX6_layArcs_34 : decode cX6_layArcs 34 = .ok (.invokestatic 158, 3) := by decide +kernel
theorem dX6_layArcs_37 : decode cX6_layArcs 37 = .ok (.istore_n 2, 1) := by decide +kernel
theorem dX6_layArcs_38 : decode cX6_layArcs 38 = .ok (.iconst 1, 1) := by decide +kernel
theorem dX6_layArcs_39 : decode cX6_layArcs 39 = .ok (.istore_n 3, 1) := by decide +kernel
theorem dX6_layArcs_40 : decode cX6_layArcs 40 = .ok (.iload_n 3, 1) := by decide +kernel
theorem dX6_layArcs_41 : decode cX6_layArcs 41 = .ok (.aload_n 0, 1) := by decide +kernel
theorem dX6_layArcs_42 : decode cX6_layArcs 42 = .ok (.getfield 17, 3) := by decide +kernel
theorem dX6_layArcs_45 : decode cX6_layArcs 45 = .ok (.iload_n 2, 1) := by decide +kernel
theorem dX6_layArcs_46 : decode cX6_layArcs 46 = .ok (.iconst 2, 1) := by decide +kernel
theorem dX6_layArcs_47 : decode cX6_layArcs 47 = .ok (.iadd, 1) := by decide +kernel
theorem dX6_layArcs_48 : decode cX6_layArcs 48 = .ok (.iaload, 1) := by decide +kernel
theorem dX6_layArcs_49 : decode cX6_layArcs 49 = .ok (.if_icmp .ge 95, 3) := by decide +kernel
theorem dX6_layArcs_52 : decode cX6_layArcs 52 = .ok (.aload_n 0, 1) := by decide +kernel
theorem dX6_layArcs_53 : decode cX6_layArcs 53 = .ok (.getfield 17, 3) := by decide +kernel
theorem dX6_layArcs_56 : decode cX6_layArcs 56 = .ok (.iload_n 2, 1) := by decide +kernel
theorem dX6_layArcs_57 : decode cX6_layArcs 57 = .ok (.iconst 3, 1) := by decide +kernel
theorem dX6_layArcs_58 : decode cX6_layArcs 58 = .ok (.iadd, 1) := by decide +kernel
theorem dX6_layArcs_59 : decode cX6_layArcs 59 = .ok (.iload_n 3, 1) := by decide +kernel
theorem dX6_layArcs_60 : decode cX6_layArcs 60 = .ok (.iadd, 1) := by decide +kernel
theorem dX6_layArcs_61 : decode cX6_layArcs 61 = .ok (.iconst 1, 1) := by decide +kernel
theorem dX6_layArcs_62 : decode cX6_layArcs 62 = .ok (.isub, 1) := by decide +kernel
theorem dX6_layArcs_63 : decode cX6_layArcs 63 = .ok (.iaload, 1) := by decide +kernel
theorem dX6_layArcs_64 : decode cX6_layArcs 64 = .ok (.istore 4, 2) := by decide +kernel
theorem dX6_layArcs_66 : decode cX6_layArcs 66 = .ok (.aload_n 0, 1) := by decide +kernel
theorem dX6_layArcs_67 : decode cX6_layArcs 67 = .ok (.getfield 17, 3) := by decide +kernel
theorem dX6_layArcs_70 : decode cX6_layArcs 70 = .ok (.iload_n 2, 1) := by decide +kernel
theorem dX6_layArcs_71 : decode cX6_layArcs 71 = .ok (.iconst 3, 1) := by decide +kernel
theorem dX6_layArcs_72 : decode cX6_layArcs 72 = .ok (.iadd, 1) := by decide +kernel
theorem dX6_layArcs_73 : decode cX6_layArcs 73 = .ok (.iload_n 3, 1) := by decide +kernel
theorem dX6_layArcs_74 : decode cX6_layArcs 74 = .ok (.iadd, 1) := by decide +kernel
theorem dX6_layArcs_75 : decode cX6_layArcs 75 = .ok (.iaload, 1) := by decide +kernel
theorem dX6_layArcs_76 : decode cX6_layArcs 76 = .ok (.istore 5, 2) := by decide +kernel
theorem dX6_layArcs_78 : decode cX6_layArcs 78 = .ok (.aload_n 0, 1) := by decide +kernel
theorem dX6_layArcs_79 : decode cX6_layArcs 79 = .ok (.getfield 31, 3) := by decide +kernel
theorem dX6_layArcs_82 : decode cX6_layArcs 82 = .ok (.iload 5, 2) := by decide +kernel
theorem dX6_layArcs_84 : decode cX6_layArcs 84 = .ok (.aload_n 0, 1) := by decide +kernel
theorem dX6_layArcs_85 : decode cX6_layArcs 85 = .ok (.iload 4, 2) := by decide +kernel
theorem dX6_layArcs_87 : decode cX6_layArcs 87 = .ok (.invokevirtual 199, 3) := by decide +kernel
theorem dX6_layArcs_90 : decode cX6_layArcs 90 = .ok (.ifCond .eq 10, 3) := by decide +kernel
theorem dX6_layArcs_93 : decode cX6_layArcs 93 = .ok (.iload 4, 2) := by decide +kernel
theorem dX6_layArcs_95 : decode cX6_layArcs 95 = .ok (.iconst 1, 1) := by decide +kernel
theorem dX6_layArcs_96 : decode cX6_layArcs 96 = .ok (.iadd, 1) := by decide +kernel
theorem dX6_layArcs_97 : decode cX6_layArcs 97 = .ok (.goto 5, 3) := by decide +kernel
theorem dX6_layArcs_100 : decode cX6_layArcs 100 = .ok (.iload 4, 2) := by decide +kernel
theorem dX6_layArcs_102 : decode cX6_layArcs 102 = .ok (.iastore, 1) := by decide +kernel
theorem dX6_layArcs_103 : decode cX6_layArcs 103 = .ok (.aload_n 0, 1) := by decide +kernel
theorem dX6_layArcs_104 : decode cX6_layArcs 104 = .ok (.getfield 34, 3) := by decide +kernel
theorem dX6_layArcs_107 : decode cX6_layArcs 107 = .ok (.iload 5, 2) := by decide +kernel
theorem dX6_layArcs_109 : decode cX6_layArcs 109 = .ok (.aload_n 0, 1) := by decide +kernel
theorem dX6_layArcs_110 : decode cX6_layArcs 110 = .ok (.getfield 17, 3) := by decide +kernel
theorem dX6_layArcs_113 : decode cX6_layArcs 113 = .ok (.iload_n 2, 1) := by decide +kernel
theorem dX6_layArcs_114 : decode cX6_layArcs 114 = .ok (.iconst 1, 1) := by decide +kernel
theorem dX6_layArcs_115 : decode cX6_layArcs 115 = .ok (.iadd, 1) := by decide +kernel
theorem dX6_layArcs_116 : decode cX6_layArcs 116 = .ok (.iaload, 1) := by decide +kernel
theorem dX6_layArcs_117 : decode cX6_layArcs 117 = .ok (.aload_n 0, 1) := by decide +kernel
theorem dX6_layArcs_118 : decode cX6_layArcs 118 = .ok (.iload 4, 2) := by decide +kernel
theorem dX6_layArcs_120 : decode cX6_layArcs 120 = .ok (.invokevirtual 199, 3) := by decide +kernel
theorem dX6_layArcs_123 : decode cX6_layArcs 123 = .ok (.ifCond .eq 7, 3) := by decide +kernel
theorem dX6_layArcs_126 : decode cX6_layArcs 126 = .ok (.iconst 0, 1) := by decide +kernel
theorem dX6_layArcs_127 : decode cX6_layArcs 127 = .ok (.goto 9, 3) := by decide +kernel
theorem dX6_layArcs_130 : decode cX6_layArcs 130 = .ok (.aload_n 0, 1) := by decide +kernel
theorem dX6_layArcs_131 : decode cX6_layArcs 131 = .ok (.iload 4, 2) := by decide +kernel
theorem dX6_layArcs_133 : decode cX6_layArcs 133 = .ok (.invokevirtual 202, 3) := by decide +kernel
theorem dX6_layArcs_136 : decode cX6_layArcs 136 = .ok (.iadd, 1) := by decide +kernel
theorem dX6_layArcs_137 : decode cX6_layArcs 137 = .ok (.iastore, 1) := by decide +kernel
theorem dX6_layArcs_138 : decode cX6_layArcs 138 = .ok (.iinc 3 1, 3) := by decide +kernel
theorem dX6_layArcs_141 : decode cX6_layArcs 141 = .ok (.goto (-101), 3) := by decide +kernel
theorem dX6_layArcs_144 : decode cX6_layArcs 144 = .ok (.iinc 1 1, 3) := by decide +kernel
theorem dX6_layArcs_147 : decode cX6_layArcs 147 = .ok (.goto (-124), 3) := by decide +kernel
theorem dX6_layArcs_150 : decode cX6_layArcs 150 = .ok (.return_, 1) := by decide +kernel
theorem dX6_raises_0 : decode cX6_raises 0 = .ok (.iload_n 1, 1) := by decide +kernel
theorem dX6_raises_1 : decode cX6_raises 1 = .ok (.bipush 6, 2) := by decide +kernel
theorem dX6_raises_3 : decode cX6_raises 3 = .ok (.irem, 1) := by decide +kernel
theorem dX6_raises_4 : decode cX6_raises 4 = .ok (.ifCond .ne 18, 3) := by decide +kernel
theorem dX6_raises_7 : decode cX6_raises 7 = .ok (.aload_n 0, 1) := by decide +kernel
theorem dX6_raises_8 : decode cX6_raises 8 = .ok (.getfield 17, 3) := by decide +kernel
theorem dX6_raises_11 : decode cX6_raises 11 = .ok (.iload_n 1, 1) := by decide +kernel
theorem dX6_raises_12 : decode cX6_raises 12 = .ok (.bipush 6, 2) := by decide +kernel
theorem dX6_raises_14 : decode cX6_raises 14 = .ok (.idiv, 1) := by decide +kernel
theorem dX6_raises_15 : decode cX6_raises 15 = .ok (.invokestatic 147, 3) := by decide +kernel
theorem dX6_raises_18 : decode cX6_raises 18 = .ok (.iaload, 1) := by decide +kernel
theorem dX6_raises_19 : decode cX6_raises 19 = .ok (.goto 19, 3) := by decide +kernel
theorem dX6_raises_22 : decode cX6_raises 22 = .ok (.aload_n 0, 1) := by decide +kernel
theorem dX6_raises_23 : decode cX6_raises 23 = .ok (.getfield 37, 3) := by decide +kernel
theorem dX6_raises_26 : decode cX6_raises 26 = .ok (.iload_n 1, 1) := by decide +kernel
theorem dX6_raises_27 : decode cX6_raises 27 = .ok (.iconst 1, 1) := by decide +kernel
theorem dX6_raises_28 : decode cX6_raises 28 = .ok (.isub, 1) := by decide +kernel
theorem dX6_raises_29 : decode cX6_raises 29 = .ok (.iaload, 1) := by decide +kernel
theorem dX6_raises_30 : decode cX6_raises 30 = .ok (.aload_n 0, 1) := by decide +kernel
theorem dX6_raises_31 : decode cX6_raises 31 = .ok (.iload_n 1, 1) := by decide +kernel
theorem dX6_raises_32 : decode cX6_raises 32 = .ok (.iconst 1, 1) := by decide +kernel
theorem dX6_raises_33 : decode cX6_raises 33 = .ok (.isub, 1) := by decide +kernel
theorem dX6_raises_34 : decode cX6_raises 34 = .ok (.invokevirtual 202, 3) := by decide +kernel
theorem dX6_raises_37 : decode cX6_raises 37 = .ok (.iadd, 1) := by decide +kernel
theorem dX6_raises_38 : decode cX6_raises 38 = .ok (.istore_n 2, 1) := by decide +kernel
theorem dX6_raises_39 : decode cX6_raises 39 = .ok (.aload_n 0, 1) := by decide +kernel
theorem dX6_raises_40 : decode cX6_raises 40 = .ok (.getfield 31, 3) := by decide +kernel
theorem dX6_raises_43 : decode cX6_raises 43 = .ok (.iload_n 1, 1) := by decide +kernel
theorem dX6_raises_44 : decode cX6_raises 44 = .ok (.iaload, 1) := by decide +kernel
theorem dX6_raises_45 : decode cX6_raises 45 = .ok (.iconst (-1), 1) := by decide +kernel
theorem dX6_raises_46 : decode cX6_raises 46 = .ok (.if_icmp .eq 26, 3) := by decide +kernel
theorem dX6_raises_49 : decode cX6_raises 49 = .ok (.iload_n 2, 1) := by decide +kernel
theorem dX6_raises_50 : decode cX6_raises 50 = .ok (.aload_n 0, 1) := by decide +kernel
theorem dX6_raises_51 : decode cX6_raises 51 = .ok (.getfield 37, 3) := by decide +kernel
theorem dX6_raises_54 : decode cX6_raises 54 = .ok (.aload_n 0, 1) := by decide +kernel
theorem dX6_raises_55 : decode cX6_raises 55 = .ok (.getfield 31, 3) := by decide +kernel
theorem dX6_raises_58 : decode cX6_raises 58 = .ok (.iload_n 1, 1) := by decide +kernel
theorem dX6_raises_59 : decode cX6_raises 59 = .ok (.iaload, 1) := by decide +kernel
theorem dX6_raises_60 : decode cX6_raises 60 = .ok (.iaload, 1) := by decide +kernel
theorem dX6_raises_61 : decode cX6_raises 61 = .ok (.aload_n 0, 1) := by decide +kernel
theorem dX6_raises_62 : decode cX6_raises 62 = .ok (.getfield 34, 3) := by decide +kernel
theorem dX6_raises_65 : decode cX6_raises 65 = .ok (.iload_n 1, 1) := by decide +kernel
theorem dX6_raises_66 : decode cX6_raises 66 = .ok (.iaload, 1) := by decide +kernel
theorem dX6_raises_67 : decode cX6_raises 67 = .ok (.iadd, 1) := by decide +kernel
theorem dX6_raises_68 : decode cX6_raises 68 = .ok (.invokestatic 205, 3) := by decide +kernel
theorem dX6_raises_71 : decode cX6_raises 71 = .ok (.istore_n 2, 1) := by decide +kernel
theorem dX6_raises_72 : decode cX6_raises 72 = .ok (.iload_n 2, 1) := by decide +kernel
theorem dX6_raises_73 : decode cX6_raises 73 = .ok (.aload_n 0, 1) := by decide +kernel
theorem dX6_raises_74 : decode cX6_raises 74 = .ok (.getfield 37, 3) := by decide +kernel
theorem dX6_raises_77 : decode cX6_raises 77 = .ok (.iload_n 1, 1) := by decide +kernel
theorem dX6_raises_78 : decode cX6_raises 78 = .ok (.iaload, 1) := by decide +kernel
theorem dX6_raises_79 : decode cX6_raises 79 = .ok (.if_icmp .gt 5, 3) := by decide +kernel
theorem dX6_raises_82 : decode cX6_raises 82 = .ok (.iconst 0, 1) := by decide +kernel
theorem dX6_raises_83 : decode cX6_raises 83 = .ok (.ireturn, 1) := by decide +kernel
theorem dX6_raises_84 : decode cX6_raises 84 = .ok (.aload_n 0, 1) := by decide +kernel
theorem dX6_raises_85 : decode cX6_raises 85 = .ok (.getfield 37, 3) := by decide +kernel
theorem dX6_raises_88 : decode cX6_raises 88 = .ok (.iload_n 1, 1) := by decide +kernel
theorem dX6_raises_89 : decode cX6_raises 89 = .ok (.iload_n 2, 1) := by decide +kernel
theorem dX6_raises_90 : decode cX6_raises 90 = .ok (.iastore, 1) := by decide +kernel
theorem dX6_raises_91 : decode cX6_raises 91 = .ok (.iconst 1, 1) := by decide +kernel
theorem dX6_raises_92 : decode cX6_raises 92 = .ok (.ireturn, 1) := by decide +kernel
theorem dX6_findStarts_0 : decode cX6_findStarts 0 = .ok (.aload_n 0, 1) := by decide +kernel
theorem dX6_findStarts_1 : decode cX6_findStarts 1 = .ok (.invokevirtual 208, 3) := by decide +kernel
theorem dX6_findStarts_4 : decode cX6_findStarts 4 = .ok (.iconst 0, 1) := by decide +kernel
theorem dX6_findStarts_5 : decode cX6_findStarts 5 = .ok (.istore_n 1, 1) := by decide +kernel
theorem dX6_findStarts_6 : decode cX6_findStarts 6 = .ok (.iload_n 1, 1) := by decide +kernel
theorem dX6_findStarts_7 : decode cX6_findStarts 7 = .ok (.bipush 36, 2) := by decide +kernel
theorem dX6_findStarts_9 : decode cX6_findStarts 9 = .ok (.if_icmp .ge 16, 3) := by decide +kernel
theorem dX6_findStarts_12 : decode cX6_findStarts 12 = .ok (.aload_n 0, 1) := by decide +kernel
theorem dX6_findStarts_13 : decode cX6_findStarts 13 = .ok (.getfield 37, 3) := by decide +kernel
theorem dX6_findStarts_16 : decode cX6_findStarts 16 = .ok (.iload_n 1, 1) := by decide +kernel
theorem dX6_findStarts_17 : decode cX6_findStarts 17 = .ok (.iconst 0, 1) := by decide +kernel
theorem dX6_findStarts_18 : decode cX6_findStarts 18 = .ok (.iastore, 1) := by decide +kernel
theorem dX6_findStarts_19 : decode cX6_findStarts 19 = .ok (.iinc 1 1, 3) := by decide +kernel
theorem dX6_findStarts_22 : decode cX6_findStarts 22 = .ok (.goto (-16), 3) := by decide +kernel
theorem dX6_findStarts_25 : decode cX6_findStarts 25 = .ok (.iconst 0, 1) := by decide +kernel
theorem dX6_findStarts_26 : decode cX6_findStarts 26 = .ok (.istore_n 1, 1) := by decide +kernel
theorem dX6_findStarts_27 : decode cX6_findStarts 27 = .ok (.iload_n 1, 1) := by decide +kernel
theorem dX6_findStarts_28 : decode cX6_findStarts 28 = .ok (.bipush 36, 2) := by decide +kernel
theorem dX6_findStarts_30 : decode cX6_findStarts 30 = .ok (.if_icmp .gt 49, 3) := by decide +kernel
theorem dX6_findStarts_33 : decode cX6_findStarts 33 = .ok (.iconst 0, 1) := by decide +kernel
theorem dX6_findStarts_34 : decode cX6_findStarts 34 = .ok (.istore_n 2, 1) := by decide +kernel
theorem dX6_findStarts_35 : decode cX6_findStarts 35 = .ok (.iconst 0, 1) := by decide +kernel
theorem dX6_findStarts_36 : decode cX6_findStarts 36 = .ok (.istore_n 3, 1) := by decide +kernel
theorem dX6_findStarts_37 : decode cX6_findStarts 37 = .ok (.iload_n 3, 1) := by decide +kernel
theorem dX6_findStarts_38 : decode cX6_findStarts 38 = .ok (.bipush 36, 2) := by decide +kernel
theorem dX6_findStarts_40 : decode cX6_findStarts 40 = .ok (.if_icmp .ge 27, 3) := by decide +kernel
theorem dX6_findStarts_43 : decode cX6_findStarts 43 = .ok (.aload_n 0, 1) := by decide +kernel
theorem dX6_findStarts_44 : decode cX6_findStarts 44 = .ok (.iload_n 3, 1) := by decide +kernel
theorem dX6_findStarts_45 : decode cX6_findStarts 45 = .ok (.invokevirtual 211, 3) := by decide +kernel
theorem dX6_findStarts_48 : decode cX6_findStarts 48 = .ok (.ifCond .eq 13, 3) := by decide +kernel
theorem dX6_findStarts_51 : decode cX6_findStarts 51 = .ok (.aload_n 0, 1) := by decide +kernel
theorem dX6_findStarts_52 : decode cX6_findStarts 52 = .ok (.iload_n 3, 1) := by decide +kernel
theorem dX6_findStarts_53 : decode cX6_findStarts 53 = .ok (.invokevirtual 214, 3) := by decide +kernel
theorem dX6_findStarts_56 : decode cX6_findStarts 56 = .ok (.ifCond .eq 5, 3) := by decide +kernel
theorem dX6_findStarts_59 : decode cX6_findStarts 59 = .ok (.iconst 1, 1) := by decide +kernel
theorem dX6_findStarts_60 : decode cX6_findStarts 60 = .ok (.istore_n 2, 1) := by decide +kernel
theorem dX6_findStarts_61 : decode cX6_findStarts 61 = .ok (.iinc 3 1, 3) := by decide +kernel
theorem dX6_findStarts_64 : decode cX6_findStarts 64 = .ok (.goto (-27), 3) := by decide +kernel
theorem dX6_findStarts_67 : decode cX6_findStarts 67 = .ok (.iload_n 2, 1) := by decide +kernel
theorem dX6_findStarts_68 : decode cX6_findStarts 68 = .ok (.ifCond .ne 5, 3) := by decide +kernel
theorem dX6_findStarts_71 : decode cX6_findStarts 71 = .ok (.iconst 1, 1) := by decide +kernel
theorem dX6_findStarts_72 : decode cX6_findStarts 72 = .ok (.ireturn, 1) := by decide +kernel
theorem dX6_findStarts_73 : decode cX6_findStarts 73 = .ok (.iinc 1 1, 3) := by decide +kernel
theorem dX6_findStarts_76 : decode cX6_findStarts 76 = .ok (.goto (-49), 3) := by decide +kernel
theorem dX6_findStarts_79 : decode cX6_findStarts 79 = .ok (.iconst 0, 1) := by decide +kernel
theorem dX6_findStarts_80 : decode cX6_findStarts 80 = .ok (.ireturn, 1) := by decide +kernel
theorem dX6_hasCycle_0 : decode cX6_hasCycle 0 = .ok (.iconst 0, 1) := by decide +kernel
theorem dX6_hasCycle_1 : decode cX6_hasCycle 1 = .ok (.istore_n 1, 1) := by decide +kernel
theorem dX6_hasCycle_2 : decode cX6_hasCycle 2 = .ok (.iconst 0, 1) := by decide +kernel
theorem dX6_hasCycle_3 : decode cX6_hasCycle 3 = .ok (.istore_n 2, 1) := by decide +kernel
theorem dX6_hasCycle_4 : decode cX6_hasCycle 4 = .ok (.iload_n 2, 1) := by decide +kernel
theorem dX6_hasCycle_5 : decode cX6_hasCycle 5 = .ok (.bipush 36, 2) := by decide +kernel
theorem dX6_hasCycle_7 : decode cX6_hasCycle 7 = .ok (.if_icmp .ge 32, 3) := by decide +kernel
theorem dX6_hasCycle_10 : decode cX6_hasCycle 10 = .ok (.aload_n 0, 1) := by decide +kernel
theorem dX6_hasCycle_11 : decode cX6_hasCycle 11 = .ok (.getfield 40, 3) := by decide +kernel
theorem dX6_hasCycle_14 : decode cX6_hasCycle 14 = .ok (.iload_n 2, 1) := by decide +kernel
theorem dX6_hasCycle_15 : decode cX6_hasCycle 15 = .ok (.iconst 0, 1) := by decide +kernel
theorem dX6_hasCycle_16 : decode cX6_hasCycle 16 = .ok (.bastore, 1) := by decide +kernel
theorem dX6_hasCycle_17 : decode cX6_hasCycle 17 = .ok (.iload_n 1, 1) := by decide +kernel
theorem dX6_hasCycle_18 : decode cX6_hasCycle 18 = .ok (.aload_n 0, 1) := by decide +kernel
theorem dX6_hasCycle_19 : decode cX6_hasCycle 19 = .ok (.iload_n 2, 1) := by decide +kernel
theorem dX6_hasCycle_20 : decode cX6_hasCycle 20 = .ok (.invokevirtual 211, 3) := by decide +kernel
theorem dX6_hasCycle_23 : decode cX6_hasCycle 23 = .ok (.ifCond .eq 7, 3) := by decide +kernel
theorem dX6_hasCycle_26 : decode cX6_hasCycle 26 = .ok (.iconst 1, 1) := by decide +kernel
theorem dX6_hasCycle_27 : decode cX6_hasCycle 27 = .ok (.goto 4, 3) := by decide +kernel
theorem dX6_hasCycle_30 : decode cX6_hasCycle 30 = .ok (.iconst 0, 1) := by decide +kernel
theorem dX6_hasCycle_31 : decode cX6_hasCycle 31 = .ok (.iadd, 1) := by decide +kernel
theorem dX6_hasCycle_32 : decode cX6_hasCycle 32 = .ok (.istore_n 1, 1) := by decide +kernel
theorem dX6_hasCycle_33 : decode cX6_hasCycle 33 = .ok (.iinc 2 1, 3) := by decide +kernel
theorem dX6_hasCycle_36 : decode cX6_hasCycle 36 = .ok (.goto (-32), 3) := by decide +kernel
theorem dX6_hasCycle_39 : decode cX6_hasCycle 39 = .ok (.iconst 1, 1) := by decide +kernel
theorem dX6_hasCycle_40 : decode cX6_hasCycle 40 = .ok (.istore_n 2, 1) := by decide +kernel
theorem dX6_hasCycle_41 : decode cX6_hasCycle 41 = .ok (.iload_n 2, 1) := by decide +kernel
theorem dX6_hasCycle_42 : decode cX6_hasCycle 42 = .ok (.ifCond .eq 96, 3) := by decide +kernel
theorem dX6_hasCycle_45 : decode cX6_hasCycle 45 = .ok (.iconst 0, 1) := by decide +kernel
theorem dX6_hasCycle_46 : decode cX6_hasCycle 46 = .ok (.istore_n 2, 1) := by decide +kernel
theorem dX6_hasCycle_47 : decode cX6_hasCycle 47 = .ok (.iconst 0, 1) := by decide +kernel
theorem dX6_hasCycle_48 : decode cX6_hasCycle 48 = .ok (.istore_n 3, 1) := by decide +kernel
theorem dX6_hasCycle_49 : decode cX6_hasCycle 49 = .ok (.iload_n 3, 1) := by decide +kernel
theorem dX6_hasCycle_50 : decode cX6_hasCycle 50 = .ok (.bipush 36, 2) := by decide +kernel
theorem dX6_hasCycle_52 : decode cX6_hasCycle 52 = .ok (.if_icmp .ge 83, 3) := by decide +kernel
theorem dX6_hasCycle_55 : decode cX6_hasCycle 55 = .ok (.aload_n 0, 1) := by decide +kernel
theorem dX6_hasCycle_56 : decode cX6_hasCycle 56 = .ok (.iload_n 3, 1) := by decide +kernel
theorem dX6_hasCycle_57 : decode cX6_hasCycle 57 = .ok (.invokevirtual 211, 3) := by decide +kernel
theorem dX6_hasCycle_60 : decode cX6_hasCycle 60 = .ok (.ifCond .eq 69, 3) := by decide +kernel
theorem dX6_hasCycle_63 : decode cX6_hasCycle 63 = .ok (.aload_n 0, 1) := by decide +kernel
theorem dX6_hasCycle_64 : decode cX6_hasCycle 64 = .ok (.getfield 40, 3) := by decide +kernel
theorem dX6_hasCycle_67 : decode cX6_hasCycle 67 = .ok (.iload_n 3, 1) := by decide +kernel
theorem dX6_hasCycle_68 : decode cX6_hasCycle 68 = .ok (.baload, 1) := by decide +kernel
theorem dX6_hasCycle_69 : decode cX6_hasCycle 69 = .ok (.ifCond .ne 60, 3) := by decide +kernel
theorem dX6_hasCycle_72 : decode cX6_hasCycle 72 = .ok (.iload_n 3, 1) := by decide +kernel
theorem dX6_hasCycle_73 : decode cX6_hasCycle 73 = .ok (.bipush 6, 2) := by decide +kernel
theorem dX6_hasCycle_75 : decode cX6_hasCycle 75 = .ok (.irem, 1) := by decide +kernel
theorem dX6_hasCycle_76 : decode cX6_hasCycle 76 = .ok (.ifCond .le 14, 3) := by decide +kernel
theorem dX6_hasCycle_79 : decode cX6_hasCycle 79 = .ok (.aload_n 0, 1) := by decide +kernel
theorem dX6_hasCycle_80 : decode cX6_hasCycle 80 = .ok (.getfield 40, 3) := by decide +kernel
theorem dX6_hasCycle_83 : decode cX6_hasCycle 83 = .ok (.iload_n 3, 1) := by decide +kernel
theorem dX6_hasCycle_84 : decode cX6_hasCycle 84 = .ok (.iconst 1, 1) := by decide +kernel
theorem dX6_hasCycle_85 : decode cX6_hasCycle 85 = .ok (.isub, 1) := by decide +kernel
theorem dX6_hasCycle_86 : decode cX6_hasCycle 86 = .ok (.baload, 1) := by decide +kernel
theorem dX6_hasCycle_87 : decode cX6_hasCycle 87 = .ok (.ifCond .eq 42, 3) := by decide +kernel
theorem dX6_hasCycle_90 : decode cX6_hasCycle 90 = .ok (.aload_n 0, 1) := by decide +kernel
theorem dX6_hasCycle_91 : decode cX6_hasCycle 91 = .ok (.getfield 31, 3) := by decide +kernel
theorem dX6_hasCycle_94 : decode cX6_hasCycle 94 = .ok (.iload_n 3, 1) := by decide +kernel
theorem dX6_hasCycle_95 : decode cX6_hasCycle 95 = .ok (.iaload, 1) := by decide +kernel
theorem dX6_hasCycle_96 : decode cX6_hasCycle 96 = .ok (.iconst (-1), 1) := by decide +kernel
theorem dX6_hasCycle_97 : decode cX6_hasCycle 97 = .ok (.if_icmp .eq 20, 3) := by decide +kernel
theorem dX6_hasCycle_100 : decode cX6_hasCycle 100 = .ok (.aload_n 0, 1) := by decide +kernel
theorem dX6_hasCycle_101 : decode cX6_hasCycle 101 = .ok (.getfield 40, 3) := by decide +kernel
theorem dX6_hasCycle_104 : decode cX6_hasCycle 104 = .ok (.aload_n 0, 1) := by decide +kernel
theorem dX6_hasCycle_105 : decode cX6_hasCycle 105 = .ok (.getfield 31, 3) := by decide +kernel
theorem dX6_hasCycle_108 : decode cX6_hasCycle 108 = .ok (.iload_n 3, 1) := by decide +kernel
theorem dX6_hasCycle_109 : decode cX6_hasCycle 109 = .ok (.iaload, 1) := by decide +kernel
theorem dX6_hasCycle_110 : decode cX6_hasCycle 110 = .ok (.baload, 1) := by decide +kernel
theorem dX6_hasCycle_111 : decode cX6_hasCycle 111 = .ok (.ifCond .ne 6, 3) := by decide +kernel
theorem dX6_hasCycle_114 : decode cX6_hasCycle 114 = .ok (.goto 15, 3) := by decide +kernel
theorem dX6_hasCycle_117 : decode cX6_hasCycle 117 = .ok (.aload_n 0, 1) := by decide +kernel
theorem dX6_hasCycle_118 : decode cX6_hasCycle 118 = .ok (.getfield 40, 3) := by decide +kernel
theorem dX6_hasCycle_121 : decode cX6_hasCycle 121 = .ok (.iload_n 3, 1) := by decide +kernel
theorem dX6_hasCycle_122 : decode cX6_hasCycle 122 = .ok (.iconst 1, 1) := by decide +kernel
theorem dX6_hasCycle_123 : decode cX6_hasCycle 123 = .ok (.bastore, 1) := by decide +kernel
theorem dX6_hasCycle_124 : decode cX6_hasCycle 124 = .ok (.iconst 1, 1) := by decide +kernel
theorem dX6_hasCycle_125 : decode cX6_hasCycle 125 = .ok (.istore_n 2, 1) := by decide +kernel
theorem dX6_hasCycle_126 : decode cX6_hasCycle 126 = .ok (.iinc 1 (-1), 3) := by decide +kernel
theorem dX6_hasCycle_129 : decode cX6_hasCycle 129 = .ok (.iinc 3 1, 3) := by decide +kernel
theorem dX6_hasCycle_132 : decode cX6_hasCycle 132 = .ok (.goto (-83), 3) := by decide +kernel
theorem dX6_hasCycle_135 : decode cX6_hasCycle 135 = .ok (.goto (-94), 3) := by decide +kernel
theorem dX6_hasCycle_138 : decode cX6_hasCycle 138 = .ok (.iload_n 1, 1) := by decide +kernel
theorem dX6_hasCycle_139 : decode cX6_hasCycle 139 = .ok (.ifCond .le 7, 3) := by decide +kernel
theorem dX6_hasCycle_142 : decode cX6_hasCycle 142 = .ok (.iconst 1, 1) := by decide +kernel
theorem dX6_hasCycle_143 : decode cX6_hasCycle 143 = .ok (.goto 4, 3) := by decide +kernel
theorem dX6_hasCycle_146 : decode cX6_hasCycle 146 = .ok (.iconst 0, 1) := by decide +kernel
theorem dX6_hasCycle_147 : decode cX6_hasCycle 147 = .ok (.ireturn, 1) := by decide +kernel
theorem dX6_isDeadlocked_0 : decode cX6_isDeadlocked 0 = .ok (.aload_n 0, 1) := by decide +kernel
theorem dX6_isDeadlocked_1 : decode cX6_isDeadlocked 1 = .ok (.invokevirtual 217, 3) := by decide +kernel
theorem dX6_isDeadlocked_4 : decode cX6_isDeadlocked 4 = .ok (.ifCond .eq 19, 3) := by decide +kernel
theorem dX6_isDeadlocked_7 : decode cX6_isDeadlocked 7 = .ok (.aload_n 0, 1) := by decide +kernel
theorem dX6_isDeadlocked_8 : decode cX6_isDeadlocked 8 = .ok (.getfield 17, 3) := by decide +kernel
theorem dX6_isDeadlocked_11 : decode cX6_isDeadlocked 11 = .ok (.iconst 1, 1) := by decide +kernel
theorem dX6_isDeadlocked_12 : decode cX6_isDeadlocked 12 = .ok (.iaload, 1) := by decide +kernel
theorem dX6_isDeadlocked_13 : decode cX6_isDeadlocked 13 = .ok (.ifCond .ne 14, 3) := by decide +kernel
theorem dX6_isDeadlocked_16 : decode cX6_isDeadlocked 16 = .ok (.aload_n 0, 1) := by decide +kernel
theorem dX6_isDeadlocked_17 : decode cX6_isDeadlocked 17 = .ok (.invokevirtual 220, 3) := by decide +kernel
theorem dX6_isDeadlocked_20 : decode cX6_isDeadlocked 20 = .ok (.ifCond .eq 7, 3) := by decide +kernel
theorem dX6_isDeadlocked_23 : decode cX6_isDeadlocked 23 = .ok (.iconst 1, 1) := by decide +kernel
theorem dX6_isDeadlocked_24 : decode cX6_isDeadlocked 24 = .ok (.goto 4, 3) := by decide +kernel
theorem dX6_isDeadlocked_27 : decode cX6_isDeadlocked 27 = .ok (.iconst 0, 1) := by decide +kernel
theorem dX6_isDeadlocked_28 : decode cX6_isDeadlocked 28 = .ok (.ireturn, 1) := by decide +kernel
theorem dX6_completionOf_0 : decode cX6_completionOf 0 = .ok (.bipush 6, 2) := by decide +kernel
theorem dX6_completionOf_2 : decode cX6_completionOf 2 = .ok (.iload_n 1, 1) := by decide +kernel
theorem dX6_completionOf_3 : decode cX6_completionOf 3 = .ok (.imul, 1) := by decide +kernel
theorem dX6_completionOf_4 : decode cX6_completionOf 4 = .ok (.aload_n 0, 1) := by decide +kernel
theorem dX6_completionOf_5 : decode cX6_completionOf 5 = .ok (.getfield 17, 3) := by decide +kernel
theorem dX6_completionOf_8 : decode cX6_completionOf 8 = .ok (.iload_n 1, 1) := by decide +kernel
theorem dX6_completionOf_9 : decode cX6_completionOf 9 = .ok (.invokestatic 147, 3) := by decide +kernel
theorem dX6_completionOf_12 : decode cX6_completionOf 12 = .ok (.iconst 3, 1) := by decide +kernel
theorem dX6_completionOf_13 : decode cX6_completionOf 13 = .ok (.iadd, 1) := by decide +kernel
theorem dX6_completionOf_14 : decode cX6_completionOf 14 = .ok (.iaload, 1) := by decide +kernel
theorem dX6_completionOf_15 : decode cX6_completionOf 15 = .ok (.iadd, 1) := by decide +kernel
theorem dX6_completionOf_16 : decode cX6_completionOf 16 = .ok (.iconst 1, 1) := by decide +kernel
theorem dX6_completionOf_17 : decode cX6_completionOf 17 = .ok (.isub, 1) := by decide +kernel
theorem dX6_completionOf_18 : decode cX6_completionOf 18 = .ok (.istore_n 2, 1) := by decide +kernel
theorem dX6_completionOf_19 : decode cX6_completionOf 19 = .ok (.aload_n 0, 1) := by decide +kernel
theorem dX6_completionOf_20 : decode cX6_completionOf 20 = .ok (.getfield 37, 3) := by decide +kernel
theorem dX6_completionOf_23 : decode cX6_completionOf 23 = .ok (.iload_n 2, 1) := by decide +kernel
theorem dX6_completionOf_24 : decode cX6_completionOf 24 = .ok (.iaload, 1) := by decide +kernel
theorem dX6_completionOf_25 : decode cX6_completionOf 25 = .ok (.aload_n 0, 1) := by decide +kernel
theorem dX6_completionOf_26 : decode cX6_completionOf 26 = .ok (.iload_n 2, 1) := by decide +kernel
theorem dX6_completionOf_27 : decode cX6_completionOf 27 = .ok (.invokevirtual 202, 3) := by decide +kernel
theorem dX6_completionOf_30 : decode cX6_completionOf 30 = .ok (.iadd, 1) := by decide +kernel
theorem dX6_completionOf_31 : decode cX6_completionOf 31 = .ok (.ireturn, 1) := by decide +kernel
theorem dX6_makespanOf_0 : decode cX6_makespanOf 0 = .ok (.iconst 0, 1) := by decide +kernel
theorem dX6_makespanOf_1 : decode cX6_makespanOf 1 = .ok (.istore_n 1, 1) := by decide +kernel
theorem dX6_makespanOf_2 : decode cX6_makespanOf 2 = .ok (.iconst 0, 1) := by decide +kernel
theorem dX6_makespanOf_3 : decode cX6_makespanOf 3 = .ok (.istore_n 2, 1) := by decide +kernel
theorem dX6_makespanOf_4 : decode cX6_makespanOf 4 = .ok (.iload_n 2, 1) := by decide +kernel
theorem dX6_makespanOf_5 : decode cX6_makespanOf 5 = .ok (.aload_n 0, 1) := by decide +kernel
theorem dX6_makespanOf_6 : decode cX6_makespanOf 6 = .ok (.getfield 17, 3) := by decide +kernel
theorem dX6_makespanOf_9 : decode cX6_makespanOf 9 = .ok (.iconst 2, 1) := by decide +kernel
theorem dX6_makespanOf_10 : decode cX6_makespanOf 10 = .ok (.iaload, 1) := by decide +kernel
theorem dX6_makespanOf_11 : decode cX6_makespanOf 11 = .ok (.if_icmp .ge 19, 3) := by decide +kernel
theorem dX6_makespanOf_14 : decode cX6_makespanOf 14 = .ok (.iload_n 1, 1) := by decide +kernel
theorem dX6_makespanOf_15 : decode cX6_makespanOf 15 = .ok (.aload_n 0, 1) := by decide +kernel
theorem dX6_makespanOf_16 : decode cX6_makespanOf 16 = .ok (.iload_n 2, 1) := by decide +kernel
theorem dX6_makespanOf_17 : decode cX6_makespanOf 17 = .ok (.invokevirtual 223, 3) := by decide +kernel
theorem dX6_makespanOf_20 : decode cX6_makespanOf 20 = .ok (.invokestatic 205, 3) := by decide +kernel
theorem dX6_makespanOf_23 : decode cX6_makespanOf 23 = .ok (.istore_n 1, 1) := by decide +kernel
theorem dX6_makespanOf_24 : decode cX6_makespanOf 24 = .ok (.iinc 2 1, 3) := by decide +kernel
theorem dX6_makespanOf_27 : decode cX6_makespanOf 27 = .ok (.goto (-23), 3) := by decide +kernel
theorem dX6_makespanOf_30 : decode cX6_makespanOf 30 = .ok (.iload_n 1, 1) := by decide +kernel
theorem dX6_makespanOf_31 : decode cX6_makespanOf 31 = .ok (.ireturn, 1) := by decide +kernel
theorem dX6_limited_0 : decode cX6_limited 0 = .ok (.lload_n 0, 1) := by decide +kernel
theorem dX6_limited_1 : decode cX6_limited 1 = .ok (.ldc2_w 226, 3) := by decide +kernel
theorem dX6_limited_4 : decode cX6_limited 4 = .ok (.lcmp, 1) := by decide +kernel
theorem dX6_limited_5 : decode cX6_limited 5 = .ok (.ifCond .le 9, 3) := by decide +kernel
theorem dX6_limited_8 : decode cX6_limited 8 = .ok (.ldc2_w 226, 3) := by decide +kernel
theorem dX6_limited_11 : decode cX6_limited 11 = .ok (.goto 18, 3) := by decide +kernel
theorem dX6_limited_14 : decode cX6_limited 14 = .ok (.lload_n 0, 1) := by decide +kernel
theorem dX6_limited_15 : decode cX6_limited 15 = .ok (.ldc2_w 228, 3) := by decide +kernel
theorem dX6_limited_18 : decode cX6_limited 18 = .ok (.lcmp, 1) := by decide +kernel
theorem dX6_limited_19 : decode cX6_limited 19 = .ok (.ifCond .ge 9, 3) := by decide +kernel
theorem dX6_limited_22 : decode cX6_limited 22 = .ok (.ldc2_w 228, 3) := by decide +kernel
theorem dX6_limited_25 : decode cX6_limited 25 = .ok (.goto 4, 3) := by decide +kernel
theorem dX6_limited_28 : decode cX6_limited 28 = .ok (.lload_n 0, 1) := by decide +kernel
theorem dX6_limited_29 : decode cX6_limited 29 = .ok (.lreturn, 1) := by decide +kernel
theorem dX6_operate_0 : decode cX6_operate 0 = .ok (.iload_n 0, 1) := by decide +kernel
theorem dX6_operate_1 : decode cX6_operate 1 = .ok (.iconst 5, 1) := by decide +kernel
theorem dX6_operate_2 : decode cX6_operate 2 = .ok (.if_icmp .ne 17, 3) := by decide +kernel
theorem dX6_operate_5 : decode cX6_operate 5 = .ok (.lload_n 3, 1) := by decide +kernel
theorem dX6_operate_6 : decode cX6_operate 6 = .ok (.lconst 0, 1) := by decide +kernel
theorem dX6_operate_7 : decode cX6_operate 7 = .ok (.lcmp, 1) := by decide +kernel
theorem dX6_operate_8 : decode cX6_operate 8 = .ok (.ifCond .ne 7, 3) := by decide +kernel
theorem dX6_operate_11 : decode cX6_operate 11 = .ok (.lconst 0, 1) := by decide +kernel
theorem dX6_operate_12 : decode cX6_operate 12 = .ok (.goto 6, 3) := by decide +kernel
theorem dX6_operate_15 : decode cX6_operate 15 = .ok (.lload_n 1, 1) := by decide +kernel
theorem dX6_operate_16 : decode cX6_operate 16 = .ok (.lload_n 3, 1) := by decide +kernel
theorem dX6_operate_17 : decode cX6_operate 17 = .ok (.ldiv, 1) := by decide +kernel
theorem dX6_operate_18 : decode cX6_operate 18 = .ok (.lreturn, 1) := by decide +kernel
theorem dX6_operate_19 : decode cX6_operate 19 = .ok (.iload_n 0, 1) := by decide +kernel
theorem dX6_operate_20 : decode cX6_operate 20 = .ok (.iconst 2, 1) := by decide +kernel
theorem dX6_operate_21 : decode cX6_operate 21 = .ok (.if_icmp .ne 9, 3) := by decide +kernel
theorem dX6_operate_24 : decode cX6_operate 24 = .ok (.lload_n 1, 1) := by decide +kernel
theorem dX6_operate_25 : decode cX6_operate 25 = .ok (.lload_n 3, 1) := by decide +kernel
theorem dX6_operate_26 : decode cX6_operate 26 = .ok (.ladd, 1) := by decide +kernel
theorem dX6_operate_27 : decode cX6_operate 27 = .ok (.goto 17, 3) := by decide +kernel
theorem dX6_operate_30 : decode cX6_operate 30 = .ok (.iload_n 0, 1) := by decide +kernel
theorem dX6_operate_31 : decode cX6_operate 31 = .ok (.iconst 3, 1) := by decide +kernel
theorem dX6_operate_32 : decode cX6_operate 32 = .ok (.if_icmp .ne 9, 3) := by decide +kernel
theorem dX6_operate_35 : decode cX6_operate 35 = .ok (.lload_n 1, 1) := by decide +kernel
theorem dX6_operate_36 : decode cX6_operate 36 = .ok (.lload_n 3, 1) := by decide +kernel
theorem dX6_operate_37 : decode cX6_operate 37 = .ok (.lsub, 1) := by decide +kernel
theorem dX6_operate_38 : decode cX6_operate 38 = .ok (.goto 6, 3) := by decide +kernel
theorem dX6_operate_41 : decode cX6_operate 41 = .ok (.lload_n 1, 1) := by decide +kernel
theorem dX6_operate_42 : decode cX6_operate 42 = .ok (.lload_n 3, 1) := by decide +kernel
theorem dX6_operate_43 : decode cX6_operate 43 = .ok (.lmul, 1) := by decide +kernel
theorem dX6_operate_44 : decode cX6_operate 44 = .ok (.invokestatic 230, 3) := by decide +kernel
theorem dX6_operate_47 : decode cX6_operate 47 = .ok (.lreturn, 1) := by decide +kernel
theorem dX6_costOf_0 : decode cX6_costOf 0 = .ok (.aload_n 0, 1) := by decide +kernel
theorem dX6_costOf_1 : decode cX6_costOf 1 = .ok (.iload_n 1, 1) := by decide +kernel
theorem dX6_costOf_2 : decode cX6_costOf 2 = .ok (.invokevirtual 223, 3) := by decide +kernel
theorem dX6_costOf_5 : decode cX6_costOf 5 = .ok (.istore_n 2, 1) := by decide +kernel
theorem dX6_costOf_6 : decode cX6_costOf 6 = .ok (.iconst 0, 1) := by decide +kernel
theorem dX6_costOf_7 : decode cX6_costOf 7 = .ok (.istore_n 3, 1) := by decide +kernel
theorem dX6_costOf_8 : decode cX6_costOf 8 = .ok (.aload_n 0, 1) := by decide +kernel
theorem dX6_costOf_9 : decode cX6_costOf 9 = .ok (.getfield 17, 3) := by decide +kernel
theorem dX6_costOf_12 : decode cX6_costOf 12 = .ok (.iconst 3, 1) := by decide +kernel
theorem dX6_costOf_13 : decode cX6_costOf 13 = .ok (.iaload, 1) := by decide +kernel
theorem dX6_costOf_14 : decode cX6_costOf 14 = .ok (.ifCond .ne 5, 3) := by decide +kernel
theorem dX6_costOf_17 : decode cX6_costOf 17 = .ok (.iload_n 2, 1) := by decide +kernel
theorem dX6_costOf_18 : decode cX6_costOf 18 = .ok (.ireturn, 1) := by decide +kernel
theorem dX6_costOf_19 : decode cX6_costOf 19 = .ok (.iconst 0, 1) := by decide +kernel
theorem dX6_costOf_20 : decode cX6_costOf 20 = .ok (.istore 4, 2) := by decide +kernel
theorem dX6_costOf_22 : decode cX6_costOf 22 = .ok (.iload 4, 2) := by decide +kernel
theorem dX6_costOf_24 : decode cX6_costOf 24 = .ok (.aload_n 0, 1) := by decide +kernel
theorem dX6_costOf_25 : decode cX6_costOf 25 = .ok (.getfield 17, 3) := by decide +kernel
theorem dX6_costOf_28 : decode cX6_costOf 28 = .ok (.iconst 4, 1) := by decide +kernel
theorem dX6_costOf_29 : decode cX6_costOf 29 = .ok (.iaload, 1) := by decide +kernel
theorem dX6_costOf_30 : decode cX6_costOf 30 = .ok (.if_icmp .ge 159, 3) := by decide +kernel
theorem dX6_costOf_33 : decode cX6_costOf 33 = .ok (.aload_n 0, 1) := by decide +kernel
theorem dX6_costOf_34 : decode cX6_costOf 34 = .ok (.getfield 17, 3) := by decide +kernel
theorem dX6_costOf_37 : decode cX6_costOf 37 = .ok (.sipush 155, 3) := by decide +kernel
theorem dX6_costOf_40 : decode cX6_costOf 40 = .ok (.iload 4, 2) := by decide +kernel
theorem dX6_costOf_42 : decode cX6_costOf 42 = .ok (.iadd, 1) := by decide +kernel
theorem dX6_costOf_43 : decode cX6_costOf 43 = .ok (.iaload, 1) := by decide +kernel
theorem dX6_costOf_44 : decode cX6_costOf 44 = .ok (.istore 5, 2) := by decide +kernel
theorem dX6_costOf_46 : decode cX6_costOf 46 = .ok (.iload 5, 2) := by decide +kernel
theorem dX6_costOf_48 : decode cX6_costOf 48 = .ok (.iconst 1, 1) := by decide +kernel
theorem dX6_costOf_49 : decode cX6_costOf 49 = .ok (.if_icmp .gt 104, 3) := by decide +kernel
theorem dX6_costOf_52 : decode cX6_costOf 52 = .ok (.iinc 4 1, 3) := by decide +kernel
theorem dX6_costOf_55 : decode cX6_costOf 55 = .ok (.aload_n 0, 1) := by decide +kernel
theorem dX6_costOf_56 : decode cX6_costOf 56 = .ok (.getfield 17, 3) := by decide +kernel
theorem dX6_costOf_59 : decode cX6_costOf 59 = .ok (.sipush 155, 3) := by decide +kernel
theorem dX6_costOf_62 : decode cX6_costOf 62 = .ok (.iload 4, 2) := by decide +kernel
theorem dX6_costOf_64 : decode cX6_costOf 64 = .ok (.iadd, 1) := by decide +kernel
theorem dX6_costOf_65 : decode cX6_costOf 65 = .ok (.iaload, 1) := by decide +kernel
theorem dX6_costOf_66 : decode cX6_costOf 66 = .ok (.istore 6, 2) := by decide +kernel
theorem dX6_costOf_68 : decode cX6_costOf 68 = .ok (.aload_n 0, 1) := by decide +kernel
theorem dX6_costOf_69 : decode cX6_costOf 69 = .ok (.getfield 44, 3) := by decide +kernel
theorem dX6_costOf_72 : decode cX6_costOf 72 = .ok (.iload_n 3, 1) := by decide +kernel
theorem dX6_costOf_73 : decode cX6_costOf 73 = .ok (.iload 5, 2) := by decide +kernel
theorem dX6_costOf_75 : decode cX6_costOf 75 = .ok (.ifCond .ne 9, 3) := by decide +kernel
theorem dX6_costOf_78 : decode cX6_costOf 78 = .ok (.iload 6, 2) := by decide +kernel
theorem dX6_costOf_80 : decode cX6_costOf 80 = .ok (.i2l, 1) := by decide +kernel
theorem dX6_costOf_81 : decode cX6_costOf 81 = .ok (.goto 65, 3) := by decide +kernel
theorem dX6_costOf_84 : decode cX6_costOf 84 = .ok (.iload 6, 2) := by decide +kernel
theorem dX6_costOf_86 : decode cX6_costOf 86 = .ok (.ifCond .ne 8, 3) := by decide +kernel
theorem dX6_costOf_89 : decode cX6_costOf 89 = .ok (.iload_n 2, 1) := by decide +kernel
theorem dX6_costOf_90 : decode cX6_costOf 90 = .ok (.i2l, 1) := by decide +kernel
theorem dX6_costOf_91 : decode cX6_costOf 91 = .ok (.goto 55, 3) := by decide +kernel
theorem dX6_costOf_94 : decode cX6_costOf 94 = .ok (.iload 6, 2) := by decide +kernel
theorem dX6_costOf_96 : decode cX6_costOf 96 = .ok (.iconst 1, 1) := by decide +kernel
theorem dX6_costOf_97 : decode cX6_costOf 97 = .ok (.if_icmp .ne 18, 3) := by decide +kernel
theorem dX6_costOf_100 : decode cX6_costOf 100 = .ok (.aload_n 0, 1) := by decide +kernel
theorem dX6_costOf_101 : decode cX6_costOf 101 = .ok (.getfield 17, 3) := by decide +kernel
theorem dX6_costOf_104 : decode cX6_costOf 104 = .ok (.iload_n 1, 1) := by decide +kernel
theorem dX6_costOf_105 : decode cX6_costOf 105 = .ok (.invokestatic 147, 3) := by decide +kernel
theorem dX6_costOf_108 : decode cX6_costOf 108 = .ok (.iconst 1, 1) := by decide +kernel
theorem dX6_costOf_109 : decode cX6_costOf 109 = .ok (.iadd, 1) := by decide +kernel
theorem dX6_costOf_110 : decode cX6_costOf 110 = .ok (.iaload, 1) := by decide +kernel
theorem dX6_costOf_111 : decode cX6_costOf 111 = .ok (.i2l, 1) := by decide +kernel
theorem dX6_costOf_112 : decode cX6_costOf 112 = .ok (.goto 34, 3) := by decide +kernel
theorem dX6_costOf_115 : decode cX6_costOf 115 = .ok (.iload 6, 2) := by decide +kernel
theorem dX6_costOf_117 : decode cX6_costOf 117 = .ok (.iconst 2, 1) := by decide +kernel
theorem dX6_costOf_118 : decode cX6_costOf 118 = .ok (.if_icmp .ne 18, 3) := by decide +kernel
theorem dX6_costOf_121 : decode cX6_costOf 121 = .ok (.aload_n 0, 1) := by decide +kernel
theorem dX6_costOf_122 : decode cX6_costOf 122 = .ok (.getfield 17, 3) := by decide +kernel
theorem dX6_costOf_125 : decode cX6_costOf 125 = .ok (.iload_n 1, 1) := by decide +kernel
theorem dX6_costOf_126 : decode cX6_costOf 126 = .ok (.invokestatic 147, 3) := by decide +kernel
theorem dX6_costOf_129 : decode cX6_costOf 129 = .ok (.iconst 2, 1) := by decide +kernel
theorem dX6_costOf_130 : decode cX6_costOf 130 = .ok (.iadd, 1) := by decide +kernel
theorem dX6_costOf_131 : decode cX6_costOf 131 = .ok (.iaload, 1) := by decide +kernel
theorem dX6_costOf_132 : decode cX6_costOf 132 = .ok (.i2l, 1) := by decide +kernel
theorem dX6_costOf_133 : decode cX6_costOf 133 = .ok (.goto 13, 3) := by decide +kernel
theorem dX6_costOf_136 : decode cX6_costOf 136 = .ok (.aload_n 0, 1) := by decide +kernel
theorem dX6_costOf_137 : decode cX6_costOf 137 = .ok (.getfield 17, 3) := by decide +kernel
theorem dX6_costOf_140 : decode cX6_costOf 140 = .ok (.iload_n 1, 1) := by decide +kernel
theorem dX6_costOf_141 : decode cX6_costOf 141 = .ok (.invokestatic 147, 3) := by decide +kernel
theorem dX6_costOf_144 : decode cX6_costOf 144 = .ok (.iaload, 1) := by decide +kernel
theorem dX6_costOf_145 : decode cX6_costOf 145 = .ok (.i2l, 1) := by decide +kernel
theorem dX6_costOf_146 : decode cX6_costOf 146 = .ok (.lastore, 1) := by decide +kernel
theorem dX6_costOf_147 : decode cX6_costOf 147 = .ok (.iinc 3 1, 3) := by decide +kernel
theorem dX6_costOf_150 : decode cX6_costOf 150 = .ok (.goto 33, 3) := by decide +kernel
theorem dX6_costOf_153 : decode cX6_costOf 153 = .ok (.iinc 3 (-1), 3) := by decide +kernel
theorem dX6_costOf_156 : decode cX6_costOf 156 = .ok (.aload_n 0, 1) := by decide +kernel
theorem dX6_costOf_157 : decode cX6_costOf 157 = .ok (.getfield 44, 3) := by decide +kernel
theorem dX6_costOf_160 : decode cX6_costOf 160 = .ok (.iload_n 3, 1) := by decide +kernel
theorem dX6_costOf_161 : decode cX6_costOf 161 = .ok (.iconst 1, 1) := by decide +kernel
theorem dX6_costOf_162 : decode cX6_costOf 162 = .ok (.isub, 1) := by decide +kernel
theorem dX6_costOf_163 : decode cX6_costOf 163 = .ok (.iload 5, 2) := by decide +kernel
theorem dX6_costOf_165 : decode cX6_costOf 165 = .ok (.aload_n 0, 1) := by decide +kernel
theorem dX6_costOf_166 : decode cX6_costOf 166 = .ok (.getfield 44, 3) := by decide +kernel
theorem dX6_costOf_169 : decode cX6_costOf 169 = .ok (.iload_n 3, 1) := by decide +kernel
theorem dX6_costOf_170 : decode cX6_costOf 170 = .ok (.iconst 1, 1) := by decide +kernel
theorem dX6_costOf_171 : decode cX6_costOf 171 = .ok (.isub, 1) := by decide +kernel
theorem dX6_costOf_172 : decode cX6_costOf 172 = .ok (.laload, 1) := by decide +kernel
theorem dX6_costOf_173 : decode cX6_costOf 173 = .ok (.aload_n 0, 1) := by decide +kernel
theorem dX6_costOf_174 : decode cX6_costOf 174 = .ok (.getfield 44, 3) := by decide +kernel
theorem dX6_costOf_177 : decode cX6_costOf 177 = .ok (.iload_n 3, 1) := by decide +kernel
theorem dX6_costOf_178 : decode cX6_costOf 178 = .ok (.laload, 1) := by decide +kernel
theorem dX6_costOf_179 : decode cX6_costOf 179 = .ok (.invokestatic 234, 3) := by decide +kernel
theorem dX6_costOf_182 : decode cX6_costOf 182 = .ok (.lastore, 1) := by decide +kernel
theorem dX6_costOf_183 : decode cX6_costOf 183 = .ok (.iinc 4 1, 3) := by decide +kernel
theorem dX6_costOf_186 : decode cX6_costOf 186 = .ok (.goto (-164), 3) := by decide +kernel
theorem dX6_costOf_189 : decode cX6_costOf 189 = .ok (.aload_n 0, 1) := by decide +kernel
theorem dX6_costOf_190 : decode cX6_costOf 190 = .ok (.getfield 44, 3) := by decide +kernel
theorem dX6_costOf_193 : decode cX6_costOf 193 = .ok (.iconst 0, 1) := by decide +kernel
theorem dX6_costOf_194 : decode cX6_costOf 194 = .ok (.laload, 1) := by decide +kernel
theorem dX6_costOf_195 : decode cX6_costOf 195 = .ok (.l2i, 1) := by decide +kernel
theorem dX6_costOf_196 : decode cX6_costOf 196 = .ok (.ireturn, 1) := by decide +kernel
theorem dX6_costOfPlan_0 : decode cX6_costOfPlan 0 = .ok (.iconst 0, 1) := by decide +kernel
theorem dX6_costOfPlan_1 : decode cX6_costOfPlan 1 = .ok (.istore_n 1, 1) := by decide +kernel
theorem dX6_costOfPlan_2 : decode cX6_costOfPlan 2 = .ok (.iconst 0, 1) := by decide +kernel
theorem dX6_costOfPlan_3 : decode cX6_costOfPlan 3 = .ok (.istore_n 2, 1) := by decide +kernel
theorem dX6_costOfPlan_4 : decode cX6_costOfPlan 4 = .ok (.iload_n 2, 1) := by decide +kernel
theorem dX6_costOfPlan_5 : decode cX6_costOfPlan 5 = .ok (.aload_n 0, 1) := by decide +kernel
theorem dX6_costOfPlan_6 : decode cX6_costOfPlan 6 = .ok (.getfield 17, 3) := by decide +kernel
theorem dX6_costOfPlan_9 : decode cX6_costOfPlan 9 = .ok (.iconst 2, 1) := by decide +kernel
theorem dX6_costOfPlan_10 : decode cX6_costOfPlan 10 = .ok (.iaload, 1) := by decide +kernel
theorem dX6_costOfPlan_11 : decode cX6_costOfPlan 11 = .ok (.if_icmp .ge 17, 3) := by decide +kernel
theorem dX6_costOfPlan_14 : decode cX6_costOfPlan 14 = .ok (.iload_n 1, 1) := by decide +kernel
theorem dX6_costOfPlan_15 : decode cX6_costOfPlan 15 = .ok (.aload_n 0, 1) := by decide +kernel
theorem dX6_costOfPlan_16 : decode cX6_costOfPlan 16 = .ok (.iload_n 2, 1) := by decide +kernel
theorem dX6_costOfPlan_17 : decode cX6_costOfPlan 17 = .ok (.invokevirtual 238, 3) := by decide +kernel
theorem dX6_costOfPlan_20 : decode cX6_costOfPlan 20 = .ok (.iadd, 1) := by decide +kernel
theorem dX6_costOfPlan_21 : decode cX6_costOfPlan 21 = .ok (.istore_n 1, 1) := by decide +kernel
theorem dX6_costOfPlan_22 : decode cX6_costOfPlan 22 = .ok (.iinc 2 1, 3) := by decide +kernel
theorem dX6_costOfPlan_25 : decode cX6_costOfPlan 25 = .ok (.goto (-21), 3) := by decide +kernel
theorem dX6_costOfPlan_28 : decode cX6_costOfPlan 28 = .ok (.iload_n 1, 1) := by decide +kernel
theorem dX6_costOfPlan_29 : decode cX6_costOfPlan 29 = .ok (.ireturn, 1) := by decide +kernel
theorem dX6_leaveOf_0 : decode cX6_leaveOf 0 = .ok (.aload_n 0, 1) := by decide +kernel
theorem dX6_leaveOf_1 : decode cX6_leaveOf 1 = .ok (.iload_n 1, 1) := by decide +kernel
theorem dX6_leaveOf_2 : decode cX6_leaveOf 2 = .ok (.invokevirtual 199, 3) := by decide +kernel
theorem dX6_leaveOf_5 : decode cX6_leaveOf 5 = .ok (.ifCond .eq 14, 3) := by decide +kernel
theorem dX6_leaveOf_8 : decode cX6_leaveOf 8 = .ok (.aload_n 0, 1) := by decide +kernel
theorem dX6_leaveOf_9 : decode cX6_leaveOf 9 = .ok (.getfield 37, 3) := by decide +kernel
theorem dX6_leaveOf_12 : decode cX6_leaveOf 12 = .ok (.iload_n 1, 1) := by decide +kernel
theorem dX6_leaveOf_13 : decode cX6_leaveOf 13 = .ok (.iconst 1, 1) := by decide +kernel
theorem dX6_leaveOf_14 : decode cX6_leaveOf 14 = .ok (.iadd, 1) := by decide +kernel
theorem dX6_leaveOf_15 : decode cX6_leaveOf 15 = .ok (.iaload, 1) := by decide +kernel
theorem dX6_leaveOf_16 : decode cX6_leaveOf 16 = .ok (.goto 15, 3) := by decide +kernel
theorem dX6_leaveOf_19 : decode cX6_leaveOf 19 = .ok (.aload_n 0, 1) := by decide +kernel
theorem dX6_leaveOf_20 : decode cX6_leaveOf 20 = .ok (.getfield 37, 3) := by decide +kernel
theorem dX6_leaveOf_23 : decode cX6_leaveOf 23 = .ok (.iload_n 1, 1) := by decide +kernel
theorem dX6_leaveOf_24 : decode cX6_leaveOf 24 = .ok (.iaload, 1) := by decide +kernel
theorem dX6_leaveOf_25 : decode cX6_leaveOf 25 = .ok (.aload_n 0, 1) := by decide +kernel
theorem dX6_leaveOf_26 : decode cX6_leaveOf 26 = .ok (.iload_n 1, 1) := by decide +kernel
theorem dX6_leaveOf_27 : decode cX6_leaveOf 27 = .ok (.invokevirtual 202, 3) := by decide +kernel
theorem dX6_leaveOf_30 : decode cX6_leaveOf 30 = .ok (.iadd, 1) := by decide +kernel
theorem dX6_leaveOf_31 : decode cX6_leaveOf 31 = .ok (.ireturn, 1) := by decide +kernel
theorem dX6_exchange_0 : decode cX6_exchange 0 = .ok (.iload_n 1, 1) := by decide +kernel
theorem dX6_exchange_1 : decode cX6_exchange 1 = .ok (.invokestatic 158, 3) := by decide +kernel
theorem dX6_exchange_4 : decode cX6_exchange 4 = .ok (.iconst 3, 1) := by decide +kernel
theorem dX6_exchange_5 : decode cX6_exchange 5 = .ok (.iadd, 1) := by decide +kernel
theorem dX6_exchange_6 : decode cX6_exchange 6 = .ok (.iload_n 2, 1) := by decide +kernel
theorem dX6_exchange_7 : decode cX6_exchange 7 = .ok (.iadd, 1) := by decide +kernel
theorem dX6_exchange_8 : decode cX6_exchange 8 = .ok (.istore_n 3, 1) := by decide +kernel
theorem dX6_exchange_9 : decode cX6_exchange 9 = .ok (.aload_n 0, 1) := by decide +kernel
theorem dX6_exchange_10 : decode cX6_exchange 10 = .ok (.getfield 17, 3) := by decide +kernel
theorem dX6_exchange_13 : decode cX6_exchange 13 = .ok (.iload_n 3, 1) := by decide +kernel
theorem dX6_exchange_14 : decode cX6_exchange 14 = .ok (.iaload, 1) := by decide +kernel
theorem dX6_exchange_15 : decode cX6_exchange 15 = .ok (.istore 4, 2) := by decide +kernel
theorem dX6_exchange_17 : decode cX6_exchange 17 = .ok (.aload_n 0, 1) := by decide +kernel
theorem dX6_exchange_18 : decode cX6_exchange 18 = .ok (.getfield 17, 3) := by decide +kernel
theorem dX6_exchange_21 : decode cX6_exchange 21 = .ok (.iload_n 3, 1) := by decide +kernel
theorem dX6_exchange_22 : decode cX6_exchange 22 = .ok (.aload_n 0, 1) := by decide +kernel
theorem dX6_exchange_23 : decode cX6_exchange 23 = .ok (.getfield 17, 3) := by decide +kernel
theorem dX6_exchange_26 : decode cX6_exchange 26 = .ok (.iload_n 3, 1) := by decide +kernel
theorem dX6_exchange_27 : decode cX6_exchange 27 = .ok (.iconst 1, 1) := by decide +kernel
theorem dX6_exchange_28 : decode cX6_exchange 28 = .ok (.iadd, 1) := by decide +kernel
theorem dX6_exchange_29 : decode cX6_exchange 29 = .ok (.iaload, 1) := by decide +kernel
theorem dX6_exchange_30 : decode cX6_exchange 30 = .ok (.iastore, 1) := by decide +kernel
theorem dX6_exchange_31 : decode cX6_exchange 31 = .ok (.aload_n 0, 1) := by decide +kernel
theorem dX6_exchange_32 : decode cX6_exchange 32 = .ok (.getfield 17, 3) := by decide +kernel
theorem dX6_exchange_35 : decode cX6_exchange 35 = .ok (.iload_n 3, 1) := by decide +kernel
theorem dX6_exchange_36 : decode cX6_exchange 36 = .ok (.iconst 1, 1) := by decide +kernel
theorem dX6_exchange_37 : decode cX6_exchange 37 = .ok (.iadd, 1) := by decide +kernel
theorem dX6_exchange_38 : decode cX6_exchange 38 = .ok (.iload 4, 2) := by decide +kernel
theorem dX6_exchange_40 : decode cX6_exchange 40 = .ok (.iastore, 1) := by decide +kernel
theorem dX6_exchange_41 : decode cX6_exchange 41 = .ok (.return_, 1) := by decide +kernel
theorem dX6_findBest_0 : decode cX6_findBest 0 = .ok (.iconst (-1), 1) := by decide +kernel
theorem dX6_findBest_1 : decode cX6_findBest 1 = .ok (.istore_n 1, 1) := by decide +kernel
theorem dX6_findBest_2 : decode cX6_findBest 2 = .ok (.iconst 0, 1) := by decide +kernel
theorem dX6_findBest_3 : decode cX6_findBest 3 = .ok (.istore_n 2, 1) := by decide +kernel
theorem dX6_findBest_4 : decode cX6_findBest 4 = .ok (.iload_n 2, 1) := by decide +kernel
theorem dX6_findBest_5 : decode cX6_findBest 5 = .ok (.aload_n 0, 1) := by decide +kernel
theorem dX6_findBest_6 : decode cX6_findBest 6 = .ok (.getfield 17, 3) := by decide +kernel
theorem dX6_findBest_9 : decode cX6_findBest 9 = .ok (.iconst 0, 1) := by decide +kernel
theorem dX6_findBest_10 : decode cX6_findBest 10 = .ok (.iaload, 1) := by decide +kernel
theorem dX6_findBest_11 : decode cX6_findBest 11 = .ok (.if_icmp .ge 107, 3) := by decide +kernel
theorem dX6_findBest_14 : decode cX6_findBest 14 = .ok (.iconst 0, 1) := by decide +kernel
theorem dX6_findBest_15 : decode cX6_findBest 15 = .ok (.istore_n 3, 1) := by decide +kernel
theorem dX6_findBest_16 : decode cX6_findBest 16 = .ok (.iload_n 3, 1) := by decide +kernel
theorem dX6_findBest_17 : decode cX6_findBest 17 = .ok (.iconst 1, 1) := by decide +kernel
theorem dX6_findBest_18 : decode cX6_findBest 18 = .ok (.iadd, 1) := by decide +kernel
theorem dX6_findBest_19 : decode cX6_findBest 19 = .ok (.aload_n 0, 1) := by decide +kernel
theorem dX6_findBest_20 : decode cX6_findBest 20 = .ok (.getfield 17, 3) := by decide +kernel
theorem dX6_findBest_23 : decode cX6_findBest 23 = .ok (.iload_n 2, 1) := by decide +kernel
theorem dX6_findBest_24 : decode cX6_findBest 24 = .ok (.invokestatic 158, 3) := by decide +kernel
theorem dX6_findBest_27 : decode cX6_findBest 27 = .ok (.iconst 2, 1) := by decide +kernel
theorem dX6_findBest_28 : decode cX6_findBest 28 = .ok (.iadd, 1) := by decide +kernel
theorem dX6_findBest_29 : decode cX6_findBest 29 = .ok (.iaload, 1) := by decide +kernel
theorem dX6_findBest_30 : decode cX6_findBest 30 = .ok (.if_icmp .ge 82, 3) := by decide +kernel
theorem dX6_findBest_33 : decode cX6_findBest 33 = .ok (.aload_n 0, 1) := by decide +kernel
theorem dX6_findBest_34 : decode cX6_findBest 34 = .ok (.iload_n 2, 1) := by decide +kernel
theorem dX6_findBest_35 : decode cX6_findBest 35 = .ok (.iload_n 3, 1) := by decide +kernel
theorem dX6_findBest_36 : decode cX6_findBest 36 = .ok (.invokevirtual 241, 3) := by decide +kernel
theorem dX6_findBest_39 : decode cX6_findBest 39 = .ok (.aload_n 0, 1) := by decide +kernel
theorem dX6_findBest_40 : decode cX6_findBest 40 = .ok (.invokevirtual 244, 3) := by decide +kernel
theorem dX6_findBest_43 : decode cX6_findBest 43 = .ok (.ifCond .ne 57, 3) := by decide +kernel
theorem dX6_findBest_46 : decode cX6_findBest 46 = .ok (.aload_n 0, 1) := by decide +kernel
theorem dX6_findBest_47 : decode cX6_findBest 47 = .ok (.invokevirtual 247, 3) := by decide +kernel
theorem dX6_findBest_50 : decode cX6_findBest 50 = .ok (.istore 4, 2) := by decide +kernel
theorem dX6_findBest_52 : decode cX6_findBest 52 = .ok (.aload_n 0, 1) := by decide +kernel
theorem dX6_findBest_53 : decode cX6_findBest 53 = .ok (.invokevirtual 250, 3) := by decide +kernel
theorem dX6_findBest_56 : decode cX6_findBest 56 = .ok (.istore 5, 2) := by decide +kernel
theorem dX6_findBest_58 : decode cX6_findBest 58 = .ok (.iload_n 1, 1) := by decide +kernel
theorem dX6_findBest_59 : decode cX6_findBest 59 = .ok (.iconst (-1), 1) := by decide +kernel
theorem dX6_findBest_60 : decode cX6_findBest 60 = .ok (.if_icmp .eq 21, 3) := by decide +kernel
theorem dX6_findBest_63 : decode cX6_findBest 63 = .ok (.iload 4, 2) := by decide +kernel
theorem dX6_findBest_65 : decode cX6_findBest 65 = .ok (.iload 5, 2) := by decide +kernel
theorem dX6_findBest_67 : decode cX6_findBest 67 = .ok (.aload_n 0, 1) := by decide +kernel
theorem dX6_findBest_68 : decode cX6_findBest 68 = .ok (.getfield 253, 3) := by decide +kernel
theorem dX6_findBest_71 : decode cX6_findBest 71 = .ok (.aload_n 0, 1) := by decide +kernel
theorem dX6_findBest_72 : decode cX6_findBest 72 = .ok (.getfield 256, 3) := by decide +kernel
theorem dX6_findBest_75 : decode cX6_findBest 75 = .ok (.invokestatic 259, 3) := by decide +kernel
theorem dX6_findBest_78 : decode cX6_findBest 78 = .ok (.ifCond .eq 22, 3) := by decide +kernel
theorem dX6_findBest_81 : decode cX6_findBest 81 = .ok (.bipush 100, 2) := by decide +kernel
theorem dX6_findBest_83 : decode cX6_findBest 83 = .ok (.iload_n 2, 1) := by decide +kernel
theorem dX6_findBest_84 : decode cX6_findBest 84 = .ok (.imul, 1) := by decide +kernel
theorem dX6_findBest_85 : decode cX6_findBest 85 = .ok (.iload_n 3, 1) := by decide +kernel
theorem dX6_findBest_86 : decode cX6_findBest 86 = .ok (.iadd, 1) := by decide +kernel
theorem dX6_findBest_87 : decode cX6_findBest 87 = .ok (.istore_n 1, 1) := by decide +kernel
theorem dX6_findBest_88 : decode cX6_findBest 88 = .ok (.aload_n 0, 1) := by decide +kernel
theorem dX6_findBest_89 : decode cX6_findBest 89 = .ok (.iload 4, 2) := by decide +kernel
theorem dX6_findBest_91 : decode cX6_findBest 91 = .ok (.putfield 253, 3) := by decide +kernel
theorem dX6_findBest_94 : decode cX6_findBest 94 = .ok (.aload_n 0, 1) := by decide +kernel
theorem dX6_findBest_95 : decode cX6_findBest 95 = .ok (.iload 5, 2) := by decide +kernel
theorem dX6_findBest_97 : decode cX6_findBest 97 = .ok (.putfield 256, 3) := by decide +kernel
theorem dX6_findBest_100 : decode cX6_findBest 100 = .ok (.aload_n 0, 1) := by decide +kernel
theorem dX6_findBest_101 : decode cX6_findBest 101 = .ok (.iload_n 2, 1) := by decide +kernel
theorem dX6_findBest_102 : decode cX6_findBest 102 = .ok (.iload_n 3, 1) := by decide +kernel
theorem dX6_findBest_103 : decode cX6_findBest 103 = .ok (.invokevirtual 241, 3) := by decide +kernel
theorem dX6_findBest_106 : decode cX6_findBest 106 = .ok (.iinc 3 1, 3) := by decide +kernel
theorem dX6_findBest_109 : decode cX6_findBest 109 = .ok (.goto (-93), 3) := by decide +kernel
theorem dX6_findBest_112 : decode cX6_findBest 112 = .ok (.iinc 2 1, 3) := by decide +kernel
theorem dX6_findBest_115 : decode cX6_findBest 115 = .ok (.goto (-111), 3) := by decide +kernel
theorem dX6_findBest_118 : decode cX6_findBest 118 = .ok (.iload_n 1, 1) := by decide +kernel
theorem dX6_findBest_119 : decode cX6_findBest 119 = .ok (.ireturn, 1) := by decide +kernel
theorem dX6_isBetter_0 : decode cX6_isBetter 0 = .ok (.iload_n 0, 1) := by decide +kernel
theorem dX6_isBetter_1 : decode cX6_isBetter 1 = .ok (.iload_n 2, 1) := by decide +kernel
theorem dX6_isBetter_2 : decode cX6_isBetter 2 = .ok (.if_icmp .eq 16, 3) := by decide +kernel
theorem dX6_isBetter_5 : decode cX6_isBetter 5 = .ok (.iload_n 0, 1) := by decide +kernel
theorem dX6_isBetter_6 : decode cX6_isBetter 6 = .ok (.iload_n 2, 1) := by decide +kernel
theorem dX6_isBetter_7 : decode cX6_isBetter 7 = .ok (.if_icmp .ge 7, 3) := by decide +kernel
theorem dX6_isBetter_10 : decode cX6_isBetter 10 = .ok (.iconst 1, 1) := by decide +kernel
theorem dX6_isBetter_11 : decode cX6_isBetter 11 = .ok (.goto 17, 3) := by decide +kernel
theorem dX6_isBetter_14 : decode cX6_isBetter 14 = .ok (.iconst 0, 1) := by decide +kernel
theorem dX6_isBetter_15 : decode cX6_isBetter 15 = .ok (.goto 13, 3) := by decide +kernel
theorem dX6_isBetter_18 : decode cX6_isBetter 18 = .ok (.iload_n 1, 1) := by decide +kernel
theorem dX6_isBetter_19 : decode cX6_isBetter 19 = .ok (.iload_n 3, 1) := by decide +kernel
theorem dX6_isBetter_20 : decode cX6_isBetter 20 = .ok (.if_icmp .ge 7, 3) := by decide +kernel
theorem dX6_isBetter_23 : decode cX6_isBetter 23 = .ok (.iconst 1, 1) := by decide +kernel
theorem dX6_isBetter_24 : decode cX6_isBetter 24 = .ok (.goto 4, 3) := by decide +kernel
theorem dX6_isBetter_27 : decode cX6_isBetter 27 = .ok (.iconst 0, 1) := by decide +kernel
theorem dX6_isBetter_28 : decode cX6_isBetter 28 = .ok (.ireturn, 1) := by decide +kernel
theorem dX6_findPath_0 : decode cX6_findPath 0 = .ok (.aload_n 0, 1) := by decide +kernel
theorem dX6_findPath_1 : decode cX6_findPath 1 = .ok (.invokevirtual 217, 3) := by decide +kernel
theorem dX6_findPath_4 : decode cX6_findPath 4 = .ok (.istore_n 1, 1) := by decide +kernel
theorem dX6_findPath_5 : decode cX6_findPath 5 = .ok (.aload_n 0, 1) := by decide +kernel
theorem dX6_findPath_6 : decode cX6_findPath 6 = .ok (.iconst 0, 1) := by decide +kernel
theorem dX6_findPath_7 : decode cX6_findPath 7 = .ok (.putfield 263, 3) := by decide +kernel
theorem dX6_findPath_10 : decode cX6_findPath 10 = .ok (.iconst (-1), 1) := by decide +kernel
theorem dX6_findPath_11 : decode cX6_findPath 11 = .ok (.istore_n 2, 1) := by decide +kernel
theorem dX6_findPath_12 : decode cX6_findPath 12 = .ok (.aload_n 0, 1) := by decide +kernel
theorem dX6_findPath_13 : decode cX6_findPath 13 = .ok (.getfield 17, 3) := by decide +kernel
theorem dX6_findPath_16 : decode cX6_findPath 16 = .ok (.iconst 2, 1) := by decide +kernel
theorem dX6_findPath_17 : decode cX6_findPath 17 = .ok (.iaload, 1) := by decide +kernel
theorem dX6_findPath_18 : decode cX6_findPath 18 = .ok (.iconst 1, 1) := by decide +kernel
theorem dX6_findPath_19 : decode cX6_findPath 19 = .ok (.isub, 1) := by decide +kernel
theorem dX6_findPath_20 : decode cX6_findPath 20 = .ok (.istore_n 3, 1) := by decide +kernel
theorem dX6_findPath_21 : decode cX6_findPath 21 = .ok (.iload_n 3, 1) := by decide +kernel
theorem dX6_findPath_22 : decode cX6_findPath 22 = .ok (.ifCond .lt 40, 3) := by decide +kernel
theorem dX6_findPath_25 : decode cX6_findPath 25 = .ok (.aload_n 0, 1) := by decide +kernel
theorem dX6_findPath_26 : decode cX6_findPath 26 = .ok (.iload_n 3, 1) := by decide +kernel
theorem dX6_findPath_27 : decode cX6_findPath 27 = .ok (.invokevirtual 223, 3) := by decide +kernel
theorem dX6_findPath_30 : decode cX6_findPath 30 = .ok (.aload_n 0, 1) := by decide +kernel
theorem dX6_findPath_31 : decode cX6_findPath 31 = .ok (.invokevirtual 247, 3) := by decide +kernel
theorem dX6_findPath_34 : decode cX6_findPath 34 = .ok (.if_icmp .ne 22, 3) := by decide +kernel
theorem dX6_findPath_37 : decode cX6_findPath 37 = .ok (.bipush 6, 2) := by decide +kernel
theorem dX6_findPath_39 : decode cX6_findPath 39 = .ok (.iload_n 3, 1) := by decide +kernel
theorem dX6_findPath_40 : decode cX6_findPath 40 = .ok (.imul, 1) := by decide +kernel
theorem dX6_findPath_41 : decode cX6_findPath 41 = .ok (.aload_n 0, 1) := by decide +kernel
theorem dX6_findPath_42 : decode cX6_findPath 42 = .ok (.getfield 17, 3) := by decide +kernel
theorem dX6_findPath_45 : decode cX6_findPath 45 = .ok (.iload_n 3, 1) := by decide +kernel
theorem dX6_findPath_46 : decode cX6_findPath 46 = .ok (.invokestatic 147, 3) := by decide +kernel
theorem dX6_findPath_49 : decode cX6_findPath 49 = .ok (.iconst 3, 1) := by decide +kernel
theorem dX6_findPath_50 : decode cX6_findPath 50 = .ok (.iadd, 1) := by decide +kernel
theorem dX6_findPath_51 : decode cX6_findPath 51 = .ok (.iaload, 1) := by decide +kernel
theorem dX6_findPath_52 : decode cX6_findPath 52 = .ok (.iadd, 1) := by decide +kernel
theorem dX6_findPath_53 : decode cX6_findPath 53 = .ok (.iconst 1, 1) := by decide +kernel
theorem dX6_findPath_54 : decode cX6_findPath 54 = .ok (.isub, 1) := by decide +kernel
theorem dX6_findPath_55 : decode cX6_findPath 55 = .ok (.istore_n 2, 1) := by decide +kernel
theorem dX6_findPath_56 : decode cX6_findPath 56 = .ok (.iinc 3 (-1), 3) := by decide +kernel
theorem dX6_findPath_59 : decode cX6_findPath 59 = .ok (.goto (-38), 3) := by decide +kernel
theorem dX6_findPath_62 : decode cX6_findPath 62 = .ok (.iload_n 1, 1) := by decide +kernel
theorem dX6_findPath_63 : decode cX6_findPath 63 = .ok (.ifCond .eq 120, 3) := by decide +kernel
theorem dX6_findPath_66 : decode cX6_findPath 66 = .ok (.iload_n 2, 1) := by decide +kernel
theorem dX6_findPath_67 : decode cX6_findPath 67 = .ok (.iconst (-1), 1) := by decide +kernel
theorem dX6_findPath_68 : decode cX6_findPath 68 = .ok (.if_icmp .eq 115, 3) := by decide +kernel
theorem dX6_findPath_71 : decode cX6_findPath 71 = .ok (.aload_n 0, 1) := by decide +kernel
theorem dX6_findPath_72 : decode cX6_findPath 72 = .ok (.iload_n 2, 1) := by decide +kernel
theorem dX6_findPath_73 : decode cX6_findPath 73 = .ok (.invokevirtual 266, 3) := by decide +kernel
theorem dX6_findPath_76 : decode cX6_findPath 76 = .ok (.ifCond .ne 107, 3) := by decide +kernel
theorem dX6_findPath_79 : decode cX6_findPath 79 = .ok (.aload_n 0, 1) := by decide +kernel
theorem dX6_findPath_80 : decode cX6_findPath 80 = .ok (.getfield 48, 3) := by decide +kernel
theorem dX6_findPath_83 : decode cX6_findPath 83 = .ok (.aload_n 0, 1) := by decide +kernel
theorem dX6_findPath_84 : decode cX6_findPath 84 = .ok (.getfield 263, 3) := by decide +kernel
theorem dX6_findPath_87 : decode cX6_findPath 87 = .ok (.iload_n 2, 1) := by decide +kernel
theorem dX6_findPath_88 : decode cX6_findPath 88 = .ok (.iastore, 1) := by decide +kernel
theorem dX6_findPath_89 : decode cX6_findPath 89 = .ok (.aload_n 0, 1) := by decide +kernel
theorem dX6_findPath_90 : decode cX6_findPath 90 = .ok (.dup, 1) := by decide +kernel
theorem dX6_findPath_91 : decode cX6_findPath 91 = .ok (.getfield 263, 3) := by decide +kernel
theorem dX6_findPath_94 : decode cX6_findPath 94 = .ok (.iconst 1, 1) := by decide +kernel
theorem dX6_findPath_95 : decode cX6_findPath 95 = .ok (.iadd, 1) := by decide +kernel
theorem dX6_findPath_96 : decode cX6_findPath 96 = .ok (.putfield 263, 3) := by decide +kernel
theorem dX6_findPath_99 : decode cX6_findPath 99 = .ok (.iload_n 2, 1) := by decide +kernel
theorem dX6_findPath_100 : decode cX6_findPath 100 = .ok (.bipush 6, 2) := by decide +kernel
theorem dX6_findPath_102 : decode cX6_findPath 102 = .ok (.irem, 1) := by decide +kernel
theorem dX6_findPath_103 : decode cX6_findPath 103 = .ok (.ifCond .ne 7, 3) := by decide +kernel
theorem dX6_findPath_106 : decode cX6_findPath 106 = .ok (.iconst 1, 1) := by decide +kernel
theorem dX6_findPath_107 : decode cX6_findPath 107 = .ok (.goto 4, 3) := by decide +kernel
theorem dX6_findPath_110 : decode cX6_findPath 110 = .ok (.iconst 0, 1) := by decide +kernel
theorem dX6_findPath_111 : decode cX6_findPath 111 = .ok (.istore_n 3, 1) := by decide +kernel
theorem dX6_findPath_112 : decode cX6_findPath 112 = .ok (.iload_n 3, 1) := by decide +kernel
theorem dX6_findPath_113 : decode cX6_findPath 113 = .ok (.ifCond .eq 25, 3) := by decide +kernel
theorem dX6_findPath_116 : decode cX6_findPath 116 = .ok (.aload_n 0, 1) := by decide +kernel
theorem dX6_findPath_117 : decode cX6_findPath 117 = .ok (.getfield 37, 3) := by decide +kernel
theorem dX6_findPath_120 : decode cX6_findPath 120 = .ok (.iload_n 2, 1) := by decide +kernel
theorem dX6_findPath_121 : decode cX6_findPath 121 = .ok (.iaload, 1) := by decide +kernel
theorem dX6_findPath_122 : decode cX6_findPath 122 = .ok (.aload_n 0, 1) := by decide +kernel
theorem dX6_findPath_123 : decode cX6_findPath 123 = .ok (.getfield 17, 3) := by decide +kernel
theorem dX6_findPath_126 : decode cX6_findPath 126 = .ok (.iload_n 2, 1) := by decide +kernel
theorem dX6_findPath_127 : decode cX6_findPath 127 = .ok (.bipush 6, 2) := by decide +kernel
theorem dX6_findPath_129 : decode cX6_findPath 129 = .ok (.idiv, 1) := by decide +kernel
theorem dX6_findPath_130 : decode cX6_findPath 130 = .ok (.invokestatic 147, 3) := by decide +kernel
theorem dX6_findPath_133 : decode cX6_findPath 133 = .ok (.iaload, 1) := by decide +kernel
theorem dX6_findPath_134 : decode cX6_findPath 134 = .ok (.if_icmp .ne 4, 3) := by decide +kernel
theorem dX6_findPath_137 : decode cX6_findPath 137 = .ok (.return_, 1) := by decide +kernel
theorem dX6_findPath_138 : decode cX6_findPath 138 = .ok (.iload_n 3, 1) := by decide +kernel
theorem dX6_findPath_139 : decode cX6_findPath 139 = .ok (.ifCond .ne 34, 3) := by decide +kernel
theorem dX6_findPath_142 : decode cX6_findPath 142 = .ok (.aload_n 0, 1) := by decide +kernel
theorem dX6_findPath_143 : decode cX6_findPath 143 = .ok (.getfield 37, 3) := by decide +kernel
theorem dX6_findPath_146 : decode cX6_findPath 146 = .ok (.iload_n 2, 1) := by decide +kernel
theorem dX6_findPath_147 : decode cX6_findPath 147 = .ok (.iconst 1, 1) := by decide +kernel
theorem dX6_findPath_148 : decode cX6_findPath 148 = .ok (.isub, 1) := by decide +kernel
theorem dX6_findPath_149 : decode cX6_findPath 149 = .ok (.iaload, 1) := by decide +kernel
theorem dX6_findPath_150 : decode cX6_findPath 150 = .ok (.aload_n 0, 1) := by decide +kernel
theorem dX6_findPath_151 : decode cX6_findPath 151 = .ok (.iload_n 2, 1) := by decide +kernel
theorem dX6_findPath_152 : decode cX6_findPath 152 = .ok (.iconst 1, 1) := by decide +kernel
theorem dX6_findPath_153 : decode cX6_findPath 153 = .ok (.isub, 1) := by decide +kernel
theorem dX6_findPath_154 : decode cX6_findPath 154 = .ok (.invokevirtual 202, 3) := by decide +kernel
theorem dX6_findPath_157 : decode cX6_findPath 157 = .ok (.iadd, 1) := by decide +kernel
theorem dX6_findPath_158 : decode cX6_findPath 158 = .ok (.aload_n 0, 1) := by decide +kernel
theorem dX6_findPath_159 : decode cX6_findPath 159 = .ok (.getfield 37, 3) := by decide +kernel
theorem dX6_findPath_162 : decode cX6_findPath 162 = .ok (.iload_n 2, 1) := by decide +kernel
theorem dX6_findPath_163 : decode cX6_findPath 163 = .ok (.iaload, 1) := by decide +kernel
theorem dX6_findPath_164 : decode cX6_findPath 164 = .ok (.if_icmp .ne 9, 3) := by decide +kernel
theorem dX6_findPath_167 : decode cX6_findPath 167 = .ok (.iload_n 2, 1) := by decide +kernel
theorem dX6_findPath_168 : decode cX6_findPath 168 = .ok (.iconst 1, 1) := by decide +kernel
theorem dX6_findPath_169 : decode cX6_findPath 169 = .ok (.isub, 1) := by decide +kernel
theorem dX6_findPath_170 : decode cX6_findPath 170 = .ok (.goto 9, 3) := by decide +kernel
theorem dX6_findPath_173 : decode cX6_findPath 173 = .ok (.aload_n 0, 1) := by decide +kernel
theorem dX6_findPath_174 : decode cX6_findPath 174 = .ok (.getfield 31, 3) := by decide +kernel
theorem dX6_findPath_177 : decode cX6_findPath 177 = .ok (.iload_n 2, 1) := by decide +kernel
theorem dX6_findPath_178 : decode cX6_findPath 178 = .ok (.iaload, 1) := by decide +kernel
theorem dX6_findPath_179 : decode cX6_findPath 179 = .ok (.istore_n 2, 1) := by decide +kernel
theorem dX6_findPath_180 : decode cX6_findPath 180 = .ok (.goto (-118), 3) := by decide +kernel
theorem dX6_findPath_183 : decode cX6_findPath 183 = .ok (.return_, 1) := by decide +kernel
theorem dX6_isOnPath_0 : decode cX6_isOnPath 0 = .ok (.iconst 0, 1) := by decide +kernel
theorem dX6_isOnPath_1 : decode cX6_isOnPath 1 = .ok (.istore_n 2, 1) := by decide +kernel
theorem dX6_isOnPath_2 : decode cX6_isOnPath 2 = .ok (.iload_n 2, 1) := by decide +kernel
theorem dX6_isOnPath_3 : decode cX6_isOnPath 3 = .ok (.aload_n 0, 1) := by decide +kernel
theorem dX6_isOnPath_4 : decode cX6_isOnPath 4 = .ok (.getfield 263, 3) := by decide +kernel
theorem dX6_isOnPath_7 : decode cX6_isOnPath 7 = .ok (.if_icmp .ge 21, 3) := by decide +kernel
theorem dX6_isOnPath_10 : decode cX6_isOnPath 10 = .ok (.aload_n 0, 1) := by decide +kernel
theorem dX6_isOnPath_11 : decode cX6_isOnPath 11 = .ok (.getfield 48, 3) := by decide +kernel
theorem dX6_isOnPath_14 : decode cX6_isOnPath 14 = .ok (.iload_n 2, 1) := by decide +kernel
theorem dX6_isOnPath_15 : decode cX6_isOnPath 15 = .ok (.iaload, 1) := by decide +kernel
theorem dX6_isOnPath_16 : decode cX6_isOnPath 16 = .ok (.iload_n 1, 1) := by decide +kernel
theorem dX6_isOnPath_17 : decode cX6_isOnPath 17 = .ok (.if_icmp .ne 5, 3) := by decide +kernel
theorem dX6_isOnPath_20 : decode cX6_isOnPath 20 = .ok (.iconst 1, 1) := by decide +kernel
theorem dX6_isOnPath_21 : decode cX6_isOnPath 21 = .ok (.ireturn, 1) := by decide +kernel
theorem dX6_isOnPath_22 : decode cX6_isOnPath 22 = .ok (.iinc 2 1, 3) := by decide +kernel
theorem dX6_isOnPath_25 : decode cX6_isOnPath 25 = .ok (.goto (-23), 3) := by decide +kernel
theorem dX6_isOnPath_28 : decode cX6_isOnPath 28 = .ok (.iconst 0, 1) := by decide +kernel
theorem dX6_isOnPath_29 : decode cX6_isOnPath 29 = .ok (.ireturn, 1) := by decide +kernel
theorem dX6_told_0 : decode cX6_told 0 = .ok (.bipush 10, 2) := by decide +kernel
theorem dX6_told_2 : decode cX6_told 2 = .ok (.iload_n 0, 1) := by decide +kernel
theorem dX6_told_3 : decode cX6_told 3 = .ok (.bipush 6, 2) := by decide +kernel
theorem dX6_told_5 : decode cX6_told 5 = .ok (.idiv, 1) := by decide +kernel
theorem dX6_told_6 : decode cX6_told 6 = .ok (.imul, 1) := by decide +kernel
theorem dX6_told_7 : decode cX6_told 7 = .ok (.iload_n 0, 1) := by decide +kernel
theorem dX6_told_8 : decode cX6_told 8 = .ok (.bipush 6, 2) := by decide +kernel
theorem dX6_told_10 : decode cX6_told 10 = .ok (.irem, 1) := by decide +kernel
theorem dX6_told_11 : decode cX6_told 11 = .ok (.iadd, 1) := by decide +kernel
theorem dX6_told_12 : decode cX6_told 12 = .ok (.ireturn, 1) := by decide +kernel
theorem dX6_noMachine_0 : decode cX6_noMachine 0 = .ok (.aload_n 0, 1) := by decide +kernel
theorem dX6_noMachine_1 : decode cX6_noMachine 1 = .ok (.iload_n 1, 1) := by decide +kernel
theorem dX6_noMachine_2 : decode cX6_noMachine 2 = .ok (.iconst 0, 1) := by decide +kernel
theorem dX6_noMachine_3 : decode cX6_noMachine 3 = .ok (.aload_n 0, 1) := by decide +kernel
theorem dX6_noMachine_4 : decode cX6_noMachine 4 = .ok (.getfield 17, 3) := by decide +kernel
theorem dX6_noMachine_7 : decode cX6_noMachine 7 = .ok (.iconst 0, 1) := by decide +kernel
theorem dX6_noMachine_8 : decode cX6_noMachine 8 = .ok (.iaload, 1) := by decide +kernel
theorem dX6_noMachine_9 : decode cX6_noMachine 9 = .ok (.iconst 1, 1) := by decide +kernel
theorem dX6_noMachine_10 : decode cX6_noMachine 10 = .ok (.isub, 1) := by decide +kernel
theorem dX6_noMachine_11 : decode cX6_noMachine 11 = .ok (.invokestatic 73, 3) := by decide +kernel
theorem dX6_noMachine_14 : decode cX6_noMachine 14 = .ok (.ifCond .ne 7, 3) := by decide +kernel
theorem dX6_noMachine_17 : decode cX6_noMachine 17 = .ok (.iconst 1, 1) := by decide +kernel
theorem dX6_noMachine_18 : decode cX6_noMachine 18 = .ok (.goto 4, 3) := by decide +kernel
theorem dX6_noMachine_21 : decode cX6_noMachine 21 = .ok (.iconst 0, 1) := by decide +kernel
theorem dX6_noMachine_22 : decode cX6_noMachine 22 = .ok (.iconst 1, 1) := by decide +kernel
theorem dX6_noMachine_23 : decode cX6_noMachine 23 = .ok (.invokevirtual 174, 3) := by decide +kernel
theorem dX6_noMachine_26 : decode cX6_noMachine 26 = .ok (.ireturn, 1) := by decide +kernel
theorem dX6_noJob_0 : decode cX6_noJob 0 = .ok (.aload_n 0, 1) := by decide +kernel
theorem dX6_noJob_1 : decode cX6_noJob 1 = .ok (.iload_n 1, 1) := by decide +kernel
theorem dX6_noJob_2 : decode cX6_noJob 2 = .ok (.iconst 0, 1) := by decide +kernel
theorem dX6_noJob_3 : decode cX6_noJob 3 = .ok (.aload_n 0, 1) := by decide +kernel
theorem dX6_noJob_4 : decode cX6_noJob 4 = .ok (.getfield 17, 3) := by decide +kernel
theorem dX6_noJob_7 : decode cX6_noJob 7 = .ok (.iconst 2, 1) := by decide +kernel
theorem dX6_noJob_8 : decode cX6_noJob 8 = .ok (.iaload, 1) := by decide +kernel
theorem dX6_noJob_9 : decode cX6_noJob 9 = .ok (.iconst 1, 1) := by decide +kernel
theorem dX6_noJob_10 : decode cX6_noJob 10 = .ok (.isub, 1) := by decide +kernel
theorem dX6_noJob_11 : decode cX6_noJob 11 = .ok (.invokestatic 73, 3) := by decide +kernel
theorem dX6_noJob_14 : decode cX6_noJob 14 = .ok (.ifCond .ne 7, 3) := by decide +kernel
theorem dX6_noJob_17 : decode cX6_noJob 17 = .ok (.iconst 1, 1) := by decide +kernel
theorem dX6_noJob_18 : decode cX6_noJob 18 = .ok (.goto 4, 3) := by decide +kernel
theorem dX6_noJob_21 : decode cX6_noJob 21 = .ok (.iconst 0, 1) := by decide +kernel
theorem dX6_noJob_22 : decode cX6_noJob 22 = .ok (.iconst 1, 1) := by decide +kernel
theorem dX6_noJob_23 : decode cX6_noJob 23 = .ok (.invokevirtual 174, 3) := by decide +kernel
theorem dX6_noJob_26 : decode cX6_noJob 26 = .ok (.ireturn, 1) := by decide +kernel
theorem dX6_noOperation_0 : decode cX6_noOperation 0 = .ok (.aload_n 0, 1) := by decide +kernel
theorem dX6_noOperation_1 : decode cX6_noOperation 1 = .ok (.iload_n 1, 1) := by decide +kernel
theorem dX6_noOperation_2 : decode cX6_noOperation 2 = .ok (.invokevirtual 269, 3) := by decide +kernel
theorem dX6_noOperation_5 : decode cX6_noOperation 5 = .ok (.ifCond .ne 37, 3) := by decide +kernel
theorem dX6_noOperation_8 : decode cX6_noOperation 8 = .ok (.aload_n 0, 1) := by decide +kernel
theorem dX6_noOperation_9 : decode cX6_noOperation 9 = .ok (.iload_n 2, 1) := by decide +kernel
theorem dX6_noOperation_10 : decode cX6_noOperation 10 = .ok (.iconst 0, 1) := by decide +kernel
theorem dX6_noOperation_11 : decode cX6_noOperation 11 = .ok (.aload_n 0, 1) := by decide +kernel
theorem dX6_noOperation_12 : decode cX6_noOperation 12 = .ok (.getfield 17, 3) := by decide +kernel
theorem dX6_noOperation_15 : decode cX6_noOperation 15 = .ok (.iload_n 1, 1) := by decide +kernel
theorem dX6_noOperation_16 : decode cX6_noOperation 16 = .ok (.invokestatic 147, 3) := by decide +kernel
theorem dX6_noOperation_19 : decode cX6_noOperation 19 = .ok (.iconst 3, 1) := by decide +kernel
theorem dX6_noOperation_20 : decode cX6_noOperation 20 = .ok (.iadd, 1) := by decide +kernel
theorem dX6_noOperation_21 : decode cX6_noOperation 21 = .ok (.iaload, 1) := by decide +kernel
theorem dX6_noOperation_22 : decode cX6_noOperation 22 = .ok (.iconst 1, 1) := by decide +kernel
theorem dX6_noOperation_23 : decode cX6_noOperation 23 = .ok (.isub, 1) := by decide +kernel
theorem dX6_noOperation_24 : decode cX6_noOperation 24 = .ok (.invokestatic 73, 3) := by decide +kernel
theorem dX6_noOperation_27 : decode cX6_noOperation 27 = .ok (.ifCond .ne 7, 3) := by decide +kernel
theorem dX6_noOperation_30 : decode cX6_noOperation 30 = .ok (.iconst 1, 1) := by decide +kernel
theorem dX6_noOperation_31 : decode cX6_noOperation 31 = .ok (.goto 4, 3) := by decide +kernel
theorem dX6_noOperation_34 : decode cX6_noOperation 34 = .ok (.iconst 0, 1) := by decide +kernel
theorem dX6_noOperation_35 : decode cX6_noOperation 35 = .ok (.iconst 1, 1) := by decide +kernel
theorem dX6_noOperation_36 : decode cX6_noOperation 36 = .ok (.invokevirtual 174, 3) := by decide +kernel
theorem dX6_noOperation_39 : decode cX6_noOperation 39 = .ok (.ifCond .eq 7, 3) := by decide +kernel
theorem dX6_noOperation_42 : decode cX6_noOperation 42 = .ok (.iconst 1, 1) := by decide +kernel
theorem dX6_noOperation_43 : decode cX6_noOperation 43 = .ok (.goto 4, 3) := by decide +kernel
theorem dX6_noOperation_46 : decode cX6_noOperation 46 = .ok (.iconst 0, 1) := by decide +kernel
theorem dX6_noOperation_47 : decode cX6_noOperation 47 = .ok (.ireturn, 1) := by decide +kernel
theorem dX6_noSwap_0 : decode cX6_noSwap 0 = .ok (.aload_n 0, 1) := by decide +kernel
theorem dX6_noSwap_1 : decode cX6_noSwap 1 = .ok (.iload_n 1, 1) := by decide +kernel
theorem dX6_noSwap_2 : decode cX6_noSwap 2 = .ok (.invokevirtual 272, 3) := by decide +kernel
theorem dX6_noSwap_5 : decode cX6_noSwap 5 = .ok (.ifCond .ne 37, 3) := by decide +kernel
theorem dX6_noSwap_8 : decode cX6_noSwap 8 = .ok (.aload_n 0, 1) := by decide +kernel
theorem dX6_noSwap_9 : decode cX6_noSwap 9 = .ok (.iload_n 2, 1) := by decide +kernel
theorem dX6_noSwap_10 : decode cX6_noSwap 10 = .ok (.iconst 0, 1) := by decide +kernel
theorem dX6_noSwap_11 : decode cX6_noSwap 11 = .ok (.aload_n 0, 1) := by decide +kernel
theorem dX6_noSwap_12 : decode cX6_noSwap 12 = .ok (.getfield 17, 3) := by decide +kernel
theorem dX6_noSwap_15 : decode cX6_noSwap 15 = .ok (.iload_n 1, 1) := by decide +kernel
theorem dX6_noSwap_16 : decode cX6_noSwap 16 = .ok (.invokestatic 158, 3) := by decide +kernel
theorem dX6_noSwap_19 : decode cX6_noSwap 19 = .ok (.iconst 2, 1) := by decide +kernel
theorem dX6_noSwap_20 : decode cX6_noSwap 20 = .ok (.iadd, 1) := by decide +kernel
theorem dX6_noSwap_21 : decode cX6_noSwap 21 = .ok (.iaload, 1) := by decide +kernel
theorem dX6_noSwap_22 : decode cX6_noSwap 22 = .ok (.iconst 2, 1) := by decide +kernel
theorem dX6_noSwap_23 : decode cX6_noSwap 23 = .ok (.isub, 1) := by decide +kernel
theorem dX6_noSwap_24 : decode cX6_noSwap 24 = .ok (.invokestatic 73, 3) := by decide +kernel
theorem dX6_noSwap_27 : decode cX6_noSwap 27 = .ok (.ifCond .ne 7, 3) := by decide +kernel
theorem dX6_noSwap_30 : decode cX6_noSwap 30 = .ok (.iconst 1, 1) := by decide +kernel
theorem dX6_noSwap_31 : decode cX6_noSwap 31 = .ok (.goto 4, 3) := by decide +kernel
theorem dX6_noSwap_34 : decode cX6_noSwap 34 = .ok (.iconst 0, 1) := by decide +kernel
theorem dX6_noSwap_35 : decode cX6_noSwap 35 = .ok (.iconst 1, 1) := by decide +kernel
theorem dX6_noSwap_36 : decode cX6_noSwap 36 = .ok (.invokevirtual 174, 3) := by decide +kernel
theorem dX6_noSwap_39 : decode cX6_noSwap 39 = .ok (.ifCond .eq 7, 3) := by decide +kernel
theorem dX6_noSwap_42 : decode cX6_noSwap 42 = .ok (.iconst 1, 1) := by decide +kernel
theorem dX6_noSwap_43 : decode cX6_noSwap 43 = .ok (.goto 4, 3) := by decide +kernel
theorem dX6_noSwap_46 : decode cX6_noSwap 46 = .ok (.iconst 0, 1) := by decide +kernel
theorem dX6_noSwap_47 : decode cX6_noSwap 47 = .ok (.ireturn, 1) := by decide +kernel
theorem dX6_machineCount_0 : decode cX6_machineCount 0 = .ok (.aload_n 0, 1) := by decide +kernel
theorem dX6_machineCount_1 : decode cX6_machineCount 1 = .ok (.iconst 0, 1) := by decide +kernel
theorem dX6_machineCount_2 : decode cX6_machineCount 2 = .ok (.putfield 51, 3) := by decide +kernel
theorem dX6_machineCount_5 : decode cX6_machineCount 5 = .ok (.aload_n 0, 1) := by decide +kernel
theorem dX6_machineCount_6 : decode cX6_machineCount 6 = .ok (.getfield 17, 3) := by decide +kernel
theorem dX6_machineCount_9 : decode cX6_machineCount 9 = .ok (.iconst 0, 1) := by decide +kernel
theorem dX6_machineCount_10 : decode cX6_machineCount 10 = .ok (.iaload, 1) := by decide +kernel
theorem dX6_machineCount_11 : decode cX6_machineCount 11 = .ok (.ireturn, 1) := by decide +kernel
theorem dX6_jobCount_0 : decode cX6_jobCount 0 = .ok (.aload_n 0, 1) := by decide +kernel
theorem dX6_jobCount_1 : decode cX6_jobCount 1 = .ok (.iconst 0, 1) := by decide +kernel
theorem dX6_jobCount_2 : decode cX6_jobCount 2 = .ok (.putfield 51, 3) := by decide +kernel
theorem dX6_jobCount_5 : decode cX6_jobCount 5 = .ok (.aload_n 0, 1) := by decide +kernel
theorem dX6_jobCount_6 : decode cX6_jobCount 6 = .ok (.getfield 17, 3) := by decide +kernel
theorem dX6_jobCount_9 : decode cX6_jobCount 9 = .ok (.iconst 2, 1) := by decide +kernel
theorem dX6_jobCount_10 : decode cX6_jobCount 10 = .ok (.iaload, 1) := by decide +kernel
theorem dX6_jobCount_11 : decode cX6_jobCount 11 = .ok (.ireturn, 1) := by decide +kernel
theorem dX6_operationCount_0 : decode cX6_operationCount 0 = .ok (.aload_n 0, 1) := by decide +kernel
theorem dX6_operationCount_1 : decode cX6_operationCount 1 = .ok (.iconst 0, 1) := by decide +kernel
theorem dX6_operationCount_2 : decode cX6_operationCount 2 = .ok (.putfield 51, 3) := by decide +kernel
theorem dX6_operationCount_5 : decode cX6_operationCount 5 = .ok (.aload_n 0, 1) := by decide +kernel
theorem dX6_operationCount_6 : decode cX6_operationCount 6 = .ok (.iload_n 1, 1) := by decide +kernel
theorem dX6_operationCount_7 : decode cX6_operationCount 7 = .ok (.invokevirtual 269, 3) := by decide +kernel
theorem dX6_operationCount_10 : decode cX6_operationCount 10 = .ok (.ifCond .eq 7, 3) := by decide +kernel
theorem dX6_operationCount_13 : decode cX6_operationCount 13 = .ok (.iconst 0, 1) := by decide +kernel
theorem dX6_operationCount_14 : decode cX6_operationCount 14 = .ok (.goto 14, 3) := by decide +kernel
theorem dX6_operationCount_17 : decode cX6_operationCount 17 = .ok (.aload_n 0, 1) := by decide +kernel
theorem dX6_operationCount_18 : decode cX6_operationCount 18 = .ok (.getfield 17, 3) := by decide +kernel
theorem dX6_operationCount_21 : decode cX6_operationCount 21 = .ok (.iload_n 1, 1) := by decide +kernel
theorem dX6_operationCount_22 : decode cX6_operationCount 22 = .ok (.invokestatic 147, 3) := by decide +kernel
theorem dX6_operationCount_25 : decode cX6_operationCount 25 = .ok (.iconst 3, 1) := by decide +kernel
theorem dX6_operationCount_26 : decode cX6_operationCount 26 = .ok (.iadd, 1) := by decide +kernel
theorem dX6_operationCount_27 : decode cX6_operationCount 27 = .ok (.iaload, 1) := by decide +kernel
theorem dX6_operationCount_28 : decode cX6_operationCount 28 = .ok (.ireturn, 1) := by decide +kernel
theorem dX6_operation_0 : decode cX6_operation 0 = .ok (.aload_n 0, 1) := by decide +kernel
theorem dX6_operation_1 : decode cX6_operation 1 = .ok (.iconst 0, 1) := by decide +kernel
theorem dX6_operation_2 : decode cX6_operation 2 = .ok (.putfield 51, 3) := by decide +kernel
theorem dX6_operation_5 : decode cX6_operation 5 = .ok (.aload_n 0, 1) := by decide +kernel
theorem dX6_operation_6 : decode cX6_operation 6 = .ok (.iload_n 1, 1) := by decide +kernel
theorem dX6_operation_7 : decode cX6_operation 7 = .ok (.iload_n 2, 1) := by decide +kernel
theorem dX6_operation_8 : decode cX6_operation 8 = .ok (.invokevirtual 275, 3) := by decide +kernel
theorem dX6_operation_11 : decode cX6_operation 11 = .ok (.ifCond .ne 25, 3) := by decide +kernel
theorem dX6_operation_14 : decode cX6_operation 14 = .ok (.aload_n 0, 1) := by decide +kernel
theorem dX6_operation_15 : decode cX6_operation 15 = .ok (.iload_n 3, 1) := by decide +kernel
theorem dX6_operation_16 : decode cX6_operation 16 = .ok (.iconst 0, 1) := by decide +kernel
theorem dX6_operation_17 : decode cX6_operation 17 = .ok (.iconst 2, 1) := by decide +kernel
theorem dX6_operation_18 : decode cX6_operation 18 = .ok (.invokestatic 73, 3) := by decide +kernel
theorem dX6_operation_21 : decode cX6_operation 21 = .ok (.ifCond .ne 7, 3) := by decide +kernel
theorem dX6_operation_24 : decode cX6_operation 24 = .ok (.iconst 1, 1) := by decide +kernel
theorem dX6_operation_25 : decode cX6_operation 25 = .ok (.goto 4, 3) := by decide +kernel
theorem dX6_operation_28 : decode cX6_operation 28 = .ok (.iconst 0, 1) := by decide +kernel
theorem dX6_operation_29 : decode cX6_operation 29 = .ok (.iconst 2, 1) := by decide +kernel
theorem dX6_operation_30 : decode cX6_operation 30 = .ok (.invokevirtual 174, 3) := by decide +kernel
theorem dX6_operation_33 : decode cX6_operation 33 = .ok (.ifCond .eq 5, 3) := by decide +kernel
theorem dX6_operation_36 : decode cX6_operation 36 = .ok (.iconst 0, 1) := by decide +kernel
theorem dX6_operation_37 : decode cX6_operation 37 = .ok (.ireturn, 1) := by decide +kernel
theorem dX6_operation_38 : decode cX6_operation 38 = .ok (.bipush 6, 2) := by decide +kernel
theorem dX6_operation_40 : decode cX6_operation 40 = .ok (.iload_n 1, 1) := by decide +kernel
theorem dX6_operation_41 : decode cX6_operation 41 = .ok (.imul, 1) := by decide +kernel
theorem dX6_operation_42 : decode cX6_operation 42 = .ok (.iload_n 2, 1) := by decide +kernel
theorem dX6_operation_43 : decode cX6_operation 43 = .ok (.iadd, 1) := by decide +kernel
theorem dX6_operation_44 : decode cX6_operation 44 = .ok (.istore 4, 2) := by decide +kernel
theorem dX6_operation_46 : decode cX6_operation 46 = .ok (.iload_n 3, 1) := by decide +kernel
theorem dX6_operation_47 : decode cX6_operation 47 = .ok (.iconst 2, 1) := by decide +kernel
theorem dX6_operation_48 : decode cX6_operation 48 = .ok (.if_icmp .ne 12, 3) := by decide +kernel
theorem dX6_operation_51 : decode cX6_operation 51 = .ok (.aload_n 0, 1) := by decide +kernel
theorem dX6_operation_52 : decode cX6_operation 52 = .ok (.iload 4, 2) := by decide +kernel
theorem dX6_operation_54 : decode cX6_operation 54 = .ok (.invokevirtual 279, 3) := by decide +kernel
theorem dX6_operation_57 : decode cX6_operation 57 = .ok (.goto 15, 3) := by decide +kernel
theorem dX6_operation_60 : decode cX6_operation 60 = .ok (.aload_n 0, 1) := by decide +kernel
theorem dX6_operation_61 : decode cX6_operation 61 = .ok (.getfield 17, 3) := by decide +kernel
theorem dX6_operation_64 : decode cX6_operation 64 = .ok (.iload 4, 2) := by decide +kernel
theorem dX6_operation_66 : decode cX6_operation 66 = .ok (.invokestatic 155, 3) := by decide +kernel
theorem dX6_operation_69 : decode cX6_operation 69 = .ok (.iload_n 3, 1) := by decide +kernel
theorem dX6_operation_70 : decode cX6_operation 70 = .ok (.iadd, 1) := by decide +kernel
theorem dX6_operation_71 : decode cX6_operation 71 = .ok (.iaload, 1) := by decide +kernel
theorem dX6_operation_72 : decode cX6_operation 72 = .ok (.ireturn, 1) := by decide +kernel
theorem dX6_orderLength_0 : decode cX6_orderLength 0 = .ok (.aload_n 0, 1) := by decide +kernel
theorem dX6_orderLength_1 : decode cX6_orderLength 1 = .ok (.iconst 0, 1) := by decide +kernel
theorem dX6_orderLength_2 : decode cX6_orderLength 2 = .ok (.putfield 51, 3) := by decide +kernel
theorem dX6_orderLength_5 : decode cX6_orderLength 5 = .ok (.aload_n 0, 1) := by decide +kernel
theorem dX6_orderLength_6 : decode cX6_orderLength 6 = .ok (.iload_n 1, 1) := by decide +kernel
theorem dX6_orderLength_7 : decode cX6_orderLength 7 = .ok (.invokevirtual 272, 3) := by decide +kernel
theorem dX6_orderLength_10 : decode cX6_orderLength 10 = .ok (.ifCond .eq 7, 3) := by decide +kernel
theorem dX6_orderLength_13 : decode cX6_orderLength 13 = .ok (.iconst 0, 1) := by decide +kernel
theorem dX6_orderLength_14 : decode cX6_orderLength 14 = .ok (.goto 14, 3) := by decide +kernel
theorem dX6_orderLength_17 : decode cX6_orderLength 17 = .ok (.aload_n 0, 1) := by decide +kernel
theorem dX6_orderLength_18 : decode cX6_orderLength 18 = .ok (.getfield 17, 3) := by decide +kernel
theorem dX6_orderLength_21 : decode cX6_orderLength 21 = .ok (.iload_n 1, 1) := by decide +kernel
theorem dX6_orderLength_22 : decode cX6_orderLength 22 = .ok (.invokestatic 158, 3) := by decide +kernel
theorem dX6_orderLength_25 : decode cX6_orderLength 25 = .ok (.iconst 2, 1) := by decide +kernel
theorem dX6_orderLength_26 : decode cX6_orderLength 26 = .ok (.iadd, 1) := by decide +kernel
theorem dX6_orderLength_27 : decode cX6_orderLength 27 = .ok (.iaload, 1) := by decide +kernel
theorem dX6_orderLength_28 : decode cX6_orderLength 28 = .ok (.ireturn, 1) := by decide +kernel
theorem dX6_orderAt_0 : decode cX6_orderAt 0 = .ok (.aload_n 0, 1) := by decide +kernel
theorem dX6_orderAt_1 : decode cX6_orderAt 1 = .ok (.iconst 0, 1) := by decide +kernel
theorem dX6_orderAt_2 : decode cX6_orderAt 2 = .ok (.putfield 51, 3) := by decide +kernel
theorem dX6_orderAt_5 : decode cX6_orderAt 5 = .ok (.aload_n 0, 1) := by decide +kernel
theorem dX6_orderAt_6 : decode cX6_orderAt 6 = .ok (.iload_n 1, 1) := by decide +kernel
theorem dX6_orderAt_7 : decode cX6_orderAt 7 = .ok (.invokevirtual 272, 3) := by decide +kernel
theorem dX6_orderAt_10 : decode cX6_orderAt 10 = .ok (.ifCond .ne 37, 3) := by decide +kernel
theorem dX6_orderAt_13 : decode cX6_orderAt 13 = .ok (.aload_n 0, 1) := by decide +kernel
theorem dX6_orderAt_14 : decode cX6_orderAt 14 = .ok (.iload_n 2, 1) := by decide +kernel
theorem dX6_orderAt_15 : decode cX6_orderAt 15 = .ok (.iconst 0, 1) := by decide +kernel
theorem dX6_orderAt_16 : decode cX6_orderAt 16 = .ok (.aload_n 0, 1) := by decide +kernel
theorem dX6_orderAt_17 : decode cX6_orderAt 17 = .ok (.getfield 17, 3) := by decide +kernel
theorem dX6_orderAt_20 : decode cX6_orderAt 20 = .ok (.iload_n 1, 1) := by decide +kernel
theorem dX6_orderAt_21 : decode cX6_orderAt 21 = .ok (.invokestatic 158, 3) := by decide +kernel
theorem dX6_orderAt_24 : decode cX6_orderAt 24 = .ok (.iconst 2, 1) := by decide +kernel
theorem dX6_orderAt_25 : decode cX6_orderAt 25 = .ok (.iadd, 1) := by decide +kernel
theorem dX6_orderAt_26 : decode cX6_orderAt 26 = .ok (.iaload, 1) := by decide +kernel
theorem dX6_orderAt_27 : decode cX6_orderAt 27 = .ok (.iconst 1, 1) := by decide +kernel
theorem dX6_orderAt_28 : decode cX6_orderAt 28 = .ok (.isub, 1) := by decide +kernel
theorem dX6_orderAt_29 : decode cX6_orderAt 29 = .ok (.invokestatic 73, 3) := by decide +kernel
theorem dX6_orderAt_32 : decode cX6_orderAt 32 = .ok (.ifCond .ne 7, 3) := by decide +kernel
theorem dX6_orderAt_35 : decode cX6_orderAt 35 = .ok (.iconst 1, 1) := by decide +kernel
theorem dX6_orderAt_36 : decode cX6_orderAt 36 = .ok (.goto 4, 3) := by decide +kernel
theorem dX6_orderAt_39 : decode cX6_orderAt 39 = .ok (.iconst 0, 1) := by decide +kernel
theorem dX6_orderAt_40 : decode cX6_orderAt 40 = .ok (.iconst 1, 1) := by decide +kernel
theorem dX6_orderAt_41 : decode cX6_orderAt 41 = .ok (.invokevirtual 174, 3) := by decide +kernel
theorem dX6_orderAt_44 : decode cX6_orderAt 44 = .ok (.ifCond .eq 7, 3) := by decide +kernel
theorem dX6_orderAt_47 : decode cX6_orderAt 47 = .ok (.iconst 0, 1) := by decide +kernel
theorem dX6_orderAt_48 : decode cX6_orderAt 48 = .ok (.goto 19, 3) := by decide +kernel
theorem dX6_orderAt_51 : decode cX6_orderAt 51 = .ok (.aload_n 0, 1) := by decide +kernel
theorem dX6_orderAt_52 : decode cX6_orderAt 52 = .ok (.getfield 17, 3) := by decide +kernel
theorem dX6_orderAt_55 : decode cX6_orderAt 55 = .ok (.iload_n 1, 1) := by decide +kernel
theorem dX6_orderAt_56 : decode cX6_orderAt 56 = .ok (.invokestatic 158, 3) := by decide +kernel
theorem dX6_orderAt_59 : decode cX6_orderAt 59 = .ok (.iconst 3, 1) := by decide +kernel
theorem dX6_orderAt_60 : decode cX6_orderAt 60 = .ok (.iadd, 1) := by decide +kernel
theorem dX6_orderAt_61 : decode cX6_orderAt 61 = .ok (.iload_n 2, 1) := by decide +kernel
theorem dX6_orderAt_62 : decode cX6_orderAt 62 = .ok (.iadd, 1) := by decide +kernel
theorem dX6_orderAt_63 : decode cX6_orderAt 63 = .ok (.iaload, 1) := by decide +kernel
theorem dX6_orderAt_64 : decode cX6_orderAt 64 = .ok (.invokestatic 282, 3) := by decide +kernel
theorem dX6_orderAt_67 : decode cX6_orderAt 67 = .ok (.ireturn, 1) := by decide +kernel
theorem dX6_start_0 : decode cX6_start 0 = .ok (.aload_n 0, 1) := by decide +kernel
theorem dX6_start_1 : decode cX6_start 1 = .ok (.iconst 0, 1) := by decide +kernel
theorem dX6_start_2 : decode cX6_start 2 = .ok (.putfield 51, 3) := by decide +kernel
theorem dX6_start_5 : decode cX6_start 5 = .ok (.aload_n 0, 1) := by decide +kernel
theorem dX6_start_6 : decode cX6_start 6 = .ok (.iload_n 1, 1) := by decide +kernel
theorem dX6_start_7 : decode cX6_start 7 = .ok (.iload_n 2, 1) := by decide +kernel
theorem dX6_start_8 : decode cX6_start 8 = .ok (.invokevirtual 275, 3) := by decide +kernel
theorem dX6_start_11 : decode cX6_start 11 = .ok (.ifCond .ne 10, 3) := by decide +kernel
theorem dX6_start_14 : decode cX6_start 14 = .ok (.aload_n 0, 1) := by decide +kernel
theorem dX6_start_15 : decode cX6_start 15 = .ok (.invokevirtual 217, 3) := by decide +kernel
theorem dX6_start_18 : decode cX6_start 18 = .ok (.ifCond .ne 7, 3) := by decide +kernel
theorem dX6_start_21 : decode cX6_start 21 = .ok (.iconst 0, 1) := by decide +kernel
theorem dX6_start_22 : decode cX6_start 22 = .ok (.goto 14, 3) := by decide +kernel
theorem dX6_start_25 : decode cX6_start 25 = .ok (.aload_n 0, 1) := by decide +kernel
theorem dX6_start_26 : decode cX6_start 26 = .ok (.getfield 37, 3) := by decide +kernel
theorem dX6_start_29 : decode cX6_start 29 = .ok (.bipush 6, 2) := by decide +kernel
theorem dX6_start_31 : decode cX6_start 31 = .ok (.iload_n 1, 1) := by decide +kernel
theorem dX6_start_32 : decode cX6_start 32 = .ok (.imul, 1) := by decide +kernel
theorem dX6_start_33 : decode cX6_start 33 = .ok (.iload_n 2, 1) := by decide +kernel
theorem dX6_start_34 : decode cX6_start 34 = .ok (.iadd, 1) := by decide +kernel
theorem dX6_start_35 : decode cX6_start 35 = .ok (.iaload, 1) := by decide +kernel
theorem dX6_start_36 : decode cX6_start 36 = .ok (.ireturn, 1) := by decide +kernel
theorem dX6_leave_0 : decode cX6_leave 0 = .ok (.aload_n 0, 1) := by decide +kernel
theorem dX6_leave_1 : decode cX6_leave 1 = .ok (.iconst 0, 1) := by decide +kernel
theorem dX6_leave_2 : decode cX6_leave 2 = .ok (.putfield 51, 3) := by decide +kernel
theorem dX6_leave_5 : decode cX6_leave 5 = .ok (.aload_n 0, 1) := by decide +kernel
theorem dX6_leave_6 : decode cX6_leave 6 = .ok (.iload_n 1, 1) := by decide +kernel
theorem dX6_leave_7 : decode cX6_leave 7 = .ok (.iload_n 2, 1) := by decide +kernel
theorem dX6_leave_8 : decode cX6_leave 8 = .ok (.invokevirtual 275, 3) := by decide +kernel
theorem dX6_leave_11 : decode cX6_leave 11 = .ok (.ifCond .ne 10, 3) := by decide +kernel
theorem dX6_leave_14 : decode cX6_leave 14 = .ok (.aload_n 0, 1) := by decide +kernel
theorem dX6_leave_15 : decode cX6_leave 15 = .ok (.invokevirtual 217, 3) := by decide +kernel
theorem dX6_leave_18 : decode cX6_leave 18 = .ok (.ifCond .ne 7, 3) := by decide +kernel
theorem dX6_leave_21 : decode cX6_leave 21 = .ok (.iconst 0, 1) := by decide +kernel
theorem dX6_leave_22 : decode cX6_leave 22 = .ok (.goto 13, 3) := by decide +kernel
theorem dX6_leave_25 : decode cX6_leave 25 = .ok (.aload_n 0, 1) := by decide +kernel
theorem dX6_leave_26 : decode cX6_leave 26 = .ok (.bipush 6, 2) := by decide +kernel
theorem dX6_leave_28 : decode cX6_leave 28 = .ok (.iload_n 1, 1) := by decide +kernel
theorem dX6_leave_29 : decode cX6_leave 29 = .ok (.imul, 1) := by decide +kernel
theorem dX6_leave_30 : decode cX6_leave 30 = .ok (.iload_n 2, 1) := by decide +kernel
theorem dX6_leave_31 : decode cX6_leave 31 = .ok (.iadd, 1) := by decide +kernel
theorem dX6_leave_32 : decode cX6_leave 32 = .ok (.invokevirtual 285, 3) := by decide +kernel
theorem dX6_leave_35 : decode cX6_leave 35 = .ok (.ireturn, 1) := by decide +kernel
theorem dX6_completion_0 : decode cX6_completion 0 = .ok (.aload_n 0, 1) := by decide +kernel
theorem dX6_completion_1 : decode cX6_completion 1 = .ok (.iconst 0, 1) := by decide +kernel
theorem dX6_completion_2 : decode cX6_completion 2 = .ok (.putfield 51, 3) := by decide +kernel
theorem dX6_completion_5 : decode cX6_completion 5 = .ok (.aload_n 0, 1) := by decide +kernel
theorem dX6_completion_6 : decode cX6_completion 6 = .ok (.iload_n 1, 1) := by decide +kernel
theorem dX6_completion_7 : decode cX6_completion 7 = .ok (.invokevirtual 269, 3) := by decide +kernel
theorem dX6_completion_10 : decode cX6_completion 10 = .ok (.ifCond .ne 10, 3) := by decide +kernel
theorem dX6_completion_13 : decode cX6_completion 13 = .ok (.aload_n 0, 1) := by decide +kernel
theorem dX6_completion_14 : decode cX6_completion 14 = .ok (.invokevirtual 217, 3) := by decide +kernel
theorem dX6_completion_17 : decode cX6_completion 17 = .ok (.ifCond .ne 7, 3) := by decide +kernel
theorem dX6_completion_20 : decode cX6_completion 20 = .ok (.iconst 0, 1) := by decide +kernel
theorem dX6_completion_21 : decode cX6_completion 21 = .ok (.goto 8, 3) := by decide +kernel
theorem dX6_completion_24 : decode cX6_completion 24 = .ok (.aload_n 0, 1) := by decide +kernel
theorem dX6_completion_25 : decode cX6_completion 25 = .ok (.iload_n 1, 1) := by decide +kernel
theorem dX6_completion_26 : decode cX6_completion 26 = .ok (.invokevirtual 223, 3) := by decide +kernel
theorem dX6_completion_29 : decode cX6_completion 29 = .ok (.ireturn, 1) := by decide +kernel
theorem dX6_spanNow_0 : decode cX6_spanNow 0 = .ok (.aload_n 0, 1) := by decide +kernel
theorem dX6_spanNow_1 : decode cX6_spanNow 1 = .ok (.invokevirtual 217, 3) := by decide +kernel
theorem dX6_spanNow_4 : decode cX6_spanNow 4 = .ok (.ifCond .eq 10, 3) := by decide +kernel
theorem dX6_spanNow_7 : decode cX6_spanNow 7 = .ok (.aload_n 0, 1) := by decide +kernel
theorem dX6_spanNow_8 : decode cX6_spanNow 8 = .ok (.invokevirtual 247, 3) := by decide +kernel
