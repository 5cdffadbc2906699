theorem dX0_init_0 : decode cX0_init 0 = .ok (.aload_n 0, 1) := by decide +kernel
theorem dX0_init_1 : decode cX0_init 1 = .ok (.invokespecial 1, 3) := by decide +kernel
theorem dX0_init_4 : decode cX0_init 4 = .ok (.aload_n 0, 1) := by decide +kernel
theorem dX0_init_5 : decode cX0_init 5 = .ok (.bipush 11, 2) := by decide +kernel
theorem dX0_init_7 : decode cX0_init 7 = .ok (.newarray .int, 2) := by decide +kernel
theorem dX0_init_9 : decode cX0_init 9 = .ok (.putfield 9, 3) := by decide +kernel
theorem dX0_init_12 : decode cX0_init 12 = .ok (.return_, 1) := by decide +kernel
theorem dX0_evaluate_0 : decode cX0_evaluate 0 = .ok (.iconst 0, 1) := by decide +kernel
theorem dX0_evaluate_1 : decode cX0_evaluate 1 = .ok (.istore 4, 2) := by decide +kernel
theorem dX0_evaluate_3 : decode cX0_evaluate 3 = .ok (.iconst 0, 1) := by decide +kernel
theorem dX0_evaluate_4 : decode cX0_evaluate 4 = .ok (.istore 5, 2) := by decide +kernel
theorem dX0_evaluate_6 : decode cX0_evaluate 6 = .ok (.iload 5, 2) := by decide +kernel
theorem dX0_evaluate_8 : decode cX0_evaluate 8 = .ok (.aload_n 1, 1) := by decide +kernel
theorem dX0_evaluate_9 : decode cX0_evaluate 9 = .ok (.getfield 13, 3) := by decide +kernel
theorem dX0_evaluate_12 : decode cX0_evaluate 12 = .ok (.arraylength, 1) := by decide +kernel
theorem dX0_evaluate_13 : decode cX0_evaluate 13 = .ok (.if_icmp .ge 106, 3) := by decide +kernel
theorem dX0_evaluate_16 : decode cX0_evaluate 16 = .ok (.aload_n 1, 1) := by decide +kernel
theorem dX0_evaluate_17 : decode cX0_evaluate 17 = .ok (.getfield 13, 3) := by decide +kernel
theorem dX0_evaluate_20 : decode cX0_evaluate 20 = .ok (.iload 5, 2) := by decide +kernel
theorem dX0_evaluate_22 : decode cX0_evaluate 22 = .ok (.iaload, 1) := by decide +kernel
theorem dX0_evaluate_23 : decode cX0_evaluate 23 = .ok (.istore 6, 2) := by decide +kernel
theorem dX0_evaluate_25 : decode cX0_evaluate 25 = .ok (.iload 6, 2) := by decide +kernel
theorem dX0_evaluate_27 : decode cX0_evaluate 27 = .ok (.bipush (-5), 2) := by decide +kernel
theorem dX0_evaluate_29 : decode cX0_evaluate 29 = .ok (.if_icmp .gt 52, 3) := by decide +kernel
theorem dX0_evaluate_32 : decode cX0_evaluate 32 = .ok (.iload 4, 2) := by decide +kernel
theorem dX0_evaluate_34 : decode cX0_evaluate 34 = .ok (.iconst 2, 1) := by decide +kernel
theorem dX0_evaluate_35 : decode cX0_evaluate 35 = .ok (.if_icmp .lt 46, 3) := by decide +kernel
theorem dX0_evaluate_38 : decode cX0_evaluate 38 = .ok (.aload_n 0, 1) := by decide +kernel
theorem dX0_evaluate_39 : decode cX0_evaluate 39 = .ok (.getfield 9, 3) := by decide +kernel
theorem dX0_evaluate_42 : decode cX0_evaluate 42 = .ok (.iload 4, 2) := by decide +kernel
theorem dX0_evaluate_44 : decode cX0_evaluate 44 = .ok (.iconst 2, 1) := by decide +kernel
theorem dX0_evaluate_45 : decode cX0_evaluate 45 = .ok (.isub, 1) := by decide +kernel
theorem dX0_evaluate_46 : decode cX0_evaluate 46 = .ok (.iload 6, 2) := by decide +kernel
theorem dX0_evaluate_48 : decode cX0_evaluate 48 = .ok (.aload_n 0, 1) := by decide +kernel
theorem dX0_evaluate_49 : decode cX0_evaluate 49 = .ok (.getfield 9, 3) := by decide +kernel
theorem dX0_evaluate_52 : decode cX0_evaluate 52 = .ok (.iload 4, 2) := by decide +kernel
theorem dX0_evaluate_54 : decode cX0_evaluate 54 = .ok (.iconst 2, 1) := by decide +kernel
theorem dX0_evaluate_55 : decode cX0_evaluate 55 = .ok (.isub, 1) := by decide +kernel
theorem dX0_evaluate_56 : decode cX0_evaluate 56 = .ok (.iaload, 1) := by decide +kernel
theorem dX0_evaluate_57 : decode cX0_evaluate 57 = .ok (.i2l, 1) := by decide +kernel
theorem dX0_evaluate_58 : decode cX0_evaluate 58 = .ok (.aload_n 0, 1) := by decide +kernel
theorem dX0_evaluate_59 : decode cX0_evaluate 59 = .ok (.getfield 9, 3) := by decide +kernel
theorem dX0_evaluate_62 : decode cX0_evaluate 62 = .ok (.iload 4, 2) := by decide +kernel
theorem dX0_evaluate_64 : decode cX0_evaluate 64 = .ok (.iconst 1, 1) := by decide +kernel
theorem dX0_evaluate_65 : decode cX0_evaluate 65 = .ok (.isub, 1) := by decide +kernel
theorem dX0_evaluate_66 : decode cX0_evaluate 66 = .ok (.iaload, 1) := by decide +kernel
theorem dX0_evaluate_67 : decode cX0_evaluate 67 = .ok (.i2l, 1) := by decide +kernel
theorem dX0_evaluate_68 : decode cX0_evaluate 68 = .ok (.invokestatic 18, 3) := by decide +kernel
theorem dX0_evaluate_71 : decode cX0_evaluate 71 = .ok (.invokestatic 22, 3) := by decide +kernel
theorem dX0_evaluate_74 : decode cX0_evaluate 74 = .ok (.iastore, 1) := by decide +kernel
theorem dX0_evaluate_75 : decode cX0_evaluate 75 = .ok (.iinc 4 (-1), 3) := by decide +kernel
theorem dX0_evaluate_78 : decode cX0_evaluate 78 = .ok (.goto 35, 3) := by decide +kernel
theorem dX0_evaluate_81 : decode cX0_evaluate 81 = .ok (.iload 6, 2) := by decide +kernel
theorem dX0_evaluate_83 : decode cX0_evaluate 83 = .ok (.bipush (-5), 2) := by decide +kernel
theorem dX0_evaluate_85 : decode cX0_evaluate 85 = .ok (.if_icmp .le 28, 3) := by decide +kernel
theorem dX0_evaluate_88 : decode cX0_evaluate 88 = .ok (.iload 4, 2) := by decide +kernel
theorem dX0_evaluate_90 : decode cX0_evaluate 90 = .ok (.bipush 11, 2) := by decide +kernel
theorem dX0_evaluate_92 : decode cX0_evaluate 92 = .ok (.if_icmp .ge 21, 3) := by decide +kernel
theorem dX0_evaluate_95 : decode cX0_evaluate 95 = .ok (.aload_n 0, 1) := by decide +kernel
theorem dX0_evaluate_96 : decode cX0_evaluate 96 = .ok (.getfield 9, 3) := by decide +kernel
theorem dX0_evaluate_99 : decode cX0_evaluate 99 = .ok (.iload 4, 2) := by decide +kernel
theorem dX0_evaluate_101 : decode cX0_evaluate 101 = .ok (.iload 6, 2) := by decide +kernel
theorem dX0_evaluate_103 : decode cX0_evaluate 103 = .ok (.aload_n 1, 1) := by decide +kernel
theorem dX0_evaluate_104 : decode cX0_evaluate 104 = .ok (.iload_n 2, 1) := by decide +kernel
theorem dX0_evaluate_105 : decode cX0_evaluate 105 = .ok (.iload_n 3, 1) := by decide +kernel
theorem dX0_evaluate_106 : decode cX0_evaluate 106 = .ok (.invokestatic 26, 3) := by decide +kernel
theorem dX0_evaluate_109 : decode cX0_evaluate 109 = .ok (.iastore, 1) := by decide +kernel
theorem dX0_evaluate_110 : decode cX0_evaluate 110 = .ok (.iinc 4 1, 3) := by decide +kernel
theorem dX0_evaluate_113 : decode cX0_evaluate 113 = .ok (.iinc 5 1, 3) := by decide +kernel
theorem dX0_evaluate_116 : decode cX0_evaluate 116 = .ok (.goto (-110), 3) := by decide +kernel
theorem dX0_evaluate_119 : decode cX0_evaluate 119 = .ok (.aload_n 0, 1) := by decide +kernel
theorem dX0_evaluate_120 : decode cX0_evaluate 120 = .ok (.getfield 9, 3) := by decide +kernel
theorem dX0_evaluate_123 : decode cX0_evaluate 123 = .ok (.iconst 0, 1) := by decide +kernel
theorem dX0_evaluate_124 : decode cX0_evaluate 124 = .ok (.iaload, 1) := by decide +kernel
theorem dX0_evaluate_125 : decode cX0_evaluate 125 = .ok (.ireturn, 1) := by decide +kernel
theorem dX0_valueOf_0 : decode cX0_valueOf 0 = .ok (.iload_n 0, 1) := by decide +kernel
theorem dX0_valueOf_1 : decode cX0_valueOf 1 = .ok (.tableswitch 54 (-4) (-1) #[47, 40, 33, 31], 31) := by decide +kernel
theorem dX0_valueOf_32 : decode cX0_valueOf 32 = .ok (.iload_n 3, 1) := by decide +kernel
theorem dX0_valueOf_33 : decode cX0_valueOf 33 = .ok (.ireturn, 1) := by decide +kernel
theorem dX0_valueOf_34 : decode cX0_valueOf 34 = .ok (.aload_n 1, 1) := by decide +kernel
theorem dX0_valueOf_35 : decode cX0_valueOf 35 = .ok (.getfield 30, 3) := by decide +kernel
theorem dX0_valueOf_38 : decode cX0_valueOf 38 = .ok (.iload_n 2, 1) := by decide +kernel
theorem dX0_valueOf_39 : decode cX0_valueOf 39 = .ok (.iaload, 1) := by decide +kernel
theorem dX0_valueOf_40 : decode cX0_valueOf 40 = .ok (.ireturn, 1) := by decide +kernel
theorem dX0_valueOf_41 : decode cX0_valueOf 41 = .ok (.aload_n 1, 1) := by decide +kernel
theorem dX0_valueOf_42 : decode cX0_valueOf 42 = .ok (.getfield 33, 3) := by decide +kernel
theorem dX0_valueOf_45 : decode cX0_valueOf 45 = .ok (.iload_n 2, 1) := by decide +kernel
theorem dX0_valueOf_46 : decode cX0_valueOf 46 = .ok (.iaload, 1) := by decide +kernel
theorem dX0_valueOf_47 : decode cX0_valueOf 47 = .ok (.ireturn, 1) := by decide +kernel
theorem dX0_valueOf_48 : decode cX0_valueOf 48 = .ok (.aload_n 1, 1) := by decide +kernel
theorem dX0_valueOf_49 : decode cX0_valueOf 49 = .ok (.getfield 36, 3) := by decide +kernel
theorem dX0_valueOf_52 : decode cX0_valueOf 52 = .ok (.iload_n 2, 1) := by decide +kernel
theorem dX0_valueOf_53 : decode cX0_valueOf 53 = .ok (.iaload, 1) := by decide +kernel
theorem dX0_valueOf_54 : decode cX0_valueOf 54 = .ok (.ireturn, 1) := by decide +kernel
theorem dX0_valueOf_55 : decode cX0_valueOf 55 = .ok (.iload_n 0, 1) := by decide +kernel
theorem dX0_valueOf_56 : decode cX0_valueOf 56 = .ok (.ireturn, 1) := by decide +kernel
theorem dX0_apply_0 : decode cX0_apply 0 = .ok (.iload_n 0, 1) := by decide +kernel
theorem dX0_apply_1 : decode cX0_apply 1 = .ok (.tableswitch 39 (-7) (-5) #[35, 31, 27], 27) := by decide +kernel
theorem dX0_apply_28 : decode cX0_apply 28 = .ok (.lload_n 1, 1) := by decide +kernel
theorem dX0_apply_29 : decode cX0_apply 29 = .ok (.lload_n 3, 1) := by decide +kernel
theorem dX0_apply_30 : decode cX0_apply 30 = .ok (.ladd, 1) := by decide +kernel
theorem dX0_apply_31 : decode cX0_apply 31 = .ok (.lreturn, 1) := by decide +kernel
theorem dX0_apply_32 : decode cX0_apply 32 = .ok (.lload_n 1, 1) := by decide +kernel
theorem dX0_apply_33 : decode cX0_apply 33 = .ok (.lload_n 3, 1) := by decide +kernel
theorem dX0_apply_34 : decode cX0_apply 34 = .ok (.lsub, 1) := by decide +kernel
theorem dX0_apply_35 : decode cX0_apply 35 = .ok (.lreturn, 1) := by decide +kernel
theorem dX0_apply_36 : decode cX0_apply 36 = .ok (.lload_n 1, 1) := by decide +kernel
theorem dX0_apply_37 : decode cX0_apply 37 = .ok (.lload_n 3, 1) := by decide +kernel
theorem dX0_apply_38 : decode cX0_apply 38 = .ok (.lmul, 1) := by decide +kernel
theorem dX0_apply_39 : decode cX0_apply 39 = .ok (.lreturn, 1) := by decide +kernel
theorem dX0_apply_40 : decode cX0_apply 40 = .ok (.lload_n 3, 1) := by decide +kernel
theorem dX0_apply_41 : decode cX0_apply 41 = .ok (.lconst 0, 1) := by decide +kernel
theorem dX0_apply_42 : decode cX0_apply 42 = .ok (.lcmp, 1) := by decide +kernel
theorem dX0_apply_43 : decode cX0_apply 43 = .ok (.ifCond .ne 7, 3) := by decide +kernel
theorem dX0_apply_46 : decode cX0_apply 46 = .ok (.lconst 0, 1) := by decide +kernel
theorem dX0_apply_47 : decode cX0_apply 47 = .ok (.goto 6, 3) := by decide +kernel
theorem dX0_apply_50 : decode cX0_apply 50 = .ok (.lload_n 1, 1) := by decide +kernel
theorem dX0_apply_51 : decode cX0_apply 51 = .ok (.lload_n 3, 1) := by decide +kernel
theorem dX0_apply_52 : decode cX0_apply 52 = .ok (.ldiv, 1) := by decide +kernel
theorem dX0_apply_53 : decode cX0_apply 53 = .ok (.lreturn, 1) := by decide +kernel
theorem dX0_limit_0 : decode cX0_limit 0 = .ok (.lload_n 0, 1) := by decide +kernel
theorem dX0_limit_1 : decode cX0_limit 1 = .ok (.ldc2_w 39, 3) := by decide +kernel
theorem dX0_limit_4 : decode cX0_limit 4 = .ok (.lcmp, 1) := by decide +kernel
theorem dX0_limit_5 : decode cX0_limit 5 = .ok (.ifCond .le 6, 3) := by decide +kernel
theorem dX0_limit_8 : decode cX0_limit 8 = .ok (.ldc 41, 2) := by decide +kernel
theorem dX0_limit_10 : decode cX0_limit 10 = .ok (.ireturn, 1) := by decide +kernel
theorem dX0_limit_11 : decode cX0_limit 11 = .ok (.lload_n 0, 1) := by decide +kernel
theorem dX0_limit_12 : decode cX0_limit 12 = .ok (.ldc2_w 42, 3) := by decide +kernel
theorem dX0_limit_15 : decode cX0_limit 15 = .ok (.lcmp, 1) := by decide +kernel
theorem dX0_limit_16 : decode cX0_limit 16 = .ok (.ifCond .ge 8, 3) := by decide +kernel
theorem dX0_limit_19 : decode cX0_limit 19 = .ok (.ldc 44, 2) := by decide +kernel
theorem dX0_limit_21 : decode cX0_limit 21 = .ok (.goto 5, 3) := by decide +kernel
theorem dX0_limit_24 : decode cX0_limit 24 = .ok (.lload_n 0, 1) := by decide +kernel
theorem dX0_limit_25 : decode cX0_limit 25 = .ok (.l2i, 1) := by decide +kernel
theorem dX0_limit_26 : decode cX0_limit 26 = .ok (.ireturn, 1) := by decide +kernel
theorem dX1_init_0 : decode cX1_init 0 = .ok (.aload_n 0, 1) := by decide +kernel
theorem dX1_init_1 : decode cX1_init 1 = .ok (.invokespecial 3, 3) := by decide +kernel
theorem dX1_init_4 : decode cX1_init 4 = .ok (.aload_n 0, 1) := by decide +kernel
theorem dX1_init_5 : decode cX1_init 5 = .ok (.bipush 36, 2) := by decide +kernel
theorem dX1_init_7 : decode cX1_init 7 = .ok (.newarray .int, 2) := by decide +kernel
theorem dX1_init_9 : decode cX1_init 9 = .ok (.putfield 9, 3) := by decide +kernel
theorem dX1_init_12 : decode cX1_init 12 = .ok (.aload_n 0, 1) := by decide +kernel
theorem dX1_init_13 : decode cX1_init 13 = .ok (.bipush 36, 2) := by decide +kernel
theorem dX1_init_15 : decode cX1_init 15 = .ok (.newarray .int, 2) := by decide +kernel
theorem dX1_init_17 : decode cX1_init 17 = .ok (.putfield 15, 3) := by decide +kernel
theorem dX1_init_20 : decode cX1_init 20 = .ok (.aload_n 0, 1) := by decide +kernel
theorem dX1_init_21 : decode cX1_init 21 = .ok (.aload_n 1, 1) := by decide +kernel
theorem dX1_init_22 : decode cX1_init 22 = .ok (.putfield 18, 3) := by decide +kernel
theorem dX1_init_25 : decode cX1_init 25 = .ok (.return_, 1) := by decide +kernel
theorem dX1_copyFrom_0 : decode cX1_copyFrom 0 = .ok (.aload_n 0, 1) := by decide +kernel
theorem dX1_copyFrom_1 : decode cX1_copyFrom 1 = .ok (.aload_n 1, 1) := by decide +kernel
theorem dX1_copyFrom_2 : decode cX1_copyFrom 2 = .ok (.getfield 18, 3) := by decide +kernel
theorem dX1_copyFrom_5 : decode cX1_copyFrom 5 = .ok (.putfield 18, 3) := by decide +kernel
theorem dX1_copyFrom_8 : decode cX1_copyFrom 8 = .ok (.aload_n 1, 1) := by decide +kernel
theorem dX1_copyFrom_9 : decode cX1_copyFrom 9 = .ok (.getfield 9, 3) := by decide +kernel
theorem dX1_copyFrom_12 : decode cX1_copyFrom 12 = .ok (.iconst 0, 1) := by decide +kernel
theorem dX1_copyFrom_13 : decode cX1_copyFrom 13 = .ok (.aload_n 0, 1) := by decide +kernel
theorem dX1_copyFrom_14 : decode cX1_copyFrom 14 = .ok (.getfield 9, 3) := by decide +kernel
theorem dX1_copyFrom_17 : decode cX1_copyFrom 17 = .ok (.iconst 0, 1) := by decide +kernel
theorem dX1_copyFrom_18 : decode cX1_copyFrom 18 = .ok (.bipush 36, 2) := by decide +kernel
theorem dX1_copyFrom_20 : decode cX1_copyFrom 20 = .ok (.invokestatic 22, 3) := by decide +kernel
theorem dX1_copyFrom_23 : decode cX1_copyFrom 23 = .ok (.aload_n 1, 1) := by decide +kernel
theorem dX1_copyFrom_24 : decode cX1_copyFrom 24 = .ok (.getfield 15, 3) := by decide +kernel
theorem dX1_copyFrom_27 : decode cX1_copyFrom 27 = .ok (.iconst 0, 1) := by decide +kernel
theorem dX1_copyFrom_28 : decode cX1_copyFrom 28 = .ok (.aload_n 0, 1) := by decide +kernel
theorem dX1_copyFrom_29 : decode cX1_copyFrom 29 = .ok (.getfield 15, 3) := by decide +kernel
theorem dX1_copyFrom_32 : decode cX1_copyFrom 32 = .ok (.iconst 0, 1) := by decide +kernel
theorem dX1_copyFrom_33 : decode cX1_copyFrom 33 = .ok (.bipush 36, 2) := by decide +kernel
theorem dX1_copyFrom_35 : decode cX1_copyFrom 35 = .ok (.invokestatic 22, 3) := by decide +kernel
theorem dX1_copyFrom_38 : decode cX1_copyFrom 38 = .ok (.return_, 1) := by decide +kernel
theorem dX1_begin_0 : decode cX1_begin 0 = .ok (.aload_n 0, 1) := by decide +kernel
theorem dX1_begin_1 : decode cX1_begin 1 = .ok (.aload_n 1, 1) := by decide +kernel
theorem dX1_begin_2 : decode cX1_begin 2 = .ok (.putfield 18, 3) := by decide +kernel
theorem dX1_begin_5 : decode cX1_begin 5 = .ok (.aload_n 1, 1) := by decide +kernel
theorem dX1_begin_6 : decode cX1_begin 6 = .ok (.getfield 28, 3) := by decide +kernel
theorem dX1_begin_9 : decode cX1_begin 9 = .ok (.iconst 0, 1) := by decide +kernel
theorem dX1_begin_10 : decode cX1_begin 10 = .ok (.aload_n 0, 1) := by decide +kernel
theorem dX1_begin_11 : decode cX1_begin 11 = .ok (.getfield 9, 3) := by decide +kernel
theorem dX1_begin_14 : decode cX1_begin 14 = .ok (.iconst 0, 1) := by decide +kernel
theorem dX1_begin_15 : decode cX1_begin 15 = .ok (.bipush 36, 2) := by decide +kernel
theorem dX1_begin_17 : decode cX1_begin 17 = .ok (.invokestatic 22, 3) := by decide +kernel
theorem dX1_begin_20 : decode cX1_begin 20 = .ok (.aload_n 0, 1) := by decide +kernel
theorem dX1_begin_21 : decode cX1_begin 21 = .ok (.invokevirtual 33, 3) := by decide +kernel
theorem dX1_begin_24 : decode cX1_begin 24 = .ok (.return_, 1) := by decide +kernel
theorem dX1_setFirstOrders_0 : decode cX1_setFirstOrders 0 = .ok (.iconst 0, 1) := by decide +kernel
theorem dX1_setFirstOrders_1 : decode cX1_setFirstOrders 1 = .ok (.istore_n 1, 1) := by decide +kernel
theorem dX1_setFirstOrders_2 : decode cX1_setFirstOrders 2 = .ok (.iload_n 1, 1) := by decide +kernel
theorem dX1_setFirstOrders_3 : decode cX1_setFirstOrders 3 = .ok (.aload_n 0, 1) := by decide +kernel
theorem dX1_setFirstOrders_4 : decode cX1_setFirstOrders 4 = .ok (.getfield 18, 3) := by decide +kernel
theorem dX1_setFirstOrders_7 : decode cX1_setFirstOrders 7 = .ok (.getfield 36, 3) := by decide +kernel
theorem dX1_setFirstOrders_10 : decode cX1_setFirstOrders 10 = .ok (.if_icmp .ge 14, 3) := by decide +kernel
theorem dX1_setFirstOrders_13 : decode cX1_setFirstOrders 13 = .ok (.aload_n 0, 1) := by decide +kernel
theorem dX1_setFirstOrders_14 : decode cX1_setFirstOrders 14 = .ok (.iload_n 1, 1) := by decide +kernel
theorem dX1_setFirstOrders_15 : decode cX1_setFirstOrders 15 = .ok (.invokevirtual 40, 3) := by decide +kernel
theorem dX1_setFirstOrders_18 : decode cX1_setFirstOrders 18 = .ok (.iinc 1 1, 3) := by decide +kernel
theorem dX1_setFirstOrders_21 : decode cX1_setFirstOrders 21 = .ok (.goto (-19), 3) := by decide +kernel
theorem dX1_setFirstOrders_24 : decode cX1_setFirstOrders 24 = .ok (.return_, 1) := by decide +kernel
theorem dX1_setFirstOrder_0 : decode cX1_setFirstOrder 0 = .ok (.iconst 0, 1) := by decide +kernel
theorem dX1_setFirstOrder_1 : decode cX1_setFirstOrder 1 = .ok (.istore_n 2, 1) := by decide +kernel
theorem dX1_setFirstOrder_2 : decode cX1_setFirstOrder 2 = .ok (.iconst 0, 1) := by decide +kernel
theorem dX1_setFirstOrder_3 : decode cX1_setFirstOrder 3 = .ok (.istore_n 3, 1) := by decide +kernel
theorem dX1_setFirstOrder_4 : decode cX1_setFirstOrder 4 = .ok (.iload_n 3, 1) := by decide +kernel
theorem dX1_setFirstOrder_5 : decode cX1_setFirstOrder 5 = .ok (.aload_n 0, 1) := by decide +kernel
theorem dX1_setFirstOrder_6 : decode cX1_setFirstOrder 6 = .ok (.getfield 18, 3) := by decide +kernel
theorem dX1_setFirstOrder_9 : decode cX1_setFirstOrder 9 = .ok (.getfield 44, 3) := by decide +kernel
theorem dX1_setFirstOrder_12 : decode cX1_setFirstOrder 12 = .ok (.if_icmp .ge 76, 3) := by decide +kernel
theorem dX1_setFirstOrder_15 : decode cX1_setFirstOrder 15 = .ok (.iconst 0, 1) := by decide +kernel
theorem dX1_setFirstOrder_16 : decode cX1_setFirstOrder 16 = .ok (.istore 4, 2) := by decide +kernel
theorem dX1_setFirstOrder_18 : decode cX1_setFirstOrder 18 = .ok (.iload 4, 2) := by decide +kernel
theorem dX1_setFirstOrder_20 : decode cX1_setFirstOrder 20 = .ok (.aload_n 0, 1) := by decide +kernel
theorem dX1_setFirstOrder_21 : decode cX1_setFirstOrder 21 = .ok (.getfield 18, 3) := by decide +kernel
theorem dX1_setFirstOrder_24 : decode cX1_setFirstOrder 24 = .ok (.getfield 47, 3) := by decide +kernel
theorem dX1_setFirstOrder_27 : decode cX1_setFirstOrder 27 = .ok (.iload_n 3, 1) := by decide +kernel
theorem dX1_setFirstOrder_28 : decode cX1_setFirstOrder 28 = .ok (.iaload, 1) := by decide +kernel
theorem dX1_setFirstOrder_29 : decode cX1_setFirstOrder 29 = .ok (.if_icmp .ge 53, 3) := by decide +kernel
theorem dX1_setFirstOrder_32 : decode cX1_setFirstOrder 32 = .ok (.iload_n 3, 1) := by decide +kernel
theorem dX1_setFirstOrder_33 : decode cX1_setFirstOrder 33 = .ok (.iload 4, 2) := by decide +kernel
theorem dX1_setFirstOrder_35 : decode cX1_setFirstOrder 35 = .ok (.invokestatic 50, 3) := by decide +kernel
theorem dX1_setFirstOrder_38 : decode cX1_setFirstOrder 38 = .ok (.istore 5, 2) := by decide +kernel
theorem dX1_setFirstOrder_40 : decode cX1_setFirstOrder 40 = .ok (.aload_n 0, 1) := by decide +kernel
theorem dX1_setFirstOrder_41 : decode cX1_setFirstOrder 41 = .ok (.getfield 18, 3) := by decide +kernel
theorem dX1_setFirstOrder_44 : decode cX1_setFirstOrder 44 = .ok (.getfield 54, 3) := by decide +kernel
theorem dX1_setFirstOrder_47 : decode cX1_setFirstOrder 47 = .ok (.iload 5, 2) := by decide +kernel
theorem dX1_setFirstOrder_49 : decode cX1_setFirstOrder 49 = .ok (.iaload, 1) := by decide +kernel
theorem dX1_setFirstOrder_50 : decode cX1_setFirstOrder 50 = .ok (.iload_n 1, 1) := by decide +kernel
theorem dX1_setFirstOrder_51 : decode cX1_setFirstOrder 51 = .ok (.if_icmp .ne 25, 3) := by decide +kernel
theorem dX1_setFirstOrder_54 : decode cX1_setFirstOrder 54 = .ok (.iload_n 2, 1) := by decide +kernel
theorem dX1_setFirstOrder_55 : decode cX1_setFirstOrder 55 = .ok (.bipush 6, 2) := by decide +kernel
theorem dX1_setFirstOrder_57 : decode cX1_setFirstOrder 57 = .ok (.if_icmp .ge 19, 3) := by decide +kernel
theorem dX1_setFirstOrder_60 : decode cX1_setFirstOrder 60 = .ok (.aload_n 0, 1) := by decide +kernel
theorem dX1_setFirstOrder_61 : decode cX1_setFirstOrder 61 = .ok (.getfield 15, 3) := by decide +kernel
theorem dX1_setFirstOrder_64 : decode cX1_setFirstOrder 64 = .ok (.iload_n 1, 1) := by decide +kernel
theorem dX1_setFirstOrder_65 : decode cX1_setFirstOrder 65 = .ok (.bipush 6, 2) := by decide +kernel
theorem dX1_setFirstOrder_67 : decode cX1_setFirstOrder 67 = .ok (.imul, 1) := by decide +kernel
theorem dX1_setFirstOrder_68 : decode cX1_setFirstOrder 68 = .ok (.iload_n 2, 1) := by decide +kernel
theorem dX1_setFirstOrder_69 : decode cX1_setFirstOrder 69 = .ok (.iadd, 1) := by decide +kernel
theorem dX1_setFirstOrder_70 : decode cX1_setFirstOrder 70 = .ok (.iload 5, 2) := by decide +kernel
theorem dX1_setFirstOrder_72 : decode cX1_setFirstOrder 72 = .ok (.iastore, 1) := by decide +kernel
theorem dX1_setFirstOrder_73 : decode cX1_setFirstOrder 73 = .ok (.iinc 2 1, 3) := by decide +kernel
theorem dX1_setFirstOrder_76 : decode cX1_setFirstOrder 76 = .ok (.iinc 4 1, 3) := by decide +kernel
theorem dX1_setFirstOrder_79 : decode cX1_setFirstOrder 79 = .ok (.goto (-61), 3) := by decide +kernel
theorem dX1_setFirstOrder_82 : decode cX1_setFirstOrder 82 = .ok (.iinc 3 1, 3) := by decide +kernel
theorem dX1_setFirstOrder_85 : decode cX1_setFirstOrder 85 = .ok (.goto (-81), 3) := by decide +kernel
theorem dX1_setFirstOrder_88 : decode cX1_setFirstOrder 88 = .ok (.return_, 1) := by decide +kernel
theorem dX1_positionOf_0 : decode cX1_positionOf 0 = .ok (.aload_n 0, 1) := by decide +kernel
theorem dX1_positionOf_1 : decode cX1_positionOf 1 = .ok (.getfield 18, 3) := by decide +kernel
theorem dX1_positionOf_4 : decode cX1_positionOf 4 = .ok (.getfield 54, 3) := by decide +kernel
theorem dX1_positionOf_7 : decode cX1_positionOf 7 = .ok (.iload_n 1, 1) := by decide +kernel
theorem dX1_positionOf_8 : decode cX1_positionOf 8 = .ok (.iaload, 1) := by decide +kernel
theorem dX1_positionOf_9 : decode cX1_positionOf 9 = .ok (.istore_n 2, 1) := by decide +kernel
theorem dX1_positionOf_10 : decode cX1_positionOf 10 = .ok (.iconst 0, 1) := by decide +kernel
theorem dX1_positionOf_11 : decode cX1_positionOf 11 = .ok (.istore_n 3, 1) := by decide +kernel
theorem dX1_positionOf_12 : decode cX1_positionOf 12 = .ok (.iload_n 3, 1) := by decide +kernel
theorem dX1_positionOf_13 : decode cX1_positionOf 13 = .ok (.aload_n 0, 1) := by decide +kernel
theorem dX1_positionOf_14 : decode cX1_positionOf 14 = .ok (.getfield 18, 3) := by decide +kernel
theorem dX1_positionOf_17 : decode cX1_positionOf 17 = .ok (.getfield 57, 3) := by decide +kernel
theorem dX1_positionOf_20 : decode cX1_positionOf 20 = .ok (.iload_n 2, 1) := by decide +kernel
theorem dX1_positionOf_21 : decode cX1_positionOf 21 = .ok (.iaload, 1) := by decide +kernel
theorem dX1_positionOf_22 : decode cX1_positionOf 22 = .ok (.iconst 1, 1) := by decide +kernel
theorem dX1_positionOf_23 : decode cX1_positionOf 23 = .ok (.isub, 1) := by decide +kernel
theorem dX1_positionOf_24 : decode cX1_positionOf 24 = .ok (.if_icmp .ge 24, 3) := by decide +kernel
theorem dX1_positionOf_27 : decode cX1_positionOf 27 = .ok (.aload_n 0, 1) := by decide +kernel
theorem dX1_positionOf_28 : decode cX1_positionOf 28 = .ok (.getfield 15, 3) := by decide +kernel
theorem dX1_positionOf_31 : decode cX1_positionOf 31 = .ok (.iload_n 2, 1) := by decide +kernel
theorem dX1_positionOf_32 : decode cX1_positionOf 32 = .ok (.bipush 6, 2) := by decide +kernel
theorem dX1_positionOf_34 : decode cX1_positionOf 34 = .ok (.imul, 1) := by decide +kernel
theorem dX1_positionOf_35 : decode cX1_positionOf 35 = .ok (.iload_n 3, 1) := by decide +kernel
theorem dX1_positionOf_36 : decode cX1_positionOf 36 = .ok (.iadd, 1) := by decide +kernel
theorem dX1_positionOf_37 : decode cX1_positionOf 37 = .ok (.iaload, 1) := by decide +kernel
theorem dX1_positionOf_38 : decode cX1_positionOf 38 = .ok (.iload_n 1, 1) := by decide +kernel
theorem dX1_positionOf_39 : decode cX1_positionOf 39 = .ok (.if_icmp .eq 9, 3) := by decide +kernel
theorem dX1_positionOf_42 : decode cX1_positionOf 42 = .ok (.iinc 3 1, 3) := by decide +kernel
theorem dX1_positionOf_45 : decode cX1_positionOf 45 = .ok (.goto (-33), 3) := by decide +kernel
theorem dX1_positionOf_48 : decode cX1_positionOf 48 = .ok (.iload_n 3, 1) := by decide +kernel
theorem dX1_positionOf_49 : decode cX1_positionOf 49 = .ok (.ireturn, 1) := by decide +kernel
theorem dX1_exchange_0 : decode cX1_exchange 0 = .ok (.iload_n 1, 1) := by decide +kernel
theorem dX1_exchange_1 : decode cX1_exchange 1 = .ok (.bipush 6, 2) := by decide +kernel
theorem dX1_exchange_3 : decode cX1_exchange 3 = .ok (.imul, 1) := by decide +kernel
theorem dX1_exchange_4 : decode cX1_exchange 4 = .ok (.iload_n 2, 1) := by decide +kernel
theorem dX1_exchange_5 : decode cX1_exchange 5 = .ok (.iadd, 1) := by decide +kernel
theorem dX1_exchange_6 : decode cX1_exchange 6 = .ok (.istore_n 3, 1) := by decide +kernel
theorem dX1_exchange_7 : decode cX1_exchange 7 = .ok (.aload_n 0, 1) := by decide +kernel
theorem dX1_exchange_8 : decode cX1_exchange 8 = .ok (.getfield 15, 3) := by decide +kernel
theorem dX1_exchange_11 : decode cX1_exchange 11 = .ok (.iload_n 3, 1) := by decide +kernel
theorem dX1_exchange_12 : decode cX1_exchange 12 = .ok (.iaload, 1) := by decide +kernel
theorem dX1_exchange_13 : decode cX1_exchange 13 = .ok (.istore 4, 2) := by decide +kernel
theorem dX1_exchange_15 : decode cX1_exchange 15 = .ok (.aload_n 0, 1) := by decide +kernel
theorem dX1_exchange_16 : decode cX1_exchange 16 = .ok (.getfield 15, 3) := by decide +kernel
theorem dX1_exchange_19 : decode cX1_exchange 19 = .ok (.iload_n 3, 1) := by decide +kernel
theorem dX1_exchange_20 : decode cX1_exchange 20 = .ok (.aload_n 0, 1) := by decide +kernel
theorem dX1_exchange_21 : decode cX1_exchange 21 = .ok (.getfield 15, 3) := by decide +kernel
theorem dX1_exchange_24 : decode cX1_exchange 24 = .ok (.iload_n 3, 1) := by decide +kernel
theorem dX1_exchange_25 : decode cX1_exchange 25 = .ok (.iconst 1, 1) := by decide +kernel
theorem dX1_exchange_26 : decode cX1_exchange 26 = .ok (.iadd, 1) := by decide +kernel
theorem dX1_exchange_27 : decode cX1_exchange 27 = .ok (.iaload, 1) := by decide +kernel
theorem dX1_exchange_28 : decode cX1_exchange 28 = .ok (.iastore, 1) := by decide +kernel
theorem dX1_exchange_29 : decode cX1_exchange 29 = .ok (.aload_n 0, 1) := by decide +kernel
theorem dX1_exchange_30 : decode cX1_exchange 30 = .ok (.getfield 15, 3) := by decide +kernel
theorem dX1_exchange_33 : decode cX1_exchange 33 = .ok (.iload_n 3, 1) := by decide +kernel
theorem dX1_exchange_34 : decode cX1_exchange 34 = .ok (.iconst 1, 1) := by decide +kernel
theorem dX1_exchange_35 : decode cX1_exchange 35 = .ok (.iadd, 1) := by decide +kernel
theorem dX1_exchange_36 : decode cX1_exchange 36 = .ok (.iload 4, 2) := by decide +kernel
theorem dX1_exchange_38 : decode cX1_exchange 38 = .ok (.iastore, 1) := by decide +kernel
theorem dX1_exchange_39 : decode cX1_exchange 39 = .ok (.return_, 1) := by decide +kernel
theorem dX1_move_0 : decode cX1_move 0 = .ok (.iload_n 2, 1) := by decide +kernel
theorem dX1_move_1 : decode cX1_move 1 = .ok (.istore 4, 2) := by decide +kernel
theorem dX1_move_3 : decode cX1_move 3 = .ok (.iload 4, 2) := by decide +kernel
theorem dX1_move_5 : decode cX1_move 5 = .ok (.iload_n 3, 1) := by decide +kernel
theorem dX1_move_6 : decode cX1_move 6 = .ok (.if_icmp .ge 16, 3) := by decide +kernel
theorem dX1_move_9 : decode cX1_move 9 = .ok (.aload_n 0, 1) := by decide +kernel
theorem dX1_move_10 : decode cX1_move 10 = .ok (.iload_n 1, 1) := by decide +kernel
theorem dX1_move_11 : decode cX1_move 11 = .ok (.iload 4, 2) := by decide +kernel
theorem dX1_move_13 : decode cX1_move 13 = .ok (.invokevirtual 60, 3) := by decide +kernel
theorem dX1_move_16 : decode cX1_move 16 = .ok (.iinc 4 1, 3) := by decide +kernel
theorem dX1_move_19 : decode cX1_move 19 = .ok (.goto (-16), 3) := by decide +kernel
theorem dX1_move_22 : decode cX1_move 22 = .ok (.iload_n 2, 1) := by decide +kernel
theorem dX1_move_23 : decode cX1_move 23 = .ok (.istore 4, 2) := by decide +kernel
theorem dX1_move_25 : decode cX1_move 25 = .ok (.iload 4, 2) := by decide +kernel
theorem dX1_move_27 : decode cX1_move 27 = .ok (.iload_n 3, 1) := by decide +kernel
theorem dX1_move_28 : decode cX1_move 28 = .ok (.if_icmp .le 18, 3) := by decide +kernel
theorem dX1_move_31 : decode cX1_move 31 = .ok (.aload_n 0, 1) := by decide +kernel
theorem dX1_move_32 : decode cX1_move 32 = .ok (.iload_n 1, 1) := by decide +kernel
theorem dX1_move_33 : decode cX1_move 33 = .ok (.iload 4, 2) := by decide +kernel
theorem dX1_move_35 : decode cX1_move 35 = .ok (.iconst 1, 1) := by decide +kernel
theorem dX1_move_36 : decode cX1_move 36 = .ok (.isub, 1) := by decide +kernel
theorem dX1_move_37 : decode cX1_move 37 = .ok (.invokevirtual 60, 3) := by decide +kernel
theorem dX1_move_40 : decode cX1_move 40 = .ok (.iinc 4 (-1), 3) := by decide +kernel
theorem dX1_move_43 : decode cX1_move 43 = .ok (.goto (-18), 3) := by decide +kernel
theorem dX1_move_46 : decode cX1_move 46 = .ok (.return_, 1) := by decide +kernel
theorem dX2_init_0 : decode cX2_init 0 = .ok (.aload_n 0, 1) := by decide +kernel
theorem dX2_init_1 : decode cX2_init 1 = .ok (.invokespecial 3, 3) := by decide +kernel
theorem dX2_init_4 : decode cX2_init 4 = .ok (.aload_n 0, 1) := by decide +kernel
theorem dX2_init_5 : decode cX2_init 5 = .ok (.bipush 36, 2) := by decide +kernel
theorem dX2_init_7 : decode cX2_init 7 = .ok (.newarray .int, 2) := by decide +kernel
theorem dX2_init_9 : decode cX2_init 9 = .ok (.putfield 9, 3) := by decide +kernel
theorem dX2_init_12 : decode cX2_init 12 = .ok (.aload_n 0, 1) := by decide +kernel
theorem dX2_init_13 : decode cX2_init 13 = .ok (.bipush 36, 2) := by decide +kernel
theorem dX2_init_15 : decode cX2_init 15 = .ok (.newarray .int, 2) := by decide +kernel
theorem dX2_init_17 : decode cX2_init 17 = .ok (.putfield 15, 3) := by decide +kernel
theorem dX2_init_20 : decode cX2_init 20 = .ok (.aload_n 0, 1) := by decide +kernel
theorem dX2_init_21 : decode cX2_init 21 = .ok (.bipush 36, 2) := by decide +kernel
theorem dX2_init_23 : decode cX2_init 23 = .ok (.newarray .int, 2) := by decide +kernel
theorem dX2_init_25 : decode cX2_init 25 = .ok (.putfield 18, 3) := by decide +kernel
theorem dX2_init_28 : decode cX2_init 28 = .ok (.aload_n 0, 1) := by decide +kernel
theorem dX2_init_29 : decode cX2_init 29 = .ok (.bipush 36, 2) := by decide +kernel
theorem dX2_init_31 : decode cX2_init 31 = .ok (.newarray .boolean, 2) := by decide +kernel
theorem dX2_init_33 : decode cX2_init 33 = .ok (.putfield 21, 3) := by decide +kernel
theorem dX2_init_36 : decode cX2_init 36 = .ok (.aload_n 0, 1) := by decide +kernel
theorem dX2_init_37 : decode cX2_init 37 = .ok (.bipush 36, 2) := by decide +kernel
theorem dX2_init_39 : decode cX2_init 39 = .ok (.newarray .int, 2) := by decide +kernel
theorem dX2_init_41 : decode cX2_init 41 = .ok (.putfield 25, 3) := by decide +kernel
theorem dX2_init_44 : decode cX2_init 44 = .ok (.aload_n 0, 1) := by decide +kernel
theorem dX2_init_45 : decode cX2_init 45 = .ok (.iconst 0, 1) := by decide +kernel
theorem dX2_init_46 : decode cX2_init 46 = .ok (.putfield 28, 3) := by decide +kernel
theorem dX2_init_49 : decode cX2_init 49 = .ok (.aload_n 0, 1) := by decide +kernel
theorem dX2_init_50 : decode cX2_init 50 = .ok (.new 32, 3) := by decide +kernel
theorem dX2_init_53 : decode cX2_init 53 = .ok (.dup, 1) := by decide +kernel
theorem dX2_init_54 : decode cX2_init 54 = .ok (.invokespecial 34, 3) := by decide +kernel
theorem dX2_init_57 : decode cX2_init 57 = .ok (.putfield 35, 3) := by decide +kernel
theorem dX2_init_60 : decode cX2_init 60 = .ok (.aload_n 0, 1) := by decide +kernel
theorem dX2_init_61 : decode cX2_init 61 = .ok (.new 39, 3) := by decide +kernel
theorem dX2_init_64 : decode cX2_init 64 = .ok (.dup, 1) := by decide +kernel
theorem dX2_init_65 : decode cX2_init 65 = .ok (.aload_n 1, 1) := by decide +kernel
theorem dX2_init_66 : decode cX2_init 66 = .ok (.invokespecial 41, 3) := by decide +kernel
theorem dX2_init_69 : decode cX2_init 69 = .ok (.putfield 44, 3) := by decide +kernel
theorem dX2_init_72 : decode cX2_init 72 = .ok (.return_, 1) := by decide +kernel
theorem dX2_compute_0 : decode cX2_compute 0 = .ok (.iconst 0, 1) := by decide +kernel
theorem dX2_compute_1 : decode cX2_compute 1 = .ok (.istore_n 1, 1) := by decide +kernel
theorem dX2_compute_2 : decode cX2_compute 2 = .ok (.iload_n 1, 1) := by decide +kernel
theorem dX2_compute_3 : decode cX2_compute 3 = .ok (.aload_n 0, 1) := by decide +kernel
theorem dX2_compute_4 : decode cX2_compute 4 = .ok (.getfield 44, 3) := by decide +kernel
theorem dX2_compute_7 : decode cX2_compute 7 = .ok (.getfield 48, 3) := by decide +kernel
theorem dX2_compute_10 : decode cX2_compute 10 = .ok (.getfield 52, 3) := by decide +kernel
theorem dX2_compute_13 : decode cX2_compute 13 = .ok (.if_icmp .ge 14, 3) := by decide +kernel
theorem dX2_compute_16 : decode cX2_compute 16 = .ok (.aload_n 0, 1) := by decide +kernel
theorem dX2_compute_17 : decode cX2_compute 17 = .ok (.iload_n 1, 1) := by decide +kernel
theorem dX2_compute_18 : decode cX2_compute 18 = .ok (.invokevirtual 57, 3) := by decide +kernel
theorem dX2_compute_21 : decode cX2_compute 21 = .ok (.iinc 1 1, 3) := by decide +kernel
theorem dX2_compute_24 : decode cX2_compute 24 = .ok (.goto (-22), 3) := by decide +kernel
theorem dX2_compute_27 : decode cX2_compute 27 = .ok (.aload_n 0, 1) := by decide +kernel
theorem dX2_compute_28 : decode cX2_compute 28 = .ok (.invokevirtual 61, 3) := by decide +kernel
theorem dX2_compute_31 : decode cX2_compute 31 = .ok (.istore_n 1, 1) := by decide +kernel
theorem dX2_compute_32 : decode cX2_compute 32 = .ok (.iload_n 1, 1) := by decide +kernel
theorem dX2_compute_33 : decode cX2_compute 33 = .ok (.istore_n 2, 1) := by decide +kernel
theorem dX2_compute_34 : decode cX2_compute 34 = .ok (.iconst 0, 1) := by decide +kernel
theorem dX2_compute_35 : decode cX2_compute 35 = .ok (.istore_n 3, 1) := by decide +kernel
theorem dX2_compute_36 : decode cX2_compute 36 = .ok (.iload_n 3, 1) := by decide +kernel
theorem dX2_compute_37 : decode cX2_compute 37 = .ok (.bipush 36, 2) := by decide +kernel
theorem dX2_compute_39 : decode cX2_compute 39 = .ok (.if_icmp .ge 48, 3) := by decide +kernel
theorem dX2_compute_42 : decode cX2_compute 42 = .ok (.iload_n 1, 1) := by decide +kernel
theorem dX2_compute_43 : decode cX2_compute 43 = .ok (.ifCond .le 44, 3) := by decide +kernel
theorem dX2_compute_46 : decode cX2_compute 46 = .ok (.iload_n 2, 1) := by decide +kernel
theorem dX2_compute_47 : decode cX2_compute 47 = .ok (.ifCond .le 40, 3) := by decide +kernel
theorem dX2_compute_50 : decode cX2_compute 50 = .ok (.aload_n 0, 1) := by decide +kernel
theorem dX2_compute_51 : decode cX2_compute 51 = .ok (.invokevirtual 65, 3) := by decide +kernel
theorem dX2_compute_54 : decode cX2_compute 54 = .ok (.istore_n 2, 1) := by decide +kernel
theorem dX2_compute_55 : decode cX2_compute 55 = .ok (.iload_n 2, 1) := by decide +kernel
theorem dX2_compute_56 : decode cX2_compute 56 = .ok (.ifCond .ne 21, 3) := by decide +kernel
theorem dX2_compute_59 : decode cX2_compute 59 = .ok (.aload_n 0, 1) := by decide +kernel
theorem dX2_compute_60 : decode cX2_compute 60 = .ok (.getfield 44, 3) := by decide +kernel
theorem dX2_compute_63 : decode cX2_compute 63 = .ok (.getfield 48, 3) := by decide +kernel
theorem dX2_compute_66 : decode cX2_compute 66 = .ok (.getfield 68, 3) := by decide +kernel
theorem dX2_compute_69 : decode cX2_compute 69 = .ok (.ifCond .eq 8, 3) := by decide +kernel
theorem dX2_compute_72 : decode cX2_compute 72 = .ok (.aload_n 0, 1) := by decide +kernel
theorem dX2_compute_73 : decode cX2_compute 73 = .ok (.invokevirtual 72, 3) := by decide +kernel
theorem dX2_compute_76 : decode cX2_compute 76 = .ok (.istore_n 2, 1) := by decide +kernel
theorem dX2_compute_77 : decode cX2_compute 77 = .ok (.iload_n 1, 1) := by decide +kernel
theorem dX2_compute_78 : decode cX2_compute 78 = .ok (.iload_n 2, 1) := by decide +kernel
theorem dX2_compute_79 : decode cX2_compute 79 = .ok (.isub, 1) := by decide +kernel
theorem dX2_compute_80 : decode cX2_compute 80 = .ok (.istore_n 1, 1) := by decide +kernel
theorem dX2_compute_81 : decode cX2_compute 81 = .ok (.iinc 3 1, 3) := by decide +kernel
theorem dX2_compute_84 : decode cX2_compute 84 = .ok (.goto (-48), 3) := by decide +kernel
theorem dX2_compute_87 : decode cX2_compute 87 = .ok (.iload_n 1, 1) := by decide +kernel
theorem dX2_compute_88 : decode cX2_compute 88 = .ok (.ifCond .ne 7, 3) := by decide +kernel
theorem dX2_compute_91 : decode cX2_compute 91 = .ok (.iconst 1, 1) := by decide +kernel
theorem dX2_compute_92 : decode cX2_compute 92 = .ok (.goto 4, 3) := by decide +kernel
theorem dX2_compute_95 : decode cX2_compute 95 = .ok (.iconst 0, 1) := by decide +kernel
theorem dX2_compute_96 : decode cX2_compute 96 = .ok (.ireturn, 1) := by decide +kernel
theorem dX2_setArcs_0 : decode cX2_setArcs 0 = .ok (.aload_n 0, 1) := by decide +kernel
theorem dX2_setArcs_1 : decode cX2_setArcs 1 = .ok (.getfield 44, 3) := by decide +kernel
theorem dX2_setArcs_4 : decode cX2_setArcs 4 = .ok (.getfield 48, 3) := by decide +kernel
theorem dX2_setArcs_7 : decode cX2_setArcs 7 = .ok (.astore_n 2, 1) := by decide +kernel
theorem dX2_setArcs_8 : decode cX2_setArcs 8 = .ok (.aload_n 2, 1) := by decide +kernel
theorem dX2_setArcs_9 : decode cX2_setArcs 9 = .ok (.getfield 75, 3) := by decide +kernel
theorem dX2_setArcs_12 : decode cX2_setArcs 12 = .ok (.iload_n 1, 1) := by decide +kernel
theorem dX2_setArcs_13 : decode cX2_setArcs 13 = .ok (.iaload, 1) := by decide +kernel
theorem dX2_setArcs_14 : decode cX2_setArcs 14 = .ok (.istore_n 3, 1) := by decide +kernel
theorem dX2_setArcs_15 : decode cX2_setArcs 15 = .ok (.iconst (-1), 1) := by decide +kernel
theorem dX2_setArcs_16 : decode cX2_setArcs 16 = .ok (.istore 4, 2) := by decide +kernel
theorem dX2_setArcs_18 : decode cX2_setArcs 18 = .ok (.iconst 0, 1) := by decide +kernel
theorem dX2_setArcs_19 : decode cX2_setArcs 19 = .ok (.istore 5, 2) := by decide +kernel
theorem dX2_setArcs_21 : decode cX2_setArcs 21 = .ok (.iload 5, 2) := by decide +kernel
theorem dX2_setArcs_23 : decode cX2_setArcs 23 = .ok (.aload_n 2, 1) := by decide +kernel
theorem dX2_setArcs_24 : decode cX2_setArcs 24 = .ok (.getfield 78, 3) := by decide +kernel
theorem dX2_setArcs_27 : decode cX2_setArcs 27 = .ok (.iload_n 1, 1) := by decide +kernel
theorem dX2_setArcs_28 : decode cX2_setArcs 28 = .ok (.iaload, 1) := by decide +kernel
theorem dX2_setArcs_29 : decode cX2_setArcs 29 = .ok (.if_icmp .ge 114, 3) := by decide +kernel
theorem dX2_setArcs_32 : decode cX2_setArcs 32 = .ok (.aload_n 0, 1) := by decide +kernel
theorem dX2_setArcs_33 : decode cX2_setArcs 33 = .ok (.getfield 44, 3) := by decide +kernel
theorem dX2_setArcs_36 : decode cX2_setArcs 36 = .ok (.getfield 81, 3) := by decide +kernel
theorem dX2_setArcs_39 : decode cX2_setArcs 39 = .ok (.iload_n 1, 1) := by decide +kernel
theorem dX2_setArcs_40 : decode cX2_setArcs 40 = .ok (.bipush 6, 2) := by decide +kernel
theorem dX2_setArcs_42 : decode cX2_setArcs 42 = .ok (.imul, 1) := by decide +kernel
theorem dX2_setArcs_43 : decode cX2_setArcs 43 = .ok (.iload 5, 2) := by decide +kernel
theorem dX2_setArcs_45 : decode cX2_setArcs 45 = .ok (.iadd, 1) := by decide +kernel
theorem dX2_setArcs_46 : decode cX2_setArcs 46 = .ok (.iaload, 1) := by decide +kernel
theorem dX2_setArcs_47 : decode cX2_setArcs 47 = .ok (.istore 6, 2) := by decide +kernel
theorem dX2_setArcs_49 : decode cX2_setArcs 49 = .ok (.iload 4, 2) := by decide +kernel
theorem dX2_setArcs_51 : decode cX2_setArcs 51 = .ok (.ifCond .ge 14, 3) := by decide +kernel
theorem dX2_setArcs_54 : decode cX2_setArcs 54 = .ok (.aload_n 0, 1) := by decide +kernel
theorem dX2_setArcs_55 : decode cX2_setArcs 55 = .ok (.getfield 15, 3) := by decide +kernel
theorem dX2_setArcs_58 : decode cX2_setArcs 58 = .ok (.iload 6, 2) := by decide +kernel
theorem dX2_setArcs_60 : decode cX2_setArcs 60 = .ok (.iconst (-1), 1) := by decide +kernel
theorem dX2_setArcs_61 : decode cX2_setArcs 61 = .ok (.iastore, 1) := by decide +kernel
theorem dX2_setArcs_62 : decode cX2_setArcs 62 = .ok (.goto 71, 3) := by decide +kernel
theorem dX2_setArcs_65 : decode cX2_setArcs 65 = .ok (.aload_n 2, 1) := by decide +kernel
theorem dX2_setArcs_66 : decode cX2_setArcs 66 = .ok (.getfield 84, 3) := by decide +kernel
theorem dX2_setArcs_69 : decode cX2_setArcs 69 = .ok (.iload_n 1, 1) := by decide +kernel
theorem dX2_setArcs_70 : decode cX2_setArcs 70 = .ok (.baload, 1) := by decide +kernel
theorem dX2_setArcs_71 : decode cX2_setArcs 71 = .ok (.ifCond .ne 12, 3) := by decide +kernel
theorem dX2_setArcs_74 : decode cX2_setArcs 74 = .ok (.aload_n 2, 1) := by decide +kernel
theorem dX2_setArcs_75 : decode cX2_setArcs 75 = .ok (.iload 4, 2) := by decide +kernel
theorem dX2_setArcs_77 : decode cX2_setArcs 77 = .ok (.invokevirtual 87, 3) := by decide +kernel
theorem dX2_setArcs_80 : decode cX2_setArcs 80 = .ok (.ifCond .eq 34, 3) := by decide +kernel
theorem dX2_setArcs_83 : decode cX2_setArcs 83 = .ok (.aload_n 0, 1) := by decide +kernel
theorem dX2_setArcs_84 : decode cX2_setArcs 84 = .ok (.getfield 15, 3) := by decide +kernel
theorem dX2_setArcs_87 : decode cX2_setArcs 87 = .ok (.iload 6, 2) := by decide +kernel
theorem dX2_setArcs_89 : decode cX2_setArcs 89 = .ok (.iload 4, 2) := by decide +kernel
theorem dX2_setArcs_91 : decode cX2_setArcs 91 = .ok (.iastore, 1) := by decide +kernel
theorem dX2_setArcs_92 : decode cX2_setArcs 92 = .ok (.aload_n 0, 1) := by decide +kernel
theorem dX2_setArcs_93 : decode cX2_setArcs 93 = .ok (.getfield 18, 3) := by decide +kernel
theorem dX2_setArcs_96 : decode cX2_setArcs 96 = .ok (.iload 6, 2) := by decide +kernel
theorem dX2_setArcs_98 : decode cX2_setArcs 98 = .ok (.aload_n 0, 1) := by decide +kernel
theorem dX2_setArcs_99 : decode cX2_setArcs 99 = .ok (.getfield 44, 3) := by decide +kernel
theorem dX2_setArcs_102 : decode cX2_setArcs 102 = .ok (.getfield 91, 3) := by decide +kernel
theorem dX2_setArcs_105 : decode cX2_setArcs 105 = .ok (.iload 4, 2) := by decide +kernel
theorem dX2_setArcs_107 : decode cX2_setArcs 107 = .ok (.iaload, 1) := by decide +kernel
theorem dX2_setArcs_108 : decode cX2_setArcs 108 = .ok (.iload_n 3, 1) := by decide +kernel
theorem dX2_setArcs_109 : decode cX2_setArcs 109 = .ok (.iadd, 1) := by decide +kernel
theorem dX2_setArcs_110 : decode cX2_setArcs 110 = .ok (.iastore, 1) := by decide +kernel
theorem dX2_setArcs_111 : decode cX2_setArcs 111 = .ok (.goto 22, 3) := by decide +kernel
theorem dX2_setArcs_114 : decode cX2_setArcs 114 = .ok (.aload_n 0, 1) := by decide +kernel
theorem dX2_setArcs_115 : decode cX2_setArcs 115 = .ok (.getfield 15, 3) := by decide +kernel
theorem dX2_setArcs_118 : decode cX2_setArcs 118 = .ok (.iload 6, 2) := by decide +kernel
theorem dX2_setArcs_120 : decode cX2_setArcs 120 = .ok (.iload 4, 2) := by decide +kernel
theorem dX2_setArcs_122 : decode cX2_setArcs 122 = .ok (.iconst 1, 1) := by decide +kernel
theorem dX2_setArcs_123 : decode cX2_setArcs 123 = .ok (.iadd, 1) := by decide +kernel
theorem dX2_setArcs_124 : decode cX2_setArcs 124 = .ok (.iastore, 1) := by decide +kernel
theorem dX2_setArcs_125 : decode cX2_setArcs 125 = .ok (.aload_n 0, 1) := by decide +kernel
theorem dX2_setArcs_126 : decode cX2_setArcs 126 = .ok (.getfield 18, 3) := by decide +kernel
theorem dX2_setArcs_129 : decode cX2_setArcs 129 = .ok (.iload 6, 2) := by decide +kernel
theorem dX2_setArcs_131 : decode cX2_setArcs 131 = .ok (.iload_n 3, 1) := by decide +kernel
theorem dX2_setArcs_132 : decode cX2_setArcs 132 = .ok (.iastore, 1) := by decide +kernel
theorem dX2_setArcs_133 : decode cX2_setArcs 133 = .ok (.iload 6, 2) := by decide +kernel
theorem dX2_setArcs_135 : decode cX2_setArcs 135 = .ok (.istore 4, 2) := by decide +kernel
theorem dX2_setArcs_137 : decode cX2_setArcs 137 = .ok (.iinc 5 1, 3) := by decide +kernel
theorem dX2_setArcs_140 : decode cX2_setArcs 140 = .ok (.goto (-119), 3) := by decide +kernel
theorem dX2_setArcs_143 : decode cX2_setArcs 143 = .ok (.return_, 1) := by decide +kernel
theorem dX2_unsettleAll_0 : decode cX2_unsettleAll 0 = .ok (.iconst 0, 1) := by decide +kernel
theorem dX2_unsettleAll_1 : decode cX2_unsettleAll 1 = .ok (.istore_n 1, 1) := by decide +kernel
theorem dX2_unsettleAll_2 : decode cX2_unsettleAll 2 = .ok (.iconst 0, 1) := by decide +kernel
theorem dX2_unsettleAll_3 : decode cX2_unsettleAll 3 = .ok (.istore_n 2, 1) := by decide +kernel
theorem dX2_unsettleAll_4 : decode cX2_unsettleAll 4 = .ok (.iload_n 2, 1) := by decide +kernel
theorem dX2_unsettleAll_5 : decode cX2_unsettleAll 5 = .ok (.aload_n 0, 1) := by decide +kernel
theorem dX2_unsettleAll_6 : decode cX2_unsettleAll 6 = .ok (.getfield 44, 3) := by decide +kernel
theorem dX2_unsettleAll_9 : decode cX2_unsettleAll 9 = .ok (.getfield 48, 3) := by decide +kernel
theorem dX2_unsettleAll_12 : decode cX2_unsettleAll 12 = .ok (.getfield 94, 3) := by decide +kernel
theorem dX2_unsettleAll_15 : decode cX2_unsettleAll 15 = .ok (.if_icmp .ge 70, 3) := by decide +kernel
theorem dX2_unsettleAll_18 : decode cX2_unsettleAll 18 = .ok (.iconst 0, 1) := by decide +kernel
theorem dX2_unsettleAll_19 : decode cX2_unsettleAll 19 = .ok (.istore_n 3, 1) := by decide +kernel
theorem dX2_unsettleAll_20 : decode cX2_unsettleAll 20 = .ok (.iload_n 3, 1) := by decide +kernel
theorem dX2_unsettleAll_21 : decode cX2_unsettleAll 21 = .ok (.aload_n 0, 1) := by decide +kernel
theorem dX2_unsettleAll_22 : decode cX2_unsettleAll 22 = .ok (.getfield 44, 3) := by decide +kernel
theorem dX2_unsettleAll_25 : decode cX2_unsettleAll 25 = .ok (.getfield 48, 3) := by decide +kernel
theorem dX2_unsettleAll_28 : decode cX2_unsettleAll 28 = .ok (.getfield 97, 3) := by decide +kernel
theorem dX2_unsettleAll_31 : decode cX2_unsettleAll 31 = .ok (.iload_n 2, 1) := by decide +kernel
theorem dX2_unsettleAll_32 : decode cX2_unsettleAll 32 = .ok (.iaload, 1) := by decide +kernel
theorem dX2_unsettleAll_33 : decode cX2_unsettleAll 33 = .ok (.if_icmp .ge 46, 3) := by decide +kernel
theorem dX2_unsettleAll_36 : decode cX2_unsettleAll 36 = .ok (.iload_n 2, 1) := by decide +kernel
theorem dX2_unsettleAll_37 : decode cX2_unsettleAll 37 = .ok (.iload_n 3, 1) := by decide +kernel
theorem dX2_unsettleAll_38 : decode cX2_unsettleAll 38 = .ok (.invokestatic 100, 3) := by decide +kernel
theorem dX2_unsettleAll_41 : decode cX2_unsettleAll 41 = .ok (.istore 4, 2) := by decide +kernel
theorem dX2_unsettleAll_43 : decode cX2_unsettleAll 43 = .ok (.aload_n 0, 1) := by decide +kernel
theorem dX2_unsettleAll_44 : decode cX2_unsettleAll 44 = .ok (.getfield 21, 3) := by decide +kernel
theorem dX2_unsettleAll_47 : decode cX2_unsettleAll 47 = .ok (.iload 4, 2) := by decide +kernel
theorem dX2_unsettleAll_49 : decode cX2_unsettleAll 49 = .ok (.iconst 0, 1) := by decide +kernel
theorem dX2_unsettleAll_50 : decode cX2_unsettleAll 50 = .ok (.bastore, 1) := by decide +kernel
theorem dX2_unsettleAll_51 : decode cX2_unsettleAll 51 = .ok (.aload_n 0, 1) := by decide +kernel
theorem dX2_unsettleAll_52 : decode cX2_unsettleAll 52 = .ok (.getfield 9, 3) := by decide +kernel
theorem dX2_unsettleAll_55 : decode cX2_unsettleAll 55 = .ok (.iload 4, 2) := by decide +kernel
theorem dX2_unsettleAll_57 : decode cX2_unsettleAll 57 = .ok (.aload_n 0, 1) := by decide +kernel
theorem dX2_unsettleAll_58 : decode cX2_unsettleAll 58 = .ok (.getfield 44, 3) := by decide +kernel
theorem dX2_unsettleAll_61 : decode cX2_unsettleAll 61 = .ok (.getfield 48, 3) := by decide +kernel
theorem dX2_unsettleAll_64 : decode cX2_unsettleAll 64 = .ok (.getfield 104, 3) := by decide +kernel
theorem dX2_unsettleAll_67 : decode cX2_unsettleAll 67 = .ok (.iload_n 2, 1) := by decide +kernel
theorem dX2_unsettleAll_68 : decode cX2_unsettleAll 68 = .ok (.iaload, 1) := by decide +kernel
theorem dX2_unsettleAll_69 : decode cX2_unsettleAll 69 = .ok (.iastore, 1) := by decide +kernel
theorem dX2_unsettleAll_70 : decode cX2_unsettleAll 70 = .ok (.iinc 1 1, 3) := by decide +kernel
theorem dX2_unsettleAll_73 : decode cX2_unsettleAll 73 = .ok (.iinc 3 1, 3) := by decide +kernel
theorem dX2_unsettleAll_76 : decode cX2_unsettleAll 76 = .ok (.goto (-56), 3) := by decide +kernel
theorem dX2_unsettleAll_79 : decode cX2_unsettleAll 79 = .ok (.iinc 2 1, 3) := by decide +kernel
theorem dX2_unsettleAll_82 : decode cX2_unsettleAll 82 = .ok (.goto (-78), 3) := by decide +kernel
theorem dX2_unsettleAll_85 : decode cX2_unsettleAll 85 = .ok (.iload_n 1, 1) := by decide +kernel
theorem dX2_unsettleAll_86 : decode cX2_unsettleAll 86 = .ok (.ireturn, 1) := by decide +kernel
theorem dX2_settleSome_0 : decode cX2_settleSome 0 = .ok (.iconst 0, 1) := by decide +kernel
theorem dX2_settleSome_1 : decode cX2_settleSome 1 = .ok (.istore_n 1, 1) := by decide +kernel
theorem dX2_settleSome_2 : decode cX2_settleSome 2 = .ok (.iconst 0, 1) := by decide +kernel
theorem dX2_settleSome_3 : decode cX2_settleSome 3 = .ok (.istore_n 2, 1) := by decide +kernel
theorem dX2_settleSome_4 : decode cX2_settleSome 4 = .ok (.iload_n 2, 1) := by decide +kernel
theorem dX2_settleSome_5 : decode cX2_settleSome 5 = .ok (.aload_n 0, 1) := by decide +kernel
theorem dX2_settleSome_6 : decode cX2_settleSome 6 = .ok (.getfield 44, 3) := by decide +kernel
theorem dX2_settleSome_9 : decode cX2_settleSome 9 = .ok (.getfield 48, 3) := by decide +kernel
theorem dX2_settleSome_12 : decode cX2_settleSome 12 = .ok (.getfield 94, 3) := by decide +kernel
theorem dX2_settleSome_15 : decode cX2_settleSome 15 = .ok (.if_icmp .ge 83, 3) := by decide +kernel
theorem dX2_settleSome_18 : decode cX2_settleSome 18 = .ok (.iconst 0, 1) := by decide +kernel
theorem dX2_settleSome_19 : decode cX2_settleSome 19 = .ok (.istore_n 3, 1) := by decide +kernel
theorem dX2_settleSome_20 : decode cX2_settleSome 20 = .ok (.iload_n 3, 1) := by decide +kernel
theorem dX2_settleSome_21 : decode cX2_settleSome 21 = .ok (.aload_n 0, 1) := by decide +kernel
theorem dX2_settleSome_22 : decode cX2_settleSome 22 = .ok (.getfield 44, 3) := by decide +kernel
theorem dX2_settleSome_25 : decode cX2_settleSome 25 = .ok (.getfield 48, 3) := by decide +kernel
theorem dX2_settleSome_28 : decode cX2_settleSome 28 = .ok (.getfield 97, 3) := by decide +kernel
theorem dX2_settleSome_31 : decode cX2_settleSome 31 = .ok (.iload_n 2, 1) := by decide +kernel
theorem dX2_settleSome_32 : decode cX2_settleSome 32 = .ok (.iaload, 1) := by decide +kernel
theorem dX2_settleSome_33 : decode cX2_settleSome 33 = .ok (.if_icmp .ge 59, 3) := by decide +kernel
theorem dX2_settleSome_36 : decode cX2_settleSome 36 = .ok (.iload_n 2, 1) := by decide +kernel
theorem dX2_settleSome_37 : decode cX2_settleSome 37 = .ok (.iload_n 3, 1) := by decide +kernel
theorem dX2_settleSome_38 : decode cX2_settleSome 38 = .ok (.invokestatic 100, 3) := by decide +kernel
theorem dX2_settleSome_41 : decode cX2_settleSome 41 = .ok (.istore 4, 2) := by decide +kernel
theorem dX2_settleSome_43 : decode cX2_settleSome 43 = .ok (.aload_n 0, 1) := by decide +kernel
theorem dX2_settleSome_44 : decode cX2_settleSome 44 = .ok (.getfield 21, 3) := by decide +kernel
theorem dX2_settleSome_47 : decode cX2_settleSome 47 = .ok (.iload 4, 2) := by decide +kernel
theorem dX2_settleSome_49 : decode cX2_settleSome 49 = .ok (.baload, 1) := by decide +kernel
theorem dX2_settleSome_50 : decode cX2_settleSome 50 = .ok (.ifCond .ne 36, 3) := by decide +kernel
theorem dX2_settleSome_53 : decode cX2_settleSome 53 = .ok (.aload_n 0, 1) := by decide +kernel
theorem dX2_settleSome_54 : decode cX2_settleSome 54 = .ok (.iload 4, 2) := by decide +kernel
theorem dX2_settleSome_56 : decode cX2_settleSome 56 = .ok (.invokevirtual 107, 3) := by decide +kernel
theorem dX2_settleSome_59 : decode cX2_settleSome 59 = .ok (.ifCond .eq 27, 3) := by decide +kernel
theorem dX2_settleSome_62 : decode cX2_settleSome 62 = .ok (.aload_n 0, 1) := by decide +kernel
theorem dX2_settleSome_63 : decode cX2_settleSome 63 = .ok (.getfield 9, 3) := by decide +kernel
theorem dX2_settleSome_66 : decode cX2_settleSome 66 = .ok (.iload 4, 2) := by decide +kernel
theorem dX2_settleSome_68 : decode cX2_settleSome 68 = .ok (.aload_n 0, 1) := by decide +kernel
theorem dX2_settleSome_69 : decode cX2_settleSome 69 = .ok (.iload 4, 2) := by decide +kernel
theorem dX2_settleSome_71 : decode cX2_settleSome 71 = .ok (.invokevirtual 110, 3) := by decide +kernel
theorem dX2_settleSome_74 : decode cX2_settleSome 74 = .ok (.iastore, 1) := by decide +kernel
theorem dX2_settleSome_75 : decode cX2_settleSome 75 = .ok (.aload_n 0, 1) := by decide +kernel
theorem dX2_settleSome_76 : decode cX2_settleSome 76 = .ok (.getfield 21, 3) := by decide +kernel
theorem dX2_settleSome_79 : decode cX2_settleSome 79 = .ok (.iload 4, 2) := by decide +kernel
theorem dX2_settleSome_81 : decode cX2_settleSome 81 = .ok (.iconst 1, 1) := by decide +kernel
theorem dX2_settleSome_82 : decode cX2_settleSome 82 = .ok (.bastore, 1) := by decide +kernel
theorem dX2_settleSome_83 : decode cX2_settleSome 83 = .ok (.iinc 1 1, 3) := by decide +kernel
theorem dX2_settleSome_86 : decode cX2_settleSome 86 = .ok (.iinc 3 1, 3) := by decide +kernel
theorem dX2_settleSome_89 : decode cX2_settleSome 89 = .ok (.goto (-69), 3) := by decide +kernel
theorem dX2_settleSome_92 : decode cX2_settleSome 92 = .ok (.iinc 2 1, 3) := by decide +kernel
theorem dX2_settleSome_95 : decode cX2_settleSome 95 = .ok (.goto (-91), 3) := by decide +kernel
theorem dX2_settleSome_98 : decode cX2_settleSome 98 = .ok (.iload_n 1, 1) := by decide +kernel
theorem dX2_settleSome_99 : decode cX2_settleSome 99 = .ok (.ireturn, 1) := by decide +kernel
theorem dX2_isReady_0 : decode cX2_isReady 0 = .ok (.iload_n 1, 1) := by decide +kernel
theorem dX2_isReady_1 : decode cX2_isReady 1 = .ok (.bipush 6, 2) := by decide +kernel
theorem dX2_isReady_3 : decode cX2_isReady 3 = .ok (.irem, 1) := by decide +kernel
theorem dX2_isReady_4 : decode cX2_isReady 4 = .ok (.ifCond .eq 14, 3) := by decide +kernel
theorem dX2_isReady_7 : decode cX2_isReady 7 = .ok (.aload_n 0, 1) := by decide +kernel
theorem dX2_isReady_8 : decode cX2_isReady 8 = .ok (.getfield 21, 3) := by decide +kernel
theorem dX2_isReady_11 : decode cX2_isReady 11 = .ok (.iload_n 1, 1) := by decide +kernel
theorem dX2_isReady_12 : decode cX2_isReady 12 = .ok (.iconst 1, 1) := by decide +kernel
theorem dX2_isReady_13 : decode cX2_isReady 13 = .ok (.isub, 1) := by decide +kernel
theorem dX2_isReady_14 : decode cX2_isReady 14 = .ok (.baload, 1) := by decide +kernel
theorem dX2_isReady_15 : decode cX2_isReady 15 = .ok (.ifCond .eq 30, 3) := by decide +kernel
theorem dX2_isReady_18 : decode cX2_isReady 18 = .ok (.aload_n 0, 1) := by decide +kernel
theorem dX2_isReady_19 : decode cX2_isReady 19 = .ok (.getfield 15, 3) := by decide +kernel
theorem dX2_isReady_22 : decode cX2_isReady 22 = .ok (.iload_n 1, 1) := by decide +kernel
theorem dX2_isReady_23 : decode cX2_isReady 23 = .ok (.iaload, 1) := by decide +kernel
theorem dX2_isReady_24 : decode cX2_isReady 24 = .ok (.ifCond .lt 17, 3) := by decide +kernel
theorem dX2_isReady_27 : decode cX2_isReady 27 = .ok (.aload_n 0, 1) := by decide +kernel
theorem dX2_isReady_28 : decode cX2_isReady 28 = .ok (.getfield 21, 3) := by decide +kernel
theorem dX2_isReady_31 : decode cX2_isReady 31 = .ok (.aload_n 0, 1) := by decide +kernel
theorem dX2_isReady_32 : decode cX2_isReady 32 = .ok (.getfield 15, 3) := by decide +kernel
theorem dX2_isReady_35 : decode cX2_isReady 35 = .ok (.iload_n 1, 1) := by decide +kernel
theorem dX2_isReady_36 : decode cX2_isReady 36 = .ok (.iaload, 1) := by decide +kernel
theorem dX2_isReady_37 : decode cX2_isReady 37 = .ok (.baload, 1) := by decide +kernel
theorem dX2_isReady_38 : decode cX2_isReady 38 = .ok (.ifCond .eq 7, 3) := by decide +kernel
theorem dX2_isReady_41 : decode cX2_isReady 41 = .ok (.iconst 1, 1) := by decide +kernel
theorem dX2_isReady_42 : decode cX2_isReady 42 = .ok (.goto 4, 3) := by decide +kernel
theorem dX2_isReady_45 : decode cX2_isReady 45 = .ok (.iconst 0, 1) := by decide +kernel
theorem dX2_isReady_46 : decode cX2_isReady 46 = .ok (.ireturn, 1) := by decide +kernel
theorem dX2_earliestStart_0 : decode cX2_earliestStart 0 = .ok (.aload_n 0, 1) := by decide +kernel
theorem dX2_earliestStart_1 : decode cX2_earliestStart 1 = .ok (.getfield 44, 3) := by decide +kernel
theorem dX2_earliestStart_4 : decode cX2_earliestStart 4 = .ok (.getfield 48, 3) := by decide +kernel
theorem dX2_earliestStart_7 : decode cX2_earliestStart 7 = .ok (.getfield 104, 3) := by decide +kernel
theorem dX2_earliestStart_10 : decode cX2_earliestStart 10 = .ok (.iload_n 1, 1) := by decide +kernel
theorem dX2_earliestStart_11 : decode cX2_earliestStart 11 = .ok (.bipush 6, 2) := by decide +kernel
theorem dX2_earliestStart_13 : decode cX2_earliestStart 13 = .ok (.idiv, 1) := by decide +kernel
theorem dX2_earliestStart_14 : decode cX2_earliestStart 14 = .ok (.iaload, 1) := by decide +kernel
theorem dX2_earliestStart_15 : decode cX2_earliestStart 15 = .ok (.istore_n 2, 1) := by decide +kernel
theorem dX2_earliestStart_16 : decode cX2_earliestStart 16 = .ok (.iload_n 1, 1) := by decide +kernel
theorem dX2_earliestStart_17 : decode cX2_earliestStart 17 = .ok (.bipush 6, 2) := by decide +kernel
theorem dX2_earliestStart_19 : decode cX2_earliestStart 19 = .ok (.irem, 1) := by decide +kernel
theorem dX2_earliestStart_20 : decode cX2_earliestStart 20 = .ok (.ifCond .ne 7, 3) := by decide +kernel
theorem dX2_earliestStart_23 : decode cX2_earliestStart 23 = .ok (.iload_n 2, 1) := by decide +kernel
theorem dX2_earliestStart_24 : decode cX2_earliestStart 24 = .ok (.goto 23, 3) := by decide +kernel
theorem dX2_earliestStart_27 : decode cX2_earliestStart 27 = .ok (.aload_n 0, 1) := by decide +kernel
theorem dX2_earliestStart_28 : decode cX2_earliestStart 28 = .ok (.getfield 9, 3) := by decide +kernel
theorem dX2_earliestStart_31 : decode cX2_earliestStart 31 = .ok (.iload_n 1, 1) := by decide +kernel
theorem dX2_earliestStart_32 : decode cX2_earliestStart 32 = .ok (.iconst 1, 1) := by decide +kernel
theorem dX2_earliestStart_33 : decode cX2_earliestStart 33 = .ok (.isub, 1) := by decide +kernel
theorem dX2_earliestStart_34 : decode cX2_earliestStart 34 = .ok (.iaload, 1) := by decide +kernel
theorem dX2_earliestStart_35 : decode cX2_earliestStart 35 = .ok (.aload_n 0, 1) := by decide +kernel
theorem dX2_earliestStart_36 : decode cX2_earliestStart 36 = .ok (.getfield 44, 3) := by decide +kernel
theorem dX2_earliestStart_39 : decode cX2_earliestStart 39 = .ok (.getfield 91, 3) := by decide +kernel
theorem dX2_earliestStart_42 : decode cX2_earliestStart 42 = .ok (.iload_n 1, 1) := by decide +kernel
theorem dX2_earliestStart_43 : decode cX2_earliestStart 43 = .ok (.iconst 1, 1) := by decide +kernel
theorem dX2_earliestStart_44 : decode cX2_earliestStart 44 = .ok (.isub, 1) := by decide +kernel
theorem dX2_earliestStart_45 : decode cX2_earliestStart 45 = .ok (.iaload, 1) := by decide +kernel
theorem dX2_earliestStart_46 : decode cX2_earliestStart 46 = .ok (.iadd, 1) := by decide +kernel
theorem dX2_earliestStart_47 : decode cX2_earliestStart 47 = .ok (.istore_n 3, 1) := by decide +kernel
theorem dX2_earliestStart_48 : decode cX2_earliestStart 48 = .ok (.aload_n 0, 1) := by decide +kernel
theorem dX2_earliestStart_49 : decode cX2_earliestStart 49 = .ok (.getfield 15, 3) := by decide +kernel
theorem dX2_earliestStart_52 : decode cX2_earliestStart 52 = .ok (.iload_n 1, 1) := by decide +kernel
theorem dX2_earliestStart_53 : decode cX2_earliestStart 53 = .ok (.iaload, 1) := by decide +kernel
theorem dX2_earliestStart_54 : decode cX2_earliestStart 54 = .ok (.ifCond .ge 7, 3) := by decide +kernel
theorem dX2_earliestStart_57 : decode cX2_earliestStart 57 = .ok (.iload_n 2, 1) := by decide +kernel
theorem dX2_earliestStart_58 : decode cX2_earliestStart 58 = .ok (.goto 21, 3) := by decide +kernel
theorem dX2_earliestStart_61 : decode cX2_earliestStart 61 = .ok (.aload_n 0, 1) := by decide +kernel
theorem dX2_earliestStart_62 : decode cX2_earliestStart 62 = .ok (.getfield 9, 3) := by decide +kernel
theorem dX2_earliestStart_65 : decode cX2_earliestStart 65 = .ok (.aload_n 0, 1) := by decide +kernel
theorem dX2_earliestStart_66 : decode cX2_earliestStart 66 = .ok (.getfield 15, 3) := by decide +kernel
theorem dX2_earliestStart_69 : decode cX2_earliestStart 69 = .ok (.iload_n 1, 1) := by decide +kernel
theorem dX2_earliestStart_70 : decode cX2_earliestStart 70 = .ok (.iaload, 1) := by decide +kernel
theorem dX2_earliestStart_71 : decode cX2_earliestStart 71 = .ok (.iaload, 1) := by decide +kernel
theorem dX2_earliestStart_72 : decode cX2_earliestStart 72 = .ok (.aload_n 0, 1) := by decide +kernel
theorem dX2_earliestStart_73 : decode cX2_earliestStart 73 = .ok (.getfield 18, 3) := by decide +kernel
theorem dX2_earliestStart_76 : decode cX2_earliestStart 76 = .ok (.iload_n 1, 1) := by decide +kernel
theorem dX2_earliestStart_77 : decode cX2_earliestStart 77 = .ok (.iaload, 1) := by decide +kernel
theorem dX2_earliestStart_78 : decode cX2_earliestStart 78 = .ok (.iadd, 1) := by decide +kernel
theorem dX2_earliestStart_79 : decode cX2_earliestStart 79 = .ok (.istore 4, 2) := by decide +kernel
theorem dX2_earliestStart_81 : decode cX2_earliestStart 81 = .ok (.iload_n 3, 1) := by decide +kernel
theorem dX2_earliestStart_82 : decode cX2_earliestStart 82 = .ok (.iload 4, 2) := by decide +kernel
theorem dX2_earliestStart_84 : decode cX2_earliestStart 84 = .ok (.invokestatic 114, 3) := by decide +kernel
theorem dX2_earliestStart_87 : decode cX2_earliestStart 87 = .ok (.ireturn, 1) := by decide +kernel
theorem dX2_settleRing_0 : decode cX2_settleRing 0 = .ok (.iconst 0, 1) := by decide +kernel
theorem dX2_settleRing_1 : decode cX2_settleRing 1 = .ok (.istore_n 1, 1) := by decide +kernel
theorem dX2_settleRing_2 : decode cX2_settleRing 2 = .ok (.iload_n 1, 1) := by decide +kernel
theorem dX2_settleRing_3 : decode cX2_settleRing 3 = .ok (.aload_n 0, 1) := by decide +kernel
theorem dX2_settleRing_4 : decode cX2_settleRing 4 = .ok (.getfield 44, 3) := by decide +kernel
theorem dX2_settleRing_7 : decode cX2_settleRing 7 = .ok (.getfield 48, 3) := by decide +kernel
theorem dX2_settleRing_10 : decode cX2_settleRing 10 = .ok (.getfield 94, 3) := by decide +kernel
theorem dX2_settleRing_13 : decode cX2_settleRing 13 = .ok (.if_icmp .ge 74, 3) := by decide +kernel
theorem dX2_settleRing_16 : decode cX2_settleRing 16 = .ok (.iconst 0, 1) := by decide +kernel
theorem dX2_settleRing_17 : decode cX2_settleRing 17 = .ok (.istore_n 2, 1) := by decide +kernel
theorem dX2_settleRing_18 : decode cX2_settleRing 18 = .ok (.iload_n 2, 1) := by decide +kernel
theorem dX2_settleRing_19 : decode cX2_settleRing 19 = .ok (.aload_n 0, 1) := by decide +kernel
theorem dX2_settleRing_20 : decode cX2_settleRing 20 = .ok (.getfield 44, 3) := by decide +kernel
theorem dX2_settleRing_23 : decode cX2_settleRing 23 = .ok (.getfield 48, 3) := by decide +kernel
theorem dX2_settleRing_26 : decode cX2_settleRing 26 = .ok (.getfield 97, 3) := by decide +kernel
theorem dX2_settleRing_29 : decode cX2_settleRing 29 = .ok (.iload_n 1, 1) := by decide +kernel
theorem dX2_settleRing_30 : decode cX2_settleRing 30 = .ok (.iaload, 1) := by decide +kernel
theorem dX2_settleRing_31 : decode cX2_settleRing 31 = .ok (.if_icmp .ge 50, 3) := by decide +kernel
theorem dX2_settleRing_34 : decode cX2_settleRing 34 = .ok (.iload_n 1, 1) := by decide +kernel
theorem dX2_settleRing_35 : decode cX2_settleRing 35 = .ok (.iload_n 2, 1) := by decide +kernel
theorem dX2_settleRing_36 : decode cX2_settleRing 36 = .ok (.invokestatic 100, 3) := by decide +kernel
theorem dX2_settleRing_39 : decode cX2_settleRing 39 = .ok (.istore_n 3, 1) := by decide +kernel
theorem dX2_settleRing_40 : decode cX2_settleRing 40 = .ok (.aload_n 0, 1) := by decide +kernel
theorem dX2_settleRing_41 : decode cX2_settleRing 41 = .ok (.getfield 21, 3) := by decide +kernel
theorem dX2_settleRing_44 : decode cX2_settleRing 44 = .ok (.iload_n 3, 1) := by decide +kernel
theorem dX2_settleRing_45 : decode cX2_settleRing 45 = .ok (.baload, 1) := by decide +kernel
theorem dX2_settleRing_46 : decode cX2_settleRing 46 = .ok (.ifCond .eq 7, 3) := by decide +kernel
theorem dX2_settleRing_49 : decode cX2_settleRing 49 = .ok (.iconst 0, 1) := by decide +kernel
theorem dX2_settleRing_50 : decode cX2_settleRing 50 = .ok (.goto 8, 3) := by decide +kernel
theorem dX2_settleRing_53 : decode cX2_settleRing 53 = .ok (.aload_n 0, 1) := by decide +kernel
theorem dX2_settleRing_54 : decode cX2_settleRing 54 = .ok (.iload_n 3, 1) := by decide +kernel
theorem dX2_settleRing_55 : decode cX2_settleRing 55 = .ok (.invokevirtual 119, 3) := by decide +kernel
theorem dX2_settleRing_58 : decode cX2_settleRing 58 = .ok (.istore 4, 2) := by decide +kernel
theorem dX2_settleRing_60 : decode cX2_settleRing 60 = .ok (.iload 4, 2) := by decide +kernel
theorem dX2_settleRing_62 : decode cX2_settleRing 62 = .ok (.ifCond .le 13, 3) := by decide +kernel
theorem dX2_settleRing_65 : decode cX2_settleRing 65 = .ok (.aload_n 0, 1) := by decide +kernel
theorem dX2_settleRing_66 : decode cX2_settleRing 66 = .ok (.iload_n 3, 1) := by decide +kernel
theorem dX2_settleRing_67 : decode cX2_settleRing 67 = .ok (.iload 4, 2) := by decide +kernel
theorem dX2_settleRing_69 : decode cX2_settleRing 69 = .ok (.invokevirtual 122, 3) := by decide +kernel
theorem dX2_settleRing_72 : decode cX2_settleRing 72 = .ok (.iload 4, 2) := by decide +kernel
theorem dX2_settleRing_74 : decode cX2_settleRing 74 = .ok (.ireturn, 1) := by decide +kernel
theorem dX2_settleRing_75 : decode cX2_settleRing 75 = .ok (.iinc 2 1, 3) := by decide +kernel
theorem dX2_settleRing_78 : decode cX2_settleRing 78 = .ok (.goto (-60), 3) := by decide +kernel
theorem dX2_settleRing_81 : decode cX2_settleRing 81 = .ok (.iinc 1 1, 3) := by decide +kernel
theorem dX2_settleRing_84 : decode cX2_settleRing 84 = .ok (.goto (-82), 3) := by decide +kernel
theorem dX2_settleRing_87 : decode cX2_settleRing 87 = .ok (.iconst 0, 1) := by decide +kernel
theorem dX2_settleRing_88 : decode cX2_settleRing 88 = .ok (.ireturn, 1) := by decide +kernel
theorem dX2_sizeOfRing_0 : decode cX2_sizeOfRing 0 = .ok (.iload_n 1, 1) := by decide +kernel
theorem dX2_sizeOfRing_1 : decode cX2_sizeOfRing 1 = .ok (.istore_n 2, 1) := by decide +kernel
theorem dX2_sizeOfRing_2 : decode cX2_sizeOfRing 2 = .ok (.iconst 1, 1) := by decide +kernel
theorem dX2_sizeOfRing_3 : decode cX2_sizeOfRing 3 = .ok (.istore_n 3, 1) := by decide +kernel
theorem dX2_sizeOfRing_4 : decode cX2_sizeOfRing 4 = .ok (.iload_n 3, 1) := by decide +kernel
theorem dX2_sizeOfRing_5 : decode cX2_sizeOfRing 5 = .ok (.bipush 36, 2) := by decide +kernel
theorem dX2_sizeOfRing_7 : decode cX2_sizeOfRing 7 = .ok (.if_icmp .gt 61, 3) := by decide +kernel
theorem dX2_sizeOfRing_10 : decode cX2_sizeOfRing 10 = .ok (.iload_n 2, 1) := by decide +kernel
theorem dX2_sizeOfRing_11 : decode cX2_sizeOfRing 11 = .ok (.bipush 6, 2) := by decide +kernel
theorem dX2_sizeOfRing_13 : decode cX2_sizeOfRing 13 = .ok (.irem, 1) := by decide +kernel
theorem dX2_sizeOfRing_14 : decode cX2_sizeOfRing 14 = .ok (.ifCond .eq 32, 3) := by decide +kernel
theorem dX2_sizeOfRing_17 : decode cX2_sizeOfRing 17 = .ok (.aload_n 0, 1) := by decide +kernel
theorem dX2_sizeOfRing_18 : decode cX2_sizeOfRing 18 = .ok (.getfield 21, 3) := by decide +kernel
theorem dX2_sizeOfRing_21 : decode cX2_sizeOfRing 21 = .ok (.iload_n 2, 1) := by decide +kernel
theorem dX2_sizeOfRing_22 : decode cX2_sizeOfRing 22 = .ok (.iconst 1, 1) := by decide +kernel
theorem dX2_sizeOfRing_23 : decode cX2_sizeOfRing 23 = .ok (.isub, 1) := by decide +kernel
theorem dX2_sizeOfRing_24 : decode cX2_sizeOfRing 24 = .ok (.baload, 1) := by decide +kernel
theorem dX2_sizeOfRing_25 : decode cX2_sizeOfRing 25 = .ok (.ifCond .eq 21, 3) := by decide +kernel
theorem dX2_sizeOfRing_28 : decode cX2_sizeOfRing 28 = .ok (.aload_n 0, 1) := by decide +kernel
theorem dX2_sizeOfRing_29 : decode cX2_sizeOfRing 29 = .ok (.getfield 15, 3) := by decide +kernel
theorem dX2_sizeOfRing_32 : decode cX2_sizeOfRing 32 = .ok (.iload_n 2, 1) := by decide +kernel
theorem dX2_sizeOfRing_33 : decode cX2_sizeOfRing 33 = .ok (.iaload, 1) := by decide +kernel
theorem dX2_sizeOfRing_34 : decode cX2_sizeOfRing 34 = .ok (.ifCond .lt 12, 3) := by decide +kernel
theorem dX2_sizeOfRing_37 : decode cX2_sizeOfRing 37 = .ok (.aload_n 0, 1) := by decide +kernel
theorem dX2_sizeOfRing_38 : decode cX2_sizeOfRing 38 = .ok (.getfield 18, 3) := by decide +kernel
theorem dX2_sizeOfRing_41 : decode cX2_sizeOfRing 41 = .ok (.iload_n 2, 1) := by decide +kernel
theorem dX2_sizeOfRing_42 : decode cX2_sizeOfRing 42 = .ok (.iaload, 1) := by decide +kernel
theorem dX2_sizeOfRing_43 : decode cX2_sizeOfRing 43 = .ok (.ifCond .le 5, 3) := by decide +kernel
theorem dX2_sizeOfRing_46 : decode cX2_sizeOfRing 46 = .ok (.iconst 0, 1) := by decide +kernel
theorem dX2_sizeOfRing_47 : decode cX2_sizeOfRing 47 = .ok (.ireturn, 1) := by decide +kernel
theorem dX2_sizeOfRing_48 : decode cX2_sizeOfRing 48 = .ok (.aload_n 0, 1) := by decide +kernel
theorem dX2_sizeOfRing_49 : decode cX2_sizeOfRing 49 = .ok (.getfield 15, 3) := by decide +kernel
theorem dX2_sizeOfRing_52 : decode cX2_sizeOfRing 52 = .ok (.iload_n 2, 1) := by decide +kernel
theorem dX2_sizeOfRing_53 : decode cX2_sizeOfRing 53 = .ok (.iaload, 1) := by decide +kernel
theorem dX2_sizeOfRing_54 : decode cX2_sizeOfRing 54 = .ok (.istore_n 2, 1) := by decide +kernel
theorem dX2_sizeOfRing_55 : decode cX2_sizeOfRing 55 = .ok (.iload_n 2, 1) := by decide +kernel
theorem dX2_sizeOfRing_56 : decode cX2_sizeOfRing 56 = .ok (.iload_n 1, 1) := by decide +kernel
theorem dX2_sizeOfRing_57 : decode cX2_sizeOfRing 57 = .ok (.if_icmp .ne 5, 3) := by decide +kernel
theorem dX2_sizeOfRing_60 : decode cX2_sizeOfRing 60 = .ok (.iload_n 3, 1) := by decide +kernel
theorem dX2_sizeOfRing_61 : decode cX2_sizeOfRing 61 = .ok (.ireturn, 1) := by decide +kernel
theorem dX2_sizeOfRing_62 : decode cX2_sizeOfRing 62 = .ok (.iinc 3 1, 3) := by decide +kernel
theorem dX2_sizeOfRing_65 : decode cX2_sizeOfRing 65 = .ok (.goto (-61), 3) := by decide +kernel
theorem dX2_sizeOfRing_68 : decode cX2_sizeOfRing 68 = .ok (.iconst 0, 1) := by decide +kernel
theorem dX2_sizeOfRing_69 : decode cX2_sizeOfRing 69 = .ok (.ireturn, 1) := by decide +kernel
theorem dX2_startTogether_0 : decode cX2_startTogether 0 = .ok (.iconst 0, 1) := by decide +kernel
theorem dX2_startTogether_1 : decode cX2_startTogether 1 = .ok (.istore_n 3, 1) := by decide +kernel
theorem dX2_startTogether_2 : decode cX2_startTogether 2 = .ok (.iload_n 1, 1) := by decide +kernel
theorem dX2_startTogether_3 : decode cX2_startTogether 3 = .ok (.istore 4, 2) := by decide +kernel
theorem dX2_startTogether_5 : decode cX2_startTogether 5 = .ok (.iconst 0, 1) := by decide +kernel
theorem dX2_startTogether_6 : decode cX2_startTogether 6 = .ok (.istore 5, 2) := by decide +kernel
theorem dX2_startTogether_8 : decode cX2_startTogether 8 = .ok (.iload 5, 2) := by decide +kernel
theorem dX2_startTogether_10 : decode cX2_startTogether 10 = .ok (.iload_n 2, 1) := by decide +kernel
theorem dX2_startTogether_11 : decode cX2_startTogether 11 = .ok (.if_icmp .ge 34, 3) := by decide +kernel
theorem dX2_startTogether_14 : decode cX2_startTogether 14 = .ok (.iload 4, 2) := by decide +kernel
theorem dX2_startTogether_16 : decode cX2_startTogether 16 = .ok (.ifCond .lt 29, 3) := by decide +kernel
theorem dX2_startTogether_19 : decode cX2_startTogether 19 = .ok (.iload_n 3, 1) := by decide +kernel
theorem dX2_startTogether_20 : decode cX2_startTogether 20 = .ok (.aload_n 0, 1) := by decide +kernel
theorem dX2_startTogether_21 : decode cX2_startTogether 21 = .ok (.iload 4, 2) := by decide +kernel
theorem dX2_startTogether_23 : decode cX2_startTogether 23 = .ok (.invokevirtual 110, 3) := by decide +kernel
theorem dX2_startTogether_26 : decode cX2_startTogether 26 = .ok (.invokestatic 114, 3) := by decide +kernel
theorem dX2_startTogether_29 : decode cX2_startTogether 29 = .ok (.istore_n 3, 1) := by decide +kernel
theorem dX2_startTogether_30 : decode cX2_startTogether 30 = .ok (.aload_n 0, 1) := by decide +kernel
theorem dX2_startTogether_31 : decode cX2_startTogether 31 = .ok (.getfield 15, 3) := by decide +kernel
theorem dX2_startTogether_34 : decode cX2_startTogether 34 = .ok (.iload 4, 2) := by decide +kernel
theorem dX2_startTogether_36 : decode cX2_startTogether 36 = .ok (.iaload, 1) := by decide +kernel
theorem dX2_startTogether_37 : decode cX2_startTogether 37 = .ok (.istore 4, 2) := by decide +kernel
theorem dX2_startTogether_39 : decode cX2_startTogether 39 = .ok (.iinc 5 1, 3) := by decide +kernel
theorem dX2_startTogether_42 : decode cX2_startTogether 42 = .ok (.goto (-34), 3) := by decide +kernel
theorem dX2_startTogether_45 : decode cX2_startTogether 45 = .ok (.iconst 0, 1) := by decide +kernel
theorem dX2_startTogether_46 : decode cX2_startTogether 46 = .ok (.istore 5, 2) := by decide +kernel
theorem dX2_startTogether_48 : decode cX2_startTogether 48 = .ok (.iload 5, 2) := by decide +kernel
theorem dX2_startTogether_50 : decode cX2_startTogether 50 = .ok (.iload_n 2, 1) := by decide +kernel
theorem dX2_startTogether_51 : decode cX2_startTogether 51 = .ok (.if_icmp .ge 39, 3) := by decide +kernel
theorem dX2_startTogether_54 : decode cX2_startTogether 54 = .ok (.iload 4, 2) := by decide +kernel
theorem dX2_startTogether_56 : decode cX2_startTogether 56 = .ok (.ifCond .lt 34, 3) := by decide +kernel
theorem dX2_startTogether_59 : decode cX2_startTogether 59 = .ok (.aload_n 0, 1) := by decide +kernel
theorem dX2_startTogether_60 : decode cX2_startTogether 60 = .ok (.getfield 9, 3) := by decide +kernel
theorem dX2_startTogether_63 : decode cX2_startTogether 63 = .ok (.iload 4, 2) := by decide +kernel
theorem dX2_startTogether_65 : decode cX2_startTogether 65 = .ok (.iload_n 3, 1) := by decide +kernel
theorem dX2_startTogether_66 : decode cX2_startTogether 66 = .ok (.iastore, 1) := by decide +kernel
theorem dX2_startTogether_67 : decode cX2_startTogether 67 = .ok (.aload_n 0, 1) := by decide +kernel
theorem dX2_startTogether_68 : decode cX2_startTogether 68 = .ok (.getfield 21, 3) := by decide +kernel
theorem dX2_startTogether_71 : decode cX2_startTogether 71 = .ok (.iload 4, 2) := by decide +kernel
theorem dX2_startTogether_73 : decode cX2_startTogether 73 = .ok (.iconst 1, 1) := by decide +kernel
theorem dX2_startTogether_74 : decode cX2_startTogether 74 = .ok (.bastore, 1) := by decide +kernel
theorem dX2_startTogether_75 : decode cX2_startTogether 75 = .ok (.aload_n 0, 1) := by decide +kernel
theorem dX2_startTogether_76 : decode cX2_startTogether 76 = .ok (.getfield 15, 3) := by decide +kernel
theorem dX2_startTogether_79 : decode cX2_startTogether 79 = .ok (.iload 4, 2) := by decide +kernel
theorem dX2_startTogether_81 : decode cX2_startTogether 81 = .ok (.iaload, 1) := by decide +kernel
theorem dX2_startTogether_82 : decode cX2_startTogether 82 = .ok (.istore 4, 2) := by decide +kernel
theorem dX2_startTogether_84 : decode cX2_startTogether 84 = .ok (.iinc 5 1, 3) := by decide +kernel
theorem dX2_startTogether_87 : decode cX2_startTogether 87 = .ok (.goto (-39), 3) := by decide +kernel
theorem dX2_startTogether_90 : decode cX2_startTogether 90 = .ok (.return_, 1) := by decide +kernel
theorem dX2_completedAt_0 : decode cX2_completedAt 0 = .ok (.aload_n 0, 1) := by decide +kernel
theorem dX2_completedAt_1 : decode cX2_completedAt 1 = .ok (.getfield 9, 3) := by decide +kernel
theorem dX2_completedAt_4 : decode cX2_completedAt 4 = .ok (.iload_n 1, 1) := by decide +kernel
theorem dX2_completedAt_5 : decode cX2_completedAt 5 = .ok (.iaload, 1) := by decide +kernel
theorem dX2_completedAt_6 : decode cX2_completedAt 6 = .ok (.aload_n 0, 1) := by decide +kernel
theorem dX2_completedAt_7 : decode cX2_completedAt 7 = .ok (.getfield 44, 3) := by decide +kernel
theorem dX2_completedAt_10 : decode cX2_completedAt 10 = .ok (.getfield 91, 3) := by decide +kernel
theorem dX2_completedAt_13 : decode cX2_completedAt 13 = .ok (.iload_n 1, 1) := by decide +kernel
theorem dX2_completedAt_14 : decode cX2_completedAt 14 = .ok (.iaload, 1) := by decide +kernel
theorem dX2_completedAt_15 : decode cX2_completedAt 15 = .ok (.iadd, 1) := by decide +kernel
theorem dX2_completedAt_16 : decode cX2_completedAt 16 = .ok (.ireturn, 1) := by decide +kernel
theorem dX2_leaveOf_0 : decode cX2_leaveOf 0 = .ok (.iload_n 1, 1) := by decide +kernel
theorem dX2_leaveOf_1 : decode cX2_leaveOf 1 = .ok (.iload_n 2, 1) := by decide +kernel
theorem dX2_leaveOf_2 : decode cX2_leaveOf 2 = .ok (.invokestatic 100, 3) := by decide +kernel
theorem dX2_leaveOf_5 : decode cX2_leaveOf 5 = .ok (.istore_n 3, 1) := by decide +kernel
theorem dX2_leaveOf_6 : decode cX2_leaveOf 6 = .ok (.aload_n 0, 1) := by decide +kernel
theorem dX2_leaveOf_7 : decode cX2_leaveOf 7 = .ok (.getfield 44, 3) := by decide +kernel
theorem dX2_leaveOf_10 : decode cX2_leaveOf 10 = .ok (.getfield 48, 3) := by decide +kernel
theorem dX2_leaveOf_13 : decode cX2_leaveOf 13 = .ok (.getfield 84, 3) := by decide +kernel
theorem dX2_leaveOf_16 : decode cX2_leaveOf 16 = .ok (.aload_n 0, 1) := by decide +kernel
theorem dX2_leaveOf_17 : decode cX2_leaveOf 17 = .ok (.getfield 44, 3) := by decide +kernel
theorem dX2_leaveOf_20 : decode cX2_leaveOf 20 = .ok (.getfield 48, 3) := by decide +kernel
theorem dX2_leaveOf_23 : decode cX2_leaveOf 23 = .ok (.getfield 126, 3) := by decide +kernel
theorem dX2_leaveOf_26 : decode cX2_leaveOf 26 = .ok (.iload_n 3, 1) := by decide +kernel
theorem dX2_leaveOf_27 : decode cX2_leaveOf 27 = .ok (.iaload, 1) := by decide +kernel
theorem dX2_leaveOf_28 : decode cX2_leaveOf 28 = .ok (.baload, 1) := by decide +kernel
theorem dX2_leaveOf_29 : decode cX2_leaveOf 29 = .ok (.ifCond .ne 17, 3) := by decide +kernel
theorem dX2_leaveOf_32 : decode cX2_leaveOf 32 = .ok (.aload_n 0, 1) := by decide +kernel
theorem dX2_leaveOf_33 : decode cX2_leaveOf 33 = .ok (.getfield 44, 3) := by decide +kernel
theorem dX2_leaveOf_36 : decode cX2_leaveOf 36 = .ok (.getfield 48, 3) := by decide +kernel
theorem dX2_leaveOf_39 : decode cX2_leaveOf 39 = .ok (.iload_n 3, 1) := by decide +kernel
theorem dX2_leaveOf_40 : decode cX2_leaveOf 40 = .ok (.invokevirtual 87, 3) := by decide +kernel
theorem dX2_leaveOf_43 : decode cX2_leaveOf 43 = .ok (.ifCond .eq 9, 3) := by decide +kernel
theorem dX2_leaveOf_46 : decode cX2_leaveOf 46 = .ok (.aload_n 0, 1) := by decide +kernel
theorem dX2_leaveOf_47 : decode cX2_leaveOf 47 = .ok (.iload_n 3, 1) := by decide +kernel
theorem dX2_leaveOf_48 : decode cX2_leaveOf 48 = .ok (.invokevirtual 129, 3) := by decide +kernel
theorem dX2_leaveOf_51 : decode cX2_leaveOf 51 = .ok (.ireturn, 1) := by decide +kernel
theorem dX2_leaveOf_52 : decode cX2_leaveOf 52 = .ok (.aload_n 0, 1) := by decide +kernel
theorem dX2_leaveOf_53 : decode cX2_leaveOf 53 = .ok (.getfield 9, 3) := by decide +kernel
theorem dX2_leaveOf_56 : decode cX2_leaveOf 56 = .ok (.iload_n 3, 1) := by decide +kernel
theorem dX2_leaveOf_57 : decode cX2_leaveOf 57 = .ok (.iconst 1, 1) := by decide +kernel
theorem dX2_leaveOf_58 : decode cX2_leaveOf 58 = .ok (.iadd, 1) := by decide +kernel
theorem dX2_leaveOf_59 : decode cX2_leaveOf 59 = .ok (.iaload, 1) := by decide +kernel
theorem dX2_leaveOf_60 : decode cX2_leaveOf 60 = .ok (.ireturn, 1) := by decide +kernel
theorem dX2_lastOf_0 : decode cX2_lastOf 0 = .ok (.iload_n 1, 1) := by decide +kernel
theorem dX2_lastOf_1 : decode cX2_lastOf 1 = .ok (.bipush 6, 2) := by decide +kernel
theorem dX2_lastOf_3 : decode cX2_lastOf 3 = .ok (.imul, 1) := by decide +kernel
theorem dX2_lastOf_4 : decode cX2_lastOf 4 = .ok (.aload_n 0, 1) := by decide +kernel
theorem dX2_lastOf_5 : decode cX2_lastOf 5 = .ok (.getfield 44, 3) := by decide +kernel
theorem dX2_lastOf_8 : decode cX2_lastOf 8 = .ok (.getfield 48, 3) := by decide +kernel
theorem dX2_lastOf_11 : decode cX2_lastOf 11 = .ok (.getfield 97, 3) := by decide +kernel
theorem dX2_lastOf_14 : decode cX2_lastOf 14 = .ok (.iload_n 1, 1) := by decide +kernel
theorem dX2_lastOf_15 : decode cX2_lastOf 15 = .ok (.iaload, 1) := by decide +kernel
theorem dX2_lastOf_16 : decode cX2_lastOf 16 = .ok (.iadd, 1) := by decide +kernel
theorem dX2_lastOf_17 : decode cX2_lastOf 17 = .ok (.iconst 1, 1) := by decide +kernel
theorem dX2_lastOf_18 : decode cX2_lastOf 18 = .ok (.isub, 1) := by decide +kernel
theorem dX2_lastOf_19 : decode cX2_lastOf 19 = .ok (.ireturn, 1) := by decide +kernel
theorem dX2_completionOf_0 : decode cX2_completionOf 0 = .ok (.aload_n 0, 1) := by decide +kernel
theorem dX2_completionOf_1 : decode cX2_completionOf 1 = .ok (.aload_n 0, 1) := by decide +kernel
theorem dX2_completionOf_2 : decode cX2_completionOf 2 = .ok (.iload_n 1, 1) := by decide +kernel
theorem dX2_completionOf_3 : decode cX2_completionOf 3 = .ok (.invokevirtual 132, 3) := by decide +kernel
theorem dX2_completionOf_6 : decode cX2_completionOf 6 = .ok (.invokevirtual 129, 3) := by decide +kernel
theorem dX2_completionOf_9 : decode cX2_completionOf 9 = .ok (.ireturn, 1) := by decide +kernel
theorem dX2_greatestCompletion_0 : decode cX2_greatestCompletion 0 = .ok (.iconst 0, 1) := by decide +kernel
theorem dX2_greatestCompletion_1 : decode cX2_greatestCompletion 1 = .ok (.istore_n 1, 1) := by decide +kernel
theorem dX2_greatestCompletion_2 : decode cX2_greatestCompletion 2 = .ok (.iconst 0, 1) := by decide +kernel
theorem dX2_greatestCompletion_3 : decode cX2_greatestCompletion 3 = .ok (.istore_n 2, 1) := by decide +kernel
theorem dX2_greatestCompletion_4 : decode cX2_greatestCompletion 4 = .ok (.iload_n 2, 1) := by decide +kernel
theorem dX2_greatestCompletion_5 : decode cX2_greatestCompletion 5 = .ok (.aload_n 0, 1) := by decide +kernel
theorem dX2_greatestCompletion_6 : decode cX2_greatestCompletion 6 = .ok (.getfield 44, 3) := by decide +kernel
theorem dX2_greatestCompletion_9 : decode cX2_greatestCompletion 9 = .ok (.getfield 48, 3) := by decide +kernel
theorem dX2_greatestCompletion_12 : decode cX2_greatestCompletion 12 = .ok (.getfield 94, 3) := by decide +kernel
theorem dX2_greatestCompletion_15 : decode cX2_greatestCompletion 15 = .ok (.if_icmp .ge 19, 3) := by decide +kernel
theorem dX2_greatestCompletion_18 : decode cX2_greatestCompletion 18 = .ok (.iload_n 1, 1) := by decide +kernel
theorem dX2_greatestCompletion_19 : decode cX2_greatestCompletion 19 = .ok (.aload_n 0, 1) := by decide +kernel
theorem dX2_greatestCompletion_20 : decode cX2_greatestCompletion 20 = .ok (.iload_n 2, 1) := by decide +kernel
theorem dX2_greatestCompletion_21 : decode cX2_greatestCompletion 21 = .ok (.invokevirtual 135, 3) := by decide +kernel
theorem dX2_greatestCompletion_24 : decode cX2_greatestCompletion 24 = .ok (.invokestatic 114, 3) := by decide +kernel
theorem dX2_greatestCompletion_27 : decode cX2_greatestCompletion 27 = .ok (.istore_n 1, 1) := by decide +kernel
theorem dX2_greatestCompletion_28 : decode cX2_greatestCompletion 28 = .ok (.iinc 2 1, 3) := by decide +kernel
theorem dX2_greatestCompletion_31 : decode cX2_greatestCompletion 31 = .ok (.goto (-27), 3) := by decide +kernel
theorem dX2_greatestCompletion_34 : decode cX2_greatestCompletion 34 = .ok (.iload_n 1, 1) := by decide +kernel
theorem dX2_greatestCompletion_35 : decode cX2_greatestCompletion 35 = .ok (.ireturn, 1) := by decide +kernel
theorem dX2_costOf_0 : decode cX2_costOf 0 = .ok (.aload_n 0, 1) := by decide +kernel
theorem dX2_costOf_1 : decode cX2_costOf 1 = .ok (.getfield 35, 3) := by decide +kernel
theorem dX2_costOf_4 : decode cX2_costOf 4 = .ok (.aload_n 0, 1) := by decide +kernel
theorem dX2_costOf_5 : decode cX2_costOf 5 = .ok (.getfield 44, 3) := by decide +kernel
theorem dX2_costOf_8 : decode cX2_costOf 8 = .ok (.getfield 48, 3) := by decide +kernel
theorem dX2_costOf_11 : decode cX2_costOf 11 = .ok (.iload_n 1, 1) := by decide +kernel
theorem dX2_costOf_12 : decode cX2_costOf 12 = .ok (.aload_n 0, 1) := by decide +kernel
theorem dX2_costOf_13 : decode cX2_costOf 13 = .ok (.iload_n 1, 1) := by decide +kernel
theorem dX2_costOf_14 : decode cX2_costOf 14 = .ok (.invokevirtual 135, 3) := by decide +kernel
theorem dX2_costOf_17 : decode cX2_costOf 17 = .ok (.invokevirtual 138, 3) := by decide +kernel
theorem dX2_costOf_20 : decode cX2_costOf 20 = .ok (.ireturn, 1) := by decide +kernel
theorem dX2_costOfAll_0 : decode cX2_costOfAll 0 = .ok (.iconst 0, 1) := by decide +kernel
theorem dX2_costOfAll_1 : decode cX2_costOfAll 1 = .ok (.istore_n 1, 1) := by decide +kernel
theorem dX2_costOfAll_2 : decode cX2_costOfAll 2 = .ok (.iconst 0, 1) := by decide +kernel
theorem dX2_costOfAll_3 : decode cX2_costOfAll 3 = .ok (.istore_n 2, 1) := by decide +kernel
theorem dX2_costOfAll_4 : decode cX2_costOfAll 4 = .ok (.iload_n 2, 1) := by decide +kernel
theorem dX2_costOfAll_5 : decode cX2_costOfAll 5 = .ok (.aload_n 0, 1) := by decide +kernel
theorem dX2_costOfAll_6 : decode cX2_costOfAll 6 = .ok (.getfield 44, 3) := by decide +kernel
theorem dX2_costOfAll_9 : decode cX2_costOfAll 9 = .ok (.getfield 48, 3) := by decide +kernel
theorem dX2_costOfAll_12 : decode cX2_costOfAll 12 = .ok (.getfield 94, 3) := by decide +kernel
theorem dX2_costOfAll_15 : decode cX2_costOfAll 15 = .ok (.if_icmp .ge 17, 3) := by decide +kernel
theorem dX2_costOfAll_18 : decode cX2_costOfAll 18 = .ok (.iload_n 1, 1) := by decide +kernel
theorem dX2_costOfAll_19 : decode cX2_costOfAll 19 = .ok (.aload_n 0, 1) := by decide +kernel
theorem dX2_costOfAll_20 : decode cX2_costOfAll 20 = .ok (.iload_n 2, 1) := by decide +kernel
theorem dX2_costOfAll_21 : decode cX2_costOfAll 21 = .ok (.invokevirtual 142, 3) := by decide +kernel
theorem dX2_costOfAll_24 : decode cX2_costOfAll 24 = .ok (.iadd, 1) := by decide +kernel
theorem dX2_costOfAll_25 : decode cX2_costOfAll 25 = .ok (.istore_n 1, 1) := by decide +kernel
theorem dX2_costOfAll_26 : decode cX2_costOfAll 26 = .ok (.iinc 2 1, 3) := by decide +kernel
theorem dX2_costOfAll_29 : decode cX2_costOfAll 29 = .ok (.goto (-25), 3) := by decide +kernel
theorem dX2_costOfAll_32 : decode cX2_costOfAll 32 = .ok (.iload_n 1, 1) := by decide +kernel
theorem dX2_costOfAll_33 : decode cX2_costOfAll 33 = .ok (.ireturn, 1) := by decide +kernel
theorem dX2_isBetterThan_0 : decode cX2_isBetterThan 0 = .ok (.aload_n 0, 1) := by decide +kernel
theorem dX2_isBetterThan_1 : decode cX2_isBetterThan 1 = .ok (.invokevirtual 145, 3) := by decide +kernel
theorem dX2_isBetterThan_4 : decode cX2_isBetterThan 4 = .ok (.istore_n 3, 1) := by decide +kernel
theorem dX2_isBetterThan_5 : decode cX2_isBetterThan 5 = .ok (.iload_n 3, 1) := by decide +kernel
theorem dX2_isBetterThan_6 : decode cX2_isBetterThan 6 = .ok (.iload_n 1, 1) := by decide +kernel
theorem dX2_isBetterThan_7 : decode cX2_isBetterThan 7 = .ok (.if_icmp .lt 16, 3) := by decide +kernel
theorem dX2_isBetterThan_10 : decode cX2_isBetterThan 10 = .ok (.iload_n 3, 1) := by decide +kernel
theorem dX2_isBetterThan_11 : decode cX2_isBetterThan 11 = .ok (.iload_n 1, 1) := by decide +kernel
theorem dX2_isBetterThan_12 : decode cX2_isBetterThan 12 = .ok (.if_icmp .ne 15, 3) := by decide +kernel
theorem dX2_isBetterThan_15 : decode cX2_isBetterThan 15 = .ok (.aload_n 0, 1) := by decide +kernel
theorem dX2_isBetterThan_16 : decode cX2_isBetterThan 16 = .ok (.invokevirtual 148, 3) := by decide +kernel
theorem dX2_isBetterThan_19 : decode cX2_isBetterThan 19 = .ok (.iload_n 2, 1) := by decide +kernel
theorem dX2_isBetterThan_20 : decode cX2_isBetterThan 20 = .ok (.if_icmp .ge 7, 3) := by decide +kernel
theorem dX2_isBetterThan_23 : decode cX2_isBetterThan 23 = .ok (.iconst 1, 1) := by decide +kernel
theorem dX2_isBetterThan_24 : decode cX2_isBetterThan 24 = .ok (.goto 4, 3) := by decide +kernel
theorem dX2_isBetterThan_27 : decode cX2_isBetterThan 27 = .ok (.iconst 0, 1) := by decide +kernel
theorem dX2_isBetterThan_28 : decode cX2_isBetterThan 28 = .ok (.ireturn, 1) := by decide +kernel
theorem dX2_traceCriticalPath_0 : decode cX2_traceCriticalPath 0 = .ok (.aload_n 0, 1) := by decide +kernel
theorem dX2_traceCriticalPath_1 : decode cX2_traceCriticalPath 1 = .ok (.iconst 0, 1) := by decide +kernel
theorem dX2_traceCriticalPath_2 : decode cX2_traceCriticalPath 2 = .ok (.putfield 28, 3) := by decide +kernel
theorem dX2_traceCriticalPath_5 : decode cX2_traceCriticalPath 5 = .ok (.aload_n 0, 1) := by decide +kernel
theorem dX2_traceCriticalPath_6 : decode cX2_traceCriticalPath 6 = .ok (.invokevirtual 151, 3) := by decide +kernel
theorem dX2_traceCriticalPath_9 : decode cX2_traceCriticalPath 9 = .ok (.istore_n 1, 1) := by decide +kernel
theorem dX2_traceCriticalPath_10 : decode cX2_traceCriticalPath 10 = .ok (.iconst 0, 1) := by decide +kernel
theorem dX2_traceCriticalPath_11 : decode cX2_traceCriticalPath 11 = .ok (.istore_n 2, 1) := by decide +kernel
theorem dX2_traceCriticalPath_12 : decode cX2_traceCriticalPath 12 = .ok (.iload_n 2, 1) := by decide +kernel
theorem dX2_traceCriticalPath_13 : decode cX2_traceCriticalPath 13 = .ok (.bipush 36, 2) := by decide +kernel
theorem dX2_traceCriticalPath_15 : decode cX2_traceCriticalPath 15 = .ok (.if_icmp .ge 41, 3) := by decide +kernel
theorem dX2_traceCriticalPath_18 : decode cX2_traceCriticalPath 18 = .ok (.iload_n 1, 1) := by decide +kernel
theorem dX2_traceCriticalPath_19 : decode cX2_traceCriticalPath 19 = .ok (.ifCond .lt 37, 3) := by decide +kernel
theorem dX2_traceCriticalPath_22 : decode cX2_traceCriticalPath 22 = .ok (.aload_n 0, 1) := by decide +kernel
theorem dX2_traceCriticalPath_23 : decode cX2_traceCriticalPath 23 = .ok (.iload_n 1, 1) := by decide +kernel
theorem dX2_traceCriticalPath_24 : decode cX2_traceCriticalPath 24 = .ok (.invokevirtual 154, 3) := by decide +kernel
theorem dX2_traceCriticalPath_27 : decode cX2_traceCriticalPath 27 = .ok (.ifCond .ne 29, 3) := by decide +kernel
theorem dX2_traceCriticalPath_30 : decode cX2_traceCriticalPath 30 = .ok (.aload_n 0, 1) := by decide +kernel
theorem dX2_traceCriticalPath_31 : decode cX2_traceCriticalPath 31 = .ok (.getfield 25, 3) := by decide +kernel
theorem dX2_traceCriticalPath_34 : decode cX2_traceCriticalPath 34 = .ok (.iload_n 2, 1) := by decide +kernel
theorem dX2_traceCriticalPath_35 : decode cX2_traceCriticalPath 35 = .ok (.iload_n 1, 1) := by decide +kernel
theorem dX2_traceCriticalPath_36 : decode cX2_traceCriticalPath 36 = .ok (.iastore, 1) := by decide +kernel
theorem dX2_traceCriticalPath_37 : decode cX2_traceCriticalPath 37 = .ok (.aload_n 0, 1) := by decide +kernel
theorem dX2_traceCriticalPath_38 : decode cX2_traceCriticalPath 38 = .ok (.iload_n 2, 1) := by decide +kernel
theorem dX2_traceCriticalPath_39 : decode cX2_traceCriticalPath 39 = .ok (.iconst 1, 1) := by decide +kernel
theorem dX2_traceCriticalPath_40 : decode cX2_traceCriticalPath 40 = .ok (.iadd, 1) := by decide +kernel
theorem dX2_traceCriticalPath_41 : decode cX2_traceCriticalPath 41 = .ok (.putfield 28, 3) := by decide +kernel
theorem dX2_traceCriticalPath_44 : decode cX2_traceCriticalPath 44 = .ok (.aload_n 0, 1) := by decide +kernel
theorem dX2_traceCriticalPath_45 : decode cX2_traceCriticalPath 45 = .ok (.iload_n 1, 1) := by decide +kernel
theorem dX2_traceCriticalPath_46 : decode cX2_traceCriticalPath 46 = .ok (.invokevirtual 157, 3) := by decide +kernel
theorem dX2_traceCriticalPath_49 : decode cX2_traceCriticalPath 49 = .ok (.istore_n 1, 1) := by decide +kernel
theorem dX2_traceCriticalPath_50 : decode cX2_traceCriticalPath 50 = .ok (.iinc 2 1, 3) := by decide +kernel
theorem dX2_traceCriticalPath_53 : decode cX2_traceCriticalPath 53 = .ok (.goto (-41), 3) := by decide +kernel
theorem dX2_traceCriticalPath_56 : decode cX2_traceCriticalPath 56 = .ok (.return_, 1) := by decide +kernel
theorem dX2_criticalEnd_0 : decode cX2_criticalEnd 0 = .ok (.aload_n 0, 1) := by decide +kernel
theorem dX2_criticalEnd_1 : decode cX2_criticalEnd 1 = .ok (.invokevirtual 145, 3) := by decide +kernel
theorem dX2_criticalEnd_4 : decode cX2_criticalEnd 4 = .ok (.istore_n 1, 1) := by decide +kernel
theorem dX2_criticalEnd_5 : decode cX2_criticalEnd 5 = .ok (.iconst 0, 1) := by decide +kernel
theorem dX2_criticalEnd_6 : decode cX2_criticalEnd 6 = .ok (.istore_n 2, 1) := by decide +kernel
theorem dX2_criticalEnd_7 : decode cX2_criticalEnd 7 = .ok (.iload_n 2, 1) := by decide +kernel
theorem dX2_criticalEnd_8 : decode cX2_criticalEnd 8 = .ok (.aload_n 0, 1) := by decide +kernel
theorem dX2_criticalEnd_9 : decode cX2_criticalEnd 9 = .ok (.getfield 44, 3) := by decide +kernel
theorem dX2_criticalEnd_12 : decode cX2_criticalEnd 12 = .ok (.getfield 48, 3) := by decide +kernel
theorem dX2_criticalEnd_15 : decode cX2_criticalEnd 15 = .ok (.getfield 94, 3) := by decide +kernel
theorem dX2_criticalEnd_18 : decode cX2_criticalEnd 18 = .ok (.if_icmp .ge 24, 3) := by decide +kernel
theorem dX2_criticalEnd_21 : decode cX2_criticalEnd 21 = .ok (.aload_n 0, 1) := by decide +kernel
theorem dX2_criticalEnd_22 : decode cX2_criticalEnd 22 = .ok (.iload_n 2, 1) := by decide +kernel
theorem dX2_criticalEnd_23 : decode cX2_criticalEnd 23 = .ok (.invokevirtual 135, 3) := by decide +kernel
theorem dX2_criticalEnd_26 : decode cX2_criticalEnd 26 = .ok (.iload_n 1, 1) := by decide +kernel
theorem dX2_criticalEnd_27 : decode cX2_criticalEnd 27 = .ok (.if_icmp .ne 9, 3) := by decide +kernel
theorem dX2_criticalEnd_30 : decode cX2_criticalEnd 30 = .ok (.aload_n 0, 1) := by decide +kernel
theorem dX2_criticalEnd_31 : decode cX2_criticalEnd 31 = .ok (.iload_n 2, 1) := by decide +kernel
theorem dX2_criticalEnd_32 : decode cX2_criticalEnd 32 = .ok (.invokevirtual 132, 3) := by decide +kernel
theorem dX2_criticalEnd_35 : decode cX2_criticalEnd 35 = .ok (.ireturn, 1) := by decide +kernel
theorem dX2_criticalEnd_36 : decode cX2_criticalEnd 36 = .ok (.iinc 2 1, 3) := by decide +kernel
theorem dX2_criticalEnd_39 : decode cX2_criticalEnd 39 = .ok (.goto (-32), 3) := by decide +kernel
theorem dX2_criticalEnd_42 : decode cX2_criticalEnd 42 = .ok (.iconst (-1), 1) := by decide +kernel
theorem dX2_criticalEnd_43 : decode cX2_criticalEnd 43 = .ok (.ireturn, 1) := by decide +kernel
theorem dX2_isOnPath_0 : decode cX2_isOnPath 0 = .ok (.iconst 0, 1) := by decide +kernel
theorem dX2_isOnPath_1 : decode cX2_isOnPath 1 = .ok (.istore_n 2, 1) := by decide +kernel
theorem dX2_isOnPath_2 : decode cX2_isOnPath 2 = .ok (.iload_n 2, 1) := by decide +kernel
theorem dX2_isOnPath_3 : decode cX2_isOnPath 3 = .ok (.aload_n 0, 1) := by decide +kernel
theorem dX2_isOnPath_4 : decode cX2_isOnPath 4 = .ok (.getfield 28, 3) := by decide +kernel
theorem dX2_isOnPath_7 : decode cX2_isOnPath 7 = .ok (.if_icmp .ge 21, 3) := by decide +kernel
theorem dX2_isOnPath_10 : decode cX2_isOnPath 10 = .ok (.aload_n 0, 1) := by decide +kernel
theorem dX2_isOnPath_11 : decode cX2_isOnPath 11 = .ok (.getfield 25, 3) := by decide +kernel
theorem dX2_isOnPath_14 : decode cX2_isOnPath 14 = .ok (.iload_n 2, 1) := by decide +kernel
theorem dX2_isOnPath_15 : decode cX2_isOnPath 15 = .ok (.iaload, 1) := by decide +kernel
theorem dX2_isOnPath_16 : decode cX2_isOnPath 16 = .ok (.iload_n 1, 1) := by decide +kernel
theorem dX2_isOnPath_17 : decode cX2_isOnPath 17 = .ok (.if_icmp .ne 5, 3) := by decide +kernel
theorem dX2_isOnPath_20 : decode cX2_isOnPath 20 = .ok (.iconst 1, 1) := by decide +kernel
theorem dX2_isOnPath_21 : decode cX2_isOnPath 21 = .ok (.ireturn, 1) := by decide +kernel
theorem dX2_isOnPath_22 : decode cX2_isOnPath 22 = .ok (.iinc 2 1, 3) := by decide +kernel
theorem dX2_isOnPath_25 : decode cX2_isOnPath 25 = .ok (.goto (-23), 3) := by decide +kernel
theorem dX2_isOnPath_28 : decode cX2_isOnPath 28 = .ok (.iconst 0, 1) := by decide +kernel
theorem dX2_isOnPath_29 : decode cX2_isOnPath 29 = .ok (.ireturn, 1) := by decide +kernel
theorem dX2_criticalSource_0 : decode cX2_criticalSource 0 = .ok (.iload_n 1, 1) := by decide +kernel
theorem dX2_criticalSource_1 : decode cX2_criticalSource 1 = .ok (.bipush 6, 2) := by decide +kernel
theorem dX2_criticalSource_3 : decode cX2_criticalSource 3 = .ok (.irem, 1) := by decide +kernel
theorem dX2_criticalSource_4 : decode cX2_criticalSource 4 = .ok (.ifCond .ne 7, 3) := by decide +kernel
theorem dX2_criticalSource_7 : decode cX2_criticalSource 7 = .ok (.iconst 1, 1) := by decide +kernel
theorem dX2_criticalSource_8 : decode cX2_criticalSource 8 = .ok (.goto 4, 3) := by decide +kernel
theorem dX2_criticalSource_11 : decode cX2_criticalSource 11 = .ok (.iconst 0, 1) := by decide +kernel
theorem dX2_criticalSource_12 : decode cX2_criticalSource 12 = .ok (.istore_n 2, 1) := by decide +kernel
theorem dX2_criticalSource_13 : decode cX2_criticalSource 13 = .ok (.iload_n 2, 1) := by decide +kernel
theorem dX2_criticalSource_14 : decode cX2_criticalSource 14 = .ok (.ifCond .eq 29, 3) := by decide +kernel
theorem dX2_criticalSource_17 : decode cX2_criticalSource 17 = .ok (.aload_n 0, 1) := by decide +kernel
theorem dX2_criticalSource_18 : decode cX2_criticalSource 18 = .ok (.getfield 9, 3) := by decide +kernel
theorem dX2_criticalSource_21 : decode cX2_criticalSource 21 = .ok (.iload_n 1, 1) := by decide +kernel
theorem dX2_criticalSource_22 : decode cX2_criticalSource 22 = .ok (.iaload, 1) := by decide +kernel
theorem dX2_criticalSource_23 : decode cX2_criticalSource 23 = .ok (.aload_n 0, 1) := by decide +kernel
theorem dX2_criticalSource_24 : decode cX2_criticalSource 24 = .ok (.getfield 44, 3) := by decide +kernel
theorem dX2_criticalSource_27 : decode cX2_criticalSource 27 = .ok (.getfield 48, 3) := by decide +kernel
theorem dX2_criticalSource_30 : decode cX2_criticalSource 30 = .ok (.getfield 104, 3) := by decide +kernel
theorem dX2_criticalSource_33 : decode cX2_criticalSource 33 = .ok (.iload_n 1, 1) := by decide +kernel
theorem dX2_criticalSource_34 : decode cX2_criticalSource 34 = .ok (.bipush 6, 2) := by decide +kernel
theorem dX2_criticalSource_36 : decode cX2_criticalSource 36 = .ok (.idiv, 1) := by decide +kernel
theorem dX2_criticalSource_37 : decode cX2_criticalSource 37 = .ok (.iaload, 1) := by decide +kernel
theorem dX2_criticalSource_38 : decode cX2_criticalSource 38 = .ok (.if_icmp .ne 5, 3) := by decide +kernel
theorem dX2_criticalSource_41 : decode cX2_criticalSource 41 = .ok (.iconst (-1), 1) := by decide +kernel
theorem dX2_criticalSource_42 : decode cX2_criticalSource 42 = .ok (.ireturn, 1) := by decide +kernel
theorem dX2_criticalSource_43 : decode cX2_criticalSource 43 = .ok (.iload_n 2, 1) := by decide +kernel
theorem dX2_criticalSource_44 : decode cX2_criticalSource 44 = .ok (.ifCond .ne 23, 3) := by decide +kernel
theorem dX2_criticalSource_47 : decode cX2_criticalSource 47 = .ok (.aload_n 0, 1) := by decide +kernel
theorem dX2_criticalSource_48 : decode cX2_criticalSource 48 = .ok (.iload_n 1, 1) := by decide +kernel
theorem dX2_criticalSource_49 : decode cX2_criticalSource 49 = .ok (.iconst 1, 1) := by decide +kernel
theorem dX2_criticalSource_50 : decode cX2_criticalSource 50 = .ok (.isub, 1) := by decide +kernel
theorem dX2_criticalSource_51 : decode cX2_criticalSource 51 = .ok (.invokevirtual 129, 3) := by decide +kernel
theorem dX2_criticalSource_54 : decode cX2_criticalSource 54 = .ok (.aload_n 0, 1) := by decide +kernel
theorem dX2_criticalSource_55 : decode cX2_criticalSource 55 = .ok (.getfield 9, 3) := by decide +kernel
theorem dX2_criticalSource_58 : decode cX2_criticalSource 58 = .ok (.iload_n 1, 1) := by decide +kernel
theorem dX2_criticalSource_59 : decode cX2_criticalSource 59 = .ok (.iaload, 1) := by decide +kernel
theorem dX2_criticalSource_60 : decode cX2_criticalSource 60 = .ok (.if_icmp .ne 7, 3) := by decide +kernel
theorem dX2_criticalSource_63 : decode cX2_criticalSource 63 = .ok (.iload_n 1, 1) := by decide +kernel
theorem dX2_criticalSource_64 : decode cX2_criticalSource 64 = .ok (.iconst 1, 1) := by decide +kernel
theorem dX2_criticalSource_65 : decode cX2_criticalSource 65 = .ok (.isub, 1) := by decide +kernel
theorem dX2_criticalSource_66 : decode cX2_criticalSource 66 = .ok (.ireturn, 1) := by decide +kernel
theorem dX2_criticalSource_67 : decode cX2_criticalSource 67 = .ok (.aload_n 0, 1) := by decide +kernel
theorem dX2_criticalSource_68 : decode cX2_criticalSource 68 = .ok (.getfield 15, 3) := by decide +kernel
theorem dX2_criticalSource_71 : decode cX2_criticalSource 71 = .ok (.iload_n 1, 1) := by decide +kernel
theorem dX2_criticalSource_72 : decode cX2_criticalSource 72 = .ok (.iaload, 1) := by decide +kernel
theorem dX2_criticalSource_73 : decode cX2_criticalSource 73 = .ok (.ireturn, 1) := by decide +kernel
theorem dX2_continuesBlock_0 : decode cX2_continuesBlock 0 = .ok (.iload_n 1, 1) := by decide +kernel
theorem dX2_continuesBlock_1 : decode cX2_continuesBlock 1 = .ok (.ifCond .le 46, 3) := by decide +kernel
theorem dX2_continuesBlock_4 : decode cX2_continuesBlock 4 = .ok (.aload_n 0, 1) := by decide +kernel
theorem dX2_continuesBlock_5 : decode cX2_continuesBlock 5 = .ok (.getfield 44, 3) := by decide +kernel
theorem dX2_continuesBlock_8 : decode cX2_continuesBlock 8 = .ok (.getfield 48, 3) := by decide +kernel
theorem dX2_continuesBlock_11 : decode cX2_continuesBlock 11 = .ok (.getfield 126, 3) := by decide +kernel
theorem dX2_continuesBlock_14 : decode cX2_continuesBlock 14 = .ok (.aload_n 0, 1) := by decide +kernel
theorem dX2_continuesBlock_15 : decode cX2_continuesBlock 15 = .ok (.getfield 25, 3) := by decide +kernel
theorem dX2_continuesBlock_18 : decode cX2_continuesBlock 18 = .ok (.iload_n 1, 1) := by decide +kernel
theorem dX2_continuesBlock_19 : decode cX2_continuesBlock 19 = .ok (.iaload, 1) := by decide +kernel
theorem dX2_continuesBlock_20 : decode cX2_continuesBlock 20 = .ok (.iaload, 1) := by decide +kernel
theorem dX2_continuesBlock_21 : decode cX2_continuesBlock 21 = .ok (.aload_n 0, 1) := by decide +kernel
theorem dX2_continuesBlock_22 : decode cX2_continuesBlock 22 = .ok (.getfield 44, 3) := by decide +kernel
theorem dX2_continuesBlock_25 : decode cX2_continuesBlock 25 = .ok (.getfield 48, 3) := by decide +kernel
theorem dX2_continuesBlock_28 : decode cX2_continuesBlock 28 = .ok (.getfield 126, 3) := by decide +kernel
theorem dX2_continuesBlock_31 : decode cX2_continuesBlock 31 = .ok (.aload_n 0, 1) := by decide +kernel
theorem dX2_continuesBlock_32 : decode cX2_continuesBlock 32 = .ok (.getfield 25, 3) := by decide +kernel
theorem dX2_continuesBlock_35 : decode cX2_continuesBlock 35 = .ok (.iload_n 1, 1) := by decide +kernel
theorem dX2_continuesBlock_36 : decode cX2_continuesBlock 36 = .ok (.iconst 1, 1) := by decide +kernel
theorem dX2_continuesBlock_37 : decode cX2_continuesBlock 37 = .ok (.isub, 1) := by decide +kernel
theorem dX2_continuesBlock_38 : decode cX2_continuesBlock 38 = .ok (.iaload, 1) := by decide +kernel
theorem dX2_continuesBlock_39 : decode cX2_continuesBlock 39 = .ok (.iaload, 1) := by decide +kernel
theorem dX2_continuesBlock_40 : decode cX2_continuesBlock 40 = .ok (.if_icmp .ne 7, 3) := by decide +kernel
theorem dX2_continuesBlock_43 : decode cX2_continuesBlock 43 = .ok (.iconst 1, 1) := by decide +kernel
theorem dX2_continuesBlock_44 : decode cX2_continuesBlock 44 = .ok (.goto 4, 3) := by decide +kernel
theorem dX2_continuesBlock_47 : decode cX2_continuesBlock 47 = .ok (.iconst 0, 1) := by decide +kernel
theorem dX2_continuesBlock_48 : decode cX2_continuesBlock 48 = .ok (.ireturn, 1) := by decide +kernel
theorem dX3_init_0 : decode cX3_init 0 = .ok (.aload_n 0, 1) := by decide +kernel
theorem dX3_init_1 : decode cX3_init 1 = .ok (.invokespecial 3, 3) := by decide +kernel
theorem dX3_init_4 : decode cX3_init 4 = .ok (.aload_n 0, 1) := by decide +kernel
theorem dX3_init_5 : decode cX3_init 5 = .ok (.sipush 900, 3) := by decide +kernel
theorem dX3_init_8 : decode cX3_init 8 = .ok (.newarray .byte, 2) := by decide +kernel
theorem dX3_init_10 : decode cX3_init 10 = .ok (.putfield 9, 3) := by decide +kernel
theorem dX3_init_13 : decode cX3_init 13 = .ok (.aload_n 0, 1) := by decide +kernel
theorem dX3_init_14 : decode cX3_init 14 = .ok (.iconst 0, 1) := by decide +kernel
theorem dX3_init_15 : decode cX3_init 15 = .ok (.putfield 15, 3) := by decide +kernel
theorem dX3_init_18 : decode cX3_init 18 = .ok (.aload_n 0, 1) := by decide +kernel
theorem dX3_init_19 : decode cX3_init 19 = .ok (.iconst 0, 1) := by decide +kernel
theorem dX3_init_20 : decode cX3_init 20 = .ok (.putfield 19, 3) := by decide +kernel
theorem dX3_init_23 : decode cX3_init 23 = .ok (.aload_n 0, 1) := by decide +kernel
theorem dX3_init_24 : decode cX3_init 24 = .ok (.iconst 0, 1) := by decide +kernel
theorem dX3_init_25 : decode cX3_init 25 = .ok (.putfield 22, 3) := by decide +kernel
theorem dX3_init_28 : decode cX3_init 28 = .ok (.aload_n 0, 1) := by decide +kernel
theorem dX3_init_29 : decode cX3_init 29 = .ok (.sipush (-1004), 3) := by decide +kernel
theorem dX3_init_32 : decode cX3_init 32 = .ok (.putfield 25, 3) := by decide +kernel
theorem dX3_init_35 : decode cX3_init 35 = .ok (.aload_n 0, 1) := by decide +kernel
theorem dX3_init_36 : decode cX3_init 36 = .ok (.iconst 0, 1) := by decide +kernel
theorem dX3_init_37 : decode cX3_init 37 = .ok (.putfield 28, 3) := by decide +kernel
theorem dX3_init_40 : decode cX3_init 40 = .ok (.aload_n 0, 1) := by decide +kernel
theorem dX3_init_41 : decode cX3_init 41 = .ok (.iconst (-1), 1) := by decide +kernel
theorem dX3_init_42 : decode cX3_init 42 = .ok (.putfield 31, 3) := by decide +kernel
theorem dX3_init_45 : decode cX3_init 45 = .ok (.aload_n 0, 1) := by decide +kernel
theorem dX3_init_46 : decode cX3_init 46 = .ok (.iconst 0, 1) := by decide +kernel
theorem dX3_init_47 : decode cX3_init 47 = .ok (.putfield 34, 3) := by decide +kernel
theorem dX3_init_50 : decode cX3_init 50 = .ok (.aload_n 0, 1) := by decide +kernel
theorem dX3_init_51 : decode cX3_init 51 = .ok (.sipush 900, 3) := by decide +kernel
theorem dX3_init_54 : decode cX3_init 54 = .ok (.newarray .int, 2) := by decide +kernel
theorem dX3_init_56 : decode cX3_init 56 = .ok (.putfield 38, 3) := by decide +kernel
theorem dX3_init_59 : decode cX3_init 59 = .ok (.aload_n 0, 1) := by decide +kernel
theorem dX3_init_60 : decode cX3_init 60 = .ok (.iconst 0, 1) := by decide +kernel
theorem dX3_init_61 : decode cX3_init 61 = .ok (.putfield 42, 3) := by decide +kernel
theorem dX3_init_64 : decode cX3_init 64 = .ok (.return_, 1) := by decide +kernel
theorem dX3_readInto_0 : decode cX3_readInto 0 = .ok (.aload_n 0, 1) := by decide +kernel
theorem dX3_readInto_1 : decode cX3_readInto 1 = .ok (.iconst 0, 1) := by decide +kernel
theorem dX3_readInto_2 : decode cX3_readInto 2 = .ok (.iload_n 2, 1) := by decide +kernel
theorem dX3_readInto_3 : decode cX3_readInto 3 = .ok (.sipush 900, 3) := by decide +kernel
theorem dX3_readInto_6 : decode cX3_readInto 6 = .ok (.invokestatic 45, 3) := by decide +kernel
theorem dX3_readInto_9 : decode cX3_readInto 9 = .ok (.invokestatic 51, 3) := by decide +kernel
theorem dX3_readInto_12 : decode cX3_readInto 12 = .ok (.putfield 15, 3) := by decide +kernel
theorem dX3_readInto_15 : decode cX3_readInto 15 = .ok (.aload_n 0, 1) := by decide +kernel
theorem dX3_readInto_16 : decode cX3_readInto 16 = .ok (.iconst 0, 1) := by decide +kernel
theorem dX3_readInto_17 : decode cX3_readInto 17 = .ok (.putfield 22, 3) := by decide +kernel
theorem dX3_readInto_20 : decode cX3_readInto 20 = .ok (.aload_n 0, 1) := by decide +kernel
theorem dX3_readInto_21 : decode cX3_readInto 21 = .ok (.iconst 0, 1) := by decide +kernel
theorem dX3_readInto_22 : decode cX3_readInto 22 = .ok (.putfield 28, 3) := by decide +kernel
theorem dX3_readInto_25 : decode cX3_readInto 25 = .ok (.aload_n 0, 1) := by decide +kernel
theorem dX3_readInto_26 : decode cX3_readInto 26 = .ok (.iconst (-1), 1) := by decide +kernel
theorem dX3_readInto_27 : decode cX3_readInto 27 = .ok (.putfield 31, 3) := by decide +kernel
theorem dX3_readInto_30 : decode cX3_readInto 30 = .ok (.aload_n 0, 1) := by decide +kernel
theorem dX3_readInto_31 : decode cX3_readInto 31 = .ok (.iconst 0, 1) := by decide +kernel
theorem dX3_readInto_32 : decode cX3_readInto 32 = .ok (.putfield 34, 3) := by decide +kernel
theorem dX3_readInto_35 : decode cX3_readInto 35 = .ok (.aload_n 0, 1) := by decide +kernel
theorem dX3_readInto_36 : decode cX3_readInto 36 = .ok (.iconst 0, 1) := by decide +kernel
theorem dX3_readInto_37 : decode cX3_readInto 37 = .ok (.putfield 42, 3) := by decide +kernel
theorem dX3_readInto_40 : decode cX3_readInto 40 = .ok (.aload_n 0, 1) := by decide +kernel
theorem dX3_readInto_41 : decode cX3_readInto 41 = .ok (.invokevirtual 54, 3) := by decide +kernel
theorem dX3_readInto_44 : decode cX3_readInto 44 = .ok (.aload_n 0, 1) := by decide +kernel
theorem dX3_readInto_45 : decode cX3_readInto 45 = .ok (.aload_n 1, 1) := by decide +kernel
theorem dX3_readInto_46 : decode cX3_readInto 46 = .ok (.invokevirtual 57, 3) := by decide +kernel
theorem dX3_readInto_49 : decode cX3_readInto 49 = .ok (.iconst 0, 1) := by decide +kernel
theorem dX3_readInto_50 : decode cX3_readInto 50 = .ok (.istore_n 3, 1) := by decide +kernel
theorem dX3_readInto_51 : decode cX3_readInto 51 = .ok (.iload_n 3, 1) := by decide +kernel
theorem dX3_readInto_52 : decode cX3_readInto 52 = .ok (.aload_n 0, 1) := by decide +kernel
theorem dX3_readInto_53 : decode cX3_readInto 53 = .ok (.getfield 15, 3) := by decide +kernel
theorem dX3_readInto_56 : decode cX3_readInto 56 = .ok (.if_icmp .ge 89, 3) := by decide +kernel
theorem dX3_readInto_59 : decode cX3_readInto 59 = .ok (.aload_n 0, 1) := by decide +kernel
theorem dX3_readInto_60 : decode cX3_readInto 60 = .ok (.getfield 25, 3) := by decide +kernel
theorem dX3_readInto_63 : decode cX3_readInto 63 = .ok (.sipush (-1002), 3) := by decide +kernel
theorem dX3_readInto_66 : decode cX3_readInto 66 = .ok (.if_icmp .ne 79, 3) := by decide +kernel
theorem dX3_readInto_69 : decode cX3_readInto 69 = .ok (.aload_n 0, 1) := by decide +kernel
theorem dX3_readInto_70 : decode cX3_readInto 70 = .ok (.ldc 61, 2) := by decide +kernel
theorem dX3_readInto_72 : decode cX3_readInto 72 = .ok (.invokevirtual 63, 3) := by decide +kernel
theorem dX3_readInto_75 : decode cX3_readInto 75 = .ok (.ifCond .eq 11, 3) := by decide +kernel
theorem dX3_readInto_78 : decode cX3_readInto 78 = .ok (.aload_n 0, 1) := by decide +kernel
theorem dX3_readInto_79 : decode cX3_readInto 79 = .ok (.aload_n 1, 1) := by decide +kernel
theorem dX3_readInto_80 : decode cX3_readInto 80 = .ok (.invokevirtual 67, 3) := by decide +kernel
theorem dX3_readInto_83 : decode cX3_readInto 83 = .ok (.goto 50, 3) := by decide +kernel
theorem dX3_readInto_86 : decode cX3_readInto 86 = .ok (.aload_n 0, 1) := by decide +kernel
theorem dX3_readInto_87 : decode cX3_readInto 87 = .ok (.ldc 70, 2) := by decide +kernel
theorem dX3_readInto_89 : decode cX3_readInto 89 = .ok (.invokevirtual 63, 3) := by decide +kernel
theorem dX3_readInto_92 : decode cX3_readInto 92 = .ok (.ifCond .eq 11, 3) := by decide +kernel
theorem dX3_readInto_95 : decode cX3_readInto 95 = .ok (.aload_n 0, 1) := by decide +kernel
theorem dX3_readInto_96 : decode cX3_readInto 96 = .ok (.aload_n 1, 1) := by decide +kernel
theorem dX3_readInto_97 : decode cX3_readInto 97 = .ok (.invokevirtual 72, 3) := by decide +kernel
theorem dX3_readInto_100 : decode cX3_readInto 100 = .ok (.goto 33, 3) := by decide +kernel
theorem dX3_readInto_103 : decode cX3_readInto 103 = .ok (.aload_n 0, 1) := by decide +kernel
theorem dX3_readInto_104 : decode cX3_readInto 104 = .ok (.ldc 75, 2) := by decide +kernel
theorem dX3_readInto_106 : decode cX3_readInto 106 = .ok (.invokevirtual 63, 3) := by decide +kernel
theorem dX3_readInto_109 : decode cX3_readInto 109 = .ok (.ifCond .eq 24, 3) := by decide +kernel
theorem dX3_readInto_112 : decode cX3_readInto 112 = .ok (.aload_n 0, 1) := by decide +kernel
theorem dX3_readInto_113 : decode cX3_readInto 113 = .ok (.getfield 34, 3) := by decide +kernel
theorem dX3_readInto_116 : decode cX3_readInto 116 = .ok (.ifCond .ne 17, 3) := by decide +kernel
theorem dX3_readInto_119 : decode cX3_readInto 119 = .ok (.aload_n 0, 1) := by decide +kernel
theorem dX3_readInto_120 : decode cX3_readInto 120 = .ok (.iconst 1, 1) := by decide +kernel
theorem dX3_readInto_121 : decode cX3_readInto 121 = .ok (.putfield 34, 3) := by decide +kernel
theorem dX3_readInto_124 : decode cX3_readInto 124 = .ok (.aload_n 0, 1) := by decide +kernel
theorem dX3_readInto_125 : decode cX3_readInto 125 = .ok (.invokevirtual 54, 3) := by decide +kernel
theorem dX3_readInto_128 : decode cX3_readInto 128 = .ok (.aload_n 0, 1) := by decide +kernel
theorem dX3_readInto_129 : decode cX3_readInto 129 = .ok (.iconst 0, 1) := by decide +kernel
theorem dX3_readInto_130 : decode cX3_readInto 130 = .ok (.invokevirtual 76, 3) := by decide +kernel
theorem dX3_readInto_133 : decode cX3_readInto 133 = .ok (.aload_n 0, 1) := by decide +kernel
theorem dX3_readInto_134 : decode cX3_readInto 134 = .ok (.bipush 59, 2) := by decide +kernel
theorem dX3_readInto_136 : decode cX3_readInto 136 = .ok (.invokevirtual 80, 3) := by decide +kernel
theorem dX3_readInto_139 : decode cX3_readInto 139 = .ok (.iinc 3 1, 3) := by decide +kernel
theorem dX3_readInto_142 : decode cX3_readInto 142 = .ok (.goto (-91), 3) := by decide +kernel
theorem dX3_readInto_145 : decode cX3_readInto 145 = .ok (.aload_n 0, 1) := by decide +kernel
theorem dX3_readInto_146 : decode cX3_readInto 146 = .ok (.getfield 25, 3) := by decide +kernel
theorem dX3_readInto_149 : decode cX3_readInto 149 = .ok (.sipush (-1003), 3) := by decide +kernel
theorem dX3_readInto_152 : decode cX3_readInto 152 = .ok (.if_icmp .ne 10, 3) := by decide +kernel
theorem dX3_readInto_155 : decode cX3_readInto 155 = .ok (.aload_n 1, 1) := by decide +kernel
theorem dX3_readInto_156 : decode cX3_readInto 156 = .ok (.getfield 84, 3) := by decide +kernel
theorem dX3_readInto_159 : decode cX3_readInto 159 = .ok (.ifCond .ne 9, 3) := by decide +kernel
theorem dX3_readInto_162 : decode cX3_readInto 162 = .ok (.aload_n 0, 1) := by decide +kernel
theorem dX3_readInto_163 : decode cX3_readInto 163 = .ok (.bipush (-2), 2) := by decide +kernel
theorem dX3_readInto_165 : decode cX3_readInto 165 = .ok (.invokevirtual 89, 3) := by decide +kernel
theorem dX3_readInto_168 : decode cX3_readInto 168 = .ok (.aload_n 0, 1) := by decide +kernel
theorem dX3_readInto_169 : decode cX3_readInto 169 = .ok (.getfield 34, 3) := by decide +kernel
theorem dX3_readInto_172 : decode cX3_readInto 172 = .ok (.ifCond .eq 25, 3) := by decide +kernel
theorem dX3_readInto_175 : decode cX3_readInto 175 = .ok (.aload_n 0, 1) := by decide +kernel
theorem dX3_readInto_176 : decode cX3_readInto 176 = .ok (.getfield 28, 3) := by decide +kernel
theorem dX3_readInto_179 : decode cX3_readInto 179 = .ok (.ifCond .ne 18, 3) := by decide +kernel
theorem dX3_readInto_182 : decode cX3_readInto 182 = .ok (.aload_n 1, 1) := by decide +kernel
theorem dX3_readInto_183 : decode cX3_readInto 183 = .ok (.aload_n 0, 1) := by decide +kernel
theorem dX3_readInto_184 : decode cX3_readInto 184 = .ok (.getfield 38, 3) := by decide +kernel
theorem dX3_readInto_187 : decode cX3_readInto 187 = .ok (.aload_n 0, 1) := by decide +kernel
theorem dX3_readInto_188 : decode cX3_readInto 188 = .ok (.getfield 42, 3) := by decide +kernel
theorem dX3_readInto_191 : decode cX3_readInto 191 = .ok (.invokestatic 92, 3) := by decide +kernel
theorem dX3_readInto_194 : decode cX3_readInto 194 = .ok (.putfield 98, 3) := by decide +kernel
theorem dX3_readInto_197 : decode cX3_readInto 197 = .ok (.return_, 1) := by decide +kernel
theorem dX3_readHead_0 : decode cX3_readHead 0 = .ok (.aload_n 0, 1) := by decide +kernel
theorem dX3_readHead_1 : decode cX3_readHead 1 = .ok (.ldc 99, 2) := by decide +kernel
theorem dX3_readHead_3 : decode cX3_readHead 3 = .ok (.invokevirtual 101, 3) := by decide +kernel
theorem dX3_readHead_6 : decode cX3_readHead 6 = .ok (.aload_n 1, 1) := by decide +kernel
theorem dX3_readHead_7 : decode cX3_readHead 7 = .ok (.aload_n 0, 1) := by decide +kernel
theorem dX3_readHead_8 : decode cX3_readHead 8 = .ok (.iconst 1, 1) := by decide +kernel
theorem dX3_readHead_9 : decode cX3_readHead 9 = .ok (.bipush 6, 2) := by decide +kernel
theorem dX3_readHead_11 : decode cX3_readHead 11 = .ok (.invokevirtual 105, 3) := by decide +kernel
theorem dX3_readHead_14 : decode cX3_readHead 14 = .ok (.putfield 108, 3) := by decide +kernel
theorem dX3_readHead_17 : decode cX3_readHead 17 = .ok (.aload_n 1, 1) := by decide +kernel
theorem dX3_readHead_18 : decode cX3_readHead 18 = .ok (.aload_n 0, 1) := by decide +kernel
theorem dX3_readHead_19 : decode cX3_readHead 19 = .ok (.iconst 0, 1) := by decide +kernel
theorem dX3_readHead_20 : decode cX3_readHead 20 = .ok (.iconst 1, 1) := by decide +kernel
theorem dX3_readHead_21 : decode cX3_readHead 21 = .ok (.invokevirtual 105, 3) := by decide +kernel
theorem dX3_readHead_24 : decode cX3_readHead 24 = .ok (.iconst 1, 1) := by decide +kernel
theorem dX3_readHead_25 : decode cX3_readHead 25 = .ok (.if_icmp .ne 7, 3) := by decide +kernel
theorem dX3_readHead_28 : decode cX3_readHead 28 = .ok (.iconst 1, 1) := by decide +kernel
theorem dX3_readHead_29 : decode cX3_readHead 29 = .ok (.goto 4, 3) := by decide +kernel
theorem dX3_readHead_32 : decode cX3_readHead 32 = .ok (.iconst 0, 1) := by decide +kernel
theorem dX3_readHead_33 : decode cX3_readHead 33 = .ok (.putfield 111, 3) := by decide +kernel
theorem dX3_readHead_36 : decode cX3_readHead 36 = .ok (.aload_n 0, 1) := by decide +kernel
theorem dX3_readHead_37 : decode cX3_readHead 37 = .ok (.bipush 59, 2) := by decide +kernel
theorem dX3_readHead_39 : decode cX3_readHead 39 = .ok (.invokevirtual 80, 3) := by decide +kernel
theorem dX3_readHead_42 : decode cX3_readHead 42 = .ok (.return_, 1) := by decide +kernel
theorem dX3_readJob_0 : decode cX3_readJob 0 = .ok (.aload_n 1, 1) := by decide +kernel
theorem dX3_readJob_1 : decode cX3_readJob 1 = .ok (.getfield 84, 3) := by decide +kernel
theorem dX3_readJob_4 : decode cX3_readJob 4 = .ok (.istore_n 2, 1) := by decide +kernel
theorem dX3_readJob_5 : decode cX3_readJob 5 = .ok (.iload_n 2, 1) := by decide +kernel
theorem dX3_readJob_6 : decode cX3_readJob 6 = .ok (.bipush 6, 2) := by decide +kernel
theorem dX3_readJob_8 : decode cX3_readJob 8 = .ok (.if_icmp .lt 10, 3) := by decide +kernel
theorem dX3_readJob_11 : decode cX3_readJob 11 = .ok (.aload_n 0, 1) := by decide +kernel
theorem dX3_readJob_12 : decode cX3_readJob 12 = .ok (.bipush (-4), 2) := by decide +kernel
theorem dX3_readJob_14 : decode cX3_readJob 14 = .ok (.invokevirtual 89, 3) := by decide +kernel
theorem dX3_readJob_17 : decode cX3_readJob 17 = .ok (.return_, 1) := by decide +kernel
theorem dX3_readJob_18 : decode cX3_readJob 18 = .ok (.aload_n 0, 1) := by decide +kernel
theorem dX3_readJob_19 : decode cX3_readJob 19 = .ok (.invokevirtual 54, 3) := by decide +kernel
theorem dX3_readJob_22 : decode cX3_readJob 22 = .ok (.aload_n 1, 1) := by decide +kernel
theorem dX3_readJob_23 : decode cX3_readJob 23 = .ok (.getfield 114, 3) := by decide +kernel
theorem dX3_readJob_26 : decode cX3_readJob 26 = .ok (.iload_n 2, 1) := by decide +kernel
theorem dX3_readJob_27 : decode cX3_readJob 27 = .ok (.aload_n 0, 1) := by decide +kernel
theorem dX3_readJob_28 : decode cX3_readJob 28 = .ok (.iconst 0, 1) := by decide +kernel
theorem dX3_readJob_29 : decode cX3_readJob 29 = .ok (.sipush 999, 3) := by decide +kernel
theorem dX3_readJob_32 : decode cX3_readJob 32 = .ok (.invokevirtual 105, 3) := by decide +kernel
theorem dX3_readJob_35 : decode cX3_readJob 35 = .ok (.iastore, 1) := by decide +kernel
theorem dX3_readJob_36 : decode cX3_readJob 36 = .ok (.aload_n 1, 1) := by decide +kernel
theorem dX3_readJob_37 : decode cX3_readJob 37 = .ok (.getfield 117, 3) := by decide +kernel
theorem dX3_readJob_40 : decode cX3_readJob 40 = .ok (.iload_n 2, 1) := by decide +kernel
theorem dX3_readJob_41 : decode cX3_readJob 41 = .ok (.aload_n 0, 1) := by decide +kernel
theorem dX3_readJob_42 : decode cX3_readJob 42 = .ok (.iconst 0, 1) := by decide +kernel
theorem dX3_readJob_43 : decode cX3_readJob 43 = .ok (.sipush 9999, 3) := by decide +kernel
theorem dX3_readJob_46 : decode cX3_readJob 46 = .ok (.invokevirtual 105, 3) := by decide +kernel
theorem dX3_readJob_49 : decode cX3_readJob 49 = .ok (.iastore, 1) := by decide +kernel
theorem dX3_readJob_50 : decode cX3_readJob 50 = .ok (.aload_n 1, 1) := by decide +kernel
theorem dX3_readJob_51 : decode cX3_readJob 51 = .ok (.getfield 120, 3) := by decide +kernel
theorem dX3_readJob_54 : decode cX3_readJob 54 = .ok (.iload_n 2, 1) := by decide +kernel
theorem dX3_readJob_55 : decode cX3_readJob 55 = .ok (.aload_n 0, 1) := by decide +kernel
theorem dX3_readJob_56 : decode cX3_readJob 56 = .ok (.iconst 0, 1) := by decide +kernel
theorem dX3_readJob_57 : decode cX3_readJob 57 = .ok (.bipush 99, 2) := by decide +kernel
theorem dX3_readJob_59 : decode cX3_readJob 59 = .ok (.invokevirtual 105, 3) := by decide +kernel
theorem dX3_readJob_62 : decode cX3_readJob 62 = .ok (.iastore, 1) := by decide +kernel
theorem dX3_readJob_63 : decode cX3_readJob 63 = .ok (.aload_n 0, 1) := by decide +kernel
theorem dX3_readJob_64 : decode cX3_readJob 64 = .ok (.aload_n 1, 1) := by decide +kernel
theorem dX3_readJob_65 : decode cX3_readJob 65 = .ok (.iload_n 2, 1) := by decide +kernel
theorem dX3_readJob_66 : decode cX3_readJob 66 = .ok (.invokevirtual 123, 3) := by decide +kernel
theorem dX3_readJob_69 : decode cX3_readJob 69 = .ok (.iconst 0, 1) := by decide +kernel
theorem dX3_readJob_70 : decode cX3_readJob 70 = .ok (.istore_n 3, 1) := by decide +kernel
theorem dX3_readJob_71 : decode cX3_readJob 71 = .ok (.iload_n 3, 1) := by decide +kernel
theorem dX3_readJob_72 : decode cX3_readJob 72 = .ok (.bipush 6, 2) := by decide +kernel
theorem dX3_readJob_74 : decode cX3_readJob 74 = .ok (.if_icmp .ge 24, 3) := by decide +kernel
theorem dX3_readJob_77 : decode cX3_readJob 77 = .ok (.aload_n 0, 1) := by decide +kernel
theorem dX3_readJob_78 : decode cX3_readJob 78 = .ok (.ldc 127, 2) := by decide +kernel
theorem dX3_readJob_80 : decode cX3_readJob 80 = .ok (.invokevirtual 63, 3) := by decide +kernel
theorem dX3_readJob_83 : decode cX3_readJob 83 = .ok (.ifCond .eq 15, 3) := by decide +kernel
theorem dX3_readJob_86 : decode cX3_readJob 86 = .ok (.aload_n 0, 1) := by decide +kernel
theorem dX3_readJob_87 : decode cX3_readJob 87 = .ok (.aload_n 1, 1) := by decide +kernel
theorem dX3_readJob_88 : decode cX3_readJob 88 = .ok (.iload_n 2, 1) := by decide +kernel
theorem dX3_readJob_89 : decode cX3_readJob 89 = .ok (.invokevirtual 123, 3) := by decide +kernel
theorem dX3_readJob_92 : decode cX3_readJob 92 = .ok (.iinc 3 1, 3) := by decide +kernel
theorem dX3_readJob_95 : decode cX3_readJob 95 = .ok (.goto (-24), 3) := by decide +kernel
theorem dX3_readJob_98 : decode cX3_readJob 98 = .ok (.aload_n 1, 1) := by decide +kernel
theorem dX3_readJob_99 : decode cX3_readJob 99 = .ok (.iload_n 2, 1) := by decide +kernel
theorem dX3_readJob_100 : decode cX3_readJob 100 = .ok (.iconst 1, 1) := by decide +kernel
theorem dX3_readJob_101 : decode cX3_readJob 101 = .ok (.iadd, 1) := by decide +kernel
theorem dX3_readJob_102 : decode cX3_readJob 102 = .ok (.putfield 84, 3) := by decide +kernel
theorem dX3_readJob_105 : decode cX3_readJob 105 = .ok (.return_, 1) := by decide +kernel
theorem dX3_readOperation_0 : decode cX3_readOperation 0 = .ok (.aload_n 1, 1) := by decide +kernel
theorem dX3_readOperation_1 : decode cX3_readOperation 1 = .ok (.getfield 129, 3) := by decide +kernel
theorem dX3_readOperation_4 : decode cX3_readOperation 4 = .ok (.iload_n 2, 1) := by decide +kernel
theorem dX3_readOperation_5 : decode cX3_readOperation 5 = .ok (.iaload, 1) := by decide +kernel
theorem dX3_readOperation_6 : decode cX3_readOperation 6 = .ok (.istore_n 3, 1) := by decide +kernel
theorem dX3_readOperation_7 : decode cX3_readOperation 7 = .ok (.iload_n 3, 1) := by decide +kernel
theorem dX3_readOperation_8 : decode cX3_readOperation 8 = .ok (.bipush 6, 2) := by decide +kernel
theorem dX3_readOperation_10 : decode cX3_readOperation 10 = .ok (.if_icmp .lt 10, 3) := by decide +kernel
theorem dX3_readOperation_13 : decode cX3_readOperation 13 = .ok (.aload_n 0, 1) := by decide +kernel
theorem dX3_readOperation_14 : decode cX3_readOperation 14 = .ok (.bipush (-4), 2) := by decide +kernel
theorem dX3_readOperation_16 : decode cX3_readOperation 16 = .ok (.invokevirtual 89, 3) := by decide +kernel
theorem dX3_readOperation_19 : decode cX3_readOperation 19 = .ok (.return_, 1) := by decide +kernel
theorem dX3_readOperation_20 : decode cX3_readOperation 20 = .ok (.aload_n 0, 1) := by decide +kernel
theorem dX3_readOperation_21 : decode cX3_readOperation 21 = .ok (.ldc 127, 2) := by decide +kernel
theorem dX3_readOperation_23 : decode cX3_readOperation 23 = .ok (.invokevirtual 101, 3) := by decide +kernel
theorem dX3_readOperation_26 : decode cX3_readOperation 26 = .ok (.aload_n 0, 1) := by decide +kernel
theorem dX3_readOperation_27 : decode cX3_readOperation 27 = .ok (.getfield 25, 3) := by decide +kernel
theorem dX3_readOperation_30 : decode cX3_readOperation 30 = .ok (.sipush (-1001), 3) := by decide +kernel
theorem dX3_readOperation_33 : decode cX3_readOperation 33 = .ok (.if_icmp .ne 22, 3) := by decide +kernel
theorem dX3_readOperation_36 : decode cX3_readOperation 36 = .ok (.aload_n 0, 1) := by decide +kernel
theorem dX3_readOperation_37 : decode cX3_readOperation 37 = .ok (.aload_n 1, 1) := by decide +kernel
theorem dX3_readOperation_38 : decode cX3_readOperation 38 = .ok (.iload_n 2, 1) := by decide +kernel
theorem dX3_readOperation_39 : decode cX3_readOperation 39 = .ok (.aload_n 0, 1) := by decide +kernel
theorem dX3_readOperation_40 : decode cX3_readOperation 40 = .ok (.invokevirtual 132, 3) := by decide +kernel
theorem dX3_readOperation_43 : decode cX3_readOperation 43 = .ok (.invokevirtual 136, 3) := by decide +kernel
theorem dX3_readOperation_46 : decode cX3_readOperation 46 = .ok (.ifCond .eq 9, 3) := by decide +kernel
theorem dX3_readOperation_49 : decode cX3_readOperation 49 = .ok (.aload_n 0, 1) := by decide +kernel
theorem dX3_readOperation_50 : decode cX3_readOperation 50 = .ok (.bipush (-3), 2) := by decide +kernel
theorem dX3_readOperation_52 : decode cX3_readOperation 52 = .ok (.invokevirtual 89, 3) := by decide +kernel
theorem dX3_readOperation_55 : decode cX3_readOperation 55 = .ok (.aload_n 0, 1) := by decide +kernel
theorem dX3_readOperation_56 : decode cX3_readOperation 56 = .ok (.iconst 0, 1) := by decide +kernel
theorem dX3_readOperation_57 : decode cX3_readOperation 57 = .ok (.aload_n 1, 1) := by decide +kernel
theorem dX3_readOperation_58 : decode cX3_readOperation 58 = .ok (.getfield 108, 3) := by decide +kernel
theorem dX3_readOperation_61 : decode cX3_readOperation 61 = .ok (.iconst 1, 1) := by decide +kernel
theorem dX3_readOperation_62 : decode cX3_readOperation 62 = .ok (.isub, 1) := by decide +kernel
theorem dX3_readOperation_63 : decode cX3_readOperation 63 = .ok (.invokevirtual 105, 3) := by decide +kernel
theorem dX3_readOperation_66 : decode cX3_readOperation 66 = .ok (.istore 4, 2) := by decide +kernel
theorem dX3_readOperation_68 : decode cX3_readOperation 68 = .ok (.aload_n 1, 1) := by decide +kernel
theorem dX3_readOperation_69 : decode cX3_readOperation 69 = .ok (.getfield 140, 3) := by decide +kernel
theorem dX3_readOperation_72 : decode cX3_readOperation 72 = .ok (.iload_n 2, 1) := by decide +kernel
theorem dX3_readOperation_73 : decode cX3_readOperation 73 = .ok (.iload_n 3, 1) := by decide +kernel
theorem dX3_readOperation_74 : decode cX3_readOperation 74 = .ok (.invokestatic 143, 3) := by decide +kernel
theorem dX3_readOperation_77 : decode cX3_readOperation 77 = .ok (.iload 4, 2) := by decide +kernel
theorem dX3_readOperation_79 : decode cX3_readOperation 79 = .ok (.iastore, 1) := by decide +kernel
theorem dX3_readOperation_80 : decode cX3_readOperation 80 = .ok (.aload_n 1, 1) := by decide +kernel
theorem dX3_readOperation_81 : decode cX3_readOperation 81 = .ok (.getfield 146, 3) := by decide +kernel
theorem dX3_readOperation_84 : decode cX3_readOperation 84 = .ok (.iload_n 2, 1) := by decide +kernel
theorem dX3_readOperation_85 : decode cX3_readOperation 85 = .ok (.iload_n 3, 1) := by decide +kernel
theorem dX3_readOperation_86 : decode cX3_readOperation 86 = .ok (.invokestatic 143, 3) := by decide +kernel
theorem dX3_readOperation_89 : decode cX3_readOperation 89 = .ok (.aload_n 0, 1) := by decide +kernel
theorem dX3_readOperation_90 : decode cX3_readOperation 90 = .ok (.iconst 1, 1) := by decide +kernel
theorem dX3_readOperation_91 : decode cX3_readOperation 91 = .ok (.bipush 99, 2) := by decide +kernel
theorem dX3_readOperation_93 : decode cX3_readOperation 93 = .ok (.invokevirtual 105, 3) := by decide +kernel
theorem dX3_readOperation_96 : decode cX3_readOperation 96 = .ok (.iastore, 1) := by decide +kernel
theorem dX3_readOperation_97 : decode cX3_readOperation 97 = .ok (.aload_n 1, 1) := by decide +kernel
theorem dX3_readOperation_98 : decode cX3_readOperation 98 = .ok (.getfield 129, 3) := by decide +kernel
theorem dX3_readOperation_101 : decode cX3_readOperation 101 = .ok (.iload_n 2, 1) := by decide +kernel
theorem dX3_readOperation_102 : decode cX3_readOperation 102 = .ok (.iload_n 3, 1) := by decide +kernel
theorem dX3_readOperation_103 : decode cX3_readOperation 103 = .ok (.iconst 1, 1) := by decide +kernel
theorem dX3_readOperation_104 : decode cX3_readOperation 104 = .ok (.iadd, 1) := by decide +kernel
theorem dX3_readOperation_105 : decode cX3_readOperation 105 = .ok (.iastore, 1) := by decide +kernel
theorem dX3_readOperation_106 : decode cX3_readOperation 106 = .ok (.aload_n 1, 1) := by decide +kernel
theorem dX3_readOperation_107 : decode cX3_readOperation 107 = .ok (.getfield 149, 3) := by decide +kernel
theorem dX3_readOperation_110 : decode cX3_readOperation 110 = .ok (.iload 4, 2) := by decide +kernel
theorem dX3_readOperation_112 : decode cX3_readOperation 112 = .ok (.dup2, 1) := by decide +kernel
theorem dX3_readOperation_113 : decode cX3_readOperation 113 = .ok (.iaload, 1) := by decide +kernel
theorem dX3_readOperation_114 : decode cX3_readOperation 114 = .ok (.iconst 1, 1) := by decide +kernel
theorem dX3_readOperation_115 : decode cX3_readOperation 115 = .ok (.iadd, 1) := by decide +kernel
theorem dX3_readOperation_116 : decode cX3_readOperation 116 = .ok (.iastore, 1) := by decide +kernel
theorem dX3_readOperation_117 : decode cX3_readOperation 117 = .ok (.return_, 1) := by decide +kernel
theorem dX3_needsAlready_0 : decode cX3_needsAlready 0 = .ok (.iconst 0, 1) := by decide +kernel
theorem dX3_needsAlready_1 : decode cX3_needsAlready 1 = .ok (.istore 4, 2) := by decide +kernel
theorem dX3_needsAlready_3 : decode cX3_needsAlready 3 = .ok (.iload 4, 2) := by decide +kernel
theorem dX3_needsAlready_5 : decode cX3_needsAlready 5 = .ok (.aload_n 1, 1) := by decide +kernel
theorem dX3_needsAlready_6 : decode cX3_needsAlready 6 = .ok (.getfield 129, 3) := by decide +kernel
theorem dX3_needsAlready_9 : decode cX3_needsAlready 9 = .ok (.iload_n 2, 1) := by decide +kernel
theorem dX3_needsAlready_10 : decode cX3_needsAlready 10 = .ok (.iaload, 1) := by decide +kernel
theorem dX3_needsAlready_11 : decode cX3_needsAlready 11 = .ok (.if_icmp .ge 26, 3) := by decide +kernel
theorem dX3_needsAlready_14 : decode cX3_needsAlready 14 = .ok (.aload_n 1, 1) := by decide +kernel
theorem dX3_needsAlready_15 : decode cX3_needsAlready 15 = .ok (.getfield 140, 3) := by decide +kernel
theorem dX3_needsAlready_18 : decode cX3_needsAlready 18 = .ok (.iload_n 2, 1) := by decide +kernel
theorem dX3_needsAlready_19 : decode cX3_needsAlready 19 = .ok (.iload 4, 2) := by decide +kernel
theorem dX3_needsAlready_21 : decode cX3_needsAlready 21 = .ok (.invokestatic 143, 3) := by decide +kernel
theorem dX3_needsAlready_24 : decode cX3_needsAlready 24 = .ok (.iaload, 1) := by decide +kernel
theorem dX3_needsAlready_25 : decode cX3_needsAlready 25 = .ok (.iload_n 3, 1) := by decide +kernel
theorem dX3_needsAlready_26 : decode cX3_needsAlready 26 = .ok (.if_icmp .ne 5, 3) := by decide +kernel
theorem dX3_needsAlready_29 : decode cX3_needsAlready 29 = .ok (.iconst 1, 1) := by decide +kernel
theorem dX3_needsAlready_30 : decode cX3_needsAlready 30 = .ok (.ireturn, 1) := by decide +kernel
theorem dX3_needsAlready_31 : decode cX3_needsAlready 31 = .ok (.iinc 4 1, 3) := by decide +kernel
theorem dX3_needsAlready_34 : decode cX3_needsAlready 34 = .ok (.goto (-31), 3) := by decide +kernel
theorem dX3_needsAlready_37 : decode cX3_needsAlready 37 = .ok (.iconst 0, 1) := by decide +kernel
theorem dX3_needsAlready_38 : decode cX3_needsAlready 38 = .ok (.ireturn, 1) := by decide +kernel
theorem dX3_readMachine_0 : decode cX3_readMachine 0 = .ok (.aload_n 0, 1) := by decide +kernel
theorem dX3_readMachine_1 : decode cX3_readMachine 1 = .ok (.invokevirtual 54, 3) := by decide +kernel
theorem dX3_readMachine_4 : decode cX3_readMachine 4 = .ok (.aload_n 0, 1) := by decide +kernel
theorem dX3_readMachine_5 : decode cX3_readMachine 5 = .ok (.iconst 0, 1) := by decide +kernel
theorem dX3_readMachine_6 : decode cX3_readMachine 6 = .ok (.aload_n 1, 1) := by decide +kernel
theorem dX3_readMachine_7 : decode cX3_readMachine 7 = .ok (.getfield 108, 3) := by decide +kernel
theorem dX3_readMachine_10 : decode cX3_readMachine 10 = .ok (.iconst 1, 1) := by decide +kernel
theorem dX3_readMachine_11 : decode cX3_readMachine 11 = .ok (.isub, 1) := by decide +kernel
theorem dX3_readMachine_12 : decode cX3_readMachine 12 = .ok (.invokevirtual 105, 3) := by decide +kernel
theorem dX3_readMachine_15 : decode cX3_readMachine 15 = .ok (.istore_n 2, 1) := by decide +kernel
theorem dX3_readMachine_16 : decode cX3_readMachine 16 = .ok (.aload_n 1, 1) := by decide +kernel
theorem dX3_readMachine_17 : decode cX3_readMachine 17 = .ok (.getfield 152, 3) := by decide +kernel
theorem dX3_readMachine_20 : decode cX3_readMachine 20 = .ok (.iload_n 2, 1) := by decide +kernel
theorem dX3_readMachine_21 : decode cX3_readMachine 21 = .ok (.aload_n 0, 1) := by decide +kernel
theorem dX3_readMachine_22 : decode cX3_readMachine 22 = .ok (.iconst 0, 1) := by decide +kernel
theorem dX3_readMachine_23 : decode cX3_readMachine 23 = .ok (.iconst 1, 1) := by decide +kernel
theorem dX3_readMachine_24 : decode cX3_readMachine 24 = .ok (.invokevirtual 105, 3) := by decide +kernel
theorem dX3_readMachine_27 : decode cX3_readMachine 27 = .ok (.ifCond .ne 7, 3) := by decide +kernel
theorem dX3_readMachine_30 : decode cX3_readMachine 30 = .ok (.iconst 1, 1) := by decide +kernel
theorem dX3_readMachine_31 : decode cX3_readMachine 31 = .ok (.goto 4, 3) := by decide +kernel
theorem dX3_readMachine_34 : decode cX3_readMachine 34 = .ok (.iconst 0, 1) := by decide +kernel
theorem dX3_readMachine_35 : decode cX3_readMachine 35 = .ok (.bastore, 1) := by decide +kernel
theorem dX3_readMachine_36 : decode cX3_readMachine 36 = .ok (.aload_n 1, 1) := by decide +kernel
theorem dX3_readMachine_37 : decode cX3_readMachine 37 = .ok (.getfield 156, 3) := by decide +kernel
theorem dX3_readMachine_40 : decode cX3_readMachine 40 = .ok (.iload_n 2, 1) := by decide +kernel
theorem dX3_readMachine_41 : decode cX3_readMachine 41 = .ok (.aload_n 0, 1) := by decide +kernel
theorem dX3_readMachine_42 : decode cX3_readMachine 42 = .ok (.iconst 0, 1) := by decide +kernel
theorem dX3_readMachine_43 : decode cX3_readMachine 43 = .ok (.bipush 99, 2) := by decide +kernel
theorem dX3_readMachine_45 : decode cX3_readMachine 45 = .ok (.invokevirtual 105, 3) := by decide +kernel
theorem dX3_readMachine_48 : decode cX3_readMachine 48 = .ok (.iastore, 1) := by decide +kernel
theorem dX3_readMachine_49 : decode cX3_readMachine 49 = .ok (.return_, 1) := by decide +kernel
theorem dX3_readSum_0 : decode cX3_readSum 0 = .ok (.aload_n 0, 1) := by decide +kernel
theorem dX3_readSum_1 : decode cX3_readSum 1 = .ok (.iload_n 1, 1) := by decide +kernel
theorem dX3_readSum_2 : decode cX3_readSum 2 = .ok (.invokevirtual 159, 3) := by decide +kernel
theorem dX3_readSum_5 : decode cX3_readSum 5 = .ok (.iconst 0, 1) := by decide +kernel
theorem dX3_readSum_6 : decode cX3_readSum 6 = .ok (.istore_n 2, 1) := by decide +kernel
theorem dX3_readSum_7 : decode cX3_readSum 7 = .ok (.iload_n 2, 1) := by decide +kernel
theorem dX3_readSum_8 : decode cX3_readSum 8 = .ok (.aload_n 0, 1) := by decide +kernel
theorem dX3_readSum_9 : decode cX3_readSum 9 = .ok (.getfield 15, 3) := by decide +kernel
theorem dX3_readSum_12 : decode cX3_readSum 12 = .ok (.if_icmp .ge 58, 3) := by decide +kernel
theorem dX3_readSum_15 : decode cX3_readSum 15 = .ok (.aload_n 0, 1) := by decide +kernel
theorem dX3_readSum_16 : decode cX3_readSum 16 = .ok (.getfield 25, 3) := by decide +kernel
theorem dX3_readSum_19 : decode cX3_readSum 19 = .ok (.bipush 43, 2) := by decide +kernel
theorem dX3_readSum_21 : decode cX3_readSum 21 = .ok (.if_icmp .eq 12, 3) := by decide +kernel
theorem dX3_readSum_24 : decode cX3_readSum 24 = .ok (.aload_n 0, 1) := by decide +kernel
theorem dX3_readSum_25 : decode cX3_readSum 25 = .ok (.getfield 25, 3) := by decide +kernel
theorem dX3_readSum_28 : decode cX3_readSum 28 = .ok (.bipush 45, 2) := by decide +kernel
theorem dX3_readSum_30 : decode cX3_readSum 30 = .ok (.if_icmp .ne 40, 3) := by decide +kernel
theorem dX3_readSum_33 : decode cX3_readSum 33 = .ok (.aload_n 0, 1) := by decide +kernel
theorem dX3_readSum_34 : decode cX3_readSum 34 = .ok (.getfield 25, 3) := by decide +kernel
theorem dX3_readSum_37 : decode cX3_readSum 37 = .ok (.bipush 43, 2) := by decide +kernel
theorem dX3_readSum_39 : decode cX3_readSum 39 = .ok (.if_icmp .ne 8, 3) := by decide +kernel
theorem dX3_readSum_42 : decode cX3_readSum 42 = .ok (.bipush (-5), 2) := by decide +kernel
theorem dX3_readSum_44 : decode cX3_readSum 44 = .ok (.goto 5, 3) := by decide +kernel
theorem dX3_readSum_47 : decode cX3_readSum 47 = .ok (.bipush (-6), 2) := by decide +kernel
theorem dX3_readSum_49 : decode cX3_readSum 49 = .ok (.istore_n 3, 1) := by decide +kernel
theorem dX3_readSum_50 : decode cX3_readSum 50 = .ok (.aload_n 0, 1) := by decide +kernel
theorem dX3_readSum_51 : decode cX3_readSum 51 = .ok (.invokevirtual 54, 3) := by decide +kernel
theorem dX3_readSum_54 : decode cX3_readSum 54 = .ok (.aload_n 0, 1) := by decide +kernel
theorem dX3_readSum_55 : decode cX3_readSum 55 = .ok (.iload_n 1, 1) := by decide +kernel
theorem dX3_readSum_56 : decode cX3_readSum 56 = .ok (.invokevirtual 159, 3) := by decide +kernel
theorem dX3_readSum_59 : decode cX3_readSum 59 = .ok (.aload_n 0, 1) := by decide +kernel
theorem dX3_readSum_60 : decode cX3_readSum 60 = .ok (.iload_n 3, 1) := by decide +kernel
theorem dX3_readSum_61 : decode cX3_readSum 61 = .ok (.invokevirtual 164, 3) := by decide +kernel
theorem dX3_readSum_64 : decode cX3_readSum 64 = .ok (.iinc 2 1, 3) := by decide +kernel
theorem dX3_readSum_67 : decode cX3_readSum 67 = .ok (.goto (-60), 3) := by decide +kernel
theorem dX3_readSum_70 : decode cX3_readSum 70 = .ok (.return_, 1) := by decide +kernel
theorem dX3_readTerm_0 : decode cX3_readTerm 0 = .ok (.aload_n 0, 1) := by decide +kernel
theorem dX3_readTerm_1 : decode cX3_readTerm 1 = .ok (.iload_n 1, 1) := by decide +kernel
theorem dX3_readTerm_2 : decode cX3_readTerm 2 = .ok (.invokevirtual 167, 3) := by decide +kernel
theorem dX3_readTerm_5 : decode cX3_readTerm 5 = .ok (.iconst 0, 1) := by decide +kernel
theorem dX3_readTerm_6 : decode cX3_readTerm 6 = .ok (.istore_n 2, 1) := by decide +kernel
theorem dX3_readTerm_7 : decode cX3_readTerm 7 = .ok (.iload_n 2, 1) := by decide +kernel
theorem dX3_readTerm_8 : decode cX3_readTerm 8 = .ok (.aload_n 0, 1) := by decide +kernel
theorem dX3_readTerm_9 : decode cX3_readTerm 9 = .ok (.getfield 15, 3) := by decide +kernel
theorem dX3_readTerm_12 : decode cX3_readTerm 12 = .ok (.if_icmp .ge 58, 3) := by decide +kernel
theorem dX3_readTerm_15 : decode cX3_readTerm 15 = .ok (.aload_n 0, 1) := by decide +kernel
theorem dX3_readTerm_16 : decode cX3_readTerm 16 = .ok (.getfield 25, 3) := by decide +kernel
theorem dX3_readTerm_19 : decode cX3_readTerm 19 = .ok (.bipush 42, 2) := by decide +kernel
theorem dX3_readTerm_21 : decode cX3_readTerm 21 = .ok (.if_icmp .eq 12, 3) := by decide +kernel
theorem dX3_readTerm_24 : decode cX3_readTerm 24 = .ok (.aload_n 0, 1) := by decide +kernel
theorem dX3_readTerm_25 : decode cX3_readTerm 25 = .ok (.getfield 25, 3) := by decide +kernel
theorem dX3_readTerm_28 : decode cX3_readTerm 28 = .ok (.bipush 47, 2) := by decide +kernel
theorem dX3_readTerm_30 : decode cX3_readTerm 30 = .ok (.if_icmp .ne 40, 3) := by decide +kernel
theorem dX3_readTerm_33 : decode cX3_readTerm 33 = .ok (.aload_n 0, 1) := by decide +kernel
theorem dX3_readTerm_34 : decode cX3_readTerm 34 = .ok (.getfield 25, 3) := by decide +kernel
theorem dX3_readTerm_37 : decode cX3_readTerm 37 = .ok (.bipush 42, 2) := by decide +kernel
theorem dX3_readTerm_39 : decode cX3_readTerm 39 = .ok (.if_icmp .ne 8, 3) := by decide +kernel
theorem dX3_readTerm_42 : decode cX3_readTerm 42 = .ok (.bipush (-7), 2) := by decide +kernel
theorem dX3_readTerm_44 : decode cX3_readTerm 44 = .ok (.goto 5, 3) := by decide +kernel
theorem dX3_readTerm_47 : decode cX3_readTerm 47 = .ok (.bipush (-8), 2) := by decide +kernel
theorem dX3_readTerm_49 : decode cX3_readTerm 49 = .ok (.istore_n 3, 1) := by decide +kernel
theorem dX3_readTerm_50 : decode cX3_readTerm 50 = .ok (.aload_n 0, 1) := by decide +kernel
theorem dX3_readTerm_51 : decode cX3_readTerm 51 = .ok (.invokevirtual 54, 3) := by decide +kernel
theorem dX3_readTerm_54 : decode cX3_readTerm 54 = .ok (.aload_n 0, 1) := by decide +kernel
theorem dX3_readTerm_55 : decode cX3_readTerm 55 = .ok (.iload_n 1, 1) := by decide +kernel
theorem dX3_readTerm_56 : decode cX3_readTerm 56 = .ok (.invokevirtual 167, 3) := by decide +kernel
theorem dX3_readTerm_59 : decode cX3_readTerm 59 = .ok (.aload_n 0, 1) := by decide +kernel
theorem dX3_readTerm_60 : decode cX3_readTerm 60 = .ok (.iload_n 3, 1) := by decide +kernel
theorem dX3_readTerm_61 : decode cX3_readTerm 61 = .ok (.invokevirtual 164, 3) := by decide +kernel
theorem dX3_readTerm_64 : decode cX3_readTerm 64 = .ok (.iinc 2 1, 3) := by decide +kernel
theorem dX3_readTerm_67 : decode cX3_readTerm 67 = .ok (.goto (-60), 3) := by decide +kernel
theorem dX3_readTerm_70 : decode cX3_readTerm 70 = .ok (.return_, 1) := by decide +kernel
theorem dX3_readFactor_0 : decode cX3_readFactor 0 = .ok (.aload_n 0, 1) := by decide +kernel
theorem dX3_readFactor_1 : decode cX3_readFactor 1 = .ok (.getfield 25, 3) := by decide +kernel
theorem dX3_readFactor_4 : decode cX3_readFactor 4 = .ok (.bipush 40, 2) := by decide +kernel
theorem dX3_readFactor_6 : decode cX3_readFactor 6 = .ok (.if_icmp .ne 17, 3) := by decide +kernel
theorem dX3_readFactor_9 : decode cX3_readFactor 9 = .ok (.iload_n 1, 1) := by decide +kernel
theorem dX3_readFactor_10 : decode cX3_readFactor 10 = .ok (.iconst 4, 1) := by decide +kernel
theorem dX3_readFactor_11 : decode cX3_readFactor 11 = .ok (.if_icmp .lt 12, 3) := by decide +kernel
theorem dX3_readFactor_14 : decode cX3_readFactor 14 = .ok (.aload_n 0, 1) := by decide +kernel
theorem dX3_readFactor_15 : decode cX3_readFactor 15 = .ok (.bipush (-5), 2) := by decide +kernel
theorem dX3_readFactor_17 : decode cX3_readFactor 17 = .ok (.invokevirtual 89, 3) := by decide +kernel
theorem dX3_readFactor_20 : decode cX3_readFactor 20 = .ok (.goto 61, 3) := by decide +kernel
theorem dX3_readFactor_23 : decode cX3_readFactor 23 = .ok (.aload_n 0, 1) := by decide +kernel
theorem dX3_readFactor_24 : decode cX3_readFactor 24 = .ok (.getfield 25, 3) := by decide +kernel
theorem dX3_readFactor_27 : decode cX3_readFactor 27 = .ok (.bipush 40, 2) := by decide +kernel
theorem dX3_readFactor_29 : decode cX3_readFactor 29 = .ok (.if_icmp .ne 23, 3) := by decide +kernel
theorem dX3_readFactor_32 : decode cX3_readFactor 32 = .ok (.aload_n 0, 1) := by decide +kernel
theorem dX3_readFactor_33 : decode cX3_readFactor 33 = .ok (.invokevirtual 54, 3) := by decide +kernel
theorem dX3_readFactor_36 : decode cX3_readFactor 36 = .ok (.aload_n 0, 1) := by decide +kernel
theorem dX3_readFactor_37 : decode cX3_readFactor 37 = .ok (.iload_n 1, 1) := by decide +kernel
theorem dX3_readFactor_38 : decode cX3_readFactor 38 = .ok (.iconst 1, 1) := by decide +kernel
theorem dX3_readFactor_39 : decode cX3_readFactor 39 = .ok (.iadd, 1) := by decide +kernel
theorem dX3_readFactor_40 : decode cX3_readFactor 40 = .ok (.invokevirtual 76, 3) := by decide +kernel
theorem dX3_readFactor_43 : decode cX3_readFactor 43 = .ok (.aload_n 0, 1) := by decide +kernel
theorem dX3_readFactor_44 : decode cX3_readFactor 44 = .ok (.bipush 41, 2) := by decide +kernel
theorem dX3_readFactor_46 : decode cX3_readFactor 46 = .ok (.invokevirtual 80, 3) := by decide +kernel
theorem dX3_readFactor_49 : decode cX3_readFactor 49 = .ok (.goto 32, 3) := by decide +kernel
theorem dX3_readFactor_52 : decode cX3_readFactor 52 = .ok (.aload_n 0, 1) := by decide +kernel
theorem dX3_readFactor_53 : decode cX3_readFactor 53 = .ok (.getfield 25, 3) := by decide +kernel
theorem dX3_readFactor_56 : decode cX3_readFactor 56 = .ok (.sipush (-1001), 3) := by decide +kernel
theorem dX3_readFactor_59 : decode cX3_readFactor 59 = .ok (.if_icmp .ne 18, 3) := by decide +kernel
theorem dX3_readFactor_62 : decode cX3_readFactor 62 = .ok (.aload_n 0, 1) := by decide +kernel
theorem dX3_readFactor_63 : decode cX3_readFactor 63 = .ok (.aload_n 0, 1) := by decide +kernel
theorem dX3_readFactor_64 : decode cX3_readFactor 64 = .ok (.iconst 0, 1) := by decide +kernel
theorem dX3_readFactor_65 : decode cX3_readFactor 65 = .ok (.sipush 9999, 3) := by decide +kernel
theorem dX3_readFactor_68 : decode cX3_readFactor 68 = .ok (.invokevirtual 105, 3) := by decide +kernel
theorem dX3_readFactor_71 : decode cX3_readFactor 71 = .ok (.invokevirtual 164, 3) := by decide +kernel
theorem dX3_readFactor_74 : decode cX3_readFactor 74 = .ok (.goto 7, 3) := by decide +kernel
theorem dX3_readFactor_77 : decode cX3_readFactor 77 = .ok (.aload_n 0, 1) := by decide +kernel
theorem dX3_readFactor_78 : decode cX3_readFactor 78 = .ok (.invokevirtual 170, 3) := by decide +kernel
theorem dX3_readFactor_81 : decode cX3_readFactor 81 = .ok (.return_, 1) := by decide +kernel
theorem dX3_readName_0 : decode cX3_readName 0 = .ok (.aload_n 0, 1) := by decide +kernel
theorem dX3_readName_1 : decode cX3_readName 1 = .ok (.ldc 173, 2) := by decide +kernel
theorem dX3_readName_3 : decode cX3_readName 3 = .ok (.invokevirtual 63, 3) := by decide +kernel
theorem dX3_readName_6 : decode cX3_readName 6 = .ok (.ifCond .eq 11, 3) := by decide +kernel
theorem dX3_readName_9 : decode cX3_readName 9 = .ok (.aload_n 0, 1) := by decide +kernel
theorem dX3_readName_10 : decode cX3_readName 10 = .ok (.iconst (-1), 1) := by decide +kernel
theorem dX3_readName_11 : decode cX3_readName 11 = .ok (.invokevirtual 164, 3) := by decide +kernel
theorem dX3_readName_14 : decode cX3_readName 14 = .ok (.goto 63, 3) := by decide +kernel
theorem dX3_readName_17 : decode cX3_readName 17 = .ok (.aload_n 0, 1) := by decide +kernel
theorem dX3_readName_18 : decode cX3_readName 18 = .ok (.ldc 175, 2) := by decide +kernel
theorem dX3_readName_20 : decode cX3_readName 20 = .ok (.invokevirtual 63, 3) := by decide +kernel
theorem dX3_readName_23 : decode cX3_readName 23 = .ok (.ifCond .eq 12, 3) := by decide +kernel
theorem dX3_readName_26 : decode cX3_readName 26 = .ok (.aload_n 0, 1) := by decide +kernel
theorem dX3_readName_27 : decode cX3_readName 27 = .ok (.bipush (-2), 2) := by decide +kernel
theorem dX3_readName_29 : decode cX3_readName 29 = .ok (.invokevirtual 164, 3) := by decide +kernel
theorem dX3_readName_32 : decode cX3_readName 32 = .ok (.goto 45, 3) := by decide +kernel
theorem dX3_readName_35 : decode cX3_readName 35 = .ok (.aload_n 0, 1) := by decide +kernel
theorem dX3_readName_36 : decode cX3_readName 36 = .ok (.ldc 176, 2) := by decide +kernel
theorem dX3_readName_38 : decode cX3_readName 38 = .ok (.invokevirtual 63, 3) := by decide +kernel
theorem dX3_readName_41 : decode cX3_readName 41 = .ok (.ifCond .eq 12, 3) := by decide +kernel
theorem dX3_readName_44 : decode cX3_readName 44 = .ok (.aload_n 0, 1) := by decide +kernel
theorem dX3_readName_45 : decode cX3_readName 45 = .ok (.bipush (-3), 2) := by decide +kernel
theorem dX3_readName_47 : decode cX3_readName 47 = .ok (.invokevirtual 164, 3) := by decide +kernel
theorem dX3_readName_50 : decode cX3_readName 50 = .ok (.goto 27, 3) := by decide +kernel
theorem dX3_readName_53 : decode cX3_readName 53 = .ok (.aload_n 0, 1) := by decide +kernel
theorem dX3_readName_54 : decode cX3_readName 54 = .ok (.ldc 177, 2) := by decide +kernel
theorem dX3_readName_56 : decode cX3_readName 56 = .ok (.invokevirtual 63, 3) := by decide +kernel
theorem dX3_readName_59 : decode cX3_readName 59 = .ok (.ifCond .eq 12, 3) := by decide +kernel
theorem dX3_readName_62 : decode cX3_readName 62 = .ok (.aload_n 0, 1) := by decide +kernel
theorem dX3_readName_63 : decode cX3_readName 63 = .ok (.bipush (-4), 2) := by decide +kernel
theorem dX3_readName_65 : decode cX3_readName 65 = .ok (.invokevirtual 164, 3) := by decide +kernel
theorem dX3_readName_68 : decode cX3_readName 68 = .ok (.goto 9, 3) := by decide +kernel
theorem dX3_readName_71 : decode cX3_readName 71 = .ok (.aload_n 0, 1) := by decide +kernel
theorem dX3_readName_72 : decode cX3_readName 72 = .ok (.bipush (-2), 2) := by decide +kernel
theorem dX3_readName_74 : decode cX3_readName 74 = .ok (.invokevirtual 89, 3) := by decide +kernel
theorem dX3_readName_77 : decode cX3_readName 77 = .ok (.aload_n 0, 1) := by decide +kernel
theorem dX3_readName_78 : decode cX3_readName 78 = .ok (.invokevirtual 54, 3) := by decide +kernel
theorem dX3_readName_81 : decode cX3_readName 81 = .ok (.return_, 1) := by decide +kernel
theorem dX3_addToCost_0 : decode cX3_addToCost 0 = .ok (.aload_n 0, 1) := by decide +kernel
theorem dX3_addToCost_1 : decode cX3_addToCost 1 = .ok (.getfield 42, 3) := by decide +kernel
theorem dX3_addToCost_4 : decode cX3_addToCost 4 = .ok (.sipush 900, 3) := by decide +kernel
theorem dX3_addToCost_7 : decode cX3_addToCost 7 = .ok (.if_icmp .ge 23, 3) := by decide +kernel
theorem dX3_addToCost_10 : decode cX3_addToCost 10 = .ok (.aload_n 0, 1) := by decide +kernel
theorem dX3_addToCost_11 : decode cX3_addToCost 11 = .ok (.getfield 38, 3) := by decide +kernel
theorem dX3_addToCost_14 : decode cX3_addToCost 14 = .ok (.aload_n 0, 1) := by decide +kernel
theorem dX3_addToCost_15 : decode cX3_addToCost 15 = .ok (.getfield 42, 3) := by decide +kernel
theorem dX3_addToCost_18 : decode cX3_addToCost 18 = .ok (.iload_n 1, 1) := by decide +kernel
theorem dX3_addToCost_19 : decode cX3_addToCost 19 = .ok (.iastore, 1) := by decide +kernel
theorem dX3_addToCost_20 : decode cX3_addToCost 20 = .ok (.aload_n 0, 1) := by decide +kernel
theorem dX3_addToCost_21 : decode cX3_addToCost 21 = .ok (.dup, 1) := by decide +kernel
theorem dX3_addToCost_22 : decode cX3_addToCost 22 = .ok (.getfield 42, 3) := by decide +kernel
theorem dX3_addToCost_25 : decode cX3_addToCost 25 = .ok (.iconst 1, 1) := by decide +kernel
theorem dX3_addToCost_26 : decode cX3_addToCost 26 = .ok (.iadd, 1) := by decide +kernel
theorem dX3_addToCost_27 : decode cX3_addToCost 27 = .ok (.putfield 42, 3) := by decide +kernel
theorem dX3_addToCost_30 : decode cX3_addToCost 30 = .ok (.return_, 1) := by decide +kernel
theorem dX3_valueOfToken_0 : decode cX3_valueOfToken 0 = .ok (.iconst 0, 1) := by decide +kernel
theorem dX3_valueOfToken_1 : decode cX3_valueOfToken 1 = .ok (.istore_n 1, 1) := by decide +kernel
theorem dX3_valueOfToken_2 : decode cX3_valueOfToken 2 = .ok (.aload_n 0, 1) := by decide +kernel
theorem dX3_valueOfToken_3 : decode cX3_valueOfToken 3 = .ok (.getfield 19, 3) := by decide +kernel
theorem dX3_valueOfToken_6 : decode cX3_valueOfToken 6 = .ok (.istore_n 2, 1) := by decide +kernel
theorem dX3_valueOfToken_7 : decode cX3_valueOfToken 7 = .ok (.iload_n 2, 1) := by decide +kernel
theorem dX3_valueOfToken_8 : decode cX3_valueOfToken 8 = .ok (.aload_n 0, 1) := by decide +kernel
theorem dX3_valueOfToken_9 : decode cX3_valueOfToken 9 = .ok (.getfield 22, 3) := by decide +kernel
theorem dX3_valueOfToken_12 : decode cX3_valueOfToken 12 = .ok (.if_icmp .ge 30, 3) := by decide +kernel
theorem dX3_valueOfToken_15 : decode cX3_valueOfToken 15 = .ok (.iload_n 1, 1) := by decide +kernel
theorem dX3_valueOfToken_16 : decode cX3_valueOfToken 16 = .ok (.ldc 178, 2) := by decide +kernel
theorem dX3_valueOfToken_18 : decode cX3_valueOfToken 18 = .ok (.if_icmp .ge 24, 3) := by decide +kernel
theorem dX3_valueOfToken_21 : decode cX3_valueOfToken 21 = .ok (.bipush 10, 2) := by decide +kernel
theorem dX3_valueOfToken_23 : decode cX3_valueOfToken 23 = .ok (.iload_n 1, 1) := by decide +kernel
theorem dX3_valueOfToken_24 : decode cX3_valueOfToken 24 = .ok (.imul, 1) := by decide +kernel
theorem dX3_valueOfToken_25 : decode cX3_valueOfToken 25 = .ok (.aload_n 0, 1) := by decide +kernel
theorem dX3_valueOfToken_26 : decode cX3_valueOfToken 26 = .ok (.getfield 9, 3) := by decide +kernel
theorem dX3_valueOfToken_29 : decode cX3_valueOfToken 29 = .ok (.iload_n 2, 1) := by decide +kernel
theorem dX3_valueOfToken_30 : decode cX3_valueOfToken 30 = .ok (.baload, 1) := by decide +kernel
theorem dX3_valueOfToken_31 : decode cX3_valueOfToken 31 = .ok (.iadd, 1) := by decide +kernel
theorem dX3_valueOfToken_32 : decode cX3_valueOfToken 32 = .ok (.bipush 48, 2) := by decide +kernel
theorem dX3_valueOfToken_34 : decode cX3_valueOfToken 34 = .ok (.isub, 1) := by decide +kernel
theorem dX3_valueOfToken_35 : decode cX3_valueOfToken 35 = .ok (.istore_n 1, 1) := by decide +kernel
theorem dX3_valueOfToken_36 : decode cX3_valueOfToken 36 = .ok (.iinc 2 1, 3) := by decide +kernel
theorem dX3_valueOfToken_39 : decode cX3_valueOfToken 39 = .ok (.goto (-32), 3) := by decide +kernel
theorem dX3_valueOfToken_42 : decode cX3_valueOfToken 42 = .ok (.iload_n 1, 1) := by decide +kernel
theorem dX3_valueOfToken_43 : decode cX3_valueOfToken 43 = .ok (.ireturn, 1) := by decide +kernel
theorem dX3_readNumber_0 : decode cX3_readNumber 0 = .ok (.aload_n 0, 1) := by decide +kernel
theorem dX3_readNumber_1 : decode cX3_readNumber 1 = .ok (.getfield 25, 3) := by decide +kernel
theorem dX3_readNumber_4 : decode cX3_readNumber 4 = .ok (.sipush (-1001), 3) := by decide +kernel
theorem dX3_readNumber_7 : decode cX3_readNumber 7 = .ok (.if_icmp .eq 11, 3) := by decide +kernel
theorem dX3_readNumber_10 : decode cX3_readNumber 10 = .ok (.aload_n 0, 1) := by decide +kernel
theorem dX3_readNumber_11 : decode cX3_readNumber 11 = .ok (.bipush (-2), 2) := by decide +kernel
theorem dX3_readNumber_13 : decode cX3_readNumber 13 = .ok (.invokevirtual 89, 3) := by decide +kernel
theorem dX3_readNumber_16 : decode cX3_readNumber 16 = .ok (.iload_n 1, 1) := by decide +kernel
theorem dX3_readNumber_17 : decode cX3_readNumber 17 = .ok (.ireturn, 1) := by decide +kernel
theorem dX3_readNumber_18 : decode cX3_readNumber 18 = .ok (.aload_n 0, 1) := by decide +kernel
theorem dX3_readNumber_19 : decode cX3_readNumber 19 = .ok (.invokevirtual 132, 3) := by decide +kernel
theorem dX3_readNumber_22 : decode cX3_readNumber 22 = .ok (.istore_n 3, 1) := by decide +kernel
theorem dX3_readNumber_23 : decode cX3_readNumber 23 = .ok (.iload_n 3, 1) := by decide +kernel
theorem dX3_readNumber_24 : decode cX3_readNumber 24 = .ok (.iload_n 1, 1) := by decide +kernel
theorem dX3_readNumber_25 : decode cX3_readNumber 25 = .ok (.if_icmp .lt 8, 3) := by decide +kernel
theorem dX3_readNumber_28 : decode cX3_readNumber 28 = .ok (.iload_n 3, 1) := by decide +kernel
theorem dX3_readNumber_29 : decode cX3_readNumber 29 = .ok (.iload_n 2, 1) := by decide +kernel
theorem dX3_readNumber_30 : decode cX3_readNumber 30 = .ok (.if_icmp .le 11, 3) := by decide +kernel
theorem dX3_readNumber_33 : decode cX3_readNumber 33 = .ok (.aload_n 0, 1) := by decide +kernel
theorem dX3_readNumber_34 : decode cX3_readNumber 34 = .ok (.bipush (-3), 2) := by decide +kernel
theorem dX3_readNumber_36 : decode cX3_readNumber 36 = .ok (.invokevirtual 89, 3) := by decide +kernel
theorem dX3_readNumber_39 : decode cX3_readNumber 39 = .ok (.iload_n 1, 1) := by decide +kernel
theorem dX3_readNumber_40 : decode cX3_readNumber 40 = .ok (.ireturn, 1) := by decide +kernel
theorem dX3_readNumber_41 : decode cX3_readNumber 41 = .ok (.aload_n 0, 1) := by decide +kernel
theorem dX3_readNumber_42 : decode cX3_readNumber 42 = .ok (.invokevirtual 54, 3) := by decide +kernel
theorem dX3_readNumber_45 : decode cX3_readNumber 45 = .ok (.iload_n 3, 1) := by decide +kernel
theorem dX3_readNumber_46 : decode cX3_readNumber 46 = .ok (.ireturn, 1) := by decide +kernel
theorem dX3_expectWord_0 : decode cX3_expectWord 0 = .ok (.aload_n 0, 1) := by decide +kernel
theorem dX3_expectWord_1 : decode cX3_expectWord 1 = .ok (.aload_n 1, 1) := by decide +kernel
theorem dX3_expectWord_2 : decode cX3_expectWord 2 = .ok (.invokevirtual 63, 3) := by decide +kernel
theorem dX3_expectWord_5 : decode cX3_expectWord 5 = .ok (.ifCond .eq 10, 3) := by decide +kernel
theorem dX3_expectWord_8 : decode cX3_expectWord 8 = .ok (.aload_n 0, 1) := by decide +kernel
theorem dX3_expectWord_9 : decode cX3_expectWord 9 = .ok (.invokevirtual 54, 3) := by decide +kernel
theorem dX3_expectWord_12 : decode cX3_expectWord 12 = .ok (.goto 9, 3) := by decide +kernel
theorem dX3_expectWord_15 : decode cX3_expectWord 15 = .ok (.aload_n 0, 1) := by decide +kernel
theorem dX3_expectWord_16 : decode cX3_expectWord 16 = .ok (.bipush (-2), 2) := by decide +kernel
theorem dX3_expectWord_18 : decode cX3_expectWord 18 = .ok (.invokevirtual 89, 3) := by decide +kernel
theorem dX3_expectWord_21 : decode cX3_expectWord 21 = .ok (.return_, 1) := by decide +kernel
theorem dX3_expect_0 : decode cX3_expect 0 = .ok (.aload_n 0, 1) := by decide +kernel
theorem dX3_expect_1 : decode cX3_expect 1 = .ok (.getfield 25, 3) := by decide +kernel
theorem dX3_expect_4 : decode cX3_expect 4 = .ok (.iload_n 1, 1) := by decide +kernel
theorem dX3_expect_5 : decode cX3_expect 5 = .ok (.if_icmp .ne 10, 3) := by decide +kernel
theorem dX3_expect_8 : decode cX3_expect 8 = .ok (.aload_n 0, 1) := by decide +kernel
theorem dX3_expect_9 : decode cX3_expect 9 = .ok (.invokevirtual 54, 3) := by decide +kernel
theorem dX3_expect_12 : decode cX3_expect 12 = .ok (.goto 9, 3) := by decide +kernel
theorem dX3_expect_15 : decode cX3_expect 15 = .ok (.aload_n 0, 1) := by decide +kernel
theorem dX3_expect_16 : decode cX3_expect 16 = .ok (.bipush (-2), 2) := by decide +kernel
theorem dX3_expect_18 : decode cX3_expect 18 = .ok (.invokevirtual 89, 3) := by decide +kernel
theorem dX3_expect_21 : decode cX3_expect 21 = .ok (.return_, 1) := by decide +kernel
theorem dX3_isWord_0 : decode cX3_isWord 0 = .ok (.aload_n 0, 1) := by decide +kernel
theorem dX3_isWord_1 : decode cX3_isWord 1 = .ok (.getfield 25, 3) := by decide +kernel
theorem dX3_isWord_4 : decode cX3_isWord 4 = .ok (.sipush (-1002), 3) := by decide +kernel
theorem dX3_isWord_7 : decode cX3_isWord 7 = .ok (.if_icmp .ne 19, 3) := by decide +kernel
theorem dX3_isWord_10 : decode cX3_isWord 10 = .ok (.aload_n 0, 1) := by decide +kernel
theorem dX3_isWord_11 : decode cX3_isWord 11 = .ok (.getfield 22, 3) := by decide +kernel
theorem dX3_isWord_14 : decode cX3_isWord 14 = .ok (.aload_n 0, 1) := by decide +kernel
theorem dX3_isWord_15 : decode cX3_isWord 15 = .ok (.getfield 19, 3) := by decide +kernel
theorem dX3_isWord_18 : decode cX3_isWord 18 = .ok (.isub, 1) := by decide +kernel
theorem dX3_isWord_19 : decode cX3_isWord 19 = .ok (.aload_n 1, 1) := by decide +kernel
theorem dX3_isWord_20 : decode cX3_isWord 20 = .ok (.invokevirtual 179, 3) := by decide +kernel
theorem dX3_isWord_23 : decode cX3_isWord 23 = .ok (.if_icmp .eq 5, 3) := by decide +kernel
theorem dX3_isWord_26 : decode cX3_isWord 26 = .ok (.iconst 0, 1) := by decide +kernel
theorem dX3_isWord_27 : decode cX3_isWord 27 = .ok (.ireturn, 1) := by decide +kernel
theorem dX3_isWord_28 : decode cX3_isWord 28 = .ok (.iconst 0, 1) := by decide +kernel
theorem dX3_isWord_29 : decode cX3_isWord 29 = .ok (.istore_n 2, 1) := by decide +kernel
theorem dX3_isWord_30 : decode cX3_isWord 30 = .ok (.iload_n 2, 1) := by decide +kernel
theorem dX3_isWord_31 : decode cX3_isWord 31 = .ok (.aload_n 1, 1) := by decide +kernel
theorem dX3_isWord_32 : decode cX3_isWord 32 = .ok (.invokevirtual 179, 3) := by decide +kernel
theorem dX3_isWord_35 : decode cX3_isWord 35 = .ok (.if_icmp .ge 30, 3) := by decide +kernel
theorem dX3_isWord_38 : decode cX3_isWord 38 = .ok (.aload_n 0, 1) := by decide +kernel
theorem dX3_isWord_39 : decode cX3_isWord 39 = .ok (.getfield 9, 3) := by decide +kernel
theorem dX3_isWord_42 : decode cX3_isWord 42 = .ok (.aload_n 0, 1) := by decide +kernel
theorem dX3_isWord_43 : decode cX3_isWord 43 = .ok (.getfield 19, 3) := by decide +kernel
theorem dX3_isWord_46 : decode cX3_isWord 46 = .ok (.iload_n 2, 1) := by decide +kernel
theorem dX3_isWord_47 : decode cX3_isWord 47 = .ok (.iadd, 1) := by decide +kernel
theorem dX3_isWord_48 : decode cX3_isWord 48 = .ok (.baload, 1) := by decide +kernel
theorem dX3_isWord_49 : decode cX3_isWord 49 = .ok (.aload_n 1, 1) := by decide +kernel
theorem dX3_isWord_50 : decode cX3_isWord 50 = .ok (.iload_n 2, 1) := by decide +kernel
theorem dX3_isWord_51 : decode cX3_isWord 51 = .ok (.invokevirtual 184, 3) := by decide +kernel
theorem dX3_isWord_54 : decode cX3_isWord 54 = .ok (.if_icmp .eq 5, 3) := by decide +kernel
theorem dX3_isWord_57 : decode cX3_isWord 57 = .ok (.iconst 0, 1) := by decide +kernel
theorem dX3_isWord_58 : decode cX3_isWord 58 = .ok (.ireturn, 1) := by decide +kernel
theorem dX3_isWord_59 : decode cX3_isWord 59 = .ok (.iinc 2 1, 3) := by decide +kernel
theorem dX3_isWord_62 : decode cX3_isWord 62 = .ok (.goto (-32), 3) := by decide +kernel
theorem dX3_isWord_65 : decode cX3_isWord 65 = .ok (.iconst 1, 1) := by decide +kernel
theorem dX3_isWord_66 : decode cX3_isWord 66 = .ok (.ireturn, 1) := by decide +kernel
theorem dX3_fail_0 : decode cX3_fail 0 = .ok (.aload_n 0, 1) := by decide +kernel
theorem dX3_fail_1 : decode cX3_fail 1 = .ok (.getfield 28, 3) := by decide +kernel
theorem dX3_fail_4 : decode cX3_fail 4 = .ok (.ifCond .ne 16, 3) := by decide +kernel
theorem dX3_fail_7 : decode cX3_fail 7 = .ok (.aload_n 0, 1) := by decide +kernel
theorem dX3_fail_8 : decode cX3_fail 8 = .ok (.iload_n 1, 1) := by decide +kernel
theorem dX3_fail_9 : decode cX3_fail 9 = .ok (.putfield 28, 3) := by decide +kernel
theorem dX3_fail_12 : decode cX3_fail 12 = .ok (.aload_n 0, 1) := by decide +kernel
theorem dX3_fail_13 : decode cX3_fail 13 = .ok (.aload_n 0, 1) := by decide +kernel
theorem dX3_fail_14 : decode cX3_fail 14 = .ok (.getfield 19, 3) := by decide +kernel
theorem dX3_fail_17 : decode cX3_fail 17 = .ok (.putfield 31, 3) := by decide +kernel
theorem dX3_fail_20 : decode cX3_fail 20 = .ok (.aload_n 0, 1) := by decide +kernel
theorem dX3_fail_21 : decode cX3_fail 21 = .ok (.sipush (-1004), 3) := by decide +kernel
theorem dX3_fail_24 : decode cX3_fail 24 = .ok (.putfield 25, 3) := by decide +kernel
theorem dX3_fail_27 : decode cX3_fail 27 = .ok (.return_, 1) := by decide +kernel
theorem dX3_next_0 : decode cX3_next 0 = .ok (.aload_n 0, 1) := by decide +kernel
theorem dX3_next_1 : decode cX3_next 1 = .ok (.getfield 28, 3) := by decide +kernel
theorem dX3_next_4 : decode cX3_next 4 = .ok (.ifCond .eq 4, 3) := by decide +kernel
theorem dX3_next_7 : decode cX3_next 7 = .ok (.return_, 1) := by decide +kernel
theorem dX3_next_8 : decode cX3_next 8 = .ok (.aload_n 0, 1) := by decide +kernel
theorem dX3_next_9 : decode cX3_next 9 = .ok (.getfield 22, 3) := by decide +kernel
theorem dX3_next_12 : decode cX3_next 12 = .ok (.aload_n 0, 1) := by decide +kernel
theorem dX3_next_13 : decode cX3_next 13 = .ok (.getfield 15, 3) := by decide +kernel
theorem dX3_next_16 : decode cX3_next 16 = .ok (.if_icmp .ge 30, 3) := by decide +kernel
theorem dX3_next_19 : decode cX3_next 19 = .ok (.aload_n 0, 1) := by decide +kernel
theorem dX3_next_20 : decode cX3_next 20 = .ok (.getfield 9, 3) := by decide +kernel
theorem dX3_next_23 : decode cX3_next 23 = .ok (.aload_n 0, 1) := by decide +kernel
theorem dX3_next_24 : decode cX3_next 24 = .ok (.getfield 22, 3) := by decide +kernel
theorem dX3_next_27 : decode cX3_next 27 = .ok (.baload, 1) := by decide +kernel
theorem dX3_next_28 : decode cX3_next 28 = .ok (.bipush 32, 2) := by decide +kernel
theorem dX3_next_30 : decode cX3_next 30 = .ok (.if_icmp .ne 16, 3) := by decide +kernel
theorem dX3_next_33 : decode cX3_next 33 = .ok (.aload_n 0, 1) := by decide +kernel
theorem dX3_next_34 : decode cX3_next 34 = .ok (.dup, 1) := by decide +kernel
theorem dX3_next_35 : decode cX3_next 35 = .ok (.getfield 22, 3) := by decide +kernel
theorem dX3_next_38 : decode cX3_next 38 = .ok (.iconst 1, 1) := by decide +kernel
theorem dX3_next_39 : decode cX3_next 39 = .ok (.iadd, 1) := by decide +kernel
theorem dX3_next_40 : decode cX3_next 40 = .ok (.putfield 22, 3) := by decide +kernel
theorem dX3_next_43 : decode cX3_next 43 = .ok (.goto (-35), 3) := by decide +kernel
theorem dX3_next_46 : decode cX3_next 46 = .ok (.aload_n 0, 1) := by decide +kernel
theorem dX3_next_47 : decode cX3_next 47 = .ok (.aload_n 0, 1) := by decide +kernel
theorem dX3_next_48 : decode cX3_next 48 = .ok (.getfield 22, 3) := by decide +kernel
theorem dX3_next_51 : decode cX3_next 51 = .ok (.putfield 19, 3) := by decide +kernel
theorem dX3_next_54 : decode cX3_next 54 = .ok (.aload_n 0, 1) := by decide +kernel
theorem dX3_next_55 : decode cX3_next 55 = .ok (.getfield 22, 3) := by decide +kernel
theorem dX3_next_58 : decode cX3_next 58 = .ok (.aload_n 0, 1) := by decide +kernel
theorem dX3_next_59 : decode cX3_next 59 = .ok (.getfield 15, 3) := by decide +kernel
theorem dX3_next_62 : decode cX3_next 62 = .ok (.if_icmp .lt 11, 3) := by decide +kernel
theorem dX3_next_65 : decode cX3_next 65 = .ok (.aload_n 0, 1) := by decide +kernel
theorem dX3_next_66 : decode cX3_next 66 = .ok (.sipush (-1003), 3) := by decide +kernel
theorem dX3_next_69 : decode cX3_next 69 = .ok (.putfield 25, 3) := by decide +kernel
theorem dX3_next_72 : decode cX3_next 72 = .ok (.return_, 1) := by decide +kernel
theorem dX3_next_73 : decode cX3_next 73 = .ok (.aload_n 0, 1) := by decide +kernel
theorem dX3_next_74 : decode cX3_next 74 = .ok (.getfield 9, 3) := by decide +kernel
theorem dX3_next_77 : decode cX3_next 77 = .ok (.aload_n 0, 1) := by decide +kernel
theorem dX3_next_78 : decode cX3_next 78 = .ok (.getfield 22, 3) := by decide +kernel
theorem dX3_next_81 : decode cX3_next 81 = .ok (.baload, 1) := by decide +kernel
theorem dX3_next_82 : decode cX3_next 82 = .ok (.istore_n 1, 1) := by decide +kernel
theorem dX3_next_83 : decode cX3_next 83 = .ok (.aload_n 0, 1) := by decide +kernel
theorem dX3_next_84 : decode cX3_next 84 = .ok (.dup, 1) := by decide +kernel
theorem dX3_next_85 : decode cX3_next 85 = .ok (.getfield 22, 3) := by decide +kernel
theorem dX3_next_88 : decode cX3_next 88 = .ok (.iconst 1, 1) := by decide +kernel
theorem dX3_next_89 : decode cX3_next 89 = .ok (.iadd, 1) := by decide +kernel
theorem dX3_next_90 : decode cX3_next 90 = .ok (.putfield 22, 3) := by decide +kernel
theorem dX3_next_93 : decode cX3_next 93 = .ok (.iload_n 1, 1) := by decide +kernel
theorem dX3_next_94 : decode cX3_next 94 = .ok (.bipush 48, 2) := by decide +kernel
theorem dX3_next_96 : decode cX3_next 96 = .ok (.if_icmp .lt 68, 3) := by decide +kernel
theorem dX3_next_99 : decode cX3_next 99 = .ok (.iload_n 1, 1) := by decide +kernel
theorem dX3_next_100 : decode cX3_next 100 = .ok (.bipush 57, 2) := by decide +kernel
theorem dX3_next_102 : decode cX3_next 102 = .ok (.if_icmp .gt 62, 3) := by decide +kernel
theorem dX3_next_105 : decode cX3_next 105 = .ok (.aload_n 0, 1) := by decide +kernel
theorem dX3_next_106 : decode cX3_next 106 = .ok (.sipush (-1001), 3) := by decide +kernel
theorem dX3_next_109 : decode cX3_next 109 = .ok (.putfield 25, 3) := by decide +kernel
theorem dX3_next_112 : decode cX3_next 112 = .ok (.aload_n 0, 1) := by decide +kernel
theorem dX3_next_113 : decode cX3_next 113 = .ok (.getfield 22, 3) := by decide +kernel
theorem dX3_next_116 : decode cX3_next 116 = .ok (.aload_n 0, 1) := by decide +kernel
theorem dX3_next_117 : decode cX3_next 117 = .ok (.getfield 15, 3) := by decide +kernel
theorem dX3_next_120 : decode cX3_next 120 = .ok (.if_icmp .ge 120, 3) := by decide +kernel
theorem dX3_next_123 : decode cX3_next 123 = .ok (.aload_n 0, 1) := by decide +kernel
theorem dX3_next_124 : decode cX3_next 124 = .ok (.getfield 9, 3) := by decide +kernel
theorem dX3_next_127 : decode cX3_next 127 = .ok (.aload_n 0, 1) := by decide +kernel
theorem dX3_next_128 : decode cX3_next 128 = .ok (.getfield 22, 3) := by decide +kernel
theorem dX3_next_131 : decode cX3_next 131 = .ok (.baload, 1) := by decide +kernel
theorem dX3_next_132 : decode cX3_next 132 = .ok (.bipush 48, 2) := by decide +kernel
theorem dX3_next_134 : decode cX3_next 134 = .ok (.if_icmp .lt 106, 3) := by decide +kernel
theorem dX3_next_137 : decode cX3_next 137 = .ok (.aload_n 0, 1) := by decide +kernel
theorem dX3_next_138 : decode cX3_next 138 = .ok (.getfield 9, 3) := by decide +kernel
theorem dX3_next_141 : decode cX3_next 141 = .ok (.aload_n 0, 1) := by decide +kernel
theorem dX3_next_142 : decode cX3_next 142 = .ok (.getfield 22, 3) := by decide +kernel
theorem dX3_next_145 : decode cX3_next 145 = .ok (.baload, 1) := by decide +kernel
theorem dX3_next_146 : decode cX3_next 146 = .ok (.bipush 57, 2) := by decide +kernel
theorem dX3_next_148 : decode cX3_next 148 = .ok (.if_icmp .gt 92, 3) := by decide +kernel
theorem dX3_next_151 : decode cX3_next 151 = .ok (.aload_n 0, 1) := by decide +kernel
theorem dX3_next_152 : decode cX3_next 152 = .ok (.dup, 1) := by decide +kernel
theorem dX3_next_153 : decode cX3_next 153 = .ok (.getfield 22, 3) := by decide +kernel
theorem dX3_next_156 : decode cX3_next 156 = .ok (.iconst 1, 1) := by decide +kernel
theorem dX3_next_157 : decode cX3_next 157 = .ok (.iadd, 1) := by decide +kernel
theorem dX3_next_158 : decode cX3_next 158 = .ok (.putfield 22, 3) := by decide +kernel
theorem dX3_next_161 : decode cX3_next 161 = .ok (.goto (-49), 3) := by decide +kernel
theorem dX3_next_164 : decode cX3_next 164 = .ok (.iload_n 1, 1) := by decide +kernel
theorem dX3_next_165 : decode cX3_next 165 = .ok (.bipush 97, 2) := by decide +kernel
theorem dX3_next_167 : decode cX3_next 167 = .ok (.if_icmp .lt 68, 3) := by decide +kernel
theorem dX3_next_170 : decode cX3_next 170 = .ok (.iload_n 1, 1) := by decide +kernel
theorem dX3_next_171 : decode cX3_next 171 = .ok (.bipush 122, 2) := by decide +kernel
theorem dX3_next_173 : decode cX3_next 173 = .ok (.if_icmp .gt 62, 3) := by decide +kernel
theorem dX3_next_176 : decode cX3_next 176 = .ok (.aload_n 0, 1) := by decide +kernel
theorem dX3_next_177 : decode cX3_next 177 = .ok (.sipush (-1002), 3) := by decide +kernel
theorem dX3_next_180 : decode cX3_next 180 = .ok (.putfield 25, 3) := by decide +kernel
theorem dX3_next_183 : decode cX3_next 183 = .ok (.aload_n 0, 1) := by decide +kernel
theorem dX3_next_184 : decode cX3_next 184 = .ok (.getfield 22, 3) := by decide +kernel
theorem dX3_next_187 : decode cX3_next 187 = .ok (.aload_n 0, 1) := by decide +kernel
theorem dX3_next_188 : decode cX3_next 188 = .ok (.getfield 15, 3) := by decide +kernel
theorem dX3_next_191 : decode cX3_next 191 = .ok (.if_icmp .ge 49, 3) := by decide +kernel
theorem dX3_next_194 : decode cX3_next 194 = .ok (.aload_n 0, 1) := by decide +kernel
theorem dX3_next_195 : decode cX3_next 195 = .ok (.getfield 9, 3) := by decide +kernel
theorem dX3_next_198 : decode cX3_next 198 = .ok (.aload_n 0, 1) := by decide +kernel
theorem dX3_next_199 : decode cX3_next 199 = .ok (.getfield 22, 3) := by decide +kernel
theorem dX3_next_202 : decode cX3_next 202 = .ok (.baload, 1) := by decide +kernel
theorem dX3_next_203 : decode cX3_next 203 = .ok (.bipush 97, 2) := by decide +kernel
theorem dX3_next_205 : decode cX3_next 205 = .ok (.if_icmp .lt 35, 3) := by decide +kernel
theorem dX3_next_208 : decode cX3_next 208 = .ok (.aload_n 0, 1) := by decide +kernel
theorem dX3_next_209 : decode cX3_next 209 = .ok (.getfield 9, 3) := by decide +kernel
theorem dX3_next_212 : decode cX3_next 212 = .ok (.aload_n 0, 1) := by decide +kernel
theorem dX3_next_213 : decode cX3_next 213 = .ok (.getfield 22, 3) := by decide +kernel
theorem dX3_next_216 : decode cX3_next 216 = .ok (.baload, 1) := by decide +kernel
theorem dX3_next_217 : decode cX3_next 217 = .ok (.bipush 122, 2) := by decide +kernel
theorem dX3_next_219 : decode cX3_next 219 = .ok (.if_icmp .gt 21, 3) := by decide +kernel
theorem dX3_next_222 : decode cX3_next 222 = .ok (.aload_n 0, 1) := by decide +kernel
theorem dX3_next_223 : decode cX3_next 223 = .ok (.dup, 1) := by decide +kernel
theorem dX3_next_224 : decode cX3_next 224 = .ok (.getfield 22, 3) := by decide +kernel
theorem dX3_next_227 : decode cX3_next 227 = .ok (.iconst 1, 1) := by decide +kernel
theorem dX3_next_228 : decode cX3_next 228 = .ok (.iadd, 1) := by decide +kernel
theorem dX3_next_229 : decode cX3_next 229 = .ok (.putfield 22, 3) := by decide +kernel
theorem dX3_next_232 : decode cX3_next 232 = .ok (.goto (-49), 3) := by decide +kernel
theorem dX3_next_235 : decode cX3_next 235 = .ok (.aload_n 0, 1) := by decide +kernel
theorem dX3_next_236 : decode cX3_next 236 = .ok (.iload_n 1, 1) := by decide +kernel
theorem dX3_next_237 : decode cX3_next 237 = .ok (.putfield 25, 3) := by decide +kernel
theorem dX3_next_240 : decode cX3_next 240 = .ok (.return_, 1) := by decide +kernel
theorem dX4_init_0 : decode cX4_init 0 = .ok (.aload_n 0, 1) := by decide +kernel
theorem dX4_init_1 : decode cX4_init 1 = .ok (.invokespecial 3, 3) := by decide +kernel
theorem dX4_init_4 : decode cX4_init 4 = .ok (.aload_n 0, 1) := by decide +kernel
theorem dX4_init_5 : decode cX4_init 5 = .ok (.iconst 0, 1) := by decide +kernel
theorem dX4_init_6 : decode cX4_init 6 = .ok (.putfield 9, 3) := by decide +kernel
theorem dX4_init_9 : decode cX4_init 9 = .ok (.aload_n 0, 1) := by decide +kernel
theorem dX4_init_10 : decode cX4_init 10 = .ok (.iconst 0, 1) := by decide +kernel
theorem dX4_init_11 : decode cX4_init 11 = .ok (.putfield 15, 3) := by decide +kernel
theorem dX4_init_14 : decode cX4_init 14 = .ok (.aload_n 0, 1) := by decide +kernel
theorem dX4_init_15 : decode cX4_init 15 = .ok (.iconst 0, 1) := by decide +kernel
theorem dX4_init_16 : decode cX4_init 16 = .ok (.putfield 18, 3) := by decide +kernel
theorem dX4_init_19 : decode cX4_init 19 = .ok (.aload_n 0, 1) := by decide +kernel
theorem dX4_init_20 : decode cX4_init 20 = .ok (.bipush 6, 2) := by decide +kernel
theorem dX4_init_22 : decode cX4_init 22 = .ok (.newarray .boolean, 2) := by decide +kernel
theorem dX4_init_24 : decode cX4_init 24 = .ok (.putfield 22, 3) := by decide +kernel
theorem dX4_init_27 : decode cX4_init 27 = .ok (.aload_n 0, 1) := by decide +kernel
theorem dX4_init_28 : decode cX4_init 28 = .ok (.bipush 6, 2) := by decide +kernel
theorem dX4_init_30 : decode cX4_init 30 = .ok (.newarray .int, 2) := by decide +kernel
theorem dX4_init_32 : decode cX4_init 32 = .ok (.putfield 26, 3) := by decide +kernel
theorem dX4_init_35 : decode cX4_init 35 = .ok (.aload_n 0, 1) := by decide +kernel
theorem dX4_init_36 : decode cX4_init 36 = .ok (.bipush 6, 2) := by decide +kernel
theorem dX4_init_38 : decode cX4_init 38 = .ok (.newarray .int, 2) := by decide +kernel
theorem dX4_init_40 : decode cX4_init 40 = .ok (.putfield 30, 3) := by decide +kernel
theorem dX4_init_43 : decode cX4_init 43 = .ok (.aload_n 0, 1) := by decide +kernel
theorem dX4_init_44 : decode cX4_init 44 = .ok (.bipush 6, 2) := by decide +kernel
theorem dX4_init_46 : decode cX4_init 46 = .ok (.newarray .int, 2) := by decide +kernel
theorem dX4_init_48 : decode cX4_init 48 = .ok (.putfield 33, 3) := by decide +kernel
theorem dX4_init_51 : decode cX4_init 51 = .ok (.aload_n 0, 1) := by decide +kernel
theorem dX4_init_52 : decode cX4_init 52 = .ok (.bipush 6, 2) := by decide +kernel
theorem dX4_init_54 : decode cX4_init 54 = .ok (.newarray .int, 2) := by decide +kernel
theorem dX4_init_56 : decode cX4_init 56 = .ok (.putfield 36, 3) := by decide +kernel
theorem dX4_init_59 : decode cX4_init 59 = .ok (.aload_n 0, 1) := by decide +kernel
theorem dX4_init_60 : decode cX4_init 60 = .ok (.bipush 6, 2) := by decide +kernel
theorem dX4_init_62 : decode cX4_init 62 = .ok (.newarray .int, 2) := by decide +kernel
theorem dX4_init_64 : decode cX4_init 64 = .ok (.putfield 39, 3) := by decide +kernel
theorem dX4_init_67 : decode cX4_init 67 = .ok (.aload_n 0, 1) := by decide +kernel
theorem dX4_init_68 : decode cX4_init 68 = .ok (.bipush 6, 2) := by decide +kernel
theorem dX4_init_70 : decode cX4_init 70 = .ok (.newarray .int, 2) := by decide +kernel
theorem dX4_init_72 : decode cX4_init 72 = .ok (.putfield 42, 3) := by decide +kernel
theorem dX4_init_75 : decode cX4_init 75 = .ok (.aload_n 0, 1) := by decide +kernel
theorem dX4_init_76 : decode cX4_init 76 = .ok (.bipush 36, 2) := by decide +kernel
theorem dX4_init_78 : decode cX4_init 78 = .ok (.newarray .int, 2) := by decide +kernel
theorem dX4_init_80 : decode cX4_init 80 = .ok (.putfield 45, 3) := by decide +kernel
theorem dX4_init_83 : decode cX4_init 83 = .ok (.aload_n 0, 1) := by decide +kernel
theorem dX4_init_84 : decode cX4_init 84 = .ok (.bipush 36, 2) := by decide +kernel
theorem dX4_init_86 : decode cX4_init 86 = .ok (.newarray .int, 2) := by decide +kernel
theorem dX4_init_88 : decode cX4_init 88 = .ok (.putfield 48, 3) := by decide +kernel
theorem dX4_init_91 : decode cX4_init 91 = .ok (.aload_n 0, 1) := by decide +kernel
theorem dX4_init_92 : decode cX4_init 92 = .ok (.iconst 1, 1) := by decide +kernel
theorem dX4_init_93 : decode cX4_init 93 = .ok (.newarray .int, 2) := by decide +kernel
theorem dX4_init_95 : decode cX4_init 95 = .ok (.dup, 1) := by decide +kernel
theorem dX4_init_96 : decode cX4_init 96 = .ok (.iconst 0, 1) := by decide +kernel
theorem dX4_init_97 : decode cX4_init 97 = .ok (.iconst (-1), 1) := by decide +kernel
theorem dX4_init_98 : decode cX4_init 98 = .ok (.iastore, 1) := by decide +kernel
theorem dX4_init_99 : decode cX4_init 99 = .ok (.putfield 53, 3) := by decide +kernel
theorem dX4_init_102 : decode cX4_init 102 = .ok (.return_, 1) := by decide +kernel
theorem dX4_isLast_0 : decode cX4_isLast 0 = .ok (.iload_n 1, 1) := by decide +kernel
theorem dX4_isLast_1 : decode cX4_isLast 1 = .ok (.bipush 6, 2) := by decide +kernel
theorem dX4_isLast_3 : decode cX4_isLast 3 = .ok (.irem, 1) := by decide +kernel
theorem dX4_isLast_4 : decode cX4_isLast 4 = .ok (.aload_n 0, 1) := by decide +kernel
theorem dX4_isLast_5 : decode cX4_isLast 5 = .ok (.getfield 42, 3) := by decide +kernel
theorem dX4_isLast_8 : decode cX4_isLast 8 = .ok (.iload_n 1, 1) := by decide +kernel
theorem dX4_isLast_9 : decode cX4_isLast 9 = .ok (.bipush 6, 2) := by decide +kernel
theorem dX4_isLast_11 : decode cX4_isLast 11 = .ok (.idiv, 1) := by decide +kernel
theorem dX4_isLast_12 : decode cX4_isLast 12 = .ok (.iaload, 1) := by decide +kernel
theorem dX4_isLast_13 : decode cX4_isLast 13 = .ok (.iconst 1, 1) := by decide +kernel
theorem dX4_isLast_14 : decode cX4_isLast 14 = .ok (.isub, 1) := by decide +kernel
theorem dX4_isLast_15 : decode cX4_isLast 15 = .ok (.if_icmp .ne 7, 3) := by decide +kernel
theorem dX4_isLast_18 : decode cX4_isLast 18 = .ok (.iconst 1, 1) := by decide +kernel
theorem dX4_isLast_19 : decode cX4_isLast 19 = .ok (.goto 4, 3) := by decide +kernel
theorem dX4_isLast_22 : decode cX4_isLast 22 = .ok (.iconst 0, 1) := by decide +kernel
theorem dX4_isLast_23 : decode cX4_isLast 23 = .ok (.ireturn, 1) := by decide +kernel
theorem dX5_init_0 : decode cX5_init 0 = .ok (.aload_n 0, 1) := by decide +kernel
theorem dX5_init_1 : decode cX5_init 1 = .ok (.invokespecial 3, 3) := by decide +kernel
theorem dX5_init_4 : decode cX5_init 4 = .ok (.aload_n 0, 1) := by decide +kernel
theorem dX5_init_5 : decode cX5_init 5 = .ok (.new 9, 3) := by decide +kernel
theorem dX5_init_8 : decode cX5_init 8 = .ok (.dup, 1) := by decide +kernel
theorem dX5_init_9 : decode cX5_init 9 = .ok (.invokespecial 11, 3) := by decide +kernel
theorem dX5_init_12 : decode cX5_init 12 = .ok (.putfield 12, 3) := by decide +kernel
theorem dX5_init_15 : decode cX5_init 15 = .ok (.aload_n 0, 1) := by decide +kernel
theorem dX5_init_16 : decode cX5_init 16 = .ok (.iconst 0, 1) := by decide +kernel
theorem dX5_init_17 : decode cX5_init 17 = .ok (.putfield 16, 3) := by decide +kernel
theorem dX5_init_20 : decode cX5_init 20 = .ok (.aload_n 0, 1) := by decide +kernel
theorem dX5_init_21 : decode cX5_init 21 = .ok (.iconst (-1), 1) := by decide +kernel
theorem dX5_init_22 : decode cX5_init 22 = .ok (.putfield 20, 3) := by decide +kernel
theorem dX5_init_25 : decode cX5_init 25 = .ok (.aload_n 0, 1) := by decide +kernel
theorem dX5_init_26 : decode cX5_init 26 = .ok (.bipush 8, 2) := by decide +kernel
theorem dX5_init_28 : decode cX5_init 28 = .ok (.anewarray 23, 3) := by decide +kernel
theorem dX5_init_31 : decode cX5_init 31 = .ok (.putfield 25, 3) := by decide +kernel
theorem dX5_init_34 : decode cX5_init 34 = .ok (.aload_n 0, 1) := by decide +kernel
theorem dX5_init_35 : decode cX5_init 35 = .ok (.iconst 0, 1) := by decide +kernel
theorem dX5_init_36 : decode cX5_init 36 = .ok (.putfield 29, 3) := by decide +kernel
theorem dX5_init_39 : decode cX5_init 39 = .ok (.aload_n 0, 1) := by decide +kernel
theorem dX5_init_40 : decode cX5_init 40 = .ok (.iconst 0, 1) := by decide +kernel
theorem dX5_init_41 : decode cX5_init 41 = .ok (.putfield 32, 3) := by decide +kernel
theorem dX5_init_44 : decode cX5_init 44 = .ok (.new 35, 3) := by decide +kernel
theorem dX5_init_47 : decode cX5_init 47 = .ok (.dup, 1) := by decide +kernel
theorem dX5_init_48 : decode cX5_init 48 = .ok (.invokespecial 37, 3) := by decide +kernel
theorem dX5_init_51 : decode cX5_init 51 = .ok (.astore_n 1, 1) := by decide +kernel
theorem dX5_init_52 : decode cX5_init 52 = .ok (.aload_n 0, 1) := by decide +kernel
theorem dX5_init_53 : decode cX5_init 53 = .ok (.new 38, 3) := by decide +kernel
theorem dX5_init_56 : decode cX5_init 56 = .ok (.dup, 1) := by decide +kernel
theorem dX5_init_57 : decode cX5_init 57 = .ok (.aload_n 1, 1) := by decide +kernel
theorem dX5_init_58 : decode cX5_init 58 = .ok (.invokespecial 40, 3) := by decide +kernel
theorem dX5_init_61 : decode cX5_init 61 = .ok (.putfield 43, 3) := by decide +kernel
theorem dX5_init_64 : decode cX5_init 64 = .ok (.aload_n 0, 1) := by decide +kernel
theorem dX5_init_65 : decode cX5_init 65 = .ok (.aload_n 0, 1) := by decide +kernel
theorem dX5_init_66 : decode cX5_init 66 = .ok (.getfield 43, 3) := by decide +kernel
theorem dX5_init_69 : decode cX5_init 69 = .ok (.getfield 47, 3) := by decide +kernel
theorem dX5_init_72 : decode cX5_init 72 = .ok (.putfield 51, 3) := by decide +kernel
theorem dX5_init_75 : decode cX5_init 75 = .ok (.aload_n 0, 1) := by decide +kernel
theorem dX5_init_76 : decode cX5_init 76 = .ok (.new 38, 3) := by decide +kernel
theorem dX5_init_79 : decode cX5_init 79 = .ok (.dup, 1) := by decide +kernel
theorem dX5_init_80 : decode cX5_init 80 = .ok (.aload_n 1, 1) := by decide +kernel
theorem dX5_init_81 : decode cX5_init 81 = .ok (.invokespecial 40, 3) := by decide +kernel
theorem dX5_init_84 : decode cX5_init 84 = .ok (.putfield 52, 3) := by decide +kernel
theorem dX5_init_87 : decode cX5_init 87 = .ok (.aload_n 0, 1) := by decide +kernel
theorem dX5_init_88 : decode cX5_init 88 = .ok (.aload_n 0, 1) := by decide +kernel
theorem dX5_init_89 : decode cX5_init 89 = .ok (.getfield 52, 3) := by decide +kernel
theorem dX5_init_92 : decode cX5_init 92 = .ok (.getfield 47, 3) := by decide +kernel
theorem dX5_init_95 : decode cX5_init 95 = .ok (.putfield 55, 3) := by decide +kernel
theorem dX5_init_98 : decode cX5_init 98 = .ok (.iconst 0, 1) := by decide +kernel
theorem dX5_init_99 : decode cX5_init 99 = .ok (.istore_n 2, 1) := by decide +kernel
theorem dX5_init_100 : decode cX5_init 100 = .ok (.iload_n 2, 1) := by decide +kernel
theorem dX5_init_101 : decode cX5_init 101 = .ok (.bipush 8, 2) := by decide +kernel
theorem dX5_init_103 : decode cX5_init 103 = .ok (.if_icmp .ge 23, 3) := by decide +kernel
theorem dX5_init_106 : decode cX5_init 106 = .ok (.aload_n 0, 1) := by decide +kernel
theorem dX5_init_107 : decode cX5_init 107 = .ok (.getfield 25, 3) := by decide +kernel
theorem dX5_init_110 : decode cX5_init 110 = .ok (.iload_n 2, 1) := by decide +kernel
theorem dX5_init_111 : decode cX5_init 111 = .ok (.new 23, 3) := by decide +kernel
theorem dX5_init_114 : decode cX5_init 114 = .ok (.dup, 1) := by decide +kernel
theorem dX5_init_115 : decode cX5_init 115 = .ok (.aload_n 1, 1) := by decide +kernel
theorem dX5_init_116 : decode cX5_init 116 = .ok (.invokespecial 58, 3) := by decide +kernel
theorem dX5_init_119 : decode cX5_init 119 = .ok (.aastore, 1) := by decide +kernel
theorem dX5_init_120 : decode cX5_init 120 = .ok (.iinc 2 1, 3) := by decide +kernel
theorem dX5_init_123 : decode cX5_init 123 = .ok (.goto (-23), 3) := by decide +kernel
theorem dX5_init_126 : decode cX5_init 126 = .ok (.return_, 1) := by decide +kernel
theorem dX5_append_0 : decode cX5_append 0 = .ok (.aload_n 0, 1) := by decide +kernel
theorem dX5_append_1 : decode cX5_append 1 = .ok (.getfield 16, 3) := by decide +kernel
theorem dX5_append_4 : decode cX5_append 4 = .ok (.sipush 880, 3) := by decide +kernel
theorem dX5_append_7 : decode cX5_append 7 = .ok (.if_icmp .le 5, 3) := by decide +kernel
theorem dX5_append_10 : decode cX5_append 10 = .ok (.iconst (-1), 1) := by decide +kernel
theorem dX5_append_11 : decode cX5_append 11 = .ok (.ireturn, 1) := by decide +kernel
theorem dX5_append_12 : decode cX5_append 12 = .ok (.aload_n 0, 1) := by decide +kernel
theorem dX5_append_13 : decode cX5_append 13 = .ok (.aload_n 0, 1) := by decide +kernel
theorem dX5_append_14 : decode cX5_append 14 = .ok (.getfield 16, 3) := by decide +kernel
theorem dX5_append_17 : decode cX5_append 17 = .ok (.iload_n 1, 1) := by decide +kernel
theorem dX5_append_18 : decode cX5_append 18 = .ok (.invokevirtual 59, 3) := by decide +kernel
theorem dX5_append_21 : decode cX5_append 21 = .ok (.aload_n 0, 1) := by decide +kernel
theorem dX5_append_22 : decode cX5_append 22 = .ok (.aload_n 0, 1) := by decide +kernel
theorem dX5_append_23 : decode cX5_append 23 = .ok (.getfield 16, 3) := by decide +kernel
theorem dX5_append_26 : decode cX5_append 26 = .ok (.iconst 4, 1) := by decide +kernel
theorem dX5_append_27 : decode cX5_append 27 = .ok (.iadd, 1) := by decide +kernel
theorem dX5_append_28 : decode cX5_append 28 = .ok (.iload_n 2, 1) := by decide +kernel
theorem dX5_append_29 : decode cX5_append 29 = .ok (.invokevirtual 59, 3) := by decide +kernel
theorem dX5_append_32 : decode cX5_append 32 = .ok (.aload_n 0, 1) := by decide +kernel
theorem dX5_append_33 : decode cX5_append 33 = .ok (.aload_n 0, 1) := by decide +kernel
theorem dX5_append_34 : decode cX5_append 34 = .ok (.getfield 16, 3) := by decide +kernel
theorem dX5_append_37 : decode cX5_append 37 = .ok (.bipush 8, 2) := by decide +kernel
theorem dX5_append_39 : decode cX5_append 39 = .ok (.iadd, 1) := by decide +kernel
theorem dX5_append_40 : decode cX5_append 40 = .ok (.iload_n 3, 1) := by decide +kernel
theorem dX5_append_41 : decode cX5_append 41 = .ok (.invokevirtual 59, 3) := by decide +kernel
theorem dX5_append_44 : decode cX5_append 44 = .ok (.aload_n 0, 1) := by decide +kernel
theorem dX5_append_45 : decode cX5_append 45 = .ok (.aload_n 0, 1) := by decide +kernel
theorem dX5_append_46 : decode cX5_append 46 = .ok (.getfield 16, 3) := by decide +kernel
theorem dX5_append_49 : decode cX5_append 49 = .ok (.bipush 12, 2) := by decide +kernel
theorem dX5_append_51 : decode cX5_append 51 = .ok (.iadd, 1) := by decide +kernel
theorem dX5_append_52 : decode cX5_append 52 = .ok (.iload 4, 2) := by decide +kernel
theorem dX5_append_54 : decode cX5_append 54 = .ok (.invokevirtual 59, 3) := by decide +kernel
theorem dX5_append_57 : decode cX5_append 57 = .ok (.aload_n 0, 1) := by decide +kernel
theorem dX5_append_58 : decode cX5_append 58 = .ok (.aload_n 0, 1) := by decide +kernel
theorem dX5_append_59 : decode cX5_append 59 = .ok (.getfield 16, 3) := by decide +kernel
theorem dX5_append_62 : decode cX5_append 62 = .ok (.bipush 16, 2) := by decide +kernel
theorem dX5_append_64 : decode cX5_append 64 = .ok (.iadd, 1) := by decide +kernel
theorem dX5_append_65 : decode cX5_append 65 = .ok (.iload 5, 2) := by decide +kernel
theorem dX5_append_67 : decode cX5_append 67 = .ok (.invokevirtual 59, 3) := by decide +kernel
theorem dX5_append_70 : decode cX5_append 70 = .ok (.aload_n 0, 1) := by decide +kernel
theorem dX5_append_71 : decode cX5_append 71 = .ok (.dup, 1) := by decide +kernel
theorem dX5_append_72 : decode cX5_append 72 = .ok (.getfield 16, 3) := by decide +kernel
theorem dX5_append_75 : decode cX5_append 75 = .ok (.bipush 20, 2) := by decide +kernel
theorem dX5_append_77 : decode cX5_append 77 = .ok (.iadd, 1) := by decide +kernel
theorem dX5_append_78 : decode cX5_append 78 = .ok (.putfield 16, 3) := by decide +kernel
theorem dX5_append_81 : decode cX5_append 81 = .ok (.aload_n 0, 1) := by decide +kernel
theorem dX5_append_82 : decode cX5_append 82 = .ok (.getfield 16, 3) := by decide +kernel
theorem dX5_append_85 : decode cX5_append 85 = .ok (.ireturn, 1) := by decide +kernel
theorem dX5_putWord_0 : decode cX5_putWord 0 = .ok (.iload_n 1, 1) := by decide +kernel
theorem dX5_putWord_1 : decode cX5_putWord 1 = .ok (.ifCond .lt 10, 3) := by decide +kernel
theorem dX5_putWord_4 : decode cX5_putWord 4 = .ok (.iload_n 1, 1) := by decide +kernel
theorem dX5_putWord_5 : decode cX5_putWord 5 = .ok (.sipush 896, 3) := by decide +kernel
theorem dX5_putWord_8 : decode cX5_putWord 8 = .ok (.if_icmp .le 4, 3) := by decide +kernel
theorem dX5_putWord_11 : decode cX5_putWord 11 = .ok (.return_, 1) := by decide +kernel
theorem dX5_putWord_12 : decode cX5_putWord 12 = .ok (.aload_n 0, 1) := by decide +kernel
theorem dX5_putWord_13 : decode cX5_putWord 13 = .ok (.getfield 12, 3) := by decide +kernel
theorem dX5_putWord_16 : decode cX5_putWord 16 = .ok (.getfield 63, 3) := by decide +kernel
theorem dX5_putWord_19 : decode cX5_putWord 19 = .ok (.iload_n 1, 1) := by decide +kernel
theorem dX5_putWord_20 : decode cX5_putWord 20 = .ok (.iload_n 2, 1) := by decide +kernel
theorem dX5_putWord_21 : decode cX5_putWord 21 = .ok (.bipush 24, 2) := by decide +kernel
theorem dX5_putWord_23 : decode cX5_putWord 23 = .ok (.iushr, 1) := by decide +kernel
theorem dX5_putWord_24 : decode cX5_putWord 24 = .ok (.i2b, 1) := by decide +kernel
theorem dX5_putWord_25 : decode cX5_putWord 25 = .ok (.bastore, 1) := by decide +kernel
theorem dX5_putWord_26 : decode cX5_putWord 26 = .ok (.aload_n 0, 1) := by decide +kernel
theorem dX5_putWord_27 : decode cX5_putWord 27 = .ok (.getfield 12, 3) := by decide +kernel
theorem dX5_putWord_30 : decode cX5_putWord 30 = .ok (.getfield 63, 3) := by decide +kernel
theorem dX5_putWord_33 : decode cX5_putWord 33 = .ok (.iload_n 1, 1) := by decide +kernel
theorem dX5_putWord_34 : decode cX5_putWord 34 = .ok (.iconst 1, 1) := by decide +kernel
theorem dX5_putWord_35 : decode cX5_putWord 35 = .ok (.iadd, 1) := by decide +kernel
theorem dX5_putWord_36 : decode cX5_putWord 36 = .ok (.iload_n 2, 1) := by decide +kernel
theorem dX5_putWord_37 : decode cX5_putWord 37 = .ok (.bipush 16, 2) := by decide +kernel
theorem dX5_putWord_39 : decode cX5_putWord 39 = .ok (.iushr, 1) := by decide +kernel
theorem dX5_putWord_40 : decode cX5_putWord 40 = .ok (.i2b, 1) := by decide +kernel
theorem dX5_putWord_41 : decode cX5_putWord 41 = .ok (.bastore, 1) := by decide +kernel
theorem dX5_putWord_42 : decode cX5_putWord 42 = .ok (.aload_n 0, 1) := by decide +kernel
theorem dX5_putWord_43 : decode cX5_putWord 43 = .ok (.getfield 12, 3) := by decide +kernel
theorem dX5_putWord_46 : decode cX5_putWord 46 = .ok (.getfield 63, 3) := by decide +kernel
theorem dX5_putWord_49 : decode cX5_putWord 49 = .ok (.iload_n 1, 1) := by decide +kernel
theorem dX5_putWord_50 : decode cX5_putWord 50 = .ok (.iconst 2, 1) := by decide +kernel
theorem dX5_putWord_51 : decode cX5_putWord 51 = .ok (.iadd, 1) := by decide +kernel
theorem dX5_putWord_52 : decode cX5_putWord 52 = .ok (.iload_n 2, 1) := by decide +kernel
theorem dX5_putWord_53 : decode cX5_putWord 53 = .ok (.bipush 8, 2) := by decide +kernel
theorem dX5_putWord_55 : decode cX5_putWord 55 = .ok (.iushr, 1) := by decide +kernel
theorem dX5_putWord_56 : decode cX5_putWord 56 = .ok (.i2b, 1) := by decide +kernel
theorem dX5_putWord_57 : decode cX5_putWord 57 = .ok (.bastore, 1) := by decide +kernel
theorem dX5_putWord_58 : decode cX5_putWord 58 = .ok (.aload_n 0, 1) := by decide +kernel
theorem dX5_putWord_59 : decode cX5_putWord 59 = .ok (.getfield 12, 3) := by decide +kernel
theorem dX5_putWord_62 : decode cX5_putWord 62 = .ok (.getfield 63, 3) := by decide +kernel
theorem dX5_putWord_65 : decode cX5_putWord 65 = .ok (.iload_n 1, 1) := by decide +kernel
theorem dX5_putWord_66 : decode cX5_putWord 66 = .ok (.iconst 3, 1) := by decide +kernel
theorem dX5_putWord_67 : decode cX5_putWord 67 = .ok (.iadd, 1) := by decide +kernel
theorem dX5_putWord_68 : decode cX5_putWord 68 = .ok (.iload_n 2, 1) := by decide +kernel
theorem dX5_putWord_69 : decode cX5_putWord 69 = .ok (.i2b, 1) := by decide +kernel
theorem dX5_putWord_70 : decode cX5_putWord 70 = .ok (.bastore, 1) := by decide +kernel
theorem dX5_putWord_71 : decode cX5_putWord 71 = .ok (.return_, 1) := by decide +kernel
theorem dX5_load_0 : decode cX5_load 0 = .ok (.iload_n 1, 1) := by decide +kernel
theorem dX5_load_1 : decode cX5_load 1 = .ok (.ifCond .lt 11, 3) := by decide +kernel
theorem dX5_load_4 : decode cX5_load 4 = .ok (.iload_n 1, 1) := by decide +kernel
theorem dX5_load_5 : decode cX5_load 5 = .ok (.aload_n 0, 1) := by decide +kernel
theorem dX5_load_6 : decode cX5_load 6 = .ok (.getfield 16, 3) := by decide +kernel
theorem dX5_load_9 : decode cX5_load 9 = .ok (.if_icmp .le 13, 3) := by decide +kernel
theorem dX5_load_12 : decode cX5_load 12 = .ok (.new 67, 3) := by decide +kernel
theorem dX5_load_15 : decode cX5_load 15 = .ok (.dup, 1) := by decide +kernel
theorem dX5_load_16 : decode cX5_load 16 = .ok (.ldc 69, 2) := by decide +kernel
theorem dX5_load_18 : decode cX5_load 18 = .ok (.invokespecial 71, 3) := by decide +kernel
theorem dX5_load_21 : decode cX5_load 21 = .ok (.athrow, 1) := by decide +kernel
theorem dX5_load_22 : decode cX5_load 22 = .ok (.aload_n 0, 1) := by decide +kernel
theorem dX5_load_23 : decode cX5_load 23 = .ok (.iconst 0, 1) := by decide +kernel
theorem dX5_load_24 : decode cX5_load 24 = .ok (.putfield 16, 3) := by decide +kernel
theorem dX5_load_27 : decode cX5_load 27 = .ok (.new 35, 3) := by decide +kernel
theorem dX5_load_30 : decode cX5_load 30 = .ok (.dup, 1) := by decide +kernel
theorem dX5_load_31 : decode cX5_load 31 = .ok (.invokespecial 37, 3) := by decide +kernel
theorem dX5_load_34 : decode cX5_load 34 = .ok (.astore_n 2, 1) := by decide +kernel
theorem dX5_load_35 : decode cX5_load 35 = .ok (.aload_n 0, 1) := by decide +kernel
theorem dX5_load_36 : decode cX5_load 36 = .ok (.getfield 12, 3) := by decide +kernel
theorem dX5_load_39 : decode cX5_load 39 = .ok (.aload_n 2, 1) := by decide +kernel
theorem dX5_load_40 : decode cX5_load 40 = .ok (.iload_n 1, 1) := by decide +kernel
theorem dX5_load_41 : decode cX5_load 41 = .ok (.invokevirtual 74, 3) := by decide +kernel
theorem dX5_load_44 : decode cX5_load 44 = .ok (.aload_n 0, 1) := by decide +kernel
theorem dX5_load_45 : decode cX5_load 45 = .ok (.aload_n 0, 1) := by decide +kernel
theorem dX5_load_46 : decode cX5_load 46 = .ok (.getfield 12, 3) := by decide +kernel
theorem dX5_load_49 : decode cX5_load 49 = .ok (.getfield 78, 3) := by decide +kernel
theorem dX5_load_52 : decode cX5_load 52 = .ok (.putfield 20, 3) := by decide +kernel
theorem dX5_load_55 : decode cX5_load 55 = .ok (.aload_n 0, 1) := by decide +kernel
theorem dX5_load_56 : decode cX5_load 56 = .ok (.getfield 12, 3) := by decide +kernel
theorem dX5_load_59 : decode cX5_load 59 = .ok (.getfield 79, 3) := by decide +kernel
theorem dX5_load_62 : decode cX5_load 62 = .ok (.ifCond .eq 11, 3) := by decide +kernel
theorem dX5_load_65 : decode cX5_load 65 = .ok (.aload_n 0, 1) := by decide +kernel
theorem dX5_load_66 : decode cX5_load 66 = .ok (.getfield 12, 3) := by decide +kernel
theorem dX5_load_69 : decode cX5_load 69 = .ok (.getfield 79, 3) := by decide +kernel
theorem dX5_load_72 : decode cX5_load 72 = .ok (.ireturn, 1) := by decide +kernel
theorem dX5_load_73 : decode cX5_load 73 = .ok (.aload_n 0, 1) := by decide +kernel
theorem dX5_load_74 : decode cX5_load 74 = .ok (.invokevirtual 82, 3) := by decide +kernel
theorem dX5_load_77 : decode cX5_load 77 = .ok (.aload_n 0, 1) := by decide +kernel
theorem dX5_load_78 : decode cX5_load 78 = .ok (.getfield 51, 3) := by decide +kernel
theorem dX5_load_81 : decode cX5_load 81 = .ok (.aload_n 2, 1) := by decide +kernel
theorem dX5_load_82 : decode cX5_load 82 = .ok (.invokevirtual 85, 3) := by decide +kernel
theorem dX5_load_85 : decode cX5_load 85 = .ok (.aload_n 0, 1) := by decide +kernel
theorem dX5_load_86 : decode cX5_load 86 = .ok (.getfield 43, 3) := by decide +kernel
theorem dX5_load_89 : decode cX5_load 89 = .ok (.invokevirtual 88, 3) := by decide +kernel
theorem dX5_load_92 : decode cX5_load 92 = .ok (.pop, 1) := by decide +kernel
theorem dX5_load_93 : decode cX5_load 93 = .ok (.aload_n 2, 1) := by decide +kernel
theorem dX5_load_94 : decode cX5_load 94 = .ok (.getfield 92, 3) := by decide +kernel
theorem dX5_load_97 : decode cX5_load 97 = .ok (.ireturn, 1) := by decide +kernel
theorem dX5_errorOffset_0 : decode cX5_errorOffset 0 = .ok (.aload_n 0, 1) := by decide +kernel
theorem dX5_errorOffset_1 : decode cX5_errorOffset 1 = .ok (.getfield 20, 3) := by decide +kernel
theorem dX5_errorOffset_4 : decode cX5_errorOffset 4 = .ok (.ireturn, 1) := by decide +kernel
theorem dX5_machineCount_0 : decode cX5_machineCount 0 = .ok (.aload_n 0, 1) := by decide +kernel
theorem dX5_machineCount_1 : decode cX5_machineCount 1 = .ok (.getfield 51, 3) := by decide +kernel
theorem dX5_machineCount_4 : decode cX5_machineCount 4 = .ok (.getfield 95, 3) := by decide +kernel
theorem dX5_machineCount_7 : decode cX5_machineCount 7 = .ok (.getfield 99, 3) := by decide +kernel
theorem dX5_machineCount_10 : decode cX5_machineCount 10 = .ok (.ireturn, 1) := by decide +kernel
theorem dX5_jobCount_0 : decode cX5_jobCount 0 = .ok (.aload_n 0, 1) := by decide +kernel
theorem dX5_jobCount_1 : decode cX5_jobCount 1 = .ok (.getfield 51, 3) := by decide +kernel
theorem dX5_jobCount_4 : decode cX5_jobCount 4 = .ok (.getfield 95, 3) := by decide +kernel
theorem dX5_jobCount_7 : decode cX5_jobCount 7 = .ok (.getfield 92, 3) := by decide +kernel
theorem dX5_jobCount_10 : decode cX5_jobCount 10 = .ok (.ireturn, 1) := by decide +kernel
theorem dX5_operationCount_0 : decode cX5_operationCount 0 = .ok (.aload_n 0, 1) := by decide +kernel
theorem dX5_operationCount_1 : decode cX5_operationCount 1 = .ok (.iload_n 1, 1) := by decide +kernel
theorem dX5_operationCount_2 : decode cX5_operationCount 2 = .ok (.invokevirtual 102, 3) := by decide +kernel
theorem dX5_operationCount_5 : decode cX5_operationCount 5 = .ok (.aload_n 0, 1) := by decide +kernel
theorem dX5_operationCount_6 : decode cX5_operationCount 6 = .ok (.getfield 51, 3) := by decide +kernel
theorem dX5_operationCount_9 : decode cX5_operationCount 9 = .ok (.getfield 95, 3) := by decide +kernel
theorem dX5_operationCount_12 : decode cX5_operationCount 12 = .ok (.getfield 106, 3) := by decide +kernel
theorem dX5_operationCount_15 : decode cX5_operationCount 15 = .ok (.iload_n 1, 1) := by decide +kernel
theorem dX5_operationCount_16 : decode cX5_operationCount 16 = .ok (.iaload, 1) := by decide +kernel
theorem dX5_operationCount_17 : decode cX5_operationCount 17 = .ok (.ireturn, 1) := by decide +kernel
theorem dX5_operation_0 : decode cX5_operation 0 = .ok (.aload_n 0, 1) := by decide +kernel
theorem dX5_operation_1 : decode cX5_operation 1 = .ok (.iload_n 1, 1) := by decide +kernel
theorem dX5_operation_2 : decode cX5_operation 2 = .ok (.iload_n 2, 1) := by decide +kernel
theorem dX5_operation_3 : decode cX5_operation 3 = .ok (.invokevirtual 110, 3) := by decide +kernel
theorem dX5_operation_6 : decode cX5_operation 6 = .ok (.iload_n 1, 1) := by decide +kernel
theorem dX5_operation_7 : decode cX5_operation 7 = .ok (.iload_n 2, 1) := by decide +kernel
theorem dX5_operation_8 : decode cX5_operation 8 = .ok (.invokestatic 113, 3) := by decide +kernel
theorem dX5_operation_11 : decode cX5_operation 11 = .ok (.istore 4, 2) := by decide +kernel
theorem dX5_operation_13 : decode cX5_operation 13 = .ok (.iload_n 3, 1) := by decide +kernel
theorem dX5_operation_14 : decode cX5_operation 14 = .ok (.tableswitch 61 0 2 #[26, 40, 51], 26) := by decide +kernel
theorem dX5_operation_40 : decode cX5_operation 40 = .ok (.aload_n 0, 1) := by decide +kernel
theorem dX5_operation_41 : decode cX5_operation 41 = .ok (.getfield 51, 3) := by decide +kernel
theorem dX5_operation_44 : decode cX5_operation 44 = .ok (.getfield 95, 3) := by decide +kernel
theorem dX5_operation_47 : decode cX5_operation 47 = .ok (.getfield 117, 3) := by decide +kernel
theorem dX5_operation_50 : decode cX5_operation 50 = .ok (.iload 4, 2) := by decide +kernel
theorem dX5_operation_52 : decode cX5_operation 52 = .ok (.iaload, 1) := by decide +kernel
theorem dX5_operation_53 : decode cX5_operation 53 = .ok (.ireturn, 1) := by decide +kernel
theorem dX5_operation_54 : decode cX5_operation 54 = .ok (.aload_n 0, 1) := by decide +kernel
theorem dX5_operation_55 : decode cX5_operation 55 = .ok (.getfield 51, 3) := by decide +kernel
theorem dX5_operation_58 : decode cX5_operation 58 = .ok (.getfield 120, 3) := by decide +kernel
theorem dX5_operation_61 : decode cX5_operation 61 = .ok (.iload 4, 2) := by decide +kernel
theorem dX5_operation_63 : decode cX5_operation 63 = .ok (.iaload, 1) := by decide +kernel
theorem dX5_operation_64 : decode cX5_operation 64 = .ok (.ireturn, 1) := by decide +kernel
theorem dX5_operation_65 : decode cX5_operation 65 = .ok (.aload_n 0, 1) := by decide +kernel
theorem dX5_operation_66 : decode cX5_operation 66 = .ok (.getfield 51, 3) := by decide +kernel
theorem dX5_operation_69 : decode cX5_operation 69 = .ok (.iload 4, 2) := by decide +kernel
theorem dX5_operation_71 : decode cX5_operation 71 = .ok (.invokevirtual 123, 3) := by decide +kernel
theorem dX5_operation_74 : decode cX5_operation 74 = .ok (.ireturn, 1) := by decide +kernel
theorem dX5_operation_75 : decode cX5_operation 75 = .ok (.new 67, 3) := by decide +kernel
theorem dX5_operation_78 : decode cX5_operation 78 = .ok (.dup, 1) := by decide +kernel
theorem dX5_operation_79 : decode cX5_operation 79 = .ok (.ldc 127, 2) := by decide +kernel
theorem dX5_operation_81 : decode cX5_operation 81 = .ok (.invokespecial 71, 3) := by decide +kernel
theorem dX5_operation_84 : decode cX5_operation 84 = .ok (.athrow, 1) := by decide +kernel
theorem dX5_orderLength_0 : decode cX5_orderLength 0 = .ok (.aload_n 0, 1) := by decide +kernel
theorem dX5_orderLength_1 : decode cX5_orderLength 1 = .ok (.iload_n 1, 1) := by decide +kernel
theorem dX5_orderLength_2 : decode cX5_orderLength 2 = .ok (.invokevirtual 129, 3) := by decide +kernel
theorem dX5_orderLength_5 : decode cX5_orderLength 5 = .ok (.aload_n 0, 1) := by decide +kernel
theorem dX5_orderLength_6 : decode cX5_orderLength 6 = .ok (.getfield 51, 3) := by decide +kernel
theorem dX5_orderLength_9 : decode cX5_orderLength 9 = .ok (.getfield 95, 3) := by decide +kernel
theorem dX5_orderLength_12 : decode cX5_orderLength 12 = .ok (.getfield 132, 3) := by decide +kernel
theorem dX5_orderLength_15 : decode cX5_orderLength 15 = .ok (.iload_n 1, 1) := by decide +kernel
theorem dX5_orderLength_16 : decode cX5_orderLength 16 = .ok (.iaload, 1) := by decide +kernel
theorem dX5_orderLength_17 : decode cX5_orderLength 17 = .ok (.ireturn, 1) := by decide +kernel
theorem dX5_orderAt_0 : decode cX5_orderAt 0 = .ok (.aload_n 0, 1) := by decide +kernel
theorem dX5_orderAt_1 : decode cX5_orderAt 1 = .ok (.iload_n 1, 1) := by decide +kernel
theorem dX5_orderAt_2 : decode cX5_orderAt 2 = .ok (.invokevirtual 129, 3) := by decide +kernel
theorem dX5_orderAt_5 : decode cX5_orderAt 5 = .ok (.iload_n 2, 1) := by decide +kernel
theorem dX5_orderAt_6 : decode cX5_orderAt 6 = .ok (.ifCond .lt 19, 3) := by decide +kernel
theorem dX5_orderAt_9 : decode cX5_orderAt 9 = .ok (.iload_n 2, 1) := by decide +kernel
theorem dX5_orderAt_10 : decode cX5_orderAt 10 = .ok (.aload_n 0, 1) := by decide +kernel
theorem dX5_orderAt_11 : decode cX5_orderAt 11 = .ok (.getfield 51, 3) := by decide +kernel
theorem dX5_orderAt_14 : decode cX5_orderAt 14 = .ok (.getfield 95, 3) := by decide +kernel
theorem dX5_orderAt_17 : decode cX5_orderAt 17 = .ok (.getfield 132, 3) := by decide +kernel
theorem dX5_orderAt_20 : decode cX5_orderAt 20 = .ok (.iload_n 1, 1) := by decide +kernel
theorem dX5_orderAt_21 : decode cX5_orderAt 21 = .ok (.iaload, 1) := by decide +kernel
theorem dX5_orderAt_22 : decode cX5_orderAt 22 = .ok (.if_icmp .lt 13, 3) := by decide +kernel
theorem dX5_orderAt_25 : decode cX5_orderAt 25 = .ok (.new 135, 3) := by decide +kernel
theorem dX5_orderAt_28 : decode cX5_orderAt 28 = .ok (.dup, 1) := by decide +kernel
theorem dX5_orderAt_29 : decode cX5_orderAt 29 = .ok (.ldc 137, 2) := by decide +kernel
theorem dX5_orderAt_31 : decode cX5_orderAt 31 = .ok (.invokespecial 139, 3) := by decide +kernel
theorem dX5_orderAt_34 : decode cX5_orderAt 34 = .ok (.athrow, 1) := by decide +kernel
theorem dX5_orderAt_35 : decode cX5_orderAt 35 = .ok (.aload_n 0, 1) := by decide +kernel
theorem dX5_orderAt_36 : decode cX5_orderAt 36 = .ok (.getfield 51, 3) := by decide +kernel
theorem dX5_orderAt_39 : decode cX5_orderAt 39 = .ok (.getfield 140, 3) := by decide +kernel
theorem dX5_orderAt_42 : decode cX5_orderAt 42 = .ok (.iload_n 1, 1) := by decide +kernel
theorem dX5_orderAt_43 : decode cX5_orderAt 43 = .ok (.bipush 6, 2) := by decide +kernel
theorem dX5_orderAt_45 : decode cX5_orderAt 45 = .ok (.imul, 1) := by decide +kernel
theorem dX5_orderAt_46 : decode cX5_orderAt 46 = .ok (.iload_n 2, 1) := by decide +kernel
theorem dX5_orderAt_47 : decode cX5_orderAt 47 = .ok (.iadd, 1) := by decide +kernel
theorem dX5_orderAt_48 : decode cX5_orderAt 48 = .ok (.iaload, 1) := by decide +kernel
theorem dX5_orderAt_49 : decode cX5_orderAt 49 = .ok (.invokestatic 143, 3) := by decide +kernel
theorem dX5_orderAt_52 : decode cX5_orderAt 52 = .ok (.ireturn, 1) := by decide +kernel
theorem dX5_start_0 : decode cX5_start 0 = .ok (.aload_n 0, 1) := by decide +kernel
theorem dX5_start_1 : decode cX5_start 1 = .ok (.iload_n 1, 1) := by decide +kernel
theorem dX5_start_2 : decode cX5_start 2 = .ok (.iload_n 2, 1) := by decide +kernel
theorem dX5_start_3 : decode cX5_start 3 = .ok (.invokevirtual 110, 3) := by decide +kernel
theorem dX5_start_6 : decode cX5_start 6 = .ok (.aload_n 0, 1) := by decide +kernel
theorem dX5_start_7 : decode cX5_start 7 = .ok (.getfield 43, 3) := by decide +kernel
theorem dX5_start_10 : decode cX5_start 10 = .ok (.getfield 146, 3) := by decide +kernel
theorem dX5_start_13 : decode cX5_start 13 = .ok (.iload_n 1, 1) := by decide +kernel
theorem dX5_start_14 : decode cX5_start 14 = .ok (.iload_n 2, 1) := by decide +kernel
theorem dX5_start_15 : decode cX5_start 15 = .ok (.invokestatic 113, 3) := by decide +kernel
theorem dX5_start_18 : decode cX5_start 18 = .ok (.iaload, 1) := by decide +kernel
theorem dX5_start_19 : decode cX5_start 19 = .ok (.ireturn, 1) := by decide +kernel
theorem dX5_leave_0 : decode cX5_leave 0 = .ok (.aload_n 0, 1) := by decide +kernel
theorem dX5_leave_1 : decode cX5_leave 1 = .ok (.iload_n 1, 1) := by decide +kernel
theorem dX5_leave_2 : decode cX5_leave 2 = .ok (.iload_n 2, 1) := by decide +kernel
theorem dX5_leave_3 : decode cX5_leave 3 = .ok (.invokevirtual 110, 3) := by decide +kernel
theorem dX5_leave_6 : decode cX5_leave 6 = .ok (.aload_n 0, 1) := by decide +kernel
theorem dX5_leave_7 : decode cX5_leave 7 = .ok (.getfield 43, 3) := by decide +kernel
theorem dX5_leave_10 : decode cX5_leave 10 = .ok (.iload_n 1, 1) := by decide +kernel
theorem dX5_leave_11 : decode cX5_leave 11 = .ok (.iload_n 2, 1) := by decide +kernel
theorem dX5_leave_12 : decode cX5_leave 12 = .ok (.invokevirtual 149, 3) := by decide +kernel
theorem dX5_leave_15 : decode cX5_leave 15 = .ok (.ireturn, 1) := by decide +kernel
theorem dX5_completion_0 : decode cX5_completion 0 = .ok (.aload_n 0, 1) := by decide +kernel
theorem dX5_completion_1 : decode cX5_completion 1 = .ok (.iload_n 1, 1) := by decide +kernel
theorem dX5_completion_2 : decode cX5_completion 2 = .ok (.invokevirtual 102, 3) := by decide +kernel
theorem dX5_completion_5 : decode cX5_completion 5 = .ok (.aload_n 0, 1) := by decide +kernel
theorem dX5_completion_6 : decode cX5_completion 6 = .ok (.getfield 43, 3) := by decide +kernel
theorem dX5_completion_9 : decode cX5_completion 9 = .ok (.iload_n 1, 1) := by decide +kernel
theorem dX5_completion_10 : decode cX5_completion 10 = .ok (.invokevirtual 152, 3) := by decide +kernel
theorem dX5_completion_13 : decode cX5_completion 13 = .ok (.ireturn, 1) := by decide +kernel
theorem dX5_makespan_0 : decode cX5_makespan 0 = .ok (.aload_n 0, 1) := by decide +kernel
theorem dX5_makespan_1 : decode cX5_makespan 1 = .ok (.getfield 43, 3) := by decide +kernel
theorem dX5_makespan_4 : decode cX5_makespan 4 = .ok (.invokevirtual 155, 3) := by decide +kernel
theorem dX5_makespan_7 : decode cX5_makespan 7 = .ok (.ireturn, 1) := by decide +kernel
theorem dX5_jobCost_0 : decode cX5_jobCost 0 = .ok (.aload_n 0, 1) := by decide +kernel
theorem dX5_jobCost_1 : decode cX5_jobCost 1 = .ok (.iload_n 1, 1) := by decide +kernel
theorem dX5_jobCost_2 : decode cX5_jobCost 2 = .ok (.invokevirtual 102, 3) := by decide +kernel
theorem dX5_jobCost_5 : decode cX5_jobCost 5 = .ok (.aload_n 0, 1) := by decide +kernel
theorem dX5_jobCost_6 : decode cX5_jobCost 6 = .ok (.getfield 43, 3) := by decide +kernel
theorem dX5_jobCost_9 : decode cX5_jobCost 9 = .ok (.iload_n 1, 1) := by decide +kernel
theorem dX5_jobCost_10 : decode cX5_jobCost 10 = .ok (.invokevirtual 159, 3) := by decide +kernel
theorem dX5_jobCost_13 : decode cX5_jobCost 13 = .ok (.ireturn, 1) := by decide +kernel
theorem dX5_planCost_0 : decode cX5_planCost 0 = .ok (.aload_n 0, 1) := by decide +kernel
theorem dX5_planCost_1 : decode cX5_planCost 1 = .ok (.getfield 43, 3) := by decide +kernel
theorem dX5_planCost_4 : decode cX5_planCost 4 = .ok (.invokevirtual 162, 3) := by decide +kernel
theorem dX5_planCost_7 : decode cX5_planCost 7 = .ok (.ireturn, 1) := by decide +kernel
theorem dX5_blockedTime_0 : decode cX5_blockedTime 0 = .ok (.aload_n 0, 1) := by decide +kernel
theorem dX5_blockedTime_1 : decode cX5_blockedTime 1 = .ok (.iload_n 1, 1) := by decide +kernel
theorem dX5_blockedTime_2 : decode cX5_blockedTime 2 = .ok (.invokevirtual 129, 3) := by decide +kernel
theorem dX5_blockedTime_5 : decode cX5_blockedTime 5 = .ok (.iconst 0, 1) := by decide +kernel
theorem dX5_blockedTime_6 : decode cX5_blockedTime 6 = .ok (.istore_n 2, 1) := by decide +kernel
theorem dX5_blockedTime_7 : decode cX5_blockedTime 7 = .ok (.iconst 0, 1) := by decide +kernel
theorem dX5_blockedTime_8 : decode cX5_blockedTime 8 = .ok (.istore_n 3, 1) := by decide +kernel
theorem dX5_blockedTime_9 : decode cX5_blockedTime 9 = .ok (.iload_n 3, 1) := by decide +kernel
theorem dX5_blockedTime_10 : decode cX5_blockedTime 10 = .ok (.aload_n 0, 1) := by decide +kernel
theorem dX5_blockedTime_11 : decode cX5_blockedTime 11 = .ok (.getfield 51, 3) := by decide +kernel
theorem dX5_blockedTime_14 : decode cX5_blockedTime 14 = .ok (.getfield 95, 3) := by decide +kernel
theorem dX5_blockedTime_17 : decode cX5_blockedTime 17 = .ok (.getfield 132, 3) := by decide +kernel
theorem dX5_blockedTime_20 : decode cX5_blockedTime 20 = .ok (.iload_n 1, 1) := by decide +kernel
theorem dX5_blockedTime_21 : decode cX5_blockedTime 21 = .ok (.iaload, 1) := by decide +kernel
theorem dX5_blockedTime_22 : decode cX5_blockedTime 22 = .ok (.if_icmp .ge 55, 3) := by decide +kernel
theorem dX5_blockedTime_25 : decode cX5_blockedTime 25 = .ok (.aload_n 0, 1) := by decide +kernel
theorem dX5_blockedTime_26 : decode cX5_blockedTime 26 = .ok (.getfield 51, 3) := by decide +kernel
theorem dX5_blockedTime_29 : decode cX5_blockedTime 29 = .ok (.getfield 140, 3) := by decide +kernel
theorem dX5_blockedTime_32 : decode cX5_blockedTime 32 = .ok (.iload_n 1, 1) := by decide +kernel
theorem dX5_blockedTime_33 : decode cX5_blockedTime 33 = .ok (.bipush 6, 2) := by decide +kernel
theorem dX5_blockedTime_35 : decode cX5_blockedTime 35 = .ok (.imul, 1) := by decide +kernel
theorem dX5_blockedTime_36 : decode cX5_blockedTime 36 = .ok (.iload_n 3, 1) := by decide +kernel
theorem dX5_blockedTime_37 : decode cX5_blockedTime 37 = .ok (.iadd, 1) := by decide +kernel
theorem dX5_blockedTime_38 : decode cX5_blockedTime 38 = .ok (.iaload, 1) := by decide +kernel
theorem dX5_blockedTime_39 : decode cX5_blockedTime 39 = .ok (.istore 4, 2) := by decide +kernel
theorem dX5_blockedTime_41 : decode cX5_blockedTime 41 = .ok (.iload_n 2, 1) := by decide +kernel
theorem dX5_blockedTime_42 : decode cX5_blockedTime 42 = .ok (.aload_n 0, 1) := by decide +kernel
theorem dX5_blockedTime_43 : decode cX5_blockedTime 43 = .ok (.getfield 43, 3) := by decide +kernel
theorem dX5_blockedTime_46 : decode cX5_blockedTime 46 = .ok (.iload 4, 2) := by decide +kernel
theorem dX5_blockedTime_48 : decode cX5_blockedTime 48 = .ok (.bipush 6, 2) := by decide +kernel
theorem dX5_blockedTime_50 : decode cX5_blockedTime 50 = .ok (.idiv, 1) := by decide +kernel
theorem dX5_blockedTime_51 : decode cX5_blockedTime 51 = .ok (.iload 4, 2) := by decide +kernel
theorem dX5_blockedTime_53 : decode cX5_blockedTime 53 = .ok (.bipush 6, 2) := by decide +kernel
theorem dX5_blockedTime_55 : decode cX5_blockedTime 55 = .ok (.irem, 1) := by decide +kernel
theorem dX5_blockedTime_56 : decode cX5_blockedTime 56 = .ok (.invokevirtual 149, 3) := by decide +kernel
theorem dX5_blockedTime_59 : decode cX5_blockedTime 59 = .ok (.aload_n 0, 1) := by decide +kernel
theorem dX5_blockedTime_60 : decode cX5_blockedTime 60 = .ok (.getfield 43, 3) := by decide +kernel
theorem dX5_blockedTime_63 : decode cX5_blockedTime 63 = .ok (.iload 4, 2) := by decide +kernel
theorem dX5_blockedTime_65 : decode cX5_blockedTime 65 = .ok (.invokevirtual 165, 3) := by decide +kernel
theorem dX5_blockedTime_68 : decode cX5_blockedTime 68 = .ok (.isub, 1) := by decide +kernel
theorem dX5_blockedTime_69 : decode cX5_blockedTime 69 = .ok (.iadd, 1) := by decide +kernel
theorem dX5_blockedTime_70 : decode cX5_blockedTime 70 = .ok (.istore_n 2, 1) := by decide +kernel
theorem dX5_blockedTime_71 : decode cX5_blockedTime 71 = .ok (.iinc 3 1, 3) := by decide +kernel
theorem dX5_blockedTime_74 : decode cX5_blockedTime 74 = .ok (.goto (-65), 3) := by decide +kernel
theorem dX5_blockedTime_77 : decode cX5_blockedTime 77 = .ok (.iload_n 2, 1) := by decide +kernel
theorem dX5_blockedTime_78 : decode cX5_blockedTime 78 = .ok (.ireturn, 1) := by decide +kernel
theorem dX5_criticalLength_0 : decode cX5_criticalLength 0 = .ok (.aload_n 0, 1) := by decide +kernel
theorem dX5_criticalLength_1 : decode cX5_criticalLength 1 = .ok (.getfield 43, 3) := by decide +kernel
theorem dX5_criticalLength_4 : decode cX5_criticalLength 4 = .ok (.invokevirtual 168, 3) := by decide +kernel
theorem dX5_criticalLength_7 : decode cX5_criticalLength 7 = .ok (.aload_n 0, 1) := by decide +kernel
theorem dX5_criticalLength_8 : decode cX5_criticalLength 8 = .ok (.getfield 43, 3) := by decide +kernel
theorem dX5_criticalLength_11 : decode cX5_criticalLength 11 = .ok (.getfield 171, 3) := by decide +kernel
theorem dX5_criticalLength_14 : decode cX5_criticalLength 14 = .ok (.ireturn, 1) := by decide +kernel
theorem dX5_critical_0 : decode cX5_critical 0 = .ok (.aload_n 0, 1) := by decide +kernel
theorem dX5_critical_1 : decode cX5_critical 1 = .ok (.getfield 43, 3) := by decide +kernel
theorem dX5_critical_4 : decode cX5_critical 4 = .ok (.invokevirtual 168, 3) := by decide +kernel
theorem dX5_critical_7 : decode cX5_critical 7 = .ok (.iload_n 1, 1) := by decide +kernel
theorem dX5_critical_8 : decode cX5_critical 8 = .ok (.ifCond .lt 14, 3) := by decide +kernel
theorem dX5_critical_11 : decode cX5_critical 11 = .ok (.iload_n 1, 1) := by decide +kernel
theorem dX5_critical_12 : decode cX5_critical 12 = .ok (.aload_n 0, 1) := by decide +kernel
theorem dX5_critical_13 : decode cX5_critical 13 = .ok (.getfield 43, 3) := by decide +kernel
theorem dX5_critical_16 : decode cX5_critical 16 = .ok (.getfield 171, 3) := by decide +kernel
theorem dX5_critical_19 : decode cX5_critical 19 = .ok (.if_icmp .lt 13, 3) := by decide +kernel
theorem dX5_critical_22 : decode cX5_critical 22 = .ok (.new 174, 3) := by decide +kernel
theorem dX5_critical_25 : decode cX5_critical 25 = .ok (.dup, 1) := by decide +kernel
theorem dX5_critical_26 : decode cX5_critical 26 = .ok (.ldc 176, 2) := by decide +kernel
theorem dX5_critical_28 : decode cX5_critical 28 = .ok (.invokespecial 178, 3) := by decide +kernel
theorem dX5_critical_31 : decode cX5_critical 31 = .ok (.athrow, 1) := by decide +kernel
theorem dX5_critical_32 : decode cX5_critical 32 = .ok (.aload_n 0, 1) := by decide +kernel
theorem dX5_critical_33 : decode cX5_critical 33 = .ok (.getfield 43, 3) := by decide +kernel
theorem dX5_critical_36 : decode cX5_critical 36 = .ok (.getfield 179, 3) := by decide +kernel
theorem dX5_critical_39 : decode cX5_critical 39 = .ok (.iload_n 1, 1) := by decide +kernel
theorem dX5_critical_40 : decode cX5_critical 40 = .ok (.iaload, 1) := by decide +kernel
theorem dX5_critical_41 : decode cX5_critical 41 = .ok (.invokestatic 143, 3) := by decide +kernel
theorem dX5_critical_44 : decode cX5_critical 44 = .ok (.ireturn, 1) := by decide +kernel
theorem dX5_blockCount_0 : decode cX5_blockCount 0 = .ok (.aload_n 0, 1) := by decide +kernel
theorem dX5_blockCount_1 : decode cX5_blockCount 1 = .ok (.getfield 43, 3) := by decide +kernel
theorem dX5_blockCount_4 : decode cX5_blockCount 4 = .ok (.invokevirtual 168, 3) := by decide +kernel
theorem dX5_blockCount_7 : decode cX5_blockCount 7 = .ok (.iconst 0, 1) := by decide +kernel
theorem dX5_blockCount_8 : decode cX5_blockCount 8 = .ok (.istore_n 1, 1) := by decide +kernel
theorem dX5_blockCount_9 : decode cX5_blockCount 9 = .ok (.iconst 0, 1) := by decide +kernel
theorem dX5_blockCount_10 : decode cX5_blockCount 10 = .ok (.istore_n 2, 1) := by decide +kernel
theorem dX5_blockCount_11 : decode cX5_blockCount 11 = .ok (.iload_n 2, 1) := by decide +kernel
theorem dX5_blockCount_12 : decode cX5_blockCount 12 = .ok (.aload_n 0, 1) := by decide +kernel
theorem dX5_blockCount_13 : decode cX5_blockCount 13 = .ok (.getfield 43, 3) := by decide +kernel
theorem dX5_blockCount_16 : decode cX5_blockCount 16 = .ok (.getfield 171, 3) := by decide +kernel
theorem dX5_blockCount_19 : decode cX5_blockCount 19 = .ok (.if_icmp .ge 23, 3) := by decide +kernel
theorem dX5_blockCount_22 : decode cX5_blockCount 22 = .ok (.aload_n 0, 1) := by decide +kernel
theorem dX5_blockCount_23 : decode cX5_blockCount 23 = .ok (.getfield 43, 3) := by decide +kernel
theorem dX5_blockCount_26 : decode cX5_blockCount 26 = .ok (.iload_n 2, 1) := by decide +kernel
theorem dX5_blockCount_27 : decode cX5_blockCount 27 = .ok (.invokevirtual 182, 3) := by decide +kernel
theorem dX5_blockCount_30 : decode cX5_blockCount 30 = .ok (.ifCond .ne 6, 3) := by decide +kernel
theorem dX5_blockCount_33 : decode cX5_blockCount 33 = .ok (.iinc 1 1, 3) := by decide +kernel
theorem dX5_blockCount_36 : decode cX5_blockCount 36 = .ok (.iinc 2 1, 3) := by decide +kernel
theorem dX5_blockCount_39 : decode cX5_blockCount 39 = .ok (.goto (-28), 3) := by decide +kernel
theorem dX5_blockCount_42 : decode cX5_blockCount 42 = .ok (.iload_n 1, 1) := by decide +kernel
theorem dX5_blockCount_43 : decode cX5_blockCount 43 = .ok (.ireturn, 1) := by decide +kernel
theorem dX5_longestBlock_0 : decode cX5_longestBlock 0 = .ok (.aload_n 0, 1) := by decide +kernel
theorem dX5_longestBlock_1 : decode cX5_longestBlock 1 = .ok (.getfield 43, 3) := by decide +kernel
theorem dX5_longestBlock_4 : decode cX5_longestBlock 4 = .ok (.invokevirtual 168, 3) := by decide +kernel
theorem dX5_longestBlock_7 : decode cX5_longestBlock 7 = .ok (.iconst 0, 1) := by decide +kernel
theorem dX5_longestBlock_8 : decode cX5_longestBlock 8 = .ok (.istore_n 1, 1) := by decide +kernel
theorem dX5_longestBlock_9 : decode cX5_longestBlock 9 = .ok (.iconst 0, 1) := by decide +kernel
theorem dX5_longestBlock_10 : decode cX5_longestBlock 10 = .ok (.istore_n 2, 1) := by decide +kernel
theorem dX5_longestBlock_11 : decode cX5_longestBlock 11 = .ok (.iconst 0, 1) := by decide +kernel
theorem dX5_longestBlock_12 : decode cX5_longestBlock 12 = .ok (.istore_n 3, 1) := by decide +kernel
theorem dX5_longestBlock_13 : decode cX5_longestBlock 13 = .ok (.iload_n 3, 1) := by decide +kernel
theorem dX5_longestBlock_14 : decode cX5_longestBlock 14 = .ok (.aload_n 0, 1) := by decide +kernel
theorem dX5_longestBlock_15 : decode cX5_longestBlock 15 = .ok (.getfield 43, 3) := by decide +kernel
theorem dX5_longestBlock_18 : decode cX5_longestBlock 18 = .ok (.getfield 171, 3) := by decide +kernel
theorem dX5_longestBlock_21 : decode cX5_longestBlock 21 = .ok (.if_icmp .ge 34, 3) := by decide +kernel
theorem dX5_longestBlock_24 : decode cX5_longestBlock 24 = .ok (.aload_n 0, 1) := by decide +kernel
theorem dX5_longestBlock_25 : decode cX5_longestBlock 25 = .ok (.getfield 43, 3) := by decide +kernel
theorem dX5_longestBlock_28 : decode cX5_longestBlock 28 = .ok (.iload_n 3, 1) := by decide +kernel
theorem dX5_longestBlock_29 : decode cX5_longestBlock 29 = .ok (.invokevirtual 182, 3) := by decide +kernel
theorem dX5_longestBlock_32 : decode cX5_longestBlock 32 = .ok (.ifCond .eq 9, 3) := by decide +kernel
theorem dX5_longestBlock_35 : decode cX5_longestBlock 35 = .ok (.iload_n 2, 1) := by decide +kernel
theorem dX5_longestBlock_36 : decode cX5_longestBlock 36 = .ok (.iconst 1, 1) := by decide +kernel
theorem dX5_longestBlock_37 : decode cX5_longestBlock 37 = .ok (.iadd, 1) := by decide +kernel
theorem dX5_longestBlock_38 : decode cX5_longestBlock 38 = .ok (.goto 4, 3) := by decide +kernel
theorem dX5_longestBlock_41 : decode cX5_longestBlock 41 = .ok (.iconst 1, 1) := by decide +kernel
theorem dX5_longestBlock_42 : decode cX5_longestBlock 42 = .ok (.istore_n 2, 1) := by decide +kernel
theorem dX5_longestBlock_43 : decode cX5_longestBlock 43 = .ok (.iload_n 1, 1) := by decide +kernel
theorem dX5_longestBlock_44 : decode cX5_longestBlock 44 = .ok (.iload_n 2, 1) := by decide +kernel
theorem dX5_longestBlock_45 : decode cX5_longestBlock 45 = .ok (.invokestatic 186, 3) := by decide +kernel
theorem dX5_longestBlock_48 : decode cX5_longestBlock 48 = .ok (.istore_n 1, 1) := by decide +kernel
theorem dX5_longestBlock_49 : decode cX5_longestBlock 49 = .ok (.iinc 3 1, 3) := by decide +kernel
theorem dX5_longestBlock_52 : decode cX5_longestBlock 52 = .ok (.goto (-39), 3) := by decide +kernel
theorem dX5_longestBlock_55 : decode cX5_longestBlock 55 = .ok (.iload_n 1, 1) := by decide +kernel
theorem dX5_longestBlock_56 : decode cX5_longestBlock 56 = .ok (.ireturn, 1) := by decide +kernel
theorem dX5_deadlocks_0 : decode cX5_deadlocks 0 = .ok (.aload_n 0, 1) := by decide +kernel
theorem dX5_deadlocks_1 : decode cX5_deadlocks 1 = .ok (.iload_n 1, 1) := by decide +kernel
theorem dX5_deadlocks_2 : decode cX5_deadlocks 2 = .ok (.iload_n 2, 1) := by decide +kernel
theorem dX5_deadlocks_3 : decode cX5_deadlocks 3 = .ok (.invokevirtual 191, 3) := by decide +kernel
theorem dX5_deadlocks_6 : decode cX5_deadlocks 6 = .ok (.aload_n 0, 1) := by decide +kernel
theorem dX5_deadlocks_7 : decode cX5_deadlocks 7 = .ok (.iload_n 1, 1) := by decide +kernel
theorem dX5_deadlocks_8 : decode cX5_deadlocks 8 = .ok (.iload_n 2, 1) := by decide +kernel
theorem dX5_deadlocks_9 : decode cX5_deadlocks 9 = .ok (.invokevirtual 194, 3) := by decide +kernel
theorem dX5_deadlocks_12 : decode cX5_deadlocks 12 = .ok (.ifCond .ne 7, 3) := by decide +kernel
theorem dX5_deadlocks_15 : decode cX5_deadlocks 15 = .ok (.iconst 1, 1) := by decide +kernel
theorem dX5_deadlocks_16 : decode cX5_deadlocks 16 = .ok (.goto 4, 3) := by decide +kernel
theorem dX5_deadlocks_19 : decode cX5_deadlocks 19 = .ok (.iconst 0, 1) := by decide +kernel
theorem dX5_deadlocks_20 : decode cX5_deadlocks 20 = .ok (.ireturn, 1) := by decide +kernel
theorem dX5_makespanAfter_0 : decode cX5_makespanAfter 0 = .ok (.aload_n 0, 1) := by decide +kernel
theorem dX5_makespanAfter_1 : decode cX5_makespanAfter 1 = .ok (.iload_n 1, 1) := by decide +kernel
theorem dX5_makespanAfter_2 : decode cX5_makespanAfter 2 = .ok (.iload_n 2, 1) := by decide +kernel
theorem dX5_makespanAfter_3 : decode cX5_makespanAfter 3 = .ok (.invokevirtual 191, 3) := by decide +kernel
theorem dX5_makespanAfter_6 : decode cX5_makespanAfter 6 = .ok (.aload_n 0, 1) := by decide +kernel
theorem dX5_makespanAfter_7 : decode cX5_makespanAfter 7 = .ok (.iload_n 1, 1) := by decide +kernel
theorem dX5_makespanAfter_8 : decode cX5_makespanAfter 8 = .ok (.iload_n 2, 1) := by decide +kernel
theorem dX5_makespanAfter_9 : decode cX5_makespanAfter 9 = .ok (.invokevirtual 194, 3) := by decide +kernel
theorem dX5_makespanAfter_12 : decode cX5_makespanAfter 12 = .ok (.ifCond .eq 13, 3) := by decide +kernel
theorem dX5_makespanAfter_15 : decode cX5_makespanAfter 15 = .ok (.aload_n 0, 1) := by decide +kernel
theorem dX5_makespanAfter_16 : decode cX5_makespanAfter 16 = .ok (.getfield 52, 3) := by decide +kernel
theorem dX5_makespanAfter_19 : decode cX5_makespanAfter 19 = .ok (.invokevirtual 155, 3) := by decide +kernel
theorem dX5_makespanAfter_22 : decode cX5_makespanAfter 22 = .ok (.goto 4, 3) := by decide +kernel
theorem dX5_makespanAfter_25 : decode cX5_makespanAfter 25 = .ok (.iconst (-1), 1) := by decide +kernel
theorem dX5_makespanAfter_26 : decode cX5_makespanAfter 26 = .ok (.ireturn, 1) := by decide +kernel
theorem dX5_bestSwap_0 : decode cX5_bestSwap 0 = .ok (.iconst (-1), 1) := by decide +kernel
theorem dX5_bestSwap_1 : decode cX5_bestSwap 1 = .ok (.istore_n 1, 1) := by decide +kernel
theorem dX5_bestSwap_2 : decode cX5_bestSwap 2 = .ok (.iconst 0, 1) := by decide +kernel
theorem dX5_bestSwap_3 : decode cX5_bestSwap 3 = .ok (.istore_n 2, 1) := by decide +kernel
theorem dX5_bestSwap_4 : decode cX5_bestSwap 4 = .ok (.iconst 0, 1) := by decide +kernel
theorem dX5_bestSwap_5 : decode cX5_bestSwap 5 = .ok (.istore_n 3, 1) := by decide +kernel
theorem dX5_bestSwap_6 : decode cX5_bestSwap 6 = .ok (.iconst 0, 1) := by decide +kernel
theorem dX5_bestSwap_7 : decode cX5_bestSwap 7 = .ok (.istore 4, 2) := by decide +kernel
theorem dX5_bestSwap_9 : decode cX5_bestSwap 9 = .ok (.iload 4, 2) := by decide +kernel
theorem dX5_bestSwap_11 : decode cX5_bestSwap 11 = .ok (.aload_n 0, 1) := by decide +kernel
theorem dX5_bestSwap_12 : decode cX5_bestSwap 12 = .ok (.getfield 51, 3) := by decide +kernel
theorem dX5_bestSwap_15 : decode cX5_bestSwap 15 = .ok (.getfield 95, 3) := by decide +kernel
theorem dX5_bestSwap_18 : decode cX5_bestSwap 18 = .ok (.getfield 99, 3) := by decide +kernel
theorem dX5_bestSwap_21 : decode cX5_bestSwap 21 = .ok (.if_icmp .ge 93, 3) := by decide +kernel
theorem dX5_bestSwap_24 : decode cX5_bestSwap 24 = .ok (.iconst 0, 1) := by decide +kernel
theorem dX5_bestSwap_25 : decode cX5_bestSwap 25 = .ok (.istore 5, 2) := by decide +kernel
theorem dX5_bestSwap_27 : decode cX5_bestSwap 27 = .ok (.iload 5, 2) := by decide +kernel
theorem dX5_bestSwap_29 : decode cX5_bestSwap 29 = .ok (.aload_n 0, 1) := by decide +kernel
theorem dX5_bestSwap_30 : decode cX5_bestSwap 30 = .ok (.getfield 51, 3) := by decide +kernel
theorem dX5_bestSwap_33 : decode cX5_bestSwap 33 = .ok (.getfield 95, 3) := by decide +kernel
theorem dX5_bestSwap_36 : decode cX5_bestSwap 36 = .ok (.getfield 132, 3) := by decide +kernel
theorem dX5_bestSwap_39 : decode cX5_bestSwap 39 = .ok (.iload 4, 2) := by decide +kernel
theorem dX5_bestSwap_41 : decode cX5_bestSwap 41 = .ok (.iaload, 1) := by decide +kernel
theorem dX5_bestSwap_42 : decode cX5_bestSwap 42 = .ok (.iconst 1, 1) := by decide +kernel
theorem dX5_bestSwap_43 : decode cX5_bestSwap 43 = .ok (.isub, 1) := by decide +kernel
theorem dX5_bestSwap_44 : decode cX5_bestSwap 44 = .ok (.if_icmp .ge 64, 3) := by decide +kernel
theorem dX5_bestSwap_47 : decode cX5_bestSwap 47 = .ok (.aload_n 0, 1) := by decide +kernel
theorem dX5_bestSwap_48 : decode cX5_bestSwap 48 = .ok (.iload 4, 2) := by decide +kernel
theorem dX5_bestSwap_50 : decode cX5_bestSwap 50 = .ok (.iload 5, 2) := by decide +kernel
theorem dX5_bestSwap_52 : decode cX5_bestSwap 52 = .ok (.invokevirtual 194, 3) := by decide +kernel
theorem dX5_bestSwap_55 : decode cX5_bestSwap 55 = .ok (.ifCond .ne 6, 3) := by decide +kernel
theorem dX5_bestSwap_58 : decode cX5_bestSwap 58 = .ok (.goto 44, 3) := by decide +kernel
theorem dX5_bestSwap_61 : decode cX5_bestSwap 61 = .ok (.iload_n 1, 1) := by decide +kernel
theorem dX5_bestSwap_62 : decode cX5_bestSwap 62 = .ok (.ifCond .lt 15, 3) := by decide +kernel
theorem dX5_bestSwap_65 : decode cX5_bestSwap 65 = .ok (.aload_n 0, 1) := by decide +kernel
theorem dX5_bestSwap_66 : decode cX5_bestSwap 66 = .ok (.getfield 52, 3) := by decide +kernel
theorem dX5_bestSwap_69 : decode cX5_bestSwap 69 = .ok (.iload_n 2, 1) := by decide +kernel
theorem dX5_bestSwap_70 : decode cX5_bestSwap 70 = .ok (.iload_n 3, 1) := by decide +kernel
theorem dX5_bestSwap_71 : decode cX5_bestSwap 71 = .ok (.invokevirtual 198, 3) := by decide +kernel
theorem dX5_bestSwap_74 : decode cX5_bestSwap 74 = .ok (.ifCond .eq 28, 3) := by decide +kernel
theorem dX5_bestSwap_77 : decode cX5_bestSwap 77 = .ok (.bipush 100, 2) := by decide +kernel
theorem dX5_bestSwap_79 : decode cX5_bestSwap 79 = .ok (.iload 4, 2) := by decide +kernel
theorem dX5_bestSwap_81 : decode cX5_bestSwap 81 = .ok (.imul, 1) := by decide +kernel
theorem dX5_bestSwap_82 : decode cX5_bestSwap 82 = .ok (.iload 5, 2) := by decide +kernel
theorem dX5_bestSwap_84 : decode cX5_bestSwap 84 = .ok (.iadd, 1) := by decide +kernel
theorem dX5_bestSwap_85 : decode cX5_bestSwap 85 = .ok (.istore_n 1, 1) := by decide +kernel
theorem dX5_bestSwap_86 : decode cX5_bestSwap 86 = .ok (.aload_n 0, 1) := by decide +kernel
theorem dX5_bestSwap_87 : decode cX5_bestSwap 87 = .ok (.getfield 52, 3) := by decide +kernel
theorem dX5_bestSwap_90 : decode cX5_bestSwap 90 = .ok (.invokevirtual 155, 3) := by decide +kernel
theorem dX5_bestSwap_93 : decode cX5_bestSwap 93 = .ok (.istore_n 2, 1) := by decide +kernel
theorem dX5_bestSwap_94 : decode cX5_bestSwap 94 = .ok (.aload_n 0, 1) := by decide +kernel
theorem dX5_bestSwap_95 : decode cX5_bestSwap 95 = .ok (.getfield 52, 3) := by decide +kernel
theorem dX5_bestSwap_98 : decode cX5_bestSwap 98 = .ok (.invokevirtual 162, 3) := by decide +kernel
theorem dX5_bestSwap_101 : decode cX5_bestSwap 101 = .ok (.istore_n 3, 1) := by decide +kernel
theorem dX5_bestSwap_102 : decode cX5_bestSwap 102 = .ok (.iinc 5 1, 3) := by decide +kernel
theorem dX5_bestSwap_105 : decode cX5_bestSwap 105 = .ok (.goto (-78), 3) := by decide +kernel
theorem dX5_bestSwap_108 : decode cX5_bestSwap 108 = .ok (.iinc 4 1, 3) := by decide +kernel
theorem dX5_bestSwap_111 : decode cX5_bestSwap 111 = .ok (.goto (-102), 3) := by decide +kernel
theorem dX5_bestSwap_114 : decode cX5_bestSwap 114 = .ok (.iload_n 1, 1) := by decide +kernel
theorem dX5_bestSwap_115 : decode cX5_bestSwap 115 = .ok (.ireturn, 1) := by decide +kernel
theorem dX5_swap_0 : decode cX5_swap 0 = .ok (.aload_n 0, 1) := by decide +kernel
theorem dX5_swap_1 : decode cX5_swap 1 = .ok (.iload_n 1, 1) := by decide +kernel
theorem dX5_swap_2 : decode cX5_swap 2 = .ok (.iload_n 2, 1) := by decide +kernel
theorem dX5_swap_3 : decode cX5_swap 3 = .ok (.invokevirtual 191, 3) := by decide +kernel
theorem dX5_swap_6 : decode cX5_swap 6 = .ok (.aload_n 0, 1) := by decide +kernel
theorem dX5_swap_7 : decode cX5_swap 7 = .ok (.iload_n 1, 1) := by decide +kernel
theorem dX5_swap_8 : decode cX5_swap 8 = .ok (.iload_n 2, 1) := by decide +kernel
theorem dX5_swap_9 : decode cX5_swap 9 = .ok (.invokevirtual 194, 3) := by decide +kernel
theorem dX5_swap_12 : decode cX5_swap 12 = .ok (.ifCond .ne 13, 3) := by decide +kernel
theorem dX5_swap_15 : decode cX5_swap 15 = .ok (.new 201, 3) := by decide +kernel
theorem dX5_swap_18 : decode cX5_swap 18 = .ok (.dup, 1) := by decide +kernel
theorem dX5_swap_19 : decode cX5_swap 19 = .ok (.ldc 203, 2) := by decide +kernel
theorem dX5_swap_21 : decode cX5_swap 21 = .ok (.invokespecial 205, 3) := by decide +kernel
theorem dX5_swap_24 : decode cX5_swap 24 = .ok (.athrow, 1) := by decide +kernel
theorem dX5_swap_25 : decode cX5_swap 25 = .ok (.aload_n 0, 1) := by decide +kernel
theorem dX5_swap_26 : decode cX5_swap 26 = .ok (.invokevirtual 82, 3) := by decide +kernel
theorem dX5_swap_29 : decode cX5_swap 29 = .ok (.aload_n 0, 1) := by decide +kernel
theorem dX5_swap_30 : decode cX5_swap 30 = .ok (.invokevirtual 206, 3) := by decide +kernel
theorem dX5_swap_33 : decode cX5_swap 33 = .ok (.aload_n 0, 1) := by decide +kernel
theorem dX5_swap_34 : decode cX5_swap 34 = .ok (.getfield 43, 3) := by decide +kernel
theorem dX5_swap_37 : decode cX5_swap 37 = .ok (.invokevirtual 155, 3) := by decide +kernel
theorem dX5_swap_40 : decode cX5_swap 40 = .ok (.ireturn, 1) := by decide +kernel
theorem dX5_improve_0 : decode cX5_improve 0 = .ok (.iload_n 1, 1) := by decide +kernel
theorem dX5_improve_1 : decode cX5_improve 1 = .ok (.iconst 1, 1) := by decide +kernel
theorem dX5_improve_2 : decode cX5_improve 2 = .ok (.if_icmp .lt 9, 3) := by decide +kernel
theorem dX5_improve_5 : decode cX5_improve 5 = .ok (.iload_n 1, 1) := by decide +kernel
theorem dX5_improve_6 : decode cX5_improve 6 = .ok (.bipush 20, 2) := by decide +kernel
theorem dX5_improve_8 : decode cX5_improve 8 = .ok (.if_icmp .le 13, 3) := by decide +kernel
theorem dX5_improve_11 : decode cX5_improve 11 = .ok (.new 67, 3) := by decide +kernel
theorem dX5_improve_14 : decode cX5_improve 14 = .ok (.dup, 1) := by decide +kernel
theorem dX5_improve_15 : decode cX5_improve 15 = .ok (.ldc 209, 2) := by decide +kernel
theorem dX5_improve_17 : decode cX5_improve 17 = .ok (.invokespecial 71, 3) := by decide +kernel
theorem dX5_improve_20 : decode cX5_improve 20 = .ok (.athrow, 1) := by decide +kernel
theorem dX5_improve_21 : decode cX5_improve 21 = .ok (.aload_n 0, 1) := by decide +kernel
theorem dX5_improve_22 : decode cX5_improve 22 = .ok (.invokevirtual 82, 3) := by decide +kernel
theorem dX5_improve_25 : decode cX5_improve 25 = .ok (.iconst 0, 1) := by decide +kernel
theorem dX5_improve_26 : decode cX5_improve 26 = .ok (.istore_n 2, 1) := by decide +kernel
theorem dX5_improve_27 : decode cX5_improve 27 = .ok (.iload_n 2, 1) := by decide +kernel
theorem dX5_improve_28 : decode cX5_improve 28 = .ok (.iload_n 1, 1) := by decide +kernel
theorem dX5_improve_29 : decode cX5_improve 29 = .ok (.if_icmp .ge 57, 3) := by decide +kernel
theorem dX5_improve_32 : decode cX5_improve 32 = .ok (.aload_n 0, 1) := by decide +kernel
theorem dX5_improve_33 : decode cX5_improve 33 = .ok (.invokevirtual 211, 3) := by decide +kernel
theorem dX5_improve_36 : decode cX5_improve 36 = .ok (.istore_n 3, 1) := by decide +kernel
theorem dX5_improve_37 : decode cX5_improve 37 = .ok (.iload_n 3, 1) := by decide +kernel
theorem dX5_improve_38 : decode cX5_improve 38 = .ok (.ifCond .lt 36, 3) := by decide +kernel
theorem dX5_improve_41 : decode cX5_improve 41 = .ok (.aload_n 0, 1) := by decide +kernel
theorem dX5_improve_42 : decode cX5_improve 42 = .ok (.iload_n 3, 1) := by decide +kernel
theorem dX5_improve_43 : decode cX5_improve 43 = .ok (.bipush 100, 2) := by decide +kernel
theorem dX5_improve_45 : decode cX5_improve 45 = .ok (.idiv, 1) := by decide +kernel
theorem dX5_improve_46 : decode cX5_improve 46 = .ok (.iload_n 3, 1) := by decide +kernel
theorem dX5_improve_47 : decode cX5_improve 47 = .ok (.bipush 100, 2) := by decide +kernel
theorem dX5_improve_49 : decode cX5_improve 49 = .ok (.irem, 1) := by decide +kernel
theorem dX5_improve_50 : decode cX5_improve 50 = .ok (.invokevirtual 194, 3) := by decide +kernel
theorem dX5_improve_53 : decode cX5_improve 53 = .ok (.ifCond .eq 21, 3) := by decide +kernel
theorem dX5_improve_56 : decode cX5_improve 56 = .ok (.aload_n 0, 1) := by decide +kernel
theorem dX5_improve_57 : decode cX5_improve 57 = .ok (.getfield 52, 3) := by decide +kernel
theorem dX5_improve_60 : decode cX5_improve 60 = .ok (.aload_n 0, 1) := by decide +kernel
theorem dX5_improve_61 : decode cX5_improve 61 = .ok (.invokevirtual 214, 3) := by decide +kernel
theorem dX5_improve_64 : decode cX5_improve 64 = .ok (.aload_n 0, 1) := by decide +kernel
theorem dX5_improve_65 : decode cX5_improve 65 = .ok (.invokevirtual 217, 3) := by decide +kernel
theorem dX5_improve_68 : decode cX5_improve 68 = .ok (.invokevirtual 198, 3) := by decide +kernel
theorem dX5_improve_71 : decode cX5_improve 71 = .ok (.ifCond .ne 5, 3) := by decide +kernel
theorem dX5_improve_74 : decode cX5_improve 74 = .ok (.iload_n 2, 1) := by decide +kernel
theorem dX5_improve_75 : decode cX5_improve 75 = .ok (.ireturn, 1) := by decide +kernel
theorem dX5_improve_76 : decode cX5_improve 76 = .ok (.aload_n 0, 1) := by decide +kernel
theorem dX5_improve_77 : decode cX5_improve 77 = .ok (.invokevirtual 206, 3) := by decide +kernel
theorem dX5_improve_80 : decode cX5_improve 80 = .ok (.iinc 2 1, 3) := by decide +kernel
theorem dX5_improve_83 : decode cX5_improve 83 = .ok (.goto (-56), 3) := by decide +kernel
theorem dX5_improve_86 : decode cX5_improve 86 = .ok (.iload_n 1, 1) := by decide +kernel
theorem dX5_improve_87 : decode cX5_improve 87 = .ok (.ireturn, 1) := by decide +kernel
theorem dX5_place_0 : decode cX5_place 0 = .ok (.aload_n 0, 1) := by decide +kernel
theorem dX5_place_1 : decode cX5_place 1 = .ok (.iload_n 1, 1) := by decide +kernel
theorem dX5_place_2 : decode cX5_place 2 = .ok (.iload_n 2, 1) := by decide +kernel
theorem dX5_place_3 : decode cX5_place 3 = .ok (.invokevirtual 110, 3) := by decide +kernel
theorem dX5_place_6 : decode cX5_place 6 = .ok (.iload_n 1, 1) := by decide +kernel
theorem dX5_place_7 : decode cX5_place 7 = .ok (.iload_n 2, 1) := by decide +kernel
theorem dX5_place_8 : decode cX5_place 8 = .ok (.invokestatic 113, 3) := by decide +kernel
theorem dX5_place_11 : decode cX5_place 11 = .ok (.istore 4, 2) := by decide +kernel
theorem dX5_place_13 : decode cX5_place 13 = .ok (.aload_n 0, 1) := by decide +kernel
theorem dX5_place_14 : decode cX5_place 14 = .ok (.getfield 51, 3) := by decide +kernel
theorem dX5_place_17 : decode cX5_place 17 = .ok (.getfield 95, 3) := by decide +kernel
theorem dX5_place_20 : decode cX5_place 20 = .ok (.getfield 117, 3) := by decide +kernel
theorem dX5_place_23 : decode cX5_place 23 = .ok (.iload 4, 2) := by decide +kernel
theorem dX5_place_25 : decode cX5_place 25 = .ok (.iaload, 1) := by decide +kernel
theorem dX5_place_26 : decode cX5_place 26 = .ok (.istore 5, 2) := by decide +kernel
theorem dX5_place_28 : decode cX5_place 28 = .ok (.iload_n 3, 1) := by decide +kernel
theorem dX5_place_29 : decode cX5_place 29 = .ok (.ifCond .lt 20, 3) := by decide +kernel
theorem dX5_place_32 : decode cX5_place 32 = .ok (.iload_n 3, 1) := by decide +kernel
theorem dX5_place_33 : decode cX5_place 33 = .ok (.aload_n 0, 1) := by decide +kernel
theorem dX5_place_34 : decode cX5_place 34 = .ok (.getfield 51, 3) := by decide +kernel
theorem dX5_place_37 : decode cX5_place 37 = .ok (.getfield 95, 3) := by decide +kernel
theorem dX5_place_40 : decode cX5_place 40 = .ok (.getfield 132, 3) := by decide +kernel
theorem dX5_place_43 : decode cX5_place 43 = .ok (.iload 5, 2) := by decide +kernel
theorem dX5_place_45 : decode cX5_place 45 = .ok (.iaload, 1) := by decide +kernel
theorem dX5_place_46 : decode cX5_place 46 = .ok (.if_icmp .lt 13, 3) := by decide +kernel
theorem dX5_place_49 : decode cX5_place 49 = .ok (.new 135, 3) := by decide +kernel
theorem dX5_place_52 : decode cX5_place 52 = .ok (.dup, 1) := by decide +kernel
theorem dX5_place_53 : decode cX5_place 53 = .ok (.ldc 220, 2) := by decide +kernel
theorem dX5_place_55 : decode cX5_place 55 = .ok (.invokespecial 139, 3) := by decide +kernel
theorem dX5_place_58 : decode cX5_place 58 = .ok (.athrow, 1) := by decide +kernel
theorem dX5_place_59 : decode cX5_place 59 = .ok (.aload_n 0, 1) := by decide +kernel
theorem dX5_place_60 : decode cX5_place 60 = .ok (.getfield 55, 3) := by decide +kernel
theorem dX5_place_63 : decode cX5_place 63 = .ok (.aload_n 0, 1) := by decide +kernel
theorem dX5_place_64 : decode cX5_place 64 = .ok (.getfield 51, 3) := by decide +kernel
theorem dX5_place_67 : decode cX5_place 67 = .ok (.invokevirtual 222, 3) := by decide +kernel
theorem dX5_place_70 : decode cX5_place 70 = .ok (.aload_n 0, 1) := by decide +kernel
