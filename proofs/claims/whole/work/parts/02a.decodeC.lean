theorem d_C_init_0 : decode b_C_init 0 = .ok (.aload_n 0, 1) := by decide +kernel
theorem d_C_init_1 : decode b_C_init 1 = .ok (.invokespecial 3, 3) := by decide +kernel
theorem d_C_init_4 : decode b_C_init 4 = .ok (.aload_n 0, 1) := by decide +kernel
theorem d_C_init_5 : decode b_C_init 5 = .ok (.iconst 0, 1) := by decide +kernel
theorem d_C_init_6 : decode b_C_init 6 = .ok (.putfield 9, 3) := by decide +kernel
theorem d_C_init_9 : decode b_C_init 9 = .ok (.aload_n 0, 1) := by decide +kernel
theorem d_C_init_10 : decode b_C_init 10 = .ok (.iconst 0, 1) := by decide +kernel
theorem d_C_init_11 : decode b_C_init 11 = .ok (.putfield 15, 3) := by decide +kernel
theorem d_C_init_14 : decode b_C_init 14 = .ok (.aload_n 0, 1) := by decide +kernel
theorem d_C_init_15 : decode b_C_init 15 = .ok (.iconst 0, 1) := by decide +kernel
theorem d_C_init_16 : decode b_C_init 16 = .ok (.putfield 18, 3) := by decide +kernel
theorem d_C_init_19 : decode b_C_init 19 = .ok (.aload_n 0, 1) := by decide +kernel
theorem d_C_init_20 : decode b_C_init 20 = .ok (.iconst 1, 1) := by decide +kernel
theorem d_C_init_21 : decode b_C_init 21 = .ok (.putfield 21, 3) := by decide +kernel
theorem d_C_init_24 : decode b_C_init 24 = .ok (.aload_n 0, 1) := by decide +kernel
theorem d_C_init_25 : decode b_C_init 25 = .ok (.bipush 28, 2) := by decide +kernel
theorem d_C_init_27 : decode b_C_init 27 = .ok (.newarray .int, 2) := by decide +kernel
theorem d_C_init_29 : decode b_C_init 29 = .ok (.putfield 24, 3) := by decide +kernel
theorem d_C_init_32 : decode b_C_init 32 = .ok (.aload_n 0, 1) := by decide +kernel
theorem d_C_init_33 : decode b_C_init 33 = .ok (.iconst 0, 1) := by decide +kernel
theorem d_C_init_34 : decode b_C_init 34 = .ok (.putfield 28, 3) := by decide +kernel
theorem d_C_init_37 : decode b_C_init 37 = .ok (.aload_n 0, 1) := by decide +kernel
theorem d_C_init_38 : decode b_C_init 38 = .ok (.iconst 0, 1) := by decide +kernel
theorem d_C_init_39 : decode b_C_init 39 = .ok (.putfield 31, 3) := by decide +kernel
theorem d_C_init_42 : decode b_C_init 42 = .ok (.aload_n 0, 1) := by decide +kernel
theorem d_C_init_43 : decode b_C_init 43 = .ok (.iconst 0, 1) := by decide +kernel
theorem d_C_init_44 : decode b_C_init 44 = .ok (.putfield 34, 3) := by decide +kernel
theorem d_C_init_47 : decode b_C_init 47 = .ok (.aload_n 0, 1) := by decide +kernel
theorem d_C_init_48 : decode b_C_init 48 = .ok (.iconst 0, 1) := by decide +kernel
theorem d_C_init_49 : decode b_C_init 49 = .ok (.putfield 37, 3) := by decide +kernel
theorem d_C_init_52 : decode b_C_init 52 = .ok (.aload_n 0, 1) := by decide +kernel
theorem d_C_init_53 : decode b_C_init 53 = .ok (.iconst 1, 1) := by decide +kernel
theorem d_C_init_54 : decode b_C_init 54 = .ok (.putfield 40, 3) := by decide +kernel
theorem d_C_init_57 : decode b_C_init 57 = .ok (.return_, 1) := by decide +kernel
theorem d_C_layEdge_0 : decode b_C_layEdge 0 = .ok (.aload_n 0, 1) := by decide +kernel
theorem d_C_layEdge_1 : decode b_C_layEdge 1 = .ok (.aload_n 1, 1) := by decide +kernel
theorem d_C_layEdge_2 : decode b_C_layEdge 2 = .ok (.getfield 9, 3) := by decide +kernel
theorem d_C_layEdge_5 : decode b_C_layEdge 5 = .ok (.putfield 28, 3) := by decide +kernel
theorem d_C_layEdge_8 : decode b_C_layEdge 8 = .ok (.aload_n 0, 1) := by decide +kernel
theorem d_C_layEdge_9 : decode b_C_layEdge 9 = .ok (.aload_n 1, 1) := by decide +kernel
theorem d_C_layEdge_10 : decode b_C_layEdge 10 = .ok (.getfield 15, 3) := by decide +kernel
theorem d_C_layEdge_13 : decode b_C_layEdge 13 = .ok (.putfield 31, 3) := by decide +kernel
theorem d_C_layEdge_16 : decode b_C_layEdge 16 = .ok (.aload_n 0, 1) := by decide +kernel
theorem d_C_layEdge_17 : decode b_C_layEdge 17 = .ok (.aload_n 2, 1) := by decide +kernel
theorem d_C_layEdge_18 : decode b_C_layEdge 18 = .ok (.getfield 9, 3) := by decide +kernel
theorem d_C_layEdge_21 : decode b_C_layEdge 21 = .ok (.aload_n 1, 1) := by decide +kernel
theorem d_C_layEdge_22 : decode b_C_layEdge 22 = .ok (.getfield 9, 3) := by decide +kernel
theorem d_C_layEdge_25 : decode b_C_layEdge 25 = .ok (.isub, 1) := by decide +kernel
theorem d_C_layEdge_26 : decode b_C_layEdge 26 = .ok (.putfield 34, 3) := by decide +kernel
theorem d_C_layEdge_29 : decode b_C_layEdge 29 = .ok (.aload_n 0, 1) := by decide +kernel
theorem d_C_layEdge_30 : decode b_C_layEdge 30 = .ok (.aload_n 2, 1) := by decide +kernel
theorem d_C_layEdge_31 : decode b_C_layEdge 31 = .ok (.getfield 15, 3) := by decide +kernel
theorem d_C_layEdge_34 : decode b_C_layEdge 34 = .ok (.aload_n 1, 1) := by decide +kernel
theorem d_C_layEdge_35 : decode b_C_layEdge 35 = .ok (.getfield 15, 3) := by decide +kernel
theorem d_C_layEdge_38 : decode b_C_layEdge 38 = .ok (.isub, 1) := by decide +kernel
theorem d_C_layEdge_39 : decode b_C_layEdge 39 = .ok (.putfield 37, 3) := by decide +kernel
theorem d_C_layEdge_42 : decode b_C_layEdge 42 = .ok (.aload_n 0, 1) := by decide +kernel
theorem d_C_layEdge_43 : decode b_C_layEdge 43 = .ok (.getfield 37, 3) := by decide +kernel
theorem d_C_layEdge_46 : decode b_C_layEdge 46 = .ok (.ifCond .ne 14, 3) := by decide +kernel
theorem d_C_layEdge_49 : decode b_C_layEdge 49 = .ok (.aload_n 0, 1) := by decide +kernel
theorem d_C_layEdge_50 : decode b_C_layEdge 50 = .ok (.getfield 34, 3) := by decide +kernel
theorem d_C_layEdge_53 : decode b_C_layEdge 53 = .ok (.ifCond .le 7, 3) := by decide +kernel
theorem d_C_layEdge_56 : decode b_C_layEdge 56 = .ok (.iconst 1, 1) := by decide +kernel
theorem d_C_layEdge_57 : decode b_C_layEdge 57 = .ok (.goto 4, 3) := by decide +kernel
theorem d_C_layEdge_60 : decode b_C_layEdge 60 = .ok (.iconst 0, 1) := by decide +kernel
theorem d_C_layEdge_61 : decode b_C_layEdge 61 = .ok (.istore_n 3, 1) := by decide +kernel
theorem d_C_layEdge_62 : decode b_C_layEdge 62 = .ok (.aload_n 0, 1) := by decide +kernel
theorem d_C_layEdge_63 : decode b_C_layEdge 63 = .ok (.getfield 37, 3) := by decide +kernel
theorem d_C_layEdge_66 : decode b_C_layEdge 66 = .ok (.ifCond .ge 7, 3) := by decide +kernel
theorem d_C_layEdge_69 : decode b_C_layEdge 69 = .ok (.iconst 1, 1) := by decide +kernel
theorem d_C_layEdge_70 : decode b_C_layEdge 70 = .ok (.goto 4, 3) := by decide +kernel
theorem d_C_layEdge_73 : decode b_C_layEdge 73 = .ok (.iconst 0, 1) := by decide +kernel
theorem d_C_layEdge_74 : decode b_C_layEdge 74 = .ok (.istore 4, 2) := by decide +kernel
theorem d_C_layEdge_76 : decode b_C_layEdge 76 = .ok (.aload_n 0, 1) := by decide +kernel
theorem d_C_layEdge_77 : decode b_C_layEdge 77 = .ok (.iload_n 3, 1) := by decide +kernel
theorem d_C_layEdge_78 : decode b_C_layEdge 78 = .ok (.ifCond .ne 8, 3) := by decide +kernel
theorem d_C_layEdge_81 : decode b_C_layEdge 81 = .ok (.iload 4, 2) := by decide +kernel
theorem d_C_layEdge_83 : decode b_C_layEdge 83 = .ok (.ifCond .eq 7, 3) := by decide +kernel
theorem d_C_layEdge_86 : decode b_C_layEdge 86 = .ok (.iconst 0, 1) := by decide +kernel
theorem d_C_layEdge_87 : decode b_C_layEdge 87 = .ok (.goto 4, 3) := by decide +kernel
theorem d_C_layEdge_90 : decode b_C_layEdge 90 = .ok (.iconst 1, 1) := by decide +kernel
theorem d_C_layEdge_91 : decode b_C_layEdge 91 = .ok (.putfield 40, 3) := by decide +kernel
theorem d_C_layEdge_94 : decode b_C_layEdge 94 = .ok (.return_, 1) := by decide +kernel
theorem d_C_weightAt_0 : decode b_C_weightAt 0 = .ok (.bipush 16, 2) := by decide +kernel
theorem d_C_weightAt_2 : decode b_C_weightAt 2 = .ok (.iload_n 1, 1) := by decide +kernel
theorem d_C_weightAt_3 : decode b_C_weightAt 3 = .ok (.imul, 1) := by decide +kernel
theorem d_C_weightAt_4 : decode b_C_weightAt 4 = .ok (.bipush 8, 2) := by decide +kernel
theorem d_C_weightAt_6 : decode b_C_weightAt 6 = .ok (.iadd, 1) := by decide +kernel
theorem d_C_weightAt_7 : decode b_C_weightAt 7 = .ok (.istore_n 3, 1) := by decide +kernel
theorem d_C_weightAt_8 : decode b_C_weightAt 8 = .ok (.bipush 16, 2) := by decide +kernel
theorem d_C_weightAt_10 : decode b_C_weightAt 10 = .ok (.iload_n 2, 1) := by decide +kernel
theorem d_C_weightAt_11 : decode b_C_weightAt 11 = .ok (.imul, 1) := by decide +kernel
theorem d_C_weightAt_12 : decode b_C_weightAt 12 = .ok (.bipush 8, 2) := by decide +kernel
theorem d_C_weightAt_14 : decode b_C_weightAt 14 = .ok (.iadd, 1) := by decide +kernel
theorem d_C_weightAt_15 : decode b_C_weightAt 15 = .ok (.istore 4, 2) := by decide +kernel
theorem d_C_weightAt_17 : decode b_C_weightAt 17 = .ok (.aload_n 0, 1) := by decide +kernel
theorem d_C_weightAt_18 : decode b_C_weightAt 18 = .ok (.getfield 34, 3) := by decide +kernel
theorem d_C_weightAt_21 : decode b_C_weightAt 21 = .ok (.i2l, 1) := by decide +kernel
theorem d_C_weightAt_22 : decode b_C_weightAt 22 = .ok (.iload 4, 2) := by decide +kernel
theorem d_C_weightAt_24 : decode b_C_weightAt 24 = .ok (.aload_n 0, 1) := by decide +kernel
theorem d_C_weightAt_25 : decode b_C_weightAt 25 = .ok (.getfield 31, 3) := by decide +kernel
theorem d_C_weightAt_28 : decode b_C_weightAt 28 = .ok (.isub, 1) := by decide +kernel
theorem d_C_weightAt_29 : decode b_C_weightAt 29 = .ok (.i2l, 1) := by decide +kernel
theorem d_C_weightAt_30 : decode b_C_weightAt 30 = .ok (.lmul, 1) := by decide +kernel
theorem d_C_weightAt_31 : decode b_C_weightAt 31 = .ok (.aload_n 0, 1) := by decide +kernel
theorem d_C_weightAt_32 : decode b_C_weightAt 32 = .ok (.getfield 37, 3) := by decide +kernel
theorem d_C_weightAt_35 : decode b_C_weightAt 35 = .ok (.i2l, 1) := by decide +kernel
theorem d_C_weightAt_36 : decode b_C_weightAt 36 = .ok (.iload_n 3, 1) := by decide +kernel
theorem d_C_weightAt_37 : decode b_C_weightAt 37 = .ok (.aload_n 0, 1) := by decide +kernel
theorem d_C_weightAt_38 : decode b_C_weightAt 38 = .ok (.getfield 28, 3) := by decide +kernel
theorem d_C_weightAt_41 : decode b_C_weightAt 41 = .ok (.isub, 1) := by decide +kernel
theorem d_C_weightAt_42 : decode b_C_weightAt 42 = .ok (.i2l, 1) := by decide +kernel
theorem d_C_weightAt_43 : decode b_C_weightAt 43 = .ok (.lmul, 1) := by decide +kernel
theorem d_C_weightAt_44 : decode b_C_weightAt 44 = .ok (.lsub, 1) := by decide +kernel
theorem d_C_weightAt_45 : decode b_C_weightAt 45 = .ok (.lreturn, 1) := by decide +kernel
theorem d_C_nearWeightAt_0 : decode b_C_nearWeightAt 0 = .ok (.aload_n 0, 1) := by decide +kernel
theorem d_C_nearWeightAt_1 : decode b_C_nearWeightAt 1 = .ok (.iload_n 1, 1) := by decide +kernel
theorem d_C_nearWeightAt_2 : decode b_C_nearWeightAt 2 = .ok (.iload_n 2, 1) := by decide +kernel
theorem d_C_nearWeightAt_3 : decode b_C_nearWeightAt 3 = .ok (.invokevirtual 43, 3) := by decide +kernel
theorem d_C_nearWeightAt_6 : decode b_C_nearWeightAt 6 = .ok (.aload_n 0, 1) := by decide +kernel
theorem d_C_nearWeightAt_7 : decode b_C_nearWeightAt 7 = .ok (.getfield 21, 3) := by decide +kernel
theorem d_C_nearWeightAt_10 : decode b_C_nearWeightAt 10 = .ok (.i2l, 1) := by decide +kernel
theorem d_C_nearWeightAt_11 : decode b_C_nearWeightAt 11 = .ok (.lmul, 1) := by decide +kernel
theorem d_C_nearWeightAt_12 : decode b_C_nearWeightAt 12 = .ok (.lreturn, 1) := by decide +kernel
theorem d_C_admits_0 : decode b_C_admits 0 = .ok (.aload_n 0, 1) := by decide +kernel
theorem d_C_admits_1 : decode b_C_admits 1 = .ok (.iload_n 1, 1) := by decide +kernel
theorem d_C_admits_2 : decode b_C_admits 2 = .ok (.iload_n 2, 1) := by decide +kernel
theorem d_C_admits_3 : decode b_C_admits 3 = .ok (.invokevirtual 43, 3) := by decide +kernel
theorem d_C_admits_6 : decode b_C_admits 6 = .ok (.aload_n 0, 1) := by decide +kernel
theorem d_C_admits_7 : decode b_C_admits 7 = .ok (.getfield 40, 3) := by decide +kernel
theorem d_C_admits_10 : decode b_C_admits 10 = .ok (.i2l, 1) := by decide +kernel
theorem d_C_admits_11 : decode b_C_admits 11 = .ok (.lcmp, 1) := by decide +kernel
theorem d_C_admits_12 : decode b_C_admits 12 = .ok (.ifCond .lt 7, 3) := by decide +kernel
theorem d_C_admits_15 : decode b_C_admits 15 = .ok (.iconst 1, 1) := by decide +kernel
theorem d_C_admits_16 : decode b_C_admits 16 = .ok (.goto 4, 3) := by decide +kernel
theorem d_C_admits_19 : decode b_C_admits 19 = .ok (.iconst 0, 1) := by decide +kernel
theorem d_C_admits_20 : decode b_C_admits 20 = .ok (.ireturn, 1) := by decide +kernel
