theorem d_E_init_0 : decode b_E_init 0 = .ok (.aload_n 0, 1) := by decide +kernel
theorem d_E_init_1 : decode b_E_init 1 = .ok (.invokespecial 1, 3) := by decide +kernel
theorem d_E_init_4 : decode b_E_init 4 = .ok (.aload_n 0, 1) := by decide +kernel
theorem d_E_init_5 : decode b_E_init 5 = .ok (.new 7, 3) := by decide +kernel
theorem d_E_init_8 : decode b_E_init 8 = .ok (.dup, 1) := by decide +kernel
theorem d_E_init_9 : decode b_E_init 9 = .ok (.invokespecial 9, 3) := by decide +kernel
theorem d_E_init_12 : decode b_E_init 12 = .ok (.putfield 10, 3) := by decide +kernel
theorem d_E_init_15 : decode b_E_init 15 = .ok (.aload_n 0, 1) := by decide +kernel
theorem d_E_init_16 : decode b_E_init 16 = .ok (.new 7, 3) := by decide +kernel
theorem d_E_init_19 : decode b_E_init 19 = .ok (.dup, 1) := by decide +kernel
theorem d_E_init_20 : decode b_E_init 20 = .ok (.invokespecial 9, 3) := by decide +kernel
theorem d_E_init_23 : decode b_E_init 23 = .ok (.putfield 16, 3) := by decide +kernel
theorem d_E_init_26 : decode b_E_init 26 = .ok (.aload_n 0, 1) := by decide +kernel
theorem d_E_init_27 : decode b_E_init 27 = .ok (.new 7, 3) := by decide +kernel
theorem d_E_init_30 : decode b_E_init 30 = .ok (.dup, 1) := by decide +kernel
theorem d_E_init_31 : decode b_E_init 31 = .ok (.invokespecial 9, 3) := by decide +kernel
theorem d_E_init_34 : decode b_E_init 34 = .ok (.putfield 19, 3) := by decide +kernel
theorem d_E_init_37 : decode b_E_init 37 = .ok (.aload_n 0, 1) := by decide +kernel
theorem d_E_init_38 : decode b_E_init 38 = .ok (.lconst 0, 1) := by decide +kernel
theorem d_E_init_39 : decode b_E_init 39 = .ok (.putfield 22, 3) := by decide +kernel
theorem d_E_init_42 : decode b_E_init 42 = .ok (.aload_n 0, 1) := by decide +kernel
theorem d_E_init_43 : decode b_E_init 43 = .ok (.iconst 0, 1) := by decide +kernel
theorem d_E_init_44 : decode b_E_init 44 = .ok (.putfield 26, 3) := by decide +kernel
theorem d_E_init_47 : decode b_E_init 47 = .ok (.aload_n 0, 1) := by decide +kernel
theorem d_E_init_48 : decode b_E_init 48 = .ok (.iconst 0, 1) := by decide +kernel
theorem d_E_init_49 : decode b_E_init 49 = .ok (.putfield 30, 3) := by decide +kernel
theorem d_E_init_52 : decode b_E_init 52 = .ok (.aload_n 0, 1) := by decide +kernel
theorem d_E_init_53 : decode b_E_init 53 = .ok (.iconst 1, 1) := by decide +kernel
theorem d_E_init_54 : decode b_E_init 54 = .ok (.putfield 33, 3) := by decide +kernel
theorem d_E_init_57 : decode b_E_init 57 = .ok (.aload_n 0, 1) := by decide +kernel
theorem d_E_init_58 : decode b_E_init 58 = .ok (.iconst 1, 1) := by decide +kernel
theorem d_E_init_59 : decode b_E_init 59 = .ok (.putfield 36, 3) := by decide +kernel
theorem d_E_init_62 : decode b_E_init 62 = .ok (.aload_n 0, 1) := by decide +kernel
theorem d_E_init_63 : decode b_E_init 63 = .ok (.iconst 0, 1) := by decide +kernel
theorem d_E_init_64 : decode b_E_init 64 = .ok (.putfield 39, 3) := by decide +kernel
theorem d_E_init_67 : decode b_E_init 67 = .ok (.aload_n 0, 1) := by decide +kernel
theorem d_E_init_68 : decode b_E_init 68 = .ok (.iconst 0, 1) := by decide +kernel
theorem d_E_init_69 : decode b_E_init 69 = .ok (.putfield 43, 3) := by decide +kernel
theorem d_E_init_72 : decode b_E_init 72 = .ok (.aload_n 0, 1) := by decide +kernel
theorem d_E_init_73 : decode b_E_init 73 = .ok (.iconst 0, 1) := by decide +kernel
theorem d_E_init_74 : decode b_E_init 74 = .ok (.putfield 46, 3) := by decide +kernel
theorem d_E_init_77 : decode b_E_init 77 = .ok (.aload_n 0, 1) := by decide +kernel
theorem d_E_init_78 : decode b_E_init 78 = .ok (.iconst 0, 1) := by decide +kernel
theorem d_E_init_79 : decode b_E_init 79 = .ok (.putfield 49, 3) := by decide +kernel
theorem d_E_init_82 : decode b_E_init 82 = .ok (.return_, 1) := by decide +kernel
theorem d_E_corner_0 : decode b_E_corner 0 = .ok (.iload_n 1, 1) := by decide +kernel
theorem d_E_corner_1 : decode b_E_corner 1 = .ok (.invokestatic 52, 3) := by decide +kernel
theorem d_E_corner_4 : decode b_E_corner 4 = .ok (.ifCond .ne 13, 3) := by decide +kernel
theorem d_E_corner_7 : decode b_E_corner 7 = .ok (.new 56, 3) := by decide +kernel
theorem d_E_corner_10 : decode b_E_corner 10 = .ok (.dup, 1) := by decide +kernel
theorem d_E_corner_11 : decode b_E_corner 11 = .ok (.ldc 58, 2) := by decide +kernel
theorem d_E_corner_13 : decode b_E_corner 13 = .ok (.invokespecial 60, 3) := by decide +kernel
theorem d_E_corner_16 : decode b_E_corner 16 = .ok (.athrow, 1) := by decide +kernel
theorem d_E_corner_17 : decode b_E_corner 17 = .ok (.iload_n 2, 1) := by decide +kernel
theorem d_E_corner_18 : decode b_E_corner 18 = .ok (.sipush (-16384), 3) := by decide +kernel
theorem d_E_corner_21 : decode b_E_corner 21 = .ok (.sipush 16383, 3) := by decide +kernel
theorem d_E_corner_24 : decode b_E_corner 24 = .ok (.invokestatic 63, 3) := by decide +kernel
theorem d_E_corner_27 : decode b_E_corner 27 = .ok (.ifCond .eq 16, 3) := by decide +kernel
theorem d_E_corner_30 : decode b_E_corner 30 = .ok (.iload_n 3, 1) := by decide +kernel
theorem d_E_corner_31 : decode b_E_corner 31 = .ok (.sipush (-16384), 3) := by decide +kernel
theorem d_E_corner_34 : decode b_E_corner 34 = .ok (.sipush 16383, 3) := by decide +kernel
theorem d_E_corner_37 : decode b_E_corner 37 = .ok (.invokestatic 63, 3) := by decide +kernel
theorem d_E_corner_40 : decode b_E_corner 40 = .ok (.ifCond .ne 13, 3) := by decide +kernel
theorem d_E_corner_43 : decode b_E_corner 43 = .ok (.new 56, 3) := by decide +kernel
theorem d_E_corner_46 : decode b_E_corner 46 = .ok (.dup, 1) := by decide +kernel
theorem d_E_corner_47 : decode b_E_corner 47 = .ok (.ldc 67, 2) := by decide +kernel
theorem d_E_corner_49 : decode b_E_corner 49 = .ok (.invokespecial 60, 3) := by decide +kernel
theorem d_E_corner_52 : decode b_E_corner 52 = .ok (.athrow, 1) := by decide +kernel
theorem d_E_corner_53 : decode b_E_corner 53 = .ok (.iload 4, 2) := by decide +kernel
theorem d_E_corner_55 : decode b_E_corner 55 = .ok (.iconst 0, 1) := by decide +kernel
theorem d_E_corner_56 : decode b_E_corner 56 = .ok (.ldc 69, 2) := by decide +kernel
theorem d_E_corner_58 : decode b_E_corner 58 = .ok (.invokestatic 63, 3) := by decide +kernel
theorem d_E_corner_61 : decode b_E_corner 61 = .ok (.ifCond .ne 13, 3) := by decide +kernel
theorem d_E_corner_64 : decode b_E_corner 64 = .ok (.new 56, 3) := by decide +kernel
theorem d_E_corner_67 : decode b_E_corner 67 = .ok (.dup, 1) := by decide +kernel
theorem d_E_corner_68 : decode b_E_corner 68 = .ok (.ldc 70, 2) := by decide +kernel
theorem d_E_corner_70 : decode b_E_corner 70 = .ok (.invokespecial 60, 3) := by decide +kernel
theorem d_E_corner_73 : decode b_E_corner 73 = .ok (.athrow, 1) := by decide +kernel
theorem d_E_corner_74 : decode b_E_corner 74 = .ok (.iload 5, 2) := by decide +kernel
theorem d_E_corner_76 : decode b_E_corner 76 = .ok (.iconst 1, 1) := by decide +kernel
theorem d_E_corner_77 : decode b_E_corner 77 = .ok (.ldc 72, 2) := by decide +kernel
theorem d_E_corner_79 : decode b_E_corner 79 = .ok (.invokestatic 63, 3) := by decide +kernel
theorem d_E_corner_82 : decode b_E_corner 82 = .ok (.ifCond .ne 13, 3) := by decide +kernel
theorem d_E_corner_85 : decode b_E_corner 85 = .ok (.new 56, 3) := by decide +kernel
theorem d_E_corner_88 : decode b_E_corner 88 = .ok (.dup, 1) := by decide +kernel
theorem d_E_corner_89 : decode b_E_corner 89 = .ok (.ldc 73, 2) := by decide +kernel
theorem d_E_corner_91 : decode b_E_corner 91 = .ok (.invokespecial 60, 3) := by decide +kernel
theorem d_E_corner_94 : decode b_E_corner 94 = .ok (.athrow, 1) := by decide +kernel
theorem d_E_corner_95 : decode b_E_corner 95 = .ok (.aload_n 0, 1) := by decide +kernel
theorem d_E_corner_96 : decode b_E_corner 96 = .ok (.iload_n 1, 1) := by decide +kernel
theorem d_E_corner_97 : decode b_E_corner 97 = .ok (.invokevirtual 75, 3) := by decide +kernel
theorem d_E_corner_100 : decode b_E_corner 100 = .ok (.astore 6, 2) := by decide +kernel
theorem d_E_corner_102 : decode b_E_corner 102 = .ok (.aload 6, 2) := by decide +kernel
theorem d_E_corner_104 : decode b_E_corner 104 = .ok (.iload_n 2, 1) := by decide +kernel
theorem d_E_corner_105 : decode b_E_corner 105 = .ok (.putfield 79, 3) := by decide +kernel
theorem d_E_corner_108 : decode b_E_corner 108 = .ok (.aload 6, 2) := by decide +kernel
theorem d_E_corner_110 : decode b_E_corner 110 = .ok (.iload_n 3, 1) := by decide +kernel
theorem d_E_corner_111 : decode b_E_corner 111 = .ok (.putfield 82, 3) := by decide +kernel
theorem d_E_corner_114 : decode b_E_corner 114 = .ok (.aload 6, 2) := by decide +kernel
theorem d_E_corner_116 : decode b_E_corner 116 = .ok (.iload 4, 2) := by decide +kernel
theorem d_E_corner_118 : decode b_E_corner 118 = .ok (.putfield 85, 3) := by decide +kernel
theorem d_E_corner_121 : decode b_E_corner 121 = .ok (.aload 6, 2) := by decide +kernel
theorem d_E_corner_123 : decode b_E_corner 123 = .ok (.iload 5, 2) := by decide +kernel
theorem d_E_corner_125 : decode b_E_corner 125 = .ok (.putfield 88, 3) := by decide +kernel
theorem d_E_corner_128 : decode b_E_corner 128 = .ok (.aload_n 0, 1) := by decide +kernel
theorem d_E_corner_129 : decode b_E_corner 129 = .ok (.invokevirtual 91, 3) := by decide +kernel
theorem d_E_corner_132 : decode b_E_corner 132 = .ok (.aload_n 0, 1) := by decide +kernel
theorem d_E_corner_133 : decode b_E_corner 133 = .ok (.invokevirtual 94, 3) := by decide +kernel
theorem d_E_corner_136 : decode b_E_corner 136 = .ok (.return_, 1) := by decide +kernel
theorem d_E_value_0 : decode b_E_value 0 = .ok (.iload_n 1, 1) := by decide +kernel
theorem d_E_value_1 : decode b_E_value 1 = .ok (.invokestatic 52, 3) := by decide +kernel
theorem d_E_value_4 : decode b_E_value 4 = .ok (.ifCond .eq 10, 3) := by decide +kernel
theorem d_E_value_7 : decode b_E_value 7 = .ok (.iload_n 2, 1) := by decide +kernel
theorem d_E_value_8 : decode b_E_value 8 = .ok (.invokestatic 97, 3) := by decide +kernel
theorem d_E_value_11 : decode b_E_value 11 = .ok (.ifCond .ne 13, 3) := by decide +kernel
theorem d_E_value_14 : decode b_E_value 14 = .ok (.new 56, 3) := by decide +kernel
theorem d_E_value_17 : decode b_E_value 17 = .ok (.dup, 1) := by decide +kernel
theorem d_E_value_18 : decode b_E_value 18 = .ok (.ldc 100, 2) := by decide +kernel
theorem d_E_value_20 : decode b_E_value 20 = .ok (.invokespecial 60, 3) := by decide +kernel
theorem d_E_value_23 : decode b_E_value 23 = .ok (.athrow, 1) := by decide +kernel
theorem d_E_value_24 : decode b_E_value 24 = .ok (.aload_n 0, 1) := by decide +kernel
theorem d_E_value_25 : decode b_E_value 25 = .ok (.iload_n 1, 1) := by decide +kernel
theorem d_E_value_26 : decode b_E_value 26 = .ok (.invokevirtual 75, 3) := by decide +kernel
theorem d_E_value_29 : decode b_E_value 29 = .ok (.getfield 102, 3) := by decide +kernel
theorem d_E_value_32 : decode b_E_value 32 = .ok (.iload_n 2, 1) := by decide +kernel
theorem d_E_value_33 : decode b_E_value 33 = .ok (.iload_n 3, 1) := by decide +kernel
theorem d_E_value_34 : decode b_E_value 34 = .ok (.iastore, 1) := by decide +kernel
theorem d_E_value_35 : decode b_E_value 35 = .ok (.aload_n 0, 1) := by decide +kernel
theorem d_E_value_36 : decode b_E_value 36 = .ok (.invokevirtual 94, 3) := by decide +kernel
theorem d_E_value_39 : decode b_E_value 39 = .ok (.return_, 1) := by decide +kernel
theorem d_E_window_0 : decode b_E_window 0 = .ok (.iload_n 1, 1) := by decide +kernel
theorem d_E_window_1 : decode b_E_window 1 = .ok (.iconst 0, 1) := by decide +kernel
theorem d_E_window_2 : decode b_E_window 2 = .ok (.sipush 1023, 3) := by decide +kernel
theorem d_E_window_5 : decode b_E_window 5 = .ok (.invokestatic 63, 3) := by decide +kernel
theorem d_E_window_8 : decode b_E_window 8 = .ok (.ifCond .eq 14, 3) := by decide +kernel
theorem d_E_window_11 : decode b_E_window 11 = .ok (.iload_n 2, 1) := by decide +kernel
theorem d_E_window_12 : decode b_E_window 12 = .ok (.iconst 0, 1) := by decide +kernel
theorem d_E_window_13 : decode b_E_window 13 = .ok (.sipush 1023, 3) := by decide +kernel
theorem d_E_window_16 : decode b_E_window 16 = .ok (.invokestatic 63, 3) := by decide +kernel
theorem d_E_window_19 : decode b_E_window 19 = .ok (.ifCond .ne 13, 3) := by decide +kernel
theorem d_E_window_22 : decode b_E_window 22 = .ok (.new 56, 3) := by decide +kernel
theorem d_E_window_25 : decode b_E_window 25 = .ok (.dup, 1) := by decide +kernel
theorem d_E_window_26 : decode b_E_window 26 = .ok (.ldc 106, 2) := by decide +kernel
theorem d_E_window_28 : decode b_E_window 28 = .ok (.invokespecial 60, 3) := by decide +kernel
theorem d_E_window_31 : decode b_E_window 31 = .ok (.athrow, 1) := by decide +kernel
theorem d_E_window_32 : decode b_E_window 32 = .ok (.iload_n 3, 1) := by decide +kernel
theorem d_E_window_33 : decode b_E_window 33 = .ok (.iconst 1, 1) := by decide +kernel
theorem d_E_window_34 : decode b_E_window 34 = .ok (.bipush 64, 2) := by decide +kernel
theorem d_E_window_36 : decode b_E_window 36 = .ok (.invokestatic 63, 3) := by decide +kernel
theorem d_E_window_39 : decode b_E_window 39 = .ok (.ifCond .eq 14, 3) := by decide +kernel
theorem d_E_window_42 : decode b_E_window 42 = .ok (.iload 4, 2) := by decide +kernel
theorem d_E_window_44 : decode b_E_window 44 = .ok (.iconst 1, 1) := by decide +kernel
theorem d_E_window_45 : decode b_E_window 45 = .ok (.bipush 64, 2) := by decide +kernel
theorem d_E_window_47 : decode b_E_window 47 = .ok (.invokestatic 63, 3) := by decide +kernel
theorem d_E_window_50 : decode b_E_window 50 = .ok (.ifCond .ne 13, 3) := by decide +kernel
theorem d_E_window_53 : decode b_E_window 53 = .ok (.new 56, 3) := by decide +kernel
theorem d_E_window_56 : decode b_E_window 56 = .ok (.dup, 1) := by decide +kernel
theorem d_E_window_57 : decode b_E_window 57 = .ok (.ldc 108, 2) := by decide +kernel
theorem d_E_window_59 : decode b_E_window 59 = .ok (.invokespecial 60, 3) := by decide +kernel
theorem d_E_window_62 : decode b_E_window 62 = .ok (.athrow, 1) := by decide +kernel
theorem d_E_window_63 : decode b_E_window 63 = .ok (.aload_n 0, 1) := by decide +kernel
theorem d_E_window_64 : decode b_E_window 64 = .ok (.iload_n 1, 1) := by decide +kernel
theorem d_E_window_65 : decode b_E_window 65 = .ok (.putfield 26, 3) := by decide +kernel
theorem d_E_window_68 : decode b_E_window 68 = .ok (.aload_n 0, 1) := by decide +kernel
theorem d_E_window_69 : decode b_E_window 69 = .ok (.iload_n 2, 1) := by decide +kernel
theorem d_E_window_70 : decode b_E_window 70 = .ok (.putfield 30, 3) := by decide +kernel
theorem d_E_window_73 : decode b_E_window 73 = .ok (.aload_n 0, 1) := by decide +kernel
theorem d_E_window_74 : decode b_E_window 74 = .ok (.iload_n 3, 1) := by decide +kernel
theorem d_E_window_75 : decode b_E_window 75 = .ok (.putfield 33, 3) := by decide +kernel
theorem d_E_window_78 : decode b_E_window 78 = .ok (.aload_n 0, 1) := by decide +kernel
theorem d_E_window_79 : decode b_E_window 79 = .ok (.iload 4, 2) := by decide +kernel
theorem d_E_window_81 : decode b_E_window 81 = .ok (.putfield 36, 3) := by decide +kernel
theorem d_E_window_84 : decode b_E_window 84 = .ok (.aload_n 0, 1) := by decide +kernel
theorem d_E_window_85 : decode b_E_window 85 = .ok (.invokevirtual 94, 3) := by decide +kernel
theorem d_E_window_88 : decode b_E_window 88 = .ok (.return_, 1) := by decide +kernel
theorem d_E_area_0 : decode b_E_area 0 = .ok (.aload_n 0, 1) := by decide +kernel
theorem d_E_area_1 : decode b_E_area 1 = .ok (.getfield 22, 3) := by decide +kernel
theorem d_E_area_4 : decode b_E_area 4 = .ok (.lreturn, 1) := by decide +kernel
theorem d_E_covers_0 : decode b_E_covers 0 = .ok (.iload_n 1, 1) := by decide +kernel
theorem d_E_covers_1 : decode b_E_covers 1 = .ok (.sipush (-1024), 3) := by decide +kernel
theorem d_E_covers_4 : decode b_E_covers 4 = .ok (.sipush 2047, 3) := by decide +kernel
theorem d_E_covers_7 : decode b_E_covers 7 = .ok (.invokestatic 63, 3) := by decide +kernel
theorem d_E_covers_10 : decode b_E_covers 10 = .ok (.ifCond .eq 16, 3) := by decide +kernel
theorem d_E_covers_13 : decode b_E_covers 13 = .ok (.iload_n 2, 1) := by decide +kernel
theorem d_E_covers_14 : decode b_E_covers 14 = .ok (.sipush (-1024), 3) := by decide +kernel
theorem d_E_covers_17 : decode b_E_covers 17 = .ok (.sipush 2047, 3) := by decide +kernel
theorem d_E_covers_20 : decode b_E_covers 20 = .ok (.invokestatic 63, 3) := by decide +kernel
theorem d_E_covers_23 : decode b_E_covers 23 = .ok (.ifCond .ne 13, 3) := by decide +kernel
theorem d_E_covers_26 : decode b_E_covers 26 = .ok (.new 56, 3) := by decide +kernel
theorem d_E_covers_29 : decode b_E_covers 29 = .ok (.dup, 1) := by decide +kernel
theorem d_E_covers_30 : decode b_E_covers 30 = .ok (.ldc 110, 2) := by decide +kernel
theorem d_E_covers_32 : decode b_E_covers 32 = .ok (.invokespecial 60, 3) := by decide +kernel
theorem d_E_covers_35 : decode b_E_covers 35 = .ok (.athrow, 1) := by decide +kernel
theorem d_E_covers_36 : decode b_E_covers 36 = .ok (.aload_n 0, 1) := by decide +kernel
theorem d_E_covers_37 : decode b_E_covers 37 = .ok (.iload_n 1, 1) := by decide +kernel
theorem d_E_covers_38 : decode b_E_covers 38 = .ok (.iload_n 2, 1) := by decide +kernel
theorem d_E_covers_39 : decode b_E_covers 39 = .ok (.invokevirtual 112, 3) := by decide +kernel
theorem d_E_covers_42 : decode b_E_covers 42 = .ok (.ireturn, 1) := by decide +kernel
theorem d_E_many_0 : decode b_E_many 0 = .ok (.iconst 0, 1) := by decide +kernel
theorem d_E_many_1 : decode b_E_many 1 = .ok (.istore_n 1, 1) := by decide +kernel
theorem d_E_many_2 : decode b_E_many 2 = .ok (.aload_n 0, 1) := by decide +kernel
theorem d_E_many_3 : decode b_E_many 3 = .ok (.getfield 30, 3) := by decide +kernel
theorem d_E_many_6 : decode b_E_many 6 = .ok (.istore_n 2, 1) := by decide +kernel
theorem d_E_many_7 : decode b_E_many 7 = .ok (.iload_n 2, 1) := by decide +kernel
theorem d_E_many_8 : decode b_E_many 8 = .ok (.aload_n 0, 1) := by decide +kernel
theorem d_E_many_9 : decode b_E_many 9 = .ok (.getfield 30, 3) := by decide +kernel
theorem d_E_many_12 : decode b_E_many 12 = .ok (.aload_n 0, 1) := by decide +kernel
theorem d_E_many_13 : decode b_E_many 13 = .ok (.getfield 36, 3) := by decide +kernel
theorem d_E_many_16 : decode b_E_many 16 = .ok (.iadd, 1) := by decide +kernel
theorem d_E_many_17 : decode b_E_many 17 = .ok (.if_icmp .ge 45, 3) := by decide +kernel
theorem d_E_many_20 : decode b_E_many 20 = .ok (.aload_n 0, 1) := by decide +kernel
theorem d_E_many_21 : decode b_E_many 21 = .ok (.getfield 26, 3) := by decide +kernel
theorem d_E_many_24 : decode b_E_many 24 = .ok (.istore_n 3, 1) := by decide +kernel
theorem d_E_many_25 : decode b_E_many 25 = .ok (.iload_n 3, 1) := by decide +kernel
theorem d_E_many_26 : decode b_E_many 26 = .ok (.aload_n 0, 1) := by decide +kernel
theorem d_E_many_27 : decode b_E_many 27 = .ok (.getfield 26, 3) := by decide +kernel
theorem d_E_many_30 : decode b_E_many 30 = .ok (.aload_n 0, 1) := by decide +kernel
theorem d_E_many_31 : decode b_E_many 31 = .ok (.getfield 33, 3) := by decide +kernel
theorem d_E_many_34 : decode b_E_many 34 = .ok (.iadd, 1) := by decide +kernel
theorem d_E_many_35 : decode b_E_many 35 = .ok (.if_icmp .ge 21, 3) := by decide +kernel
theorem d_E_many_38 : decode b_E_many 38 = .ok (.aload_n 0, 1) := by decide +kernel
theorem d_E_many_39 : decode b_E_many 39 = .ok (.iload_n 3, 1) := by decide +kernel
theorem d_E_many_40 : decode b_E_many 40 = .ok (.iload_n 2, 1) := by decide +kernel
theorem d_E_many_41 : decode b_E_many 41 = .ok (.invokevirtual 112, 3) := by decide +kernel
theorem d_E_many_44 : decode b_E_many 44 = .ok (.ifCond .eq 6, 3) := by decide +kernel
theorem d_E_many_47 : decode b_E_many 47 = .ok (.iinc 1 1, 3) := by decide +kernel
theorem d_E_many_50 : decode b_E_many 50 = .ok (.iinc 3 1, 3) := by decide +kernel
theorem d_E_many_53 : decode b_E_many 53 = .ok (.goto (-28), 3) := by decide +kernel
theorem d_E_many_56 : decode b_E_many 56 = .ok (.iinc 2 1, 3) := by decide +kernel
theorem d_E_many_59 : decode b_E_many 59 = .ok (.goto (-52), 3) := by decide +kernel
theorem d_E_many_62 : decode b_E_many 62 = .ok (.iload_n 1, 1) := by decide +kernel
theorem d_E_many_63 : decode b_E_many 63 = .ok (.ireturn, 1) := by decide +kernel
theorem d_E_walk_0 : decode b_E_walk 0 = .ok (.aload_n 0, 1) := by decide +kernel
theorem d_E_walk_1 : decode b_E_walk 1 = .ok (.iconst 1, 1) := by decide +kernel
theorem d_E_walk_2 : decode b_E_walk 2 = .ok (.putfield 39, 3) := by decide +kernel
theorem d_E_walk_5 : decode b_E_walk 5 = .ok (.aload_n 0, 1) := by decide +kernel
theorem d_E_walk_6 : decode b_E_walk 6 = .ok (.iconst 0, 1) := by decide +kernel
theorem d_E_walk_7 : decode b_E_walk 7 = .ok (.putfield 43, 3) := by decide +kernel
theorem d_E_walk_10 : decode b_E_walk 10 = .ok (.aload_n 0, 1) := by decide +kernel
theorem d_E_walk_11 : decode b_E_walk 11 = .ok (.aload_n 0, 1) := by decide +kernel
theorem d_E_walk_12 : decode b_E_walk 12 = .ok (.getfield 26, 3) := by decide +kernel
theorem d_E_walk_15 : decode b_E_walk 15 = .ok (.iconst 1, 1) := by decide +kernel
theorem d_E_walk_16 : decode b_E_walk 16 = .ok (.isub, 1) := by decide +kernel
theorem d_E_walk_17 : decode b_E_walk 17 = .ok (.putfield 46, 3) := by decide +kernel
theorem d_E_walk_20 : decode b_E_walk 20 = .ok (.aload_n 0, 1) := by decide +kernel
theorem d_E_walk_21 : decode b_E_walk 21 = .ok (.aload_n 0, 1) := by decide +kernel
theorem d_E_walk_22 : decode b_E_walk 22 = .ok (.getfield 30, 3) := by decide +kernel
theorem d_E_walk_25 : decode b_E_walk 25 = .ok (.putfield 49, 3) := by decide +kernel
theorem d_E_walk_28 : decode b_E_walk 28 = .ok (.return_, 1) := by decide +kernel
theorem d_E_next_0 : decode b_E_next 0 = .ok (.aload_n 0, 1) := by decide +kernel
theorem d_E_next_1 : decode b_E_next 1 = .ok (.getfield 39, 3) := by decide +kernel
theorem d_E_next_4 : decode b_E_next 4 = .ok (.ifCond .ne 13, 3) := by decide +kernel
theorem d_E_next_7 : decode b_E_next 7 = .ok (.new 116, 3) := by decide +kernel
theorem d_E_next_10 : decode b_E_next 10 = .ok (.dup, 1) := by decide +kernel
theorem d_E_next_11 : decode b_E_next 11 = .ok (.ldc 118, 2) := by decide +kernel
theorem d_E_next_13 : decode b_E_next 13 = .ok (.invokespecial 120, 3) := by decide +kernel
theorem d_E_next_16 : decode b_E_next 16 = .ok (.athrow, 1) := by decide +kernel
theorem d_E_next_17 : decode b_E_next 17 = .ok (.aload_n 0, 1) := by decide +kernel
theorem d_E_next_18 : decode b_E_next 18 = .ok (.getfield 46, 3) := by decide +kernel
theorem d_E_next_21 : decode b_E_next 21 = .ok (.iconst 1, 1) := by decide +kernel
theorem d_E_next_22 : decode b_E_next 22 = .ok (.iadd, 1) := by decide +kernel
theorem d_E_next_23 : decode b_E_next 23 = .ok (.istore_n 1, 1) := by decide +kernel
theorem d_E_next_24 : decode b_E_next 24 = .ok (.aload_n 0, 1) := by decide +kernel
theorem d_E_next_25 : decode b_E_next 25 = .ok (.getfield 49, 3) := by decide +kernel
theorem d_E_next_28 : decode b_E_next 28 = .ok (.istore_n 2, 1) := by decide +kernel
theorem d_E_next_29 : decode b_E_next 29 = .ok (.iload_n 2, 1) := by decide +kernel
theorem d_E_next_30 : decode b_E_next 30 = .ok (.aload_n 0, 1) := by decide +kernel
theorem d_E_next_31 : decode b_E_next 31 = .ok (.getfield 30, 3) := by decide +kernel
theorem d_E_next_34 : decode b_E_next 34 = .ok (.aload_n 0, 1) := by decide +kernel
theorem d_E_next_35 : decode b_E_next 35 = .ok (.getfield 36, 3) := by decide +kernel
theorem d_E_next_38 : decode b_E_next 38 = .ok (.iadd, 1) := by decide +kernel
theorem d_E_next_39 : decode b_E_next 39 = .ok (.if_icmp .ge 56, 3) := by decide +kernel
theorem d_E_next_42 : decode b_E_next 42 = .ok (.aload_n 0, 1) := by decide +kernel
theorem d_E_next_43 : decode b_E_next 43 = .ok (.iload_n 1, 1) := by decide +kernel
theorem d_E_next_44 : decode b_E_next 44 = .ok (.iload_n 2, 1) := by decide +kernel
theorem d_E_next_45 : decode b_E_next 45 = .ok (.invokevirtual 121, 3) := by decide +kernel
theorem d_E_next_48 : decode b_E_next 48 = .ok (.istore_n 3, 1) := by decide +kernel
theorem d_E_next_49 : decode b_E_next 49 = .ok (.iload_n 3, 1) := by decide +kernel
theorem d_E_next_50 : decode b_E_next 50 = .ok (.aload_n 0, 1) := by decide +kernel
theorem d_E_next_51 : decode b_E_next 51 = .ok (.getfield 26, 3) := by decide +kernel
theorem d_E_next_54 : decode b_E_next 54 = .ok (.aload_n 0, 1) := by decide +kernel
theorem d_E_next_55 : decode b_E_next 55 = .ok (.getfield 33, 3) := by decide +kernel
theorem d_E_next_58 : decode b_E_next 58 = .ok (.iadd, 1) := by decide +kernel
theorem d_E_next_59 : decode b_E_next 59 = .ok (.if_icmp .ge 25, 3) := by decide +kernel
theorem d_E_next_62 : decode b_E_next 62 = .ok (.aload_n 0, 1) := by decide +kernel
theorem d_E_next_63 : decode b_E_next 63 = .ok (.iconst 1, 1) := by decide +kernel
theorem d_E_next_64 : decode b_E_next 64 = .ok (.putfield 43, 3) := by decide +kernel
theorem d_E_next_67 : decode b_E_next 67 = .ok (.aload_n 0, 1) := by decide +kernel
theorem d_E_next_68 : decode b_E_next 68 = .ok (.iload_n 3, 1) := by decide +kernel
theorem d_E_next_69 : decode b_E_next 69 = .ok (.putfield 46, 3) := by decide +kernel
theorem d_E_next_72 : decode b_E_next 72 = .ok (.aload_n 0, 1) := by decide +kernel
theorem d_E_next_73 : decode b_E_next 73 = .ok (.iload_n 2, 1) := by decide +kernel
theorem d_E_next_74 : decode b_E_next 74 = .ok (.putfield 49, 3) := by decide +kernel
theorem d_E_next_77 : decode b_E_next 77 = .ok (.ldc 125, 2) := by decide +kernel
theorem d_E_next_79 : decode b_E_next 79 = .ok (.iload_n 2, 1) := by decide +kernel
theorem d_E_next_80 : decode b_E_next 80 = .ok (.imul, 1) := by decide +kernel
theorem d_E_next_81 : decode b_E_next 81 = .ok (.iload_n 3, 1) := by decide +kernel
theorem d_E_next_82 : decode b_E_next 82 = .ok (.iadd, 1) := by decide +kernel
theorem d_E_next_83 : decode b_E_next 83 = .ok (.ireturn, 1) := by decide +kernel
theorem d_E_next_84 : decode b_E_next 84 = .ok (.aload_n 0, 1) := by decide +kernel
theorem d_E_next_85 : decode b_E_next 85 = .ok (.getfield 26, 3) := by decide +kernel
theorem d_E_next_88 : decode b_E_next 88 = .ok (.istore_n 1, 1) := by decide +kernel
theorem d_E_next_89 : decode b_E_next 89 = .ok (.iinc 2 1, 3) := by decide +kernel
theorem d_E_next_92 : decode b_E_next 92 = .ok (.goto (-63), 3) := by decide +kernel
theorem d_E_next_95 : decode b_E_next 95 = .ok (.aload_n 0, 1) := by decide +kernel
theorem d_E_next_96 : decode b_E_next 96 = .ok (.iconst 0, 1) := by decide +kernel
theorem d_E_next_97 : decode b_E_next 97 = .ok (.putfield 43, 3) := by decide +kernel
theorem d_E_next_100 : decode b_E_next 100 = .ok (.aload_n 0, 1) := by decide +kernel
theorem d_E_next_101 : decode b_E_next 101 = .ok (.aload_n 0, 1) := by decide +kernel
theorem d_E_next_102 : decode b_E_next 102 = .ok (.getfield 30, 3) := by decide +kernel
theorem d_E_next_105 : decode b_E_next 105 = .ok (.aload_n 0, 1) := by decide +kernel
theorem d_E_next_106 : decode b_E_next 106 = .ok (.getfield 36, 3) := by decide +kernel
theorem d_E_next_109 : decode b_E_next 109 = .ok (.iadd, 1) := by decide +kernel
theorem d_E_next_110 : decode b_E_next 110 = .ok (.putfield 49, 3) := by decide +kernel
theorem d_E_next_113 : decode b_E_next 113 = .ok (.iconst (-1), 1) := by decide +kernel
theorem d_E_next_114 : decode b_E_next 114 = .ok (.ireturn, 1) := by decide +kernel
theorem d_E_weight_0 : decode b_E_weight 0 = .ok (.iload_n 1, 1) := by decide +kernel
theorem d_E_weight_1 : decode b_E_weight 1 = .ok (.invokestatic 52, 3) := by decide +kernel
theorem d_E_weight_4 : decode b_E_weight 4 = .ok (.ifCond .ne 13, 3) := by decide +kernel
theorem d_E_weight_7 : decode b_E_weight 7 = .ok (.new 56, 3) := by decide +kernel
theorem d_E_weight_10 : decode b_E_weight 10 = .ok (.dup, 1) := by decide +kernel
theorem d_E_weight_11 : decode b_E_weight 11 = .ok (.ldc 58, 2) := by decide +kernel
theorem d_E_weight_13 : decode b_E_weight 13 = .ok (.invokespecial 60, 3) := by decide +kernel
theorem d_E_weight_16 : decode b_E_weight 16 = .ok (.athrow, 1) := by decide +kernel
theorem d_E_weight_17 : decode b_E_weight 17 = .ok (.aload_n 0, 1) := by decide +kernel
theorem d_E_weight_18 : decode b_E_weight 18 = .ok (.getfield 43, 3) := by decide +kernel
theorem d_E_weight_21 : decode b_E_weight 21 = .ok (.ifCond .ne 13, 3) := by decide +kernel
theorem d_E_weight_24 : decode b_E_weight 24 = .ok (.new 116, 3) := by decide +kernel
theorem d_E_weight_27 : decode b_E_weight 27 = .ok (.dup, 1) := by decide +kernel
theorem d_E_weight_28 : decode b_E_weight 28 = .ok (.ldc 126, 2) := by decide +kernel
theorem d_E_weight_30 : decode b_E_weight 30 = .ok (.invokespecial 120, 3) := by decide +kernel
theorem d_E_weight_33 : decode b_E_weight 33 = .ok (.athrow, 1) := by decide +kernel
theorem d_E_weight_34 : decode b_E_weight 34 = .ok (.aload_n 0, 1) := by decide +kernel
theorem d_E_weight_35 : decode b_E_weight 35 = .ok (.iload_n 1, 1) := by decide +kernel
theorem d_E_weight_36 : decode b_E_weight 36 = .ok (.invokevirtual 75, 3) := by decide +kernel
theorem d_E_weight_39 : decode b_E_weight 39 = .ok (.aload_n 0, 1) := by decide +kernel
theorem d_E_weight_40 : decode b_E_weight 40 = .ok (.getfield 46, 3) := by decide +kernel
theorem d_E_weight_43 : decode b_E_weight 43 = .ok (.aload_n 0, 1) := by decide +kernel
theorem d_E_weight_44 : decode b_E_weight 44 = .ok (.getfield 49, 3) := by decide +kernel
theorem d_E_weight_47 : decode b_E_weight 47 = .ok (.invokevirtual 128, 3) := by decide +kernel
theorem d_E_weight_50 : decode b_E_weight 50 = .ok (.lreturn, 1) := by decide +kernel
theorem d_E_depth_0 : decode b_E_depth 0 = .ok (.aload_n 0, 1) := by decide +kernel
theorem d_E_depth_1 : decode b_E_depth 1 = .ok (.getfield 43, 3) := by decide +kernel
theorem d_E_depth_4 : decode b_E_depth 4 = .ok (.ifCond .ne 13, 3) := by decide +kernel
theorem d_E_depth_7 : decode b_E_depth 7 = .ok (.new 116, 3) := by decide +kernel
theorem d_E_depth_10 : decode b_E_depth 10 = .ok (.dup, 1) := by decide +kernel
theorem d_E_depth_11 : decode b_E_depth 11 = .ok (.ldc 126, 2) := by decide +kernel
theorem d_E_depth_13 : decode b_E_depth 13 = .ok (.invokespecial 120, 3) := by decide +kernel
theorem d_E_depth_16 : decode b_E_depth 16 = .ok (.athrow, 1) := by decide +kernel
theorem d_E_depth_17 : decode b_E_depth 17 = .ok (.aload_n 0, 1) := by decide +kernel
theorem d_E_depth_18 : decode b_E_depth 18 = .ok (.getfield 10, 3) := by decide +kernel
theorem d_E_depth_21 : decode b_E_depth 21 = .ok (.aload_n 0, 1) := by decide +kernel
theorem d_E_depth_22 : decode b_E_depth 22 = .ok (.getfield 46, 3) := by decide +kernel
theorem d_E_depth_25 : decode b_E_depth 25 = .ok (.aload_n 0, 1) := by decide +kernel
theorem d_E_depth_26 : decode b_E_depth 26 = .ok (.getfield 49, 3) := by decide +kernel
theorem d_E_depth_29 : decode b_E_depth 29 = .ok (.invokevirtual 128, 3) := by decide +kernel
theorem d_E_depth_32 : decode b_E_depth 32 = .ok (.aload_n 0, 1) := by decide +kernel
theorem d_E_depth_33 : decode b_E_depth 33 = .ok (.getfield 10, 3) := by decide +kernel
theorem d_E_depth_36 : decode b_E_depth 36 = .ok (.getfield 85, 3) := by decide +kernel
theorem d_E_depth_39 : decode b_E_depth 39 = .ok (.i2l, 1) := by decide +kernel
theorem d_E_depth_40 : decode b_E_depth 40 = .ok (.lmul, 1) := by decide +kernel
theorem d_E_depth_41 : decode b_E_depth 41 = .ok (.aload_n 0, 1) := by decide +kernel
theorem d_E_depth_42 : decode b_E_depth 42 = .ok (.getfield 16, 3) := by decide +kernel
theorem d_E_depth_45 : decode b_E_depth 45 = .ok (.aload_n 0, 1) := by decide +kernel
theorem d_E_depth_46 : decode b_E_depth 46 = .ok (.getfield 46, 3) := by decide +kernel
theorem d_E_depth_49 : decode b_E_depth 49 = .ok (.aload_n 0, 1) := by decide +kernel
theorem d_E_depth_50 : decode b_E_depth 50 = .ok (.getfield 49, 3) := by decide +kernel
theorem d_E_depth_53 : decode b_E_depth 53 = .ok (.invokevirtual 128, 3) := by decide +kernel
theorem d_E_depth_56 : decode b_E_depth 56 = .ok (.aload_n 0, 1) := by decide +kernel
theorem d_E_depth_57 : decode b_E_depth 57 = .ok (.getfield 16, 3) := by decide +kernel
theorem d_E_depth_60 : decode b_E_depth 60 = .ok (.getfield 85, 3) := by decide +kernel
theorem d_E_depth_63 : decode b_E_depth 63 = .ok (.i2l, 1) := by decide +kernel
theorem d_E_depth_64 : decode b_E_depth 64 = .ok (.lmul, 1) := by decide +kernel
theorem d_E_depth_65 : decode b_E_depth 65 = .ok (.ladd, 1) := by decide +kernel
theorem d_E_depth_66 : decode b_E_depth 66 = .ok (.aload_n 0, 1) := by decide +kernel
theorem d_E_depth_67 : decode b_E_depth 67 = .ok (.getfield 19, 3) := by decide +kernel
theorem d_E_depth_70 : decode b_E_depth 70 = .ok (.aload_n 0, 1) := by decide +kernel
theorem d_E_depth_71 : decode b_E_depth 71 = .ok (.getfield 46, 3) := by decide +kernel
theorem d_E_depth_74 : decode b_E_depth 74 = .ok (.aload_n 0, 1) := by decide +kernel
theorem d_E_depth_75 : decode b_E_depth 75 = .ok (.getfield 49, 3) := by decide +kernel
theorem d_E_depth_78 : decode b_E_depth 78 = .ok (.invokevirtual 128, 3) := by decide +kernel
theorem d_E_depth_81 : decode b_E_depth 81 = .ok (.aload_n 0, 1) := by decide +kernel
theorem d_E_depth_82 : decode b_E_depth 82 = .ok (.getfield 19, 3) := by decide +kernel
theorem d_E_depth_85 : decode b_E_depth 85 = .ok (.getfield 85, 3) := by decide +kernel
theorem d_E_depth_88 : decode b_E_depth 88 = .ok (.i2l, 1) := by decide +kernel
theorem d_E_depth_89 : decode b_E_depth 89 = .ok (.lmul, 1) := by decide +kernel
theorem d_E_depth_90 : decode b_E_depth 90 = .ok (.ladd, 1) := by decide +kernel
theorem d_E_depth_91 : decode b_E_depth 91 = .ok (.lstore_n 1, 1) := by decide +kernel
theorem d_E_depth_92 : decode b_E_depth 92 = .ok (.lload_n 1, 1) := by decide +kernel
theorem d_E_depth_93 : decode b_E_depth 93 = .ok (.aload_n 0, 1) := by decide +kernel
theorem d_E_depth_94 : decode b_E_depth 94 = .ok (.getfield 22, 3) := by decide +kernel
theorem d_E_depth_97 : decode b_E_depth 97 = .ok (.invokestatic 132, 3) := by decide +kernel
theorem d_E_depth_100 : decode b_E_depth 100 = .ok (.invokestatic 138, 3) := by decide +kernel
theorem d_E_depth_103 : decode b_E_depth 103 = .ok (.l2i, 1) := by decide +kernel
theorem d_E_depth_104 : decode b_E_depth 104 = .ok (.ireturn, 1) := by decide +kernel
theorem d_E_at_0 : decode b_E_at 0 = .ok (.iload_n 1, 1) := by decide +kernel
theorem d_E_at_1 : decode b_E_at 1 = .ok (.invokestatic 97, 3) := by decide +kernel
theorem d_E_at_4 : decode b_E_at 4 = .ok (.ifCond .ne 13, 3) := by decide +kernel
theorem d_E_at_7 : decode b_E_at 7 = .ok (.new 56, 3) := by decide +kernel
theorem d_E_at_10 : decode b_E_at 10 = .ok (.dup, 1) := by decide +kernel
theorem d_E_at_11 : decode b_E_at 11 = .ok (.ldc 142, 2) := by decide +kernel
theorem d_E_at_13 : decode b_E_at 13 = .ok (.invokespecial 60, 3) := by decide +kernel
theorem d_E_at_16 : decode b_E_at 16 = .ok (.athrow, 1) := by decide +kernel
theorem d_E_at_17 : decode b_E_at 17 = .ok (.aload_n 0, 1) := by decide +kernel
theorem d_E_at_18 : decode b_E_at 18 = .ok (.getfield 43, 3) := by decide +kernel
theorem d_E_at_21 : decode b_E_at 21 = .ok (.ifCond .ne 13, 3) := by decide +kernel
theorem d_E_at_24 : decode b_E_at 24 = .ok (.new 116, 3) := by decide +kernel
theorem d_E_at_27 : decode b_E_at 27 = .ok (.dup, 1) := by decide +kernel
theorem d_E_at_28 : decode b_E_at 28 = .ok (.ldc 126, 2) := by decide +kernel
theorem d_E_at_30 : decode b_E_at 30 = .ok (.invokespecial 120, 3) := by decide +kernel
theorem d_E_at_33 : decode b_E_at 33 = .ok (.athrow, 1) := by decide +kernel
theorem d_E_at_34 : decode b_E_at 34 = .ok (.aload_n 0, 1) := by decide +kernel
theorem d_E_at_35 : decode b_E_at 35 = .ok (.getfield 10, 3) := by decide +kernel
theorem d_E_at_38 : decode b_E_at 38 = .ok (.aload_n 0, 1) := by decide +kernel
theorem d_E_at_39 : decode b_E_at 39 = .ok (.getfield 46, 3) := by decide +kernel
theorem d_E_at_42 : decode b_E_at 42 = .ok (.aload_n 0, 1) := by decide +kernel
theorem d_E_at_43 : decode b_E_at 43 = .ok (.getfield 49, 3) := by decide +kernel
theorem d_E_at_46 : decode b_E_at 46 = .ok (.invokevirtual 144, 3) := by decide +kernel
theorem d_E_at_49 : decode b_E_at 49 = .ok (.lstore_n 2, 1) := by decide +kernel
theorem d_E_at_50 : decode b_E_at 50 = .ok (.aload_n 0, 1) := by decide +kernel
theorem d_E_at_51 : decode b_E_at 51 = .ok (.getfield 16, 3) := by decide +kernel
theorem d_E_at_54 : decode b_E_at 54 = .ok (.aload_n 0, 1) := by decide +kernel
theorem d_E_at_55 : decode b_E_at 55 = .ok (.getfield 46, 3) := by decide +kernel
theorem d_E_at_58 : decode b_E_at 58 = .ok (.aload_n 0, 1) := by decide +kernel
theorem d_E_at_59 : decode b_E_at 59 = .ok (.getfield 49, 3) := by decide +kernel
theorem d_E_at_62 : decode b_E_at 62 = .ok (.invokevirtual 144, 3) := by decide +kernel
theorem d_E_at_65 : decode b_E_at 65 = .ok (.lstore 4, 2) := by decide +kernel
theorem d_E_at_67 : decode b_E_at 67 = .ok (.aload_n 0, 1) := by decide +kernel
theorem d_E_at_68 : decode b_E_at 68 = .ok (.getfield 19, 3) := by decide +kernel
theorem d_E_at_71 : decode b_E_at 71 = .ok (.aload_n 0, 1) := by decide +kernel
theorem d_E_at_72 : decode b_E_at 72 = .ok (.getfield 46, 3) := by decide +kernel
theorem d_E_at_75 : decode b_E_at 75 = .ok (.aload_n 0, 1) := by decide +kernel
theorem d_E_at_76 : decode b_E_at 76 = .ok (.getfield 49, 3) := by decide +kernel
theorem d_E_at_79 : decode b_E_at 79 = .ok (.invokevirtual 144, 3) := by decide +kernel
theorem d_E_at_82 : decode b_E_at 82 = .ok (.lstore 6, 2) := by decide +kernel
theorem d_E_at_84 : decode b_E_at 84 = .ok (.lload_n 2, 1) := by decide +kernel
theorem d_E_at_85 : decode b_E_at 85 = .ok (.lload 4, 2) := by decide +kernel
theorem d_E_at_87 : decode b_E_at 87 = .ok (.lload 6, 2) := by decide +kernel
theorem d_E_at_89 : decode b_E_at 89 = .ok (.invokestatic 147, 3) := by decide +kernel
theorem d_E_at_92 : decode b_E_at 92 = .ok (.invokestatic 147, 3) := by decide +kernel
theorem d_E_at_95 : decode b_E_at 95 = .ok (.invokestatic 150, 3) := by decide +kernel
theorem d_E_at_98 : decode b_E_at 98 = .ok (.istore 8, 2) := by decide +kernel
theorem d_E_at_100 : decode b_E_at 100 = .ok (.lload_n 2, 1) := by decide +kernel
theorem d_E_at_101 : decode b_E_at 101 = .ok (.iload 8, 2) := by decide +kernel
theorem d_E_at_103 : decode b_E_at 103 = .ok (.lshr, 1) := by decide +kernel
theorem d_E_at_104 : decode b_E_at 104 = .ok (.lstore 9, 2) := by decide +kernel
theorem d_E_at_106 : decode b_E_at 106 = .ok (.lload 4, 2) := by decide +kernel
theorem d_E_at_108 : decode b_E_at 108 = .ok (.iload 8, 2) := by decide +kernel
theorem d_E_at_110 : decode b_E_at 110 = .ok (.lshr, 1) := by decide +kernel
theorem d_E_at_111 : decode b_E_at 111 = .ok (.lstore 11, 2) := by decide +kernel
theorem d_E_at_113 : decode b_E_at 113 = .ok (.lload 6, 2) := by decide +kernel
theorem d_E_at_115 : decode b_E_at 115 = .ok (.iload 8, 2) := by decide +kernel
theorem d_E_at_117 : decode b_E_at 117 = .ok (.lshr, 1) := by decide +kernel
theorem d_E_at_118 : decode b_E_at 118 = .ok (.lstore 13, 2) := by decide +kernel
theorem d_E_at_120 : decode b_E_at 120 = .ok (.lload 9, 2) := by decide +kernel
theorem d_E_at_122 : decode b_E_at 122 = .ok (.aload_n 0, 1) := by decide +kernel
theorem d_E_at_123 : decode b_E_at 123 = .ok (.getfield 10, 3) := by decide +kernel
theorem d_E_at_126 : decode b_E_at 126 = .ok (.getfield 102, 3) := by decide +kernel
theorem d_E_at_129 : decode b_E_at 129 = .ok (.iload_n 1, 1) := by decide +kernel
theorem d_E_at_130 : decode b_E_at 130 = .ok (.iaload, 1) := by decide +kernel
theorem d_E_at_131 : decode b_E_at 131 = .ok (.i2l, 1) := by decide +kernel
theorem d_E_at_132 : decode b_E_at 132 = .ok (.lmul, 1) := by decide +kernel
theorem d_E_at_133 : decode b_E_at 133 = .ok (.lload 11, 2) := by decide +kernel
theorem d_E_at_135 : decode b_E_at 135 = .ok (.aload_n 0, 1) := by decide +kernel
theorem d_E_at_136 : decode b_E_at 136 = .ok (.getfield 16, 3) := by decide +kernel
theorem d_E_at_139 : decode b_E_at 139 = .ok (.getfield 102, 3) := by decide +kernel
theorem d_E_at_142 : decode b_E_at 142 = .ok (.iload_n 1, 1) := by decide +kernel
theorem d_E_at_143 : decode b_E_at 143 = .ok (.iaload, 1) := by decide +kernel
theorem d_E_at_144 : decode b_E_at 144 = .ok (.i2l, 1) := by decide +kernel
theorem d_E_at_145 : decode b_E_at 145 = .ok (.lmul, 1) := by decide +kernel
theorem d_E_at_146 : decode b_E_at 146 = .ok (.ladd, 1) := by decide +kernel
theorem d_E_at_147 : decode b_E_at 147 = .ok (.lload 13, 2) := by decide +kernel
theorem d_E_at_149 : decode b_E_at 149 = .ok (.aload_n 0, 1) := by decide +kernel
theorem d_E_at_150 : decode b_E_at 150 = .ok (.getfield 19, 3) := by decide +kernel
theorem d_E_at_153 : decode b_E_at 153 = .ok (.getfield 102, 3) := by decide +kernel
theorem d_E_at_156 : decode b_E_at 156 = .ok (.iload_n 1, 1) := by decide +kernel
theorem d_E_at_157 : decode b_E_at 157 = .ok (.iaload, 1) := by decide +kernel
theorem d_E_at_158 : decode b_E_at 158 = .ok (.i2l, 1) := by decide +kernel
theorem d_E_at_159 : decode b_E_at 159 = .ok (.lmul, 1) := by decide +kernel
theorem d_E_at_160 : decode b_E_at 160 = .ok (.ladd, 1) := by decide +kernel
theorem d_E_at_161 : decode b_E_at 161 = .ok (.lstore 15, 2) := by decide +kernel
theorem d_E_at_163 : decode b_E_at 163 = .ok (.lload 15, 2) := by decide +kernel
theorem d_E_at_165 : decode b_E_at 165 = .ok (.lload 9, 2) := by decide +kernel
theorem d_E_at_167 : decode b_E_at 167 = .ok (.lload 11, 2) := by decide +kernel
theorem d_E_at_169 : decode b_E_at 169 = .ok (.ladd, 1) := by decide +kernel
theorem d_E_at_170 : decode b_E_at 170 = .ok (.lload 13, 2) := by decide +kernel
theorem d_E_at_172 : decode b_E_at 172 = .ok (.ladd, 1) := by decide +kernel
theorem d_E_at_173 : decode b_E_at 173 = .ok (.invokestatic 138, 3) := by decide +kernel
theorem d_E_at_176 : decode b_E_at 176 = .ok (.l2i, 1) := by decide +kernel
theorem d_E_at_177 : decode b_E_at 177 = .ok (.ireturn, 1) := by decide +kernel
theorem d_E_within_0 : decode b_E_within 0 = .ok (.iload_n 0, 1) := by decide +kernel
theorem d_E_within_1 : decode b_E_within 1 = .ok (.iload_n 1, 1) := by decide +kernel
theorem d_E_within_2 : decode b_E_within 2 = .ok (.if_icmp .lt 12, 3) := by decide +kernel
theorem d_E_within_5 : decode b_E_within 5 = .ok (.iload_n 0, 1) := by decide +kernel
theorem d_E_within_6 : decode b_E_within 6 = .ok (.iload_n 2, 1) := by decide +kernel
theorem d_E_within_7 : decode b_E_within 7 = .ok (.if_icmp .gt 7, 3) := by decide +kernel
theorem d_E_within_10 : decode b_E_within 10 = .ok (.iconst 1, 1) := by decide +kernel
theorem d_E_within_11 : decode b_E_within 11 = .ok (.goto 4, 3) := by decide +kernel
theorem d_E_within_14 : decode b_E_within 14 = .ok (.iconst 0, 1) := by decide +kernel
theorem d_E_within_15 : decode b_E_within 15 = .ok (.ireturn, 1) := by decide +kernel
theorem d_E_isCorner_0 : decode b_E_isCorner 0 = .ok (.iload_n 0, 1) := by decide +kernel
theorem d_E_isCorner_1 : decode b_E_isCorner 1 = .ok (.iconst 0, 1) := by decide +kernel
theorem d_E_isCorner_2 : decode b_E_isCorner 2 = .ok (.iconst 2, 1) := by decide +kernel
theorem d_E_isCorner_3 : decode b_E_isCorner 3 = .ok (.invokestatic 63, 3) := by decide +kernel
theorem d_E_isCorner_6 : decode b_E_isCorner 6 = .ok (.ireturn, 1) := by decide +kernel
theorem d_E_isValue_0 : decode b_E_isValue 0 = .ok (.iload_n 0, 1) := by decide +kernel
theorem d_E_isValue_1 : decode b_E_isValue 1 = .ok (.iconst 0, 1) := by decide +kernel
theorem d_E_isValue_2 : decode b_E_isValue 2 = .ok (.bipush 27, 2) := by decide +kernel
theorem d_E_isValue_4 : decode b_E_isValue 4 = .ok (.invokestatic 63, 3) := by decide +kernel
theorem d_E_isValue_7 : decode b_E_isValue 7 = .ok (.ireturn, 1) := by decide +kernel
theorem d_E_cornerOf_0 : decode b_E_cornerOf 0 = .ok (.iload_n 1, 1) := by decide +kernel
theorem d_E_cornerOf_1 : decode b_E_cornerOf 1 = .ok (.ifCond .ne 8, 3) := by decide +kernel
theorem d_E_cornerOf_4 : decode b_E_cornerOf 4 = .ok (.aload_n 0, 1) := by decide +kernel
theorem d_E_cornerOf_5 : decode b_E_cornerOf 5 = .ok (.getfield 10, 3) := by decide +kernel
theorem d_E_cornerOf_8 : decode b_E_cornerOf 8 = .ok (.areturn, 1) := by decide +kernel
theorem d_E_cornerOf_9 : decode b_E_cornerOf 9 = .ok (.iload_n 1, 1) := by decide +kernel
theorem d_E_cornerOf_10 : decode b_E_cornerOf 10 = .ok (.iconst 1, 1) := by decide +kernel
theorem d_E_cornerOf_11 : decode b_E_cornerOf 11 = .ok (.if_icmp .ne 10, 3) := by decide +kernel
theorem d_E_cornerOf_14 : decode b_E_cornerOf 14 = .ok (.aload_n 0, 1) := by decide +kernel
theorem d_E_cornerOf_15 : decode b_E_cornerOf 15 = .ok (.getfield 16, 3) := by decide +kernel
theorem d_E_cornerOf_18 : decode b_E_cornerOf 18 = .ok (.goto 7, 3) := by decide +kernel
theorem d_E_cornerOf_21 : decode b_E_cornerOf 21 = .ok (.aload_n 0, 1) := by decide +kernel
theorem d_E_cornerOf_22 : decode b_E_cornerOf 22 = .ok (.getfield 19, 3) := by decide +kernel
theorem d_E_cornerOf_25 : decode b_E_cornerOf 25 = .ok (.areturn, 1) := by decide +kernel
theorem d_E_endWalk_0 : decode b_E_endWalk 0 = .ok (.aload_n 0, 1) := by decide +kernel
theorem d_E_endWalk_1 : decode b_E_endWalk 1 = .ok (.iconst 0, 1) := by decide +kernel
theorem d_E_endWalk_2 : decode b_E_endWalk 2 = .ok (.putfield 39, 3) := by decide +kernel
theorem d_E_endWalk_5 : decode b_E_endWalk 5 = .ok (.aload_n 0, 1) := by decide +kernel
theorem d_E_endWalk_6 : decode b_E_endWalk 6 = .ok (.iconst 0, 1) := by decide +kernel
theorem d_E_endWalk_7 : decode b_E_endWalk 7 = .ok (.putfield 43, 3) := by decide +kernel
theorem d_E_endWalk_10 : decode b_E_endWalk 10 = .ok (.return_, 1) := by decide +kernel
theorem d_E_layTriangle_0 : decode b_E_layTriangle 0 = .ok (.aload_n 0, 1) := by decide +kernel
theorem d_E_layTriangle_1 : decode b_E_layTriangle 1 = .ok (.aload_n 0, 1) := by decide +kernel
theorem d_E_layTriangle_2 : decode b_E_layTriangle 2 = .ok (.getfield 16, 3) := by decide +kernel
theorem d_E_layTriangle_5 : decode b_E_layTriangle 5 = .ok (.getfield 79, 3) := by decide +kernel
theorem d_E_layTriangle_8 : decode b_E_layTriangle 8 = .ok (.aload_n 0, 1) := by decide +kernel
theorem d_E_layTriangle_9 : decode b_E_layTriangle 9 = .ok (.getfield 10, 3) := by decide +kernel
theorem d_E_layTriangle_12 : decode b_E_layTriangle 12 = .ok (.getfield 79, 3) := by decide +kernel
theorem d_E_layTriangle_15 : decode b_E_layTriangle 15 = .ok (.isub, 1) := by decide +kernel
theorem d_E_layTriangle_16 : decode b_E_layTriangle 16 = .ok (.i2l, 1) := by decide +kernel
theorem d_E_layTriangle_17 : decode b_E_layTriangle 17 = .ok (.aload_n 0, 1) := by decide +kernel
theorem d_E_layTriangle_18 : decode b_E_layTriangle 18 = .ok (.getfield 19, 3) := by decide +kernel
theorem d_E_layTriangle_21 : decode b_E_layTriangle 21 = .ok (.getfield 82, 3) := by decide +kernel
theorem d_E_layTriangle_24 : decode b_E_layTriangle 24 = .ok (.aload_n 0, 1) := by decide +kernel
theorem d_E_layTriangle_25 : decode b_E_layTriangle 25 = .ok (.getfield 10, 3) := by decide +kernel
theorem d_E_layTriangle_28 : decode b_E_layTriangle 28 = .ok (.getfield 82, 3) := by decide +kernel
theorem d_E_layTriangle_31 : decode b_E_layTriangle 31 = .ok (.isub, 1) := by decide +kernel
theorem d_E_layTriangle_32 : decode b_E_layTriangle 32 = .ok (.i2l, 1) := by decide +kernel
theorem d_E_layTriangle_33 : decode b_E_layTriangle 33 = .ok (.lmul, 1) := by decide +kernel
theorem d_E_layTriangle_34 : decode b_E_layTriangle 34 = .ok (.aload_n 0, 1) := by decide +kernel
theorem d_E_layTriangle_35 : decode b_E_layTriangle 35 = .ok (.getfield 19, 3) := by decide +kernel
theorem d_E_layTriangle_38 : decode b_E_layTriangle 38 = .ok (.getfield 79, 3) := by decide +kernel
theorem d_E_layTriangle_41 : decode b_E_layTriangle 41 = .ok (.aload_n 0, 1) := by decide +kernel
theorem d_E_layTriangle_42 : decode b_E_layTriangle 42 = .ok (.getfield 10, 3) := by decide +kernel
theorem d_E_layTriangle_45 : decode b_E_layTriangle 45 = .ok (.getfield 79, 3) := by decide +kernel
theorem d_E_layTriangle_48 : decode b_E_layTriangle 48 = .ok (.isub, 1) := by decide +kernel
theorem d_E_layTriangle_49 : decode b_E_layTriangle 49 = .ok (.i2l, 1) := by decide +kernel
theorem d_E_layTriangle_50 : decode b_E_layTriangle 50 = .ok (.aload_n 0, 1) := by decide +kernel
theorem d_E_layTriangle_51 : decode b_E_layTriangle 51 = .ok (.getfield 16, 3) := by decide +kernel
theorem d_E_layTriangle_54 : decode b_E_layTriangle 54 = .ok (.getfield 82, 3) := by decide +kernel
theorem d_E_layTriangle_57 : decode b_E_layTriangle 57 = .ok (.aload_n 0, 1) := by decide +kernel
theorem d_E_layTriangle_58 : decode b_E_layTriangle 58 = .ok (.getfield 10, 3) := by decide +kernel
theorem d_E_layTriangle_61 : decode b_E_layTriangle 61 = .ok (.getfield 82, 3) := by decide +kernel
theorem d_E_layTriangle_64 : decode b_E_layTriangle 64 = .ok (.isub, 1) := by decide +kernel
theorem d_E_layTriangle_65 : decode b_E_layTriangle 65 = .ok (.i2l, 1) := by decide +kernel
theorem d_E_layTriangle_66 : decode b_E_layTriangle 66 = .ok (.lmul, 1) := by decide +kernel
theorem d_E_layTriangle_67 : decode b_E_layTriangle 67 = .ok (.lsub, 1) := by decide +kernel
theorem d_E_layTriangle_68 : decode b_E_layTriangle 68 = .ok (.putfield 22, 3) := by decide +kernel
theorem d_E_layTriangle_71 : decode b_E_layTriangle 71 = .ok (.aload_n 0, 1) := by decide +kernel
theorem d_E_layTriangle_72 : decode b_E_layTriangle 72 = .ok (.getfield 22, 3) := by decide +kernel
theorem d_E_layTriangle_75 : decode b_E_layTriangle 75 = .ok (.lconst 0, 1) := by decide +kernel
theorem d_E_layTriangle_76 : decode b_E_layTriangle 76 = .ok (.lcmp, 1) := by decide +kernel
theorem d_E_layTriangle_77 : decode b_E_layTriangle 77 = .ok (.ifCond .ge 51, 3) := by decide +kernel
theorem d_E_layTriangle_80 : decode b_E_layTriangle 80 = .ok (.aload_n 0, 1) := by decide +kernel
theorem d_E_layTriangle_81 : decode b_E_layTriangle 81 = .ok (.getfield 10, 3) := by decide +kernel
theorem d_E_layTriangle_84 : decode b_E_layTriangle 84 = .ok (.aload_n 0, 1) := by decide +kernel
theorem d_E_layTriangle_85 : decode b_E_layTriangle 85 = .ok (.getfield 19, 3) := by decide +kernel
theorem d_E_layTriangle_88 : decode b_E_layTriangle 88 = .ok (.aload_n 0, 1) := by decide +kernel
theorem d_E_layTriangle_89 : decode b_E_layTriangle 89 = .ok (.getfield 16, 3) := by decide +kernel
theorem d_E_layTriangle_92 : decode b_E_layTriangle 92 = .ok (.invokevirtual 154, 3) := by decide +kernel
theorem d_E_layTriangle_95 : decode b_E_layTriangle 95 = .ok (.aload_n 0, 1) := by decide +kernel
theorem d_E_layTriangle_96 : decode b_E_layTriangle 96 = .ok (.getfield 16, 3) := by decide +kernel
theorem d_E_layTriangle_99 : decode b_E_layTriangle 99 = .ok (.aload_n 0, 1) := by decide +kernel
theorem d_E_layTriangle_100 : decode b_E_layTriangle 100 = .ok (.getfield 10, 3) := by decide +kernel
theorem d_E_layTriangle_103 : decode b_E_layTriangle 103 = .ok (.aload_n 0, 1) := by decide +kernel
theorem d_E_layTriangle_104 : decode b_E_layTriangle 104 = .ok (.getfield 19, 3) := by decide +kernel
theorem d_E_layTriangle_107 : decode b_E_layTriangle 107 = .ok (.invokevirtual 154, 3) := by decide +kernel
theorem d_E_layTriangle_110 : decode b_E_layTriangle 110 = .ok (.aload_n 0, 1) := by decide +kernel
theorem d_E_layTriangle_111 : decode b_E_layTriangle 111 = .ok (.getfield 19, 3) := by decide +kernel
theorem d_E_layTriangle_114 : decode b_E_layTriangle 114 = .ok (.aload_n 0, 1) := by decide +kernel
theorem d_E_layTriangle_115 : decode b_E_layTriangle 115 = .ok (.getfield 16, 3) := by decide +kernel
theorem d_E_layTriangle_118 : decode b_E_layTriangle 118 = .ok (.aload_n 0, 1) := by decide +kernel
theorem d_E_layTriangle_119 : decode b_E_layTriangle 119 = .ok (.getfield 10, 3) := by decide +kernel
theorem d_E_layTriangle_122 : decode b_E_layTriangle 122 = .ok (.invokevirtual 154, 3) := by decide +kernel
theorem d_E_layTriangle_125 : decode b_E_layTriangle 125 = .ok (.goto 48, 3) := by decide +kernel
theorem d_E_layTriangle_128 : decode b_E_layTriangle 128 = .ok (.aload_n 0, 1) := by decide +kernel
theorem d_E_layTriangle_129 : decode b_E_layTriangle 129 = .ok (.getfield 10, 3) := by decide +kernel
theorem d_E_layTriangle_132 : decode b_E_layTriangle 132 = .ok (.aload_n 0, 1) := by decide +kernel
theorem d_E_layTriangle_133 : decode b_E_layTriangle 133 = .ok (.getfield 16, 3) := by decide +kernel
theorem d_E_layTriangle_136 : decode b_E_layTriangle 136 = .ok (.aload_n 0, 1) := by decide +kernel
theorem d_E_layTriangle_137 : decode b_E_layTriangle 137 = .ok (.getfield 19, 3) := by decide +kernel
theorem d_E_layTriangle_140 : decode b_E_layTriangle 140 = .ok (.invokevirtual 154, 3) := by decide +kernel
theorem d_E_layTriangle_143 : decode b_E_layTriangle 143 = .ok (.aload_n 0, 1) := by decide +kernel
theorem d_E_layTriangle_144 : decode b_E_layTriangle 144 = .ok (.getfield 16, 3) := by decide +kernel
theorem d_E_layTriangle_147 : decode b_E_layTriangle 147 = .ok (.aload_n 0, 1) := by decide +kernel
theorem d_E_layTriangle_148 : decode b_E_layTriangle 148 = .ok (.getfield 19, 3) := by decide +kernel
theorem d_E_layTriangle_151 : decode b_E_layTriangle 151 = .ok (.aload_n 0, 1) := by decide +kernel
theorem d_E_layTriangle_152 : decode b_E_layTriangle 152 = .ok (.getfield 10, 3) := by decide +kernel
theorem d_E_layTriangle_155 : decode b_E_layTriangle 155 = .ok (.invokevirtual 154, 3) := by decide +kernel
theorem d_E_layTriangle_158 : decode b_E_layTriangle 158 = .ok (.aload_n 0, 1) := by decide +kernel
theorem d_E_layTriangle_159 : decode b_E_layTriangle 159 = .ok (.getfield 19, 3) := by decide +kernel
theorem d_E_layTriangle_162 : decode b_E_layTriangle 162 = .ok (.aload_n 0, 1) := by decide +kernel
theorem d_E_layTriangle_163 : decode b_E_layTriangle 163 = .ok (.getfield 10, 3) := by decide +kernel
theorem d_E_layTriangle_166 : decode b_E_layTriangle 166 = .ok (.aload_n 0, 1) := by decide +kernel
theorem d_E_layTriangle_167 : decode b_E_layTriangle 167 = .ok (.getfield 16, 3) := by decide +kernel
theorem d_E_layTriangle_170 : decode b_E_layTriangle 170 = .ok (.invokevirtual 154, 3) := by decide +kernel
theorem d_E_layTriangle_173 : decode b_E_layTriangle 173 = .ok (.return_, 1) := by decide +kernel
theorem d_E_isCovered_0 : decode b_E_isCovered 0 = .ok (.aload_n 0, 1) := by decide +kernel
theorem d_E_isCovered_1 : decode b_E_isCovered 1 = .ok (.getfield 22, 3) := by decide +kernel
theorem d_E_isCovered_4 : decode b_E_isCovered 4 = .ok (.lconst 0, 1) := by decide +kernel
theorem d_E_isCovered_5 : decode b_E_isCovered 5 = .ok (.lcmp, 1) := by decide +kernel
theorem d_E_isCovered_6 : decode b_E_isCovered 6 = .ok (.ifCond .eq 43, 3) := by decide +kernel
theorem d_E_isCovered_9 : decode b_E_isCovered 9 = .ok (.aload_n 0, 1) := by decide +kernel
theorem d_E_isCovered_10 : decode b_E_isCovered 10 = .ok (.getfield 10, 3) := by decide +kernel
theorem d_E_isCovered_13 : decode b_E_isCovered 13 = .ok (.iload_n 1, 1) := by decide +kernel
theorem d_E_isCovered_14 : decode b_E_isCovered 14 = .ok (.iload_n 2, 1) := by decide +kernel
theorem d_E_isCovered_15 : decode b_E_isCovered 15 = .ok (.invokevirtual 158, 3) := by decide +kernel
theorem d_E_isCovered_18 : decode b_E_isCovered 18 = .ok (.ifCond .eq 31, 3) := by decide +kernel
theorem d_E_isCovered_21 : decode b_E_isCovered 21 = .ok (.aload_n 0, 1) := by decide +kernel
theorem d_E_isCovered_22 : decode b_E_isCovered 22 = .ok (.getfield 16, 3) := by decide +kernel
theorem d_E_isCovered_25 : decode b_E_isCovered 25 = .ok (.iload_n 1, 1) := by decide +kernel
theorem d_E_isCovered_26 : decode b_E_isCovered 26 = .ok (.iload_n 2, 1) := by decide +kernel
theorem d_E_isCovered_27 : decode b_E_isCovered 27 = .ok (.invokevirtual 158, 3) := by decide +kernel
theorem d_E_isCovered_30 : decode b_E_isCovered 30 = .ok (.ifCond .eq 19, 3) := by decide +kernel
theorem d_E_isCovered_33 : decode b_E_isCovered 33 = .ok (.aload_n 0, 1) := by decide +kernel
theorem d_E_isCovered_34 : decode b_E_isCovered 34 = .ok (.getfield 19, 3) := by decide +kernel
theorem d_E_isCovered_37 : decode b_E_isCovered 37 = .ok (.iload_n 1, 1) := by decide +kernel
theorem d_E_isCovered_38 : decode b_E_isCovered 38 = .ok (.iload_n 2, 1) := by decide +kernel
theorem d_E_isCovered_39 : decode b_E_isCovered 39 = .ok (.invokevirtual 158, 3) := by decide +kernel
theorem d_E_isCovered_42 : decode b_E_isCovered 42 = .ok (.ifCond .eq 7, 3) := by decide +kernel
theorem d_E_isCovered_45 : decode b_E_isCovered 45 = .ok (.iconst 1, 1) := by decide +kernel
theorem d_E_isCovered_46 : decode b_E_isCovered 46 = .ok (.goto 4, 3) := by decide +kernel
theorem d_E_isCovered_49 : decode b_E_isCovered 49 = .ok (.iconst 0, 1) := by decide +kernel
theorem d_E_isCovered_50 : decode b_E_isCovered 50 = .ok (.ireturn, 1) := by decide +kernel
theorem d_E_firstCovered_0 : decode b_E_firstCovered 0 = .ok (.iload_n 1, 1) := by decide +kernel
theorem d_E_firstCovered_1 : decode b_E_firstCovered 1 = .ok (.istore_n 3, 1) := by decide +kernel
theorem d_E_firstCovered_2 : decode b_E_firstCovered 2 = .ok (.iload_n 3, 1) := by decide +kernel
theorem d_E_firstCovered_3 : decode b_E_firstCovered 3 = .ok (.aload_n 0, 1) := by decide +kernel
theorem d_E_firstCovered_4 : decode b_E_firstCovered 4 = .ok (.getfield 26, 3) := by decide +kernel
theorem d_E_firstCovered_7 : decode b_E_firstCovered 7 = .ok (.aload_n 0, 1) := by decide +kernel
theorem d_E_firstCovered_8 : decode b_E_firstCovered 8 = .ok (.getfield 33, 3) := by decide +kernel
theorem d_E_firstCovered_11 : decode b_E_firstCovered 11 = .ok (.iadd, 1) := by decide +kernel
theorem d_E_firstCovered_12 : decode b_E_firstCovered 12 = .ok (.if_icmp .ge 20, 3) := by decide +kernel
theorem d_E_firstCovered_15 : decode b_E_firstCovered 15 = .ok (.aload_n 0, 1) := by decide +kernel
theorem d_E_firstCovered_16 : decode b_E_firstCovered 16 = .ok (.iload_n 3, 1) := by decide +kernel
theorem d_E_firstCovered_17 : decode b_E_firstCovered 17 = .ok (.iload_n 2, 1) := by decide +kernel
theorem d_E_firstCovered_18 : decode b_E_firstCovered 18 = .ok (.invokevirtual 112, 3) := by decide +kernel
theorem d_E_firstCovered_21 : decode b_E_firstCovered 21 = .ok (.ifCond .eq 5, 3) := by decide +kernel
theorem d_E_firstCovered_24 : decode b_E_firstCovered 24 = .ok (.iload_n 3, 1) := by decide +kernel
theorem d_E_firstCovered_25 : decode b_E_firstCovered 25 = .ok (.ireturn, 1) := by decide +kernel
theorem d_E_firstCovered_26 : decode b_E_firstCovered 26 = .ok (.iinc 3 1, 3) := by decide +kernel
theorem d_E_firstCovered_29 : decode b_E_firstCovered 29 = .ok (.goto (-27), 3) := by decide +kernel
theorem d_E_firstCovered_32 : decode b_E_firstCovered 32 = .ok (.aload_n 0, 1) := by decide +kernel
theorem d_E_firstCovered_33 : decode b_E_firstCovered 33 = .ok (.getfield 26, 3) := by decide +kernel
theorem d_E_firstCovered_36 : decode b_E_firstCovered 36 = .ok (.aload_n 0, 1) := by decide +kernel
theorem d_E_firstCovered_37 : decode b_E_firstCovered 37 = .ok (.getfield 33, 3) := by decide +kernel
theorem d_E_firstCovered_40 : decode b_E_firstCovered 40 = .ok (.iadd, 1) := by decide +kernel
theorem d_E_firstCovered_41 : decode b_E_firstCovered 41 = .ok (.ireturn, 1) := by decide +kernel
theorem d_E_shareShift_0 : decode b_E_shareShift 0 = .ok (.iconst 0, 1) := by decide +kernel
theorem d_E_shareShift_1 : decode b_E_shareShift 1 = .ok (.istore_n 2, 1) := by decide +kernel
theorem d_E_shareShift_2 : decode b_E_shareShift 2 = .ok (.iload_n 2, 1) := by decide +kernel
theorem d_E_shareShift_3 : decode b_E_shareShift 3 = .ok (.bipush 63, 2) := by decide +kernel
theorem d_E_shareShift_5 : decode b_E_shareShift 5 = .ok (.if_icmp .ge 19, 3) := by decide +kernel
theorem d_E_shareShift_8 : decode b_E_shareShift 8 = .ok (.lload_n 0, 1) := by decide +kernel
theorem d_E_shareShift_9 : decode b_E_shareShift 9 = .ok (.iload_n 2, 1) := by decide +kernel
theorem d_E_shareShift_10 : decode b_E_shareShift 10 = .ok (.lshr, 1) := by decide +kernel
theorem d_E_shareShift_11 : decode b_E_shareShift 11 = .ok (.ldc2_w 161, 3) := by decide +kernel
theorem d_E_shareShift_14 : decode b_E_shareShift 14 = .ok (.lcmp, 1) := by decide +kernel
theorem d_E_shareShift_15 : decode b_E_shareShift 15 = .ok (.ifCond .lt 9, 3) := by decide +kernel
theorem d_E_shareShift_18 : decode b_E_shareShift 18 = .ok (.iinc 2 1, 3) := by decide +kernel
theorem d_E_shareShift_21 : decode b_E_shareShift 21 = .ok (.goto (-19), 3) := by decide +kernel
theorem d_E_shareShift_24 : decode b_E_shareShift 24 = .ok (.iload_n 2, 1) := by decide +kernel
theorem d_E_shareShift_25 : decode b_E_shareShift 25 = .ok (.ireturn, 1) := by decide +kernel
theorem d_E_dividedDown_0 : decode b_E_dividedDown 0 = .ok (.lload_n 2, 1) := by decide +kernel
theorem d_E_dividedDown_1 : decode b_E_dividedDown 1 = .ok (.lconst 0, 1) := by decide +kernel
theorem d_E_dividedDown_2 : decode b_E_dividedDown 2 = .ok (.lcmp, 1) := by decide +kernel
theorem d_E_dividedDown_3 : decode b_E_dividedDown 3 = .ok (.ifCond .le 11, 3) := by decide +kernel
theorem d_E_dividedDown_6 : decode b_E_dividedDown 6 = .ok (.lload_n 0, 1) := by decide +kernel
theorem d_E_dividedDown_7 : decode b_E_dividedDown 7 = .ok (.lload_n 2, 1) := by decide +kernel
theorem d_E_dividedDown_8 : decode b_E_dividedDown 8 = .ok (.invokestatic 163, 3) := by decide +kernel
theorem d_E_dividedDown_11 : decode b_E_dividedDown 11 = .ok (.goto 4, 3) := by decide +kernel
theorem d_E_dividedDown_14 : decode b_E_dividedDown 14 = .ok (.lconst 0, 1) := by decide +kernel
theorem d_E_dividedDown_15 : decode b_E_dividedDown 15 = .ok (.lreturn, 1) := by decide +kernel
