theorem d_M_init_0 : decode b_M_init 0 = .ok (.aload_n 0, 1) := by decide +kernel
theorem d_M_init_1 : decode b_M_init 1 = .ok (.invokespecial 1, 3) := by decide +kernel
theorem d_M_init_4 : decode b_M_init 4 = .ok (.aload_n 0, 1) := by decide +kernel
theorem d_M_init_5 : decode b_M_init 5 = .ok (.iconst 3, 1) := by decide +kernel
theorem d_M_init_6 : decode b_M_init 6 = .ok (.newarray .int, 2) := by decide +kernel
theorem d_M_init_8 : decode b_M_init 8 = .ok (.putfield 7, 3) := by decide +kernel
theorem d_M_init_11 : decode b_M_init 11 = .ok (.aload_n 0, 1) := by decide +kernel
theorem d_M_init_12 : decode b_M_init 12 = .ok (.iconst 3, 1) := by decide +kernel
theorem d_M_init_13 : decode b_M_init 13 = .ok (.newarray .int, 2) := by decide +kernel
theorem d_M_init_15 : decode b_M_init 15 = .ok (.putfield 13, 3) := by decide +kernel
theorem d_M_init_18 : decode b_M_init 18 = .ok (.aload_n 0, 1) := by decide +kernel
theorem d_M_init_19 : decode b_M_init 19 = .ok (.iconst 3, 1) := by decide +kernel
theorem d_M_init_20 : decode b_M_init 20 = .ok (.newarray .int, 2) := by decide +kernel
theorem d_M_init_22 : decode b_M_init 22 = .ok (.putfield 16, 3) := by decide +kernel
theorem d_M_init_25 : decode b_M_init 25 = .ok (.aload_n 0, 1) := by decide +kernel
theorem d_M_init_26 : decode b_M_init 26 = .ok (.iconst 3, 1) := by decide +kernel
theorem d_M_init_27 : decode b_M_init 27 = .ok (.newarray .int, 2) := by decide +kernel
theorem d_M_init_29 : decode b_M_init 29 = .ok (.putfield 19, 3) := by decide +kernel
theorem d_M_init_32 : decode b_M_init 32 = .ok (.aload_n 0, 1) := by decide +kernel
theorem d_M_init_33 : decode b_M_init 33 = .ok (.bipush 84, 2) := by decide +kernel
theorem d_M_init_35 : decode b_M_init 35 = .ok (.newarray .int, 2) := by decide +kernel
theorem d_M_init_37 : decode b_M_init 37 = .ok (.putfield 22, 3) := by decide +kernel
theorem d_M_init_40 : decode b_M_init 40 = .ok (.aload_n 0, 1) := by decide +kernel
theorem d_M_init_41 : decode b_M_init 41 = .ok (.iconst 1, 1) := by decide +kernel
theorem d_M_init_42 : decode b_M_init 42 = .ok (.putfield 25, 3) := by decide +kernel
theorem d_M_init_45 : decode b_M_init 45 = .ok (.aload_n 0, 1) := by decide +kernel
theorem d_M_init_46 : decode b_M_init 46 = .ok (.iconst 1, 1) := by decide +kernel
theorem d_M_init_47 : decode b_M_init 47 = .ok (.putfield 29, 3) := by decide +kernel
theorem d_M_init_50 : decode b_M_init 50 = .ok (.iconst 0, 1) := by decide +kernel
theorem d_M_init_51 : decode b_M_init 51 = .ok (.istore_n 1, 1) := by decide +kernel
theorem d_M_init_52 : decode b_M_init 52 = .ok (.iload_n 1, 1) := by decide +kernel
theorem d_M_init_53 : decode b_M_init 53 = .ok (.iconst 3, 1) := by decide +kernel
theorem d_M_init_54 : decode b_M_init 54 = .ok (.if_icmp .ge 16, 3) := by decide +kernel
theorem d_M_init_57 : decode b_M_init 57 = .ok (.aload_n 0, 1) := by decide +kernel
theorem d_M_init_58 : decode b_M_init 58 = .ok (.getfield 19, 3) := by decide +kernel
theorem d_M_init_61 : decode b_M_init 61 = .ok (.iload_n 1, 1) := by decide +kernel
theorem d_M_init_62 : decode b_M_init 62 = .ok (.iconst 1, 1) := by decide +kernel
theorem d_M_init_63 : decode b_M_init 63 = .ok (.iastore, 1) := by decide +kernel
theorem d_M_init_64 : decode b_M_init 64 = .ok (.iinc 1 1, 3) := by decide +kernel
theorem d_M_init_67 : decode b_M_init 67 = .ok (.goto (-15), 3) := by decide +kernel
theorem d_M_init_70 : decode b_M_init 70 = .ok (.return_, 1) := by decide +kernel
theorem d_M_thrown_0 : decode b_M_thrown 0 = .ok (.aload_n 0, 1) := by decide +kernel
theorem d_M_thrown_1 : decode b_M_thrown 1 = .ok (.getfield 32, 3) := by decide +kernel
theorem d_M_thrown_4 : decode b_M_thrown 4 = .ok (.ireturn, 1) := by decide +kernel
theorem d_M_refuse_0 : decode b_M_refuse 0 = .ok (.aload_n 0, 1) := by decide +kernel
theorem d_M_refuse_1 : decode b_M_refuse 1 = .ok (.iload_n 1, 1) := by decide +kernel
theorem d_M_refuse_2 : decode b_M_refuse 2 = .ok (.ifCond .eq 7, 3) := by decide +kernel
theorem d_M_refuse_5 : decode b_M_refuse 5 = .ok (.iconst 1, 1) := by decide +kernel
theorem d_M_refuse_6 : decode b_M_refuse 6 = .ok (.goto 12, 3) := by decide +kernel
theorem d_M_refuse_9 : decode b_M_refuse 9 = .ok (.iload_n 2, 1) := by decide +kernel
theorem d_M_refuse_10 : decode b_M_refuse 10 = .ok (.ifCond .eq 7, 3) := by decide +kernel
theorem d_M_refuse_13 : decode b_M_refuse 13 = .ok (.iconst 2, 1) := by decide +kernel
theorem d_M_refuse_14 : decode b_M_refuse 14 = .ok (.goto 4, 3) := by decide +kernel
theorem d_M_refuse_17 : decode b_M_refuse 17 = .ok (.iconst 0, 1) := by decide +kernel
theorem d_M_refuse_18 : decode b_M_refuse 18 = .ok (.putfield 32, 3) := by decide +kernel
theorem d_M_refuse_21 : decode b_M_refuse 21 = .ok (.aload_n 0, 1) := by decide +kernel
theorem d_M_refuse_22 : decode b_M_refuse 22 = .ok (.getfield 32, 3) := by decide +kernel
theorem d_M_refuse_25 : decode b_M_refuse 25 = .ok (.ifCond .le 7, 3) := by decide +kernel
theorem d_M_refuse_28 : decode b_M_refuse 28 = .ok (.iconst 1, 1) := by decide +kernel
theorem d_M_refuse_29 : decode b_M_refuse 29 = .ok (.goto 4, 3) := by decide +kernel
theorem d_M_refuse_32 : decode b_M_refuse 32 = .ok (.iconst 0, 1) := by decide +kernel
theorem d_M_refuse_33 : decode b_M_refuse 33 = .ok (.ireturn, 1) := by decide +kernel
theorem d_M_in__0 : decode b_M_in_ 0 = .ok (.iload_n 0, 1) := by decide +kernel
theorem d_M_in__1 : decode b_M_in_ 1 = .ok (.iload_n 1, 1) := by decide +kernel
theorem d_M_in__2 : decode b_M_in_ 2 = .ok (.if_icmp .lt 12, 3) := by decide +kernel
theorem d_M_in__5 : decode b_M_in_ 5 = .ok (.iload_n 0, 1) := by decide +kernel
theorem d_M_in__6 : decode b_M_in_ 6 = .ok (.iload_n 2, 1) := by decide +kernel
theorem d_M_in__7 : decode b_M_in_ 7 = .ok (.if_icmp .gt 7, 3) := by decide +kernel
theorem d_M_in__10 : decode b_M_in_ 10 = .ok (.iconst 1, 1) := by decide +kernel
theorem d_M_in__11 : decode b_M_in_ 11 = .ok (.goto 4, 3) := by decide +kernel
theorem d_M_in__14 : decode b_M_in_ 14 = .ok (.iconst 0, 1) := by decide +kernel
theorem d_M_in__15 : decode b_M_in_ 15 = .ok (.ireturn, 1) := by decide +kernel
theorem d_M_corner_0 : decode b_M_corner 0 = .ok (.iload_n 1, 1) := by decide +kernel
theorem d_M_corner_1 : decode b_M_corner 1 = .ok (.iconst 0, 1) := by decide +kernel
theorem d_M_corner_2 : decode b_M_corner 2 = .ok (.iconst 2, 1) := by decide +kernel
theorem d_M_corner_3 : decode b_M_corner 3 = .ok (.invokestatic 35, 3) := by decide +kernel
theorem d_M_corner_6 : decode b_M_corner 6 = .ok (.ifCond .eq 55, 3) := by decide +kernel
theorem d_M_corner_9 : decode b_M_corner 9 = .ok (.iload_n 2, 1) := by decide +kernel
theorem d_M_corner_10 : decode b_M_corner 10 = .ok (.sipush (-16384), 3) := by decide +kernel
theorem d_M_corner_13 : decode b_M_corner 13 = .ok (.sipush 16383, 3) := by decide +kernel
theorem d_M_corner_16 : decode b_M_corner 16 = .ok (.invokestatic 35, 3) := by decide +kernel
theorem d_M_corner_19 : decode b_M_corner 19 = .ok (.ifCond .eq 42, 3) := by decide +kernel
theorem d_M_corner_22 : decode b_M_corner 22 = .ok (.iload_n 3, 1) := by decide +kernel
theorem d_M_corner_23 : decode b_M_corner 23 = .ok (.sipush (-16384), 3) := by decide +kernel
theorem d_M_corner_26 : decode b_M_corner 26 = .ok (.sipush 16383, 3) := by decide +kernel
theorem d_M_corner_29 : decode b_M_corner 29 = .ok (.invokestatic 35, 3) := by decide +kernel
theorem d_M_corner_32 : decode b_M_corner 32 = .ok (.ifCond .eq 29, 3) := by decide +kernel
theorem d_M_corner_35 : decode b_M_corner 35 = .ok (.iload 4, 2) := by decide +kernel
theorem d_M_corner_37 : decode b_M_corner 37 = .ok (.iconst 0, 1) := by decide +kernel
theorem d_M_corner_38 : decode b_M_corner 38 = .ok (.ldc 39, 2) := by decide +kernel
theorem d_M_corner_40 : decode b_M_corner 40 = .ok (.invokestatic 35, 3) := by decide +kernel
theorem d_M_corner_43 : decode b_M_corner 43 = .ok (.ifCond .eq 18, 3) := by decide +kernel
theorem d_M_corner_46 : decode b_M_corner 46 = .ok (.iload 5, 2) := by decide +kernel
theorem d_M_corner_48 : decode b_M_corner 48 = .ok (.iconst 1, 1) := by decide +kernel
theorem d_M_corner_49 : decode b_M_corner 49 = .ok (.ldc 40, 2) := by decide +kernel
theorem d_M_corner_51 : decode b_M_corner 51 = .ok (.invokestatic 35, 3) := by decide +kernel
theorem d_M_corner_54 : decode b_M_corner 54 = .ok (.ifCond .eq 7, 3) := by decide +kernel
theorem d_M_corner_57 : decode b_M_corner 57 = .ok (.iconst 1, 1) := by decide +kernel
theorem d_M_corner_58 : decode b_M_corner 58 = .ok (.goto 4, 3) := by decide +kernel
theorem d_M_corner_61 : decode b_M_corner 61 = .ok (.iconst 0, 1) := by decide +kernel
theorem d_M_corner_62 : decode b_M_corner 62 = .ok (.istore 6, 2) := by decide +kernel
theorem d_M_corner_64 : decode b_M_corner 64 = .ok (.aload_n 0, 1) := by decide +kernel
theorem d_M_corner_65 : decode b_M_corner 65 = .ok (.iload 6, 2) := by decide +kernel
theorem d_M_corner_67 : decode b_M_corner 67 = .ok (.ifCond .ne 7, 3) := by decide +kernel
theorem d_M_corner_70 : decode b_M_corner 70 = .ok (.iconst 1, 1) := by decide +kernel
theorem d_M_corner_71 : decode b_M_corner 71 = .ok (.goto 4, 3) := by decide +kernel
theorem d_M_corner_74 : decode b_M_corner 74 = .ok (.iconst 0, 1) := by decide +kernel
theorem d_M_corner_75 : decode b_M_corner 75 = .ok (.iconst 0, 1) := by decide +kernel
theorem d_M_corner_76 : decode b_M_corner 76 = .ok (.invokevirtual 41, 3) := by decide +kernel
theorem d_M_corner_79 : decode b_M_corner 79 = .ok (.ifCond .eq 4, 3) := by decide +kernel
theorem d_M_corner_82 : decode b_M_corner 82 = .ok (.return_, 1) := by decide +kernel
theorem d_M_corner_83 : decode b_M_corner 83 = .ok (.aload_n 0, 1) := by decide +kernel
theorem d_M_corner_84 : decode b_M_corner 84 = .ok (.getfield 7, 3) := by decide +kernel
theorem d_M_corner_87 : decode b_M_corner 87 = .ok (.iload_n 1, 1) := by decide +kernel
theorem d_M_corner_88 : decode b_M_corner 88 = .ok (.iload_n 2, 1) := by decide +kernel
theorem d_M_corner_89 : decode b_M_corner 89 = .ok (.iastore, 1) := by decide +kernel
theorem d_M_corner_90 : decode b_M_corner 90 = .ok (.aload_n 0, 1) := by decide +kernel
theorem d_M_corner_91 : decode b_M_corner 91 = .ok (.getfield 13, 3) := by decide +kernel
theorem d_M_corner_94 : decode b_M_corner 94 = .ok (.iload_n 1, 1) := by decide +kernel
theorem d_M_corner_95 : decode b_M_corner 95 = .ok (.iload_n 3, 1) := by decide +kernel
theorem d_M_corner_96 : decode b_M_corner 96 = .ok (.iastore, 1) := by decide +kernel
theorem d_M_corner_97 : decode b_M_corner 97 = .ok (.aload_n 0, 1) := by decide +kernel
theorem d_M_corner_98 : decode b_M_corner 98 = .ok (.getfield 16, 3) := by decide +kernel
theorem d_M_corner_101 : decode b_M_corner 101 = .ok (.iload_n 1, 1) := by decide +kernel
theorem d_M_corner_102 : decode b_M_corner 102 = .ok (.iload 4, 2) := by decide +kernel
theorem d_M_corner_104 : decode b_M_corner 104 = .ok (.iastore, 1) := by decide +kernel
theorem d_M_corner_105 : decode b_M_corner 105 = .ok (.aload_n 0, 1) := by decide +kernel
theorem d_M_corner_106 : decode b_M_corner 106 = .ok (.getfield 19, 3) := by decide +kernel
theorem d_M_corner_109 : decode b_M_corner 109 = .ok (.iload_n 1, 1) := by decide +kernel
theorem d_M_corner_110 : decode b_M_corner 110 = .ok (.iload 5, 2) := by decide +kernel
theorem d_M_corner_112 : decode b_M_corner 112 = .ok (.iastore, 1) := by decide +kernel
theorem d_M_corner_113 : decode b_M_corner 113 = .ok (.aload_n 0, 1) := by decide +kernel
theorem d_M_corner_114 : decode b_M_corner 114 = .ok (.iconst 0, 1) := by decide +kernel
theorem d_M_corner_115 : decode b_M_corner 115 = .ok (.putfield 45, 3) := by decide +kernel
theorem d_M_corner_118 : decode b_M_corner 118 = .ok (.return_, 1) := by decide +kernel
theorem d_M_value_0 : decode b_M_value 0 = .ok (.aload_n 0, 1) := by decide +kernel
theorem d_M_value_1 : decode b_M_value 1 = .ok (.iload_n 1, 1) := by decide +kernel
theorem d_M_value_2 : decode b_M_value 2 = .ok (.iconst 0, 1) := by decide +kernel
theorem d_M_value_3 : decode b_M_value 3 = .ok (.iconst 2, 1) := by decide +kernel
theorem d_M_value_4 : decode b_M_value 4 = .ok (.invokestatic 35, 3) := by decide +kernel
theorem d_M_value_7 : decode b_M_value 7 = .ok (.ifCond .eq 13, 3) := by decide +kernel
theorem d_M_value_10 : decode b_M_value 10 = .ok (.iload_n 2, 1) := by decide +kernel
theorem d_M_value_11 : decode b_M_value 11 = .ok (.iconst 0, 1) := by decide +kernel
theorem d_M_value_12 : decode b_M_value 12 = .ok (.bipush 27, 2) := by decide +kernel
theorem d_M_value_14 : decode b_M_value 14 = .ok (.invokestatic 35, 3) := by decide +kernel
theorem d_M_value_17 : decode b_M_value 17 = .ok (.ifCond .ne 7, 3) := by decide +kernel
theorem d_M_value_20 : decode b_M_value 20 = .ok (.iconst 1, 1) := by decide +kernel
theorem d_M_value_21 : decode b_M_value 21 = .ok (.goto 4, 3) := by decide +kernel
theorem d_M_value_24 : decode b_M_value 24 = .ok (.iconst 0, 1) := by decide +kernel
theorem d_M_value_25 : decode b_M_value 25 = .ok (.iconst 0, 1) := by decide +kernel
theorem d_M_value_26 : decode b_M_value 26 = .ok (.invokevirtual 41, 3) := by decide +kernel
theorem d_M_value_29 : decode b_M_value 29 = .ok (.ifCond .eq 4, 3) := by decide +kernel
theorem d_M_value_32 : decode b_M_value 32 = .ok (.return_, 1) := by decide +kernel
theorem d_M_value_33 : decode b_M_value 33 = .ok (.aload_n 0, 1) := by decide +kernel
theorem d_M_value_34 : decode b_M_value 34 = .ok (.getfield 22, 3) := by decide +kernel
theorem d_M_value_37 : decode b_M_value 37 = .ok (.bipush 28, 2) := by decide +kernel
theorem d_M_value_39 : decode b_M_value 39 = .ok (.iload_n 1, 1) := by decide +kernel
theorem d_M_value_40 : decode b_M_value 40 = .ok (.imul, 1) := by decide +kernel
theorem d_M_value_41 : decode b_M_value 41 = .ok (.iload_n 2, 1) := by decide +kernel
theorem d_M_value_42 : decode b_M_value 42 = .ok (.iadd, 1) := by decide +kernel
theorem d_M_value_43 : decode b_M_value 43 = .ok (.iload_n 3, 1) := by decide +kernel
theorem d_M_value_44 : decode b_M_value 44 = .ok (.iastore, 1) := by decide +kernel
theorem d_M_value_45 : decode b_M_value 45 = .ok (.aload_n 0, 1) := by decide +kernel
theorem d_M_value_46 : decode b_M_value 46 = .ok (.iconst 0, 1) := by decide +kernel
theorem d_M_value_47 : decode b_M_value 47 = .ok (.putfield 45, 3) := by decide +kernel
theorem d_M_value_50 : decode b_M_value 50 = .ok (.return_, 1) := by decide +kernel
theorem d_M_window_0 : decode b_M_window 0 = .ok (.aload_n 0, 1) := by decide +kernel
theorem d_M_window_1 : decode b_M_window 1 = .ok (.iload_n 1, 1) := by decide +kernel
theorem d_M_window_2 : decode b_M_window 2 = .ok (.iconst 0, 1) := by decide +kernel
theorem d_M_window_3 : decode b_M_window 3 = .ok (.sipush 1023, 3) := by decide +kernel
theorem d_M_window_6 : decode b_M_window 6 = .ok (.invokestatic 35, 3) := by decide +kernel
theorem d_M_window_9 : decode b_M_window 9 = .ok (.ifCond .eq 35, 3) := by decide +kernel
theorem d_M_window_12 : decode b_M_window 12 = .ok (.iload_n 2, 1) := by decide +kernel
theorem d_M_window_13 : decode b_M_window 13 = .ok (.iconst 0, 1) := by decide +kernel
theorem d_M_window_14 : decode b_M_window 14 = .ok (.sipush 1023, 3) := by decide +kernel
theorem d_M_window_17 : decode b_M_window 17 = .ok (.invokestatic 35, 3) := by decide +kernel
theorem d_M_window_20 : decode b_M_window 20 = .ok (.ifCond .eq 24, 3) := by decide +kernel
theorem d_M_window_23 : decode b_M_window 23 = .ok (.iload_n 3, 1) := by decide +kernel
theorem d_M_window_24 : decode b_M_window 24 = .ok (.iconst 1, 1) := by decide +kernel
theorem d_M_window_25 : decode b_M_window 25 = .ok (.bipush 64, 2) := by decide +kernel
theorem d_M_window_27 : decode b_M_window 27 = .ok (.invokestatic 35, 3) := by decide +kernel
theorem d_M_window_30 : decode b_M_window 30 = .ok (.ifCond .eq 14, 3) := by decide +kernel
theorem d_M_window_33 : decode b_M_window 33 = .ok (.iload 4, 2) := by decide +kernel
theorem d_M_window_35 : decode b_M_window 35 = .ok (.iconst 1, 1) := by decide +kernel
theorem d_M_window_36 : decode b_M_window 36 = .ok (.bipush 64, 2) := by decide +kernel
theorem d_M_window_38 : decode b_M_window 38 = .ok (.invokestatic 35, 3) := by decide +kernel
theorem d_M_window_41 : decode b_M_window 41 = .ok (.ifCond .ne 7, 3) := by decide +kernel
theorem d_M_window_44 : decode b_M_window 44 = .ok (.iconst 1, 1) := by decide +kernel
theorem d_M_window_45 : decode b_M_window 45 = .ok (.goto 4, 3) := by decide +kernel
theorem d_M_window_48 : decode b_M_window 48 = .ok (.iconst 0, 1) := by decide +kernel
theorem d_M_window_49 : decode b_M_window 49 = .ok (.iconst 0, 1) := by decide +kernel
theorem d_M_window_50 : decode b_M_window 50 = .ok (.invokevirtual 41, 3) := by decide +kernel
theorem d_M_window_53 : decode b_M_window 53 = .ok (.ifCond .eq 4, 3) := by decide +kernel
theorem d_M_window_56 : decode b_M_window 56 = .ok (.return_, 1) := by decide +kernel
theorem d_M_window_57 : decode b_M_window 57 = .ok (.aload_n 0, 1) := by decide +kernel
theorem d_M_window_58 : decode b_M_window 58 = .ok (.iload_n 1, 1) := by decide +kernel
theorem d_M_window_59 : decode b_M_window 59 = .ok (.putfield 49, 3) := by decide +kernel
theorem d_M_window_62 : decode b_M_window 62 = .ok (.aload_n 0, 1) := by decide +kernel
theorem d_M_window_63 : decode b_M_window 63 = .ok (.iload_n 2, 1) := by decide +kernel
theorem d_M_window_64 : decode b_M_window 64 = .ok (.putfield 52, 3) := by decide +kernel
theorem d_M_window_67 : decode b_M_window 67 = .ok (.aload_n 0, 1) := by decide +kernel
theorem d_M_window_68 : decode b_M_window 68 = .ok (.iload_n 3, 1) := by decide +kernel
theorem d_M_window_69 : decode b_M_window 69 = .ok (.putfield 25, 3) := by decide +kernel
theorem d_M_window_72 : decode b_M_window 72 = .ok (.aload_n 0, 1) := by decide +kernel
theorem d_M_window_73 : decode b_M_window 73 = .ok (.iload 4, 2) := by decide +kernel
theorem d_M_window_75 : decode b_M_window 75 = .ok (.putfield 29, 3) := by decide +kernel
theorem d_M_window_78 : decode b_M_window 78 = .ok (.aload_n 0, 1) := by decide +kernel
theorem d_M_window_79 : decode b_M_window 79 = .ok (.iconst 0, 1) := by decide +kernel
theorem d_M_window_80 : decode b_M_window 80 = .ok (.putfield 45, 3) := by decide +kernel
theorem d_M_window_83 : decode b_M_window 83 = .ok (.return_, 1) := by decide +kernel
theorem d_M_room_0 : decode b_M_room 0 = .ok (.aload_n 0, 1) := by decide +kernel
theorem d_M_room_1 : decode b_M_room 1 = .ok (.getfield 7, 3) := by decide +kernel
theorem d_M_room_4 : decode b_M_room 4 = .ok (.iload_n 2, 1) := by decide +kernel
theorem d_M_room_5 : decode b_M_room 5 = .ok (.iaload, 1) := by decide +kernel
theorem d_M_room_6 : decode b_M_room 6 = .ok (.aload_n 0, 1) := by decide +kernel
theorem d_M_room_7 : decode b_M_room 7 = .ok (.getfield 7, 3) := by decide +kernel
theorem d_M_room_10 : decode b_M_room 10 = .ok (.iload_n 1, 1) := by decide +kernel
theorem d_M_room_11 : decode b_M_room 11 = .ok (.iaload, 1) := by decide +kernel
theorem d_M_room_12 : decode b_M_room 12 = .ok (.isub, 1) := by decide +kernel
theorem d_M_room_13 : decode b_M_room 13 = .ok (.i2l, 1) := by decide +kernel
theorem d_M_room_14 : decode b_M_room 14 = .ok (.lstore 5, 2) := by decide +kernel
theorem d_M_room_16 : decode b_M_room 16 = .ok (.aload_n 0, 1) := by decide +kernel
theorem d_M_room_17 : decode b_M_room 17 = .ok (.getfield 13, 3) := by decide +kernel
theorem d_M_room_20 : decode b_M_room 20 = .ok (.iload_n 2, 1) := by decide +kernel
theorem d_M_room_21 : decode b_M_room 21 = .ok (.iaload, 1) := by decide +kernel
theorem d_M_room_22 : decode b_M_room 22 = .ok (.aload_n 0, 1) := by decide +kernel
theorem d_M_room_23 : decode b_M_room 23 = .ok (.getfield 13, 3) := by decide +kernel
theorem d_M_room_26 : decode b_M_room 26 = .ok (.iload_n 1, 1) := by decide +kernel
theorem d_M_room_27 : decode b_M_room 27 = .ok (.iaload, 1) := by decide +kernel
theorem d_M_room_28 : decode b_M_room 28 = .ok (.isub, 1) := by decide +kernel
theorem d_M_room_29 : decode b_M_room 29 = .ok (.i2l, 1) := by decide +kernel
theorem d_M_room_30 : decode b_M_room 30 = .ok (.lstore 7, 2) := by decide +kernel
theorem d_M_room_32 : decode b_M_room 32 = .ok (.lload 5, 2) := by decide +kernel
theorem d_M_room_34 : decode b_M_room 34 = .ok (.iload 4, 2) := by decide +kernel
theorem d_M_room_36 : decode b_M_room 36 = .ok (.aload_n 0, 1) := by decide +kernel
theorem d_M_room_37 : decode b_M_room 37 = .ok (.getfield 13, 3) := by decide +kernel
theorem d_M_room_40 : decode b_M_room 40 = .ok (.iload_n 1, 1) := by decide +kernel
theorem d_M_room_41 : decode b_M_room 41 = .ok (.iaload, 1) := by decide +kernel
theorem d_M_room_42 : decode b_M_room 42 = .ok (.isub, 1) := by decide +kernel
theorem d_M_room_43 : decode b_M_room 43 = .ok (.i2l, 1) := by decide +kernel
theorem d_M_room_44 : decode b_M_room 44 = .ok (.lmul, 1) := by decide +kernel
theorem d_M_room_45 : decode b_M_room 45 = .ok (.lload 7, 2) := by decide +kernel
theorem d_M_room_47 : decode b_M_room 47 = .ok (.iload_n 3, 1) := by decide +kernel
theorem d_M_room_48 : decode b_M_room 48 = .ok (.aload_n 0, 1) := by decide +kernel
theorem d_M_room_49 : decode b_M_room 49 = .ok (.getfield 7, 3) := by decide +kernel
theorem d_M_room_52 : decode b_M_room 52 = .ok (.iload_n 1, 1) := by decide +kernel
theorem d_M_room_53 : decode b_M_room 53 = .ok (.iaload, 1) := by decide +kernel
theorem d_M_room_54 : decode b_M_room 54 = .ok (.isub, 1) := by decide +kernel
theorem d_M_room_55 : decode b_M_room 55 = .ok (.i2l, 1) := by decide +kernel
theorem d_M_room_56 : decode b_M_room 56 = .ok (.lmul, 1) := by decide +kernel
theorem d_M_room_57 : decode b_M_room 57 = .ok (.lsub, 1) := by decide +kernel
theorem d_M_room_58 : decode b_M_room 58 = .ok (.lreturn, 1) := by decide +kernel
theorem d_M_whole_0 : decode b_M_whole 0 = .ok (.aload_n 0, 1) := by decide +kernel
theorem d_M_whole_1 : decode b_M_whole 1 = .ok (.iconst 0, 1) := by decide +kernel
theorem d_M_whole_2 : decode b_M_whole 2 = .ok (.iconst 1, 1) := by decide +kernel
theorem d_M_whole_3 : decode b_M_whole 3 = .ok (.aload_n 0, 1) := by decide +kernel
theorem d_M_whole_4 : decode b_M_whole 4 = .ok (.getfield 7, 3) := by decide +kernel
theorem d_M_whole_7 : decode b_M_whole 7 = .ok (.iconst 2, 1) := by decide +kernel
theorem d_M_whole_8 : decode b_M_whole 8 = .ok (.iaload, 1) := by decide +kernel
theorem d_M_whole_9 : decode b_M_whole 9 = .ok (.aload_n 0, 1) := by decide +kernel
theorem d_M_whole_10 : decode b_M_whole 10 = .ok (.getfield 13, 3) := by decide +kernel
theorem d_M_whole_13 : decode b_M_whole 13 = .ok (.iconst 2, 1) := by decide +kernel
theorem d_M_whole_14 : decode b_M_whole 14 = .ok (.iaload, 1) := by decide +kernel
theorem d_M_whole_15 : decode b_M_whole 15 = .ok (.invokevirtual 55, 3) := by decide +kernel
theorem d_M_whole_18 : decode b_M_whole 18 = .ok (.lreturn, 1) := by decide +kernel
theorem d_M_area_0 : decode b_M_area 0 = .ok (.aload_n 0, 1) := by decide +kernel
theorem d_M_area_1 : decode b_M_area 1 = .ok (.iconst 0, 1) := by decide +kernel
theorem d_M_area_2 : decode b_M_area 2 = .ok (.putfield 32, 3) := by decide +kernel
theorem d_M_area_5 : decode b_M_area 5 = .ok (.aload_n 0, 1) := by decide +kernel
theorem d_M_area_6 : decode b_M_area 6 = .ok (.invokevirtual 59, 3) := by decide +kernel
theorem d_M_area_9 : decode b_M_area 9 = .ok (.lreturn, 1) := by decide +kernel
theorem d_M_from_0 : decode b_M_from 0 = .ok (.aload_n 0, 1) := by decide +kernel
theorem d_M_from_1 : decode b_M_from 1 = .ok (.invokevirtual 59, 3) := by decide +kernel
theorem d_M_from_4 : decode b_M_from 4 = .ok (.lconst 0, 1) := by decide +kernel
theorem d_M_from_5 : decode b_M_from 5 = .ok (.lcmp, 1) := by decide +kernel
theorem d_M_from_6 : decode b_M_from 6 = .ok (.ifCond .ge 11, 3) := by decide +kernel
theorem d_M_from_9 : decode b_M_from 9 = .ok (.iload_n 1, 1) := by decide +kernel
theorem d_M_from_10 : decode b_M_from 10 = .ok (.iconst 2, 1) := by decide +kernel
theorem d_M_from_11 : decode b_M_from 11 = .ok (.iadd, 1) := by decide +kernel
theorem d_M_from_12 : decode b_M_from 12 = .ok (.iconst 3, 1) := by decide +kernel
theorem d_M_from_13 : decode b_M_from 13 = .ok (.irem, 1) := by decide +kernel
theorem d_M_from_14 : decode b_M_from 14 = .ok (.goto 8, 3) := by decide +kernel
theorem d_M_from_17 : decode b_M_from 17 = .ok (.iload_n 1, 1) := by decide +kernel
theorem d_M_from_18 : decode b_M_from 18 = .ok (.iconst 1, 1) := by decide +kernel
theorem d_M_from_19 : decode b_M_from 19 = .ok (.iadd, 1) := by decide +kernel
theorem d_M_from_20 : decode b_M_from 20 = .ok (.iconst 3, 1) := by decide +kernel
theorem d_M_from_21 : decode b_M_from 21 = .ok (.irem, 1) := by decide +kernel
theorem d_M_from_22 : decode b_M_from 22 = .ok (.ireturn, 1) := by decide +kernel
theorem d_M_to_0 : decode b_M_to 0 = .ok (.aload_n 0, 1) := by decide +kernel
theorem d_M_to_1 : decode b_M_to 1 = .ok (.invokevirtual 59, 3) := by decide +kernel
theorem d_M_to_4 : decode b_M_to 4 = .ok (.lconst 0, 1) := by decide +kernel
theorem d_M_to_5 : decode b_M_to 5 = .ok (.lcmp, 1) := by decide +kernel
theorem d_M_to_6 : decode b_M_to 6 = .ok (.ifCond .ge 11, 3) := by decide +kernel
theorem d_M_to_9 : decode b_M_to 9 = .ok (.iload_n 1, 1) := by decide +kernel
theorem d_M_to_10 : decode b_M_to 10 = .ok (.iconst 1, 1) := by decide +kernel
theorem d_M_to_11 : decode b_M_to 11 = .ok (.iadd, 1) := by decide +kernel
theorem d_M_to_12 : decode b_M_to 12 = .ok (.iconst 3, 1) := by decide +kernel
theorem d_M_to_13 : decode b_M_to 13 = .ok (.irem, 1) := by decide +kernel
theorem d_M_to_14 : decode b_M_to 14 = .ok (.goto 8, 3) := by decide +kernel
theorem d_M_to_17 : decode b_M_to 17 = .ok (.iload_n 1, 1) := by decide +kernel
theorem d_M_to_18 : decode b_M_to 18 = .ok (.iconst 2, 1) := by decide +kernel
theorem d_M_to_19 : decode b_M_to 19 = .ok (.iadd, 1) := by decide +kernel
theorem d_M_to_20 : decode b_M_to 20 = .ok (.iconst 3, 1) := by decide +kernel
theorem d_M_to_21 : decode b_M_to 21 = .ok (.irem, 1) := by decide +kernel
theorem d_M_to_22 : decode b_M_to 22 = .ok (.ireturn, 1) := by decide +kernel
theorem d_M_weightOf_0 : decode b_M_weightOf 0 = .ok (.aload_n 0, 1) := by decide +kernel
theorem d_M_weightOf_1 : decode b_M_weightOf 1 = .ok (.aload_n 0, 1) := by decide +kernel
theorem d_M_weightOf_2 : decode b_M_weightOf 2 = .ok (.iload_n 1, 1) := by decide +kernel
theorem d_M_weightOf_3 : decode b_M_weightOf 3 = .ok (.invokevirtual 63, 3) := by decide +kernel
theorem d_M_weightOf_6 : decode b_M_weightOf 6 = .ok (.aload_n 0, 1) := by decide +kernel
theorem d_M_weightOf_7 : decode b_M_weightOf 7 = .ok (.iload_n 1, 1) := by decide +kernel
theorem d_M_weightOf_8 : decode b_M_weightOf 8 = .ok (.invokevirtual 67, 3) := by decide +kernel
theorem d_M_weightOf_11 : decode b_M_weightOf 11 = .ok (.bipush 16, 2) := by decide +kernel
theorem d_M_weightOf_13 : decode b_M_weightOf 13 = .ok (.iload_n 2, 1) := by decide +kernel
theorem d_M_weightOf_14 : decode b_M_weightOf 14 = .ok (.imul, 1) := by decide +kernel
theorem d_M_weightOf_15 : decode b_M_weightOf 15 = .ok (.bipush 8, 2) := by decide +kernel
theorem d_M_weightOf_17 : decode b_M_weightOf 17 = .ok (.iadd, 1) := by decide +kernel
theorem d_M_weightOf_18 : decode b_M_weightOf 18 = .ok (.bipush 16, 2) := by decide +kernel
theorem d_M_weightOf_20 : decode b_M_weightOf 20 = .ok (.iload_n 3, 1) := by decide +kernel
theorem d_M_weightOf_21 : decode b_M_weightOf 21 = .ok (.imul, 1) := by decide +kernel
theorem d_M_weightOf_22 : decode b_M_weightOf 22 = .ok (.bipush 8, 2) := by decide +kernel
theorem d_M_weightOf_24 : decode b_M_weightOf 24 = .ok (.iadd, 1) := by decide +kernel
theorem d_M_weightOf_25 : decode b_M_weightOf 25 = .ok (.invokevirtual 55, 3) := by decide +kernel
theorem d_M_weightOf_28 : decode b_M_weightOf 28 = .ok (.lreturn, 1) := by decide +kernel
theorem d_M_isCovered_0 : decode b_M_isCovered 0 = .ok (.aload_n 0, 1) := by decide +kernel
theorem d_M_isCovered_1 : decode b_M_isCovered 1 = .ok (.invokevirtual 59, 3) := by decide +kernel
theorem d_M_isCovered_4 : decode b_M_isCovered 4 = .ok (.lconst 0, 1) := by decide +kernel
theorem d_M_isCovered_5 : decode b_M_isCovered 5 = .ok (.lcmp, 1) := by decide +kernel
theorem d_M_isCovered_6 : decode b_M_isCovered 6 = .ok (.ifCond .eq 7, 3) := by decide +kernel
theorem d_M_isCovered_9 : decode b_M_isCovered 9 = .ok (.iconst 1, 1) := by decide +kernel
theorem d_M_isCovered_10 : decode b_M_isCovered 10 = .ok (.goto 4, 3) := by decide +kernel
theorem d_M_isCovered_13 : decode b_M_isCovered 13 = .ok (.iconst 0, 1) := by decide +kernel
theorem d_M_isCovered_14 : decode b_M_isCovered 14 = .ok (.istore_n 3, 1) := by decide +kernel
theorem d_M_isCovered_15 : decode b_M_isCovered 15 = .ok (.iconst 0, 1) := by decide +kernel
theorem d_M_isCovered_16 : decode b_M_isCovered 16 = .ok (.istore 4, 2) := by decide +kernel
theorem d_M_isCovered_18 : decode b_M_isCovered 18 = .ok (.iload 4, 2) := by decide +kernel
theorem d_M_isCovered_20 : decode b_M_isCovered 20 = .ok (.iconst 3, 1) := by decide +kernel
theorem d_M_isCovered_21 : decode b_M_isCovered 21 = .ok (.if_icmp .ge 120, 3) := by decide +kernel
theorem d_M_isCovered_24 : decode b_M_isCovered 24 = .ok (.iload_n 3, 1) := by decide +kernel
theorem d_M_isCovered_25 : decode b_M_isCovered 25 = .ok (.ifCond .eq 116, 3) := by decide +kernel
theorem d_M_isCovered_28 : decode b_M_isCovered 28 = .ok (.aload_n 0, 1) := by decide +kernel
theorem d_M_isCovered_29 : decode b_M_isCovered 29 = .ok (.iload 4, 2) := by decide +kernel
theorem d_M_isCovered_31 : decode b_M_isCovered 31 = .ok (.iload_n 1, 1) := by decide +kernel
theorem d_M_isCovered_32 : decode b_M_isCovered 32 = .ok (.iload_n 2, 1) := by decide +kernel
theorem d_M_isCovered_33 : decode b_M_isCovered 33 = .ok (.invokevirtual 70, 3) := by decide +kernel
theorem d_M_isCovered_36 : decode b_M_isCovered 36 = .ok (.lstore 5, 2) := by decide +kernel
theorem d_M_isCovered_38 : decode b_M_isCovered 38 = .ok (.aload_n 0, 1) := by decide +kernel
theorem d_M_isCovered_39 : decode b_M_isCovered 39 = .ok (.getfield 7, 3) := by decide +kernel
theorem d_M_isCovered_42 : decode b_M_isCovered 42 = .ok (.aload_n 0, 1) := by decide +kernel
theorem d_M_isCovered_43 : decode b_M_isCovered 43 = .ok (.iload 4, 2) := by decide +kernel
theorem d_M_isCovered_45 : decode b_M_isCovered 45 = .ok (.invokevirtual 67, 3) := by decide +kernel
theorem d_M_isCovered_48 : decode b_M_isCovered 48 = .ok (.iaload, 1) := by decide +kernel
theorem d_M_isCovered_49 : decode b_M_isCovered 49 = .ok (.aload_n 0, 1) := by decide +kernel
theorem d_M_isCovered_50 : decode b_M_isCovered 50 = .ok (.getfield 7, 3) := by decide +kernel
theorem d_M_isCovered_53 : decode b_M_isCovered 53 = .ok (.aload_n 0, 1) := by decide +kernel
theorem d_M_isCovered_54 : decode b_M_isCovered 54 = .ok (.iload 4, 2) := by decide +kernel
theorem d_M_isCovered_56 : decode b_M_isCovered 56 = .ok (.invokevirtual 63, 3) := by decide +kernel
theorem d_M_isCovered_59 : decode b_M_isCovered 59 = .ok (.iaload, 1) := by decide +kernel
theorem d_M_isCovered_60 : decode b_M_isCovered 60 = .ok (.isub, 1) := by decide +kernel
theorem d_M_isCovered_61 : decode b_M_isCovered 61 = .ok (.istore 7, 2) := by decide +kernel
theorem d_M_isCovered_63 : decode b_M_isCovered 63 = .ok (.aload_n 0, 1) := by decide +kernel
theorem d_M_isCovered_64 : decode b_M_isCovered 64 = .ok (.getfield 13, 3) := by decide +kernel
theorem d_M_isCovered_67 : decode b_M_isCovered 67 = .ok (.aload_n 0, 1) := by decide +kernel
theorem d_M_isCovered_68 : decode b_M_isCovered 68 = .ok (.iload 4, 2) := by decide +kernel
theorem d_M_isCovered_70 : decode b_M_isCovered 70 = .ok (.invokevirtual 67, 3) := by decide +kernel
theorem d_M_isCovered_73 : decode b_M_isCovered 73 = .ok (.iaload, 1) := by decide +kernel
theorem d_M_isCovered_74 : decode b_M_isCovered 74 = .ok (.aload_n 0, 1) := by decide +kernel
theorem d_M_isCovered_75 : decode b_M_isCovered 75 = .ok (.getfield 13, 3) := by decide +kernel
theorem d_M_isCovered_78 : decode b_M_isCovered 78 = .ok (.aload_n 0, 1) := by decide +kernel
theorem d_M_isCovered_79 : decode b_M_isCovered 79 = .ok (.iload 4, 2) := by decide +kernel
theorem d_M_isCovered_81 : decode b_M_isCovered 81 = .ok (.invokevirtual 63, 3) := by decide +kernel
theorem d_M_isCovered_84 : decode b_M_isCovered 84 = .ok (.iaload, 1) := by decide +kernel
theorem d_M_isCovered_85 : decode b_M_isCovered 85 = .ok (.isub, 1) := by decide +kernel
theorem d_M_isCovered_86 : decode b_M_isCovered 86 = .ok (.istore 8, 2) := by decide +kernel
theorem d_M_isCovered_88 : decode b_M_isCovered 88 = .ok (.iload 8, 2) := by decide +kernel
theorem d_M_isCovered_90 : decode b_M_isCovered 90 = .ok (.ifCond .ne 8, 3) := by decide +kernel
theorem d_M_isCovered_93 : decode b_M_isCovered 93 = .ok (.iload 7, 2) := by decide +kernel
theorem d_M_isCovered_95 : decode b_M_isCovered 95 = .ok (.ifCond .gt 8, 3) := by decide +kernel
theorem d_M_isCovered_98 : decode b_M_isCovered 98 = .ok (.iload 8, 2) := by decide +kernel
theorem d_M_isCovered_100 : decode b_M_isCovered 100 = .ok (.ifCond .ge 7, 3) := by decide +kernel
theorem d_M_isCovered_103 : decode b_M_isCovered 103 = .ok (.iconst 1, 1) := by decide +kernel
theorem d_M_isCovered_104 : decode b_M_isCovered 104 = .ok (.goto 4, 3) := by decide +kernel
theorem d_M_isCovered_107 : decode b_M_isCovered 107 = .ok (.iconst 0, 1) := by decide +kernel
theorem d_M_isCovered_108 : decode b_M_isCovered 108 = .ok (.istore 9, 2) := by decide +kernel
theorem d_M_isCovered_110 : decode b_M_isCovered 110 = .ok (.lload 5, 2) := by decide +kernel
theorem d_M_isCovered_112 : decode b_M_isCovered 112 = .ok (.lconst 0, 1) := by decide +kernel
theorem d_M_isCovered_113 : decode b_M_isCovered 113 = .ok (.lcmp, 1) := by decide +kernel
theorem d_M_isCovered_114 : decode b_M_isCovered 114 = .ok (.ifCond .gt 15, 3) := by decide +kernel
theorem d_M_isCovered_117 : decode b_M_isCovered 117 = .ok (.lload 5, 2) := by decide +kernel
theorem d_M_isCovered_119 : decode b_M_isCovered 119 = .ok (.lconst 0, 1) := by decide +kernel
theorem d_M_isCovered_120 : decode b_M_isCovered 120 = .ok (.lcmp, 1) := by decide +kernel
theorem d_M_isCovered_121 : decode b_M_isCovered 121 = .ok (.ifCond .ne 12, 3) := by decide +kernel
theorem d_M_isCovered_124 : decode b_M_isCovered 124 = .ok (.iload 9, 2) := by decide +kernel
theorem d_M_isCovered_126 : decode b_M_isCovered 126 = .ok (.ifCond .eq 7, 3) := by decide +kernel
theorem d_M_isCovered_129 : decode b_M_isCovered 129 = .ok (.iconst 1, 1) := by decide +kernel
theorem d_M_isCovered_130 : decode b_M_isCovered 130 = .ok (.goto 4, 3) := by decide +kernel
theorem d_M_isCovered_133 : decode b_M_isCovered 133 = .ok (.iconst 0, 1) := by decide +kernel
theorem d_M_isCovered_134 : decode b_M_isCovered 134 = .ok (.istore_n 3, 1) := by decide +kernel
theorem d_M_isCovered_135 : decode b_M_isCovered 135 = .ok (.iinc 4 1, 3) := by decide +kernel
theorem d_M_isCovered_138 : decode b_M_isCovered 138 = .ok (.goto (-120), 3) := by decide +kernel
theorem d_M_isCovered_141 : decode b_M_isCovered 141 = .ok (.iload_n 3, 1) := by decide +kernel
theorem d_M_isCovered_142 : decode b_M_isCovered 142 = .ok (.ireturn, 1) := by decide +kernel
theorem d_M_covers_0 : decode b_M_covers 0 = .ok (.aload_n 0, 1) := by decide +kernel
theorem d_M_covers_1 : decode b_M_covers 1 = .ok (.iload_n 1, 1) := by decide +kernel
theorem d_M_covers_2 : decode b_M_covers 2 = .ok (.sipush (-1024), 3) := by decide +kernel
theorem d_M_covers_5 : decode b_M_covers 5 = .ok (.sipush 2047, 3) := by decide +kernel
theorem d_M_covers_8 : decode b_M_covers 8 = .ok (.invokestatic 35, 3) := by decide +kernel
theorem d_M_covers_11 : decode b_M_covers 11 = .ok (.ifCond .eq 16, 3) := by decide +kernel
theorem d_M_covers_14 : decode b_M_covers 14 = .ok (.iload_n 2, 1) := by decide +kernel
theorem d_M_covers_15 : decode b_M_covers 15 = .ok (.sipush (-1024), 3) := by decide +kernel
theorem d_M_covers_18 : decode b_M_covers 18 = .ok (.sipush 2047, 3) := by decide +kernel
theorem d_M_covers_21 : decode b_M_covers 21 = .ok (.invokestatic 35, 3) := by decide +kernel
theorem d_M_covers_24 : decode b_M_covers 24 = .ok (.ifCond .ne 7, 3) := by decide +kernel
theorem d_M_covers_27 : decode b_M_covers 27 = .ok (.iconst 1, 1) := by decide +kernel
theorem d_M_covers_28 : decode b_M_covers 28 = .ok (.goto 4, 3) := by decide +kernel
theorem d_M_covers_31 : decode b_M_covers 31 = .ok (.iconst 0, 1) := by decide +kernel
theorem d_M_covers_32 : decode b_M_covers 32 = .ok (.iconst 0, 1) := by decide +kernel
theorem d_M_covers_33 : decode b_M_covers 33 = .ok (.invokevirtual 41, 3) := by decide +kernel
theorem d_M_covers_36 : decode b_M_covers 36 = .ok (.ifCond .eq 5, 3) := by decide +kernel
theorem d_M_covers_39 : decode b_M_covers 39 = .ok (.iconst 0, 1) := by decide +kernel
theorem d_M_covers_40 : decode b_M_covers 40 = .ok (.ireturn, 1) := by decide +kernel
theorem d_M_covers_41 : decode b_M_covers 41 = .ok (.aload_n 0, 1) := by decide +kernel
theorem d_M_covers_42 : decode b_M_covers 42 = .ok (.iload_n 1, 1) := by decide +kernel
theorem d_M_covers_43 : decode b_M_covers 43 = .ok (.iload_n 2, 1) := by decide +kernel
theorem d_M_covers_44 : decode b_M_covers 44 = .ok (.invokevirtual 74, 3) := by decide +kernel
theorem d_M_covers_47 : decode b_M_covers 47 = .ok (.ireturn, 1) := by decide +kernel
theorem d_M_many_0 : decode b_M_many 0 = .ok (.aload_n 0, 1) := by decide +kernel
theorem d_M_many_1 : decode b_M_many 1 = .ok (.iconst 0, 1) := by decide +kernel
theorem d_M_many_2 : decode b_M_many 2 = .ok (.putfield 32, 3) := by decide +kernel
theorem d_M_many_5 : decode b_M_many 5 = .ok (.iconst 0, 1) := by decide +kernel
theorem d_M_many_6 : decode b_M_many 6 = .ok (.istore_n 1, 1) := by decide +kernel
theorem d_M_many_7 : decode b_M_many 7 = .ok (.iconst 0, 1) := by decide +kernel
theorem d_M_many_8 : decode b_M_many 8 = .ok (.istore_n 2, 1) := by decide +kernel
theorem d_M_many_9 : decode b_M_many 9 = .ok (.iload_n 2, 1) := by decide +kernel
theorem d_M_many_10 : decode b_M_many 10 = .ok (.aload_n 0, 1) := by decide +kernel
theorem d_M_many_11 : decode b_M_many 11 = .ok (.getfield 25, 3) := by decide +kernel
theorem d_M_many_14 : decode b_M_many 14 = .ok (.aload_n 0, 1) := by decide +kernel
theorem d_M_many_15 : decode b_M_many 15 = .ok (.getfield 29, 3) := by decide +kernel
theorem d_M_many_18 : decode b_M_many 18 = .ok (.imul, 1) := by decide +kernel
theorem d_M_many_19 : decode b_M_many 19 = .ok (.if_icmp .ge 46, 3) := by decide +kernel
theorem d_M_many_22 : decode b_M_many 22 = .ok (.iload_n 1, 1) := by decide +kernel
theorem d_M_many_23 : decode b_M_many 23 = .ok (.aload_n 0, 1) := by decide +kernel
theorem d_M_many_24 : decode b_M_many 24 = .ok (.aload_n 0, 1) := by decide +kernel
theorem d_M_many_25 : decode b_M_many 25 = .ok (.getfield 49, 3) := by decide +kernel
theorem d_M_many_28 : decode b_M_many 28 = .ok (.iload_n 2, 1) := by decide +kernel
theorem d_M_many_29 : decode b_M_many 29 = .ok (.aload_n 0, 1) := by decide +kernel
theorem d_M_many_30 : decode b_M_many 30 = .ok (.getfield 25, 3) := by decide +kernel
theorem d_M_many_33 : decode b_M_many 33 = .ok (.irem, 1) := by decide +kernel
theorem d_M_many_34 : decode b_M_many 34 = .ok (.iadd, 1) := by decide +kernel
theorem d_M_many_35 : decode b_M_many 35 = .ok (.aload_n 0, 1) := by decide +kernel
theorem d_M_many_36 : decode b_M_many 36 = .ok (.getfield 52, 3) := by decide +kernel
theorem d_M_many_39 : decode b_M_many 39 = .ok (.iload_n 2, 1) := by decide +kernel
theorem d_M_many_40 : decode b_M_many 40 = .ok (.aload_n 0, 1) := by decide +kernel
theorem d_M_many_41 : decode b_M_many 41 = .ok (.getfield 25, 3) := by decide +kernel
theorem d_M_many_44 : decode b_M_many 44 = .ok (.idiv, 1) := by decide +kernel
theorem d_M_many_45 : decode b_M_many 45 = .ok (.iadd, 1) := by decide +kernel
theorem d_M_many_46 : decode b_M_many 46 = .ok (.invokevirtual 74, 3) := by decide +kernel
theorem d_M_many_49 : decode b_M_many 49 = .ok (.ifCond .eq 7, 3) := by decide +kernel
theorem d_M_many_52 : decode b_M_many 52 = .ok (.iconst 1, 1) := by decide +kernel
theorem d_M_many_53 : decode b_M_many 53 = .ok (.goto 4, 3) := by decide +kernel
theorem d_M_many_56 : decode b_M_many 56 = .ok (.iconst 0, 1) := by decide +kernel
theorem d_M_many_57 : decode b_M_many 57 = .ok (.iadd, 1) := by decide +kernel
theorem d_M_many_58 : decode b_M_many 58 = .ok (.istore_n 1, 1) := by decide +kernel
theorem d_M_many_59 : decode b_M_many 59 = .ok (.iinc 2 1, 3) := by decide +kernel
theorem d_M_many_62 : decode b_M_many 62 = .ok (.goto (-53), 3) := by decide +kernel
theorem d_M_many_65 : decode b_M_many 65 = .ok (.iload_n 1, 1) := by decide +kernel
theorem d_M_many_66 : decode b_M_many 66 = .ok (.ireturn, 1) := by decide +kernel
theorem d_M_walk_0 : decode b_M_walk 0 = .ok (.aload_n 0, 1) := by decide +kernel
theorem d_M_walk_1 : decode b_M_walk 1 = .ok (.iconst 0, 1) := by decide +kernel
theorem d_M_walk_2 : decode b_M_walk 2 = .ok (.putfield 32, 3) := by decide +kernel
theorem d_M_walk_5 : decode b_M_walk 5 = .ok (.aload_n 0, 1) := by decide +kernel
theorem d_M_walk_6 : decode b_M_walk 6 = .ok (.iconst 1, 1) := by decide +kernel
theorem d_M_walk_7 : decode b_M_walk 7 = .ok (.putfield 45, 3) := by decide +kernel
theorem d_M_walk_10 : decode b_M_walk 10 = .ok (.aload_n 0, 1) := by decide +kernel
theorem d_M_walk_11 : decode b_M_walk 11 = .ok (.iconst 0, 1) := by decide +kernel
theorem d_M_walk_12 : decode b_M_walk 12 = .ok (.putfield 78, 3) := by decide +kernel
theorem d_M_walk_15 : decode b_M_walk 15 = .ok (.aload_n 0, 1) := by decide +kernel
theorem d_M_walk_16 : decode b_M_walk 16 = .ok (.iconst 0, 1) := by decide +kernel
theorem d_M_walk_17 : decode b_M_walk 17 = .ok (.putfield 81, 3) := by decide +kernel
theorem d_M_walk_20 : decode b_M_walk 20 = .ok (.return_, 1) := by decide +kernel
theorem d_M_next_0 : decode b_M_next 0 = .ok (.aload_n 0, 1) := by decide +kernel
theorem d_M_next_1 : decode b_M_next 1 = .ok (.aload_n 0, 1) := by decide +kernel
theorem d_M_next_2 : decode b_M_next 2 = .ok (.getfield 45, 3) := by decide +kernel
theorem d_M_next_5 : decode b_M_next 5 = .ok (.ifCond .ne 7, 3) := by decide +kernel
theorem d_M_next_8 : decode b_M_next 8 = .ok (.iconst 1, 1) := by decide +kernel
theorem d_M_next_9 : decode b_M_next 9 = .ok (.goto 4, 3) := by decide +kernel
theorem d_M_next_12 : decode b_M_next 12 = .ok (.iconst 0, 1) := by decide +kernel
theorem d_M_next_13 : decode b_M_next 13 = .ok (.iconst 0, 1) := by decide +kernel
theorem d_M_next_14 : decode b_M_next 14 = .ok (.invokevirtual 41, 3) := by decide +kernel
theorem d_M_next_17 : decode b_M_next 17 = .ok (.ifCond .eq 5, 3) := by decide +kernel
theorem d_M_next_20 : decode b_M_next 20 = .ok (.iconst 0, 1) := by decide +kernel
theorem d_M_next_21 : decode b_M_next 21 = .ok (.ireturn, 1) := by decide +kernel
theorem d_M_next_22 : decode b_M_next 22 = .ok (.aload_n 0, 1) := by decide +kernel
theorem d_M_next_23 : decode b_M_next 23 = .ok (.iconst 0, 1) := by decide +kernel
theorem d_M_next_24 : decode b_M_next 24 = .ok (.putfield 81, 3) := by decide +kernel
theorem d_M_next_27 : decode b_M_next 27 = .ok (.aload_n 0, 1) := by decide +kernel
theorem d_M_next_28 : decode b_M_next 28 = .ok (.getfield 78, 3) := by decide +kernel
theorem d_M_next_31 : decode b_M_next 31 = .ok (.aload_n 0, 1) := by decide +kernel
theorem d_M_next_32 : decode b_M_next 32 = .ok (.getfield 25, 3) := by decide +kernel
theorem d_M_next_35 : decode b_M_next 35 = .ok (.aload_n 0, 1) := by decide +kernel
theorem d_M_next_36 : decode b_M_next 36 = .ok (.getfield 29, 3) := by decide +kernel
theorem d_M_next_39 : decode b_M_next 39 = .ok (.imul, 1) := by decide +kernel
theorem d_M_next_40 : decode b_M_next 40 = .ok (.if_icmp .ge 75, 3) := by decide +kernel
theorem d_M_next_43 : decode b_M_next 43 = .ok (.aload_n 0, 1) := by decide +kernel
theorem d_M_next_44 : decode b_M_next 44 = .ok (.getfield 81, 3) := by decide +kernel
theorem d_M_next_47 : decode b_M_next 47 = .ok (.ifCond .ne 68, 3) := by decide +kernel
theorem d_M_next_50 : decode b_M_next 50 = .ok (.aload_n 0, 1) := by decide +kernel
theorem d_M_next_51 : decode b_M_next 51 = .ok (.aload_n 0, 1) := by decide +kernel
theorem d_M_next_52 : decode b_M_next 52 = .ok (.getfield 49, 3) := by decide +kernel
theorem d_M_next_55 : decode b_M_next 55 = .ok (.aload_n 0, 1) := by decide +kernel
theorem d_M_next_56 : decode b_M_next 56 = .ok (.getfield 78, 3) := by decide +kernel
theorem d_M_next_59 : decode b_M_next 59 = .ok (.aload_n 0, 1) := by decide +kernel
theorem d_M_next_60 : decode b_M_next 60 = .ok (.getfield 25, 3) := by decide +kernel
theorem d_M_next_63 : decode b_M_next 63 = .ok (.irem, 1) := by decide +kernel
theorem d_M_next_64 : decode b_M_next 64 = .ok (.iadd, 1) := by decide +kernel
theorem d_M_next_65 : decode b_M_next 65 = .ok (.putfield 84, 3) := by decide +kernel
theorem d_M_next_68 : decode b_M_next 68 = .ok (.aload_n 0, 1) := by decide +kernel
theorem d_M_next_69 : decode b_M_next 69 = .ok (.aload_n 0, 1) := by decide +kernel
theorem d_M_next_70 : decode b_M_next 70 = .ok (.getfield 52, 3) := by decide +kernel
theorem d_M_next_73 : decode b_M_next 73 = .ok (.aload_n 0, 1) := by decide +kernel
theorem d_M_next_74 : decode b_M_next 74 = .ok (.getfield 78, 3) := by decide +kernel
theorem d_M_next_77 : decode b_M_next 77 = .ok (.aload_n 0, 1) := by decide +kernel
theorem d_M_next_78 : decode b_M_next 78 = .ok (.getfield 25, 3) := by decide +kernel
theorem d_M_next_81 : decode b_M_next 81 = .ok (.idiv, 1) := by decide +kernel
theorem d_M_next_82 : decode b_M_next 82 = .ok (.iadd, 1) := by decide +kernel
theorem d_M_next_83 : decode b_M_next 83 = .ok (.putfield 87, 3) := by decide +kernel
theorem d_M_next_86 : decode b_M_next 86 = .ok (.aload_n 0, 1) := by decide +kernel
theorem d_M_next_87 : decode b_M_next 87 = .ok (.aload_n 0, 1) := by decide +kernel
theorem d_M_next_88 : decode b_M_next 88 = .ok (.aload_n 0, 1) := by decide +kernel
theorem d_M_next_89 : decode b_M_next 89 = .ok (.getfield 84, 3) := by decide +kernel
theorem d_M_next_92 : decode b_M_next 92 = .ok (.aload_n 0, 1) := by decide +kernel
theorem d_M_next_93 : decode b_M_next 93 = .ok (.getfield 87, 3) := by decide +kernel
theorem d_M_next_96 : decode b_M_next 96 = .ok (.invokevirtual 74, 3) := by decide +kernel
theorem d_M_next_99 : decode b_M_next 99 = .ok (.putfield 81, 3) := by decide +kernel
theorem d_M_next_102 : decode b_M_next 102 = .ok (.aload_n 0, 1) := by decide +kernel
theorem d_M_next_103 : decode b_M_next 103 = .ok (.dup, 1) := by decide +kernel
theorem d_M_next_104 : decode b_M_next 104 = .ok (.getfield 78, 3) := by decide +kernel
theorem d_M_next_107 : decode b_M_next 107 = .ok (.iconst 1, 1) := by decide +kernel
theorem d_M_next_108 : decode b_M_next 108 = .ok (.iadd, 1) := by decide +kernel
theorem d_M_next_109 : decode b_M_next 109 = .ok (.putfield 78, 3) := by decide +kernel
theorem d_M_next_112 : decode b_M_next 112 = .ok (.goto (-85), 3) := by decide +kernel
theorem d_M_next_115 : decode b_M_next 115 = .ok (.aload_n 0, 1) := by decide +kernel
theorem d_M_next_116 : decode b_M_next 116 = .ok (.getfield 81, 3) := by decide +kernel
theorem d_M_next_119 : decode b_M_next 119 = .ok (.ifCond .eq 18, 3) := by decide +kernel
theorem d_M_next_122 : decode b_M_next 122 = .ok (.ldc 90, 2) := by decide +kernel
theorem d_M_next_124 : decode b_M_next 124 = .ok (.aload_n 0, 1) := by decide +kernel
theorem d_M_next_125 : decode b_M_next 125 = .ok (.getfield 87, 3) := by decide +kernel
theorem d_M_next_128 : decode b_M_next 128 = .ok (.imul, 1) := by decide +kernel
theorem d_M_next_129 : decode b_M_next 129 = .ok (.aload_n 0, 1) := by decide +kernel
theorem d_M_next_130 : decode b_M_next 130 = .ok (.getfield 84, 3) := by decide +kernel
theorem d_M_next_133 : decode b_M_next 133 = .ok (.iadd, 1) := by decide +kernel
theorem d_M_next_134 : decode b_M_next 134 = .ok (.goto 4, 3) := by decide +kernel
theorem d_M_next_137 : decode b_M_next 137 = .ok (.iconst (-1), 1) := by decide +kernel
theorem d_M_next_138 : decode b_M_next 138 = .ok (.ireturn, 1) := by decide +kernel
theorem d_M_weight_0 : decode b_M_weight 0 = .ok (.aload_n 0, 1) := by decide +kernel
theorem d_M_weight_1 : decode b_M_weight 1 = .ok (.iload_n 1, 1) := by decide +kernel
theorem d_M_weight_2 : decode b_M_weight 2 = .ok (.iconst 0, 1) := by decide +kernel
theorem d_M_weight_3 : decode b_M_weight 3 = .ok (.iconst 2, 1) := by decide +kernel
theorem d_M_weight_4 : decode b_M_weight 4 = .ok (.invokestatic 35, 3) := by decide +kernel
theorem d_M_weight_7 : decode b_M_weight 7 = .ok (.ifCond .ne 7, 3) := by decide +kernel
theorem d_M_weight_10 : decode b_M_weight 10 = .ok (.iconst 1, 1) := by decide +kernel
theorem d_M_weight_11 : decode b_M_weight 11 = .ok (.goto 4, 3) := by decide +kernel
theorem d_M_weight_14 : decode b_M_weight 14 = .ok (.iconst 0, 1) := by decide +kernel
theorem d_M_weight_15 : decode b_M_weight 15 = .ok (.aload_n 0, 1) := by decide +kernel
theorem d_M_weight_16 : decode b_M_weight 16 = .ok (.getfield 45, 3) := by decide +kernel
theorem d_M_weight_19 : decode b_M_weight 19 = .ok (.ifCond .eq 10, 3) := by decide +kernel
theorem d_M_weight_22 : decode b_M_weight 22 = .ok (.aload_n 0, 1) := by decide +kernel
theorem d_M_weight_23 : decode b_M_weight 23 = .ok (.getfield 81, 3) := by decide +kernel
theorem d_M_weight_26 : decode b_M_weight 26 = .ok (.ifCond .ne 7, 3) := by decide +kernel
theorem d_M_weight_29 : decode b_M_weight 29 = .ok (.iconst 1, 1) := by decide +kernel
theorem d_M_weight_30 : decode b_M_weight 30 = .ok (.goto 4, 3) := by decide +kernel
theorem d_M_weight_33 : decode b_M_weight 33 = .ok (.iconst 0, 1) := by decide +kernel
theorem d_M_weight_34 : decode b_M_weight 34 = .ok (.invokevirtual 41, 3) := by decide +kernel
theorem d_M_weight_37 : decode b_M_weight 37 = .ok (.ifCond .eq 5, 3) := by decide +kernel
theorem d_M_weight_40 : decode b_M_weight 40 = .ok (.lconst 0, 1) := by decide +kernel
theorem d_M_weight_41 : decode b_M_weight 41 = .ok (.lreturn, 1) := by decide +kernel
theorem d_M_weight_42 : decode b_M_weight 42 = .ok (.aload_n 0, 1) := by decide +kernel
theorem d_M_weight_43 : decode b_M_weight 43 = .ok (.iload_n 1, 1) := by decide +kernel
theorem d_M_weight_44 : decode b_M_weight 44 = .ok (.aload_n 0, 1) := by decide +kernel
theorem d_M_weight_45 : decode b_M_weight 45 = .ok (.getfield 84, 3) := by decide +kernel
theorem d_M_weight_48 : decode b_M_weight 48 = .ok (.aload_n 0, 1) := by decide +kernel
theorem d_M_weight_49 : decode b_M_weight 49 = .ok (.getfield 87, 3) := by decide +kernel
theorem d_M_weight_52 : decode b_M_weight 52 = .ok (.invokevirtual 70, 3) := by decide +kernel
theorem d_M_weight_55 : decode b_M_weight 55 = .ok (.lreturn, 1) := by decide +kernel
theorem d_M_down_0 : decode b_M_down 0 = .ok (.lload_n 0, 1) := by decide +kernel
theorem d_M_down_1 : decode b_M_down 1 = .ok (.lload_n 2, 1) := by decide +kernel
theorem d_M_down_2 : decode b_M_down 2 = .ok (.ldiv, 1) := by decide +kernel
theorem d_M_down_3 : decode b_M_down 3 = .ok (.lload_n 0, 1) := by decide +kernel
theorem d_M_down_4 : decode b_M_down 4 = .ok (.lload_n 2, 1) := by decide +kernel
theorem d_M_down_5 : decode b_M_down 5 = .ok (.lrem, 1) := by decide +kernel
theorem d_M_down_6 : decode b_M_down 6 = .ok (.lconst 0, 1) := by decide +kernel
theorem d_M_down_7 : decode b_M_down 7 = .ok (.lcmp, 1) := by decide +kernel
theorem d_M_down_8 : decode b_M_down 8 = .ok (.ifCond .eq 13, 3) := by decide +kernel
theorem d_M_down_11 : decode b_M_down 11 = .ok (.lload_n 0, 1) := by decide +kernel
theorem d_M_down_12 : decode b_M_down 12 = .ok (.lconst 0, 1) := by decide +kernel
theorem d_M_down_13 : decode b_M_down 13 = .ok (.lcmp, 1) := by decide +kernel
theorem d_M_down_14 : decode b_M_down 14 = .ok (.ifCond .ge 7, 3) := by decide +kernel
theorem d_M_down_17 : decode b_M_down 17 = .ok (.lconst 1, 1) := by decide +kernel
theorem d_M_down_18 : decode b_M_down 18 = .ok (.goto 4, 3) := by decide +kernel
theorem d_M_down_21 : decode b_M_down 21 = .ok (.lconst 0, 1) := by decide +kernel
theorem d_M_down_22 : decode b_M_down 22 = .ok (.lsub, 1) := by decide +kernel
theorem d_M_down_23 : decode b_M_down 23 = .ok (.lreturn, 1) := by decide +kernel
theorem d_M_depth_0 : decode b_M_depth 0 = .ok (.aload_n 0, 1) := by decide +kernel
theorem d_M_depth_1 : decode b_M_depth 1 = .ok (.aload_n 0, 1) := by decide +kernel
theorem d_M_depth_2 : decode b_M_depth 2 = .ok (.getfield 45, 3) := by decide +kernel
theorem d_M_depth_5 : decode b_M_depth 5 = .ok (.ifCond .eq 10, 3) := by decide +kernel
theorem d_M_depth_8 : decode b_M_depth 8 = .ok (.aload_n 0, 1) := by decide +kernel
theorem d_M_depth_9 : decode b_M_depth 9 = .ok (.getfield 81, 3) := by decide +kernel
theorem d_M_depth_12 : decode b_M_depth 12 = .ok (.ifCond .ne 7, 3) := by decide +kernel
theorem d_M_depth_15 : decode b_M_depth 15 = .ok (.iconst 1, 1) := by decide +kernel
theorem d_M_depth_16 : decode b_M_depth 16 = .ok (.goto 4, 3) := by decide +kernel
theorem d_M_depth_19 : decode b_M_depth 19 = .ok (.iconst 0, 1) := by decide +kernel
theorem d_M_depth_20 : decode b_M_depth 20 = .ok (.iconst 0, 1) := by decide +kernel
theorem d_M_depth_21 : decode b_M_depth 21 = .ok (.invokevirtual 41, 3) := by decide +kernel
theorem d_M_depth_24 : decode b_M_depth 24 = .ok (.ifCond .eq 5, 3) := by decide +kernel
theorem d_M_depth_27 : decode b_M_depth 27 = .ok (.iconst 0, 1) := by decide +kernel
theorem d_M_depth_28 : decode b_M_depth 28 = .ok (.ireturn, 1) := by decide +kernel
theorem d_M_depth_29 : decode b_M_depth 29 = .ok (.lconst 0, 1) := by decide +kernel
theorem d_M_depth_30 : decode b_M_depth 30 = .ok (.lstore_n 1, 1) := by decide +kernel
theorem d_M_depth_31 : decode b_M_depth 31 = .ok (.iconst 0, 1) := by decide +kernel
theorem d_M_depth_32 : decode b_M_depth 32 = .ok (.istore_n 3, 1) := by decide +kernel
theorem d_M_depth_33 : decode b_M_depth 33 = .ok (.iload_n 3, 1) := by decide +kernel
theorem d_M_depth_34 : decode b_M_depth 34 = .ok (.iconst 3, 1) := by decide +kernel
theorem d_M_depth_35 : decode b_M_depth 35 = .ok (.if_icmp .ge 33, 3) := by decide +kernel
theorem d_M_depth_38 : decode b_M_depth 38 = .ok (.lload_n 1, 1) := by decide +kernel
theorem d_M_depth_39 : decode b_M_depth 39 = .ok (.aload_n 0, 1) := by decide +kernel
theorem d_M_depth_40 : decode b_M_depth 40 = .ok (.iload_n 3, 1) := by decide +kernel
theorem d_M_depth_41 : decode b_M_depth 41 = .ok (.aload_n 0, 1) := by decide +kernel
theorem d_M_depth_42 : decode b_M_depth 42 = .ok (.getfield 84, 3) := by decide +kernel
theorem d_M_depth_45 : decode b_M_depth 45 = .ok (.aload_n 0, 1) := by decide +kernel
theorem d_M_depth_46 : decode b_M_depth 46 = .ok (.getfield 87, 3) := by decide +kernel
theorem d_M_depth_49 : decode b_M_depth 49 = .ok (.invokevirtual 70, 3) := by decide +kernel
theorem d_M_depth_52 : decode b_M_depth 52 = .ok (.aload_n 0, 1) := by decide +kernel
theorem d_M_depth_53 : decode b_M_depth 53 = .ok (.getfield 16, 3) := by decide +kernel
theorem d_M_depth_56 : decode b_M_depth 56 = .ok (.iload_n 3, 1) := by decide +kernel
theorem d_M_depth_57 : decode b_M_depth 57 = .ok (.iaload, 1) := by decide +kernel
theorem d_M_depth_58 : decode b_M_depth 58 = .ok (.i2l, 1) := by decide +kernel
theorem d_M_depth_59 : decode b_M_depth 59 = .ok (.lmul, 1) := by decide +kernel
theorem d_M_depth_60 : decode b_M_depth 60 = .ok (.ladd, 1) := by decide +kernel
theorem d_M_depth_61 : decode b_M_depth 61 = .ok (.lstore_n 1, 1) := by decide +kernel
theorem d_M_depth_62 : decode b_M_depth 62 = .ok (.iinc 3 1, 3) := by decide +kernel
theorem d_M_depth_65 : decode b_M_depth 65 = .ok (.goto (-32), 3) := by decide +kernel
theorem d_M_depth_68 : decode b_M_depth 68 = .ok (.aload_n 0, 1) := by decide +kernel
theorem d_M_depth_69 : decode b_M_depth 69 = .ok (.invokevirtual 59, 3) := by decide +kernel
theorem d_M_depth_72 : decode b_M_depth 72 = .ok (.lconst 0, 1) := by decide +kernel
theorem d_M_depth_73 : decode b_M_depth 73 = .ok (.lcmp, 1) := by decide +kernel
theorem d_M_depth_74 : decode b_M_depth 74 = .ok (.ifCond .ge 11, 3) := by decide +kernel
theorem d_M_depth_77 : decode b_M_depth 77 = .ok (.aload_n 0, 1) := by decide +kernel
theorem d_M_depth_78 : decode b_M_depth 78 = .ok (.invokevirtual 59, 3) := by decide +kernel
theorem d_M_depth_81 : decode b_M_depth 81 = .ok (.lneg, 1) := by decide +kernel
theorem d_M_depth_82 : decode b_M_depth 82 = .ok (.goto 7, 3) := by decide +kernel
theorem d_M_depth_85 : decode b_M_depth 85 = .ok (.aload_n 0, 1) := by decide +kernel
theorem d_M_depth_86 : decode b_M_depth 86 = .ok (.invokevirtual 59, 3) := by decide +kernel
theorem d_M_depth_89 : decode b_M_depth 89 = .ok (.lstore_n 3, 1) := by decide +kernel
theorem d_M_depth_90 : decode b_M_depth 90 = .ok (.lload_n 1, 1) := by decide +kernel
theorem d_M_depth_91 : decode b_M_depth 91 = .ok (.lload_n 3, 1) := by decide +kernel
theorem d_M_depth_92 : decode b_M_depth 92 = .ok (.invokestatic 91, 3) := by decide +kernel
theorem d_M_depth_95 : decode b_M_depth 95 = .ok (.l2i, 1) := by decide +kernel
theorem d_M_depth_96 : decode b_M_depth 96 = .ok (.ireturn, 1) := by decide +kernel
theorem d_M_at_0 : decode b_M_at 0 = .ok (.aload_n 0, 1) := by decide +kernel
theorem d_M_at_1 : decode b_M_at 1 = .ok (.iload_n 1, 1) := by decide +kernel
theorem d_M_at_2 : decode b_M_at 2 = .ok (.iconst 0, 1) := by decide +kernel
theorem d_M_at_3 : decode b_M_at 3 = .ok (.bipush 27, 2) := by decide +kernel
theorem d_M_at_5 : decode b_M_at 5 = .ok (.invokestatic 35, 3) := by decide +kernel
theorem d_M_at_8 : decode b_M_at 8 = .ok (.ifCond .ne 7, 3) := by decide +kernel
theorem d_M_at_11 : decode b_M_at 11 = .ok (.iconst 1, 1) := by decide +kernel
theorem d_M_at_12 : decode b_M_at 12 = .ok (.goto 4, 3) := by decide +kernel
theorem d_M_at_15 : decode b_M_at 15 = .ok (.iconst 0, 1) := by decide +kernel
theorem d_M_at_16 : decode b_M_at 16 = .ok (.aload_n 0, 1) := by decide +kernel
theorem d_M_at_17 : decode b_M_at 17 = .ok (.getfield 45, 3) := by decide +kernel
theorem d_M_at_20 : decode b_M_at 20 = .ok (.ifCond .eq 10, 3) := by decide +kernel
theorem d_M_at_23 : decode b_M_at 23 = .ok (.aload_n 0, 1) := by decide +kernel
theorem d_M_at_24 : decode b_M_at 24 = .ok (.getfield 81, 3) := by decide +kernel
theorem d_M_at_27 : decode b_M_at 27 = .ok (.ifCond .ne 7, 3) := by decide +kernel
theorem d_M_at_30 : decode b_M_at 30 = .ok (.iconst 1, 1) := by decide +kernel
theorem d_M_at_31 : decode b_M_at 31 = .ok (.goto 4, 3) := by decide +kernel
theorem d_M_at_34 : decode b_M_at 34 = .ok (.iconst 0, 1) := by decide +kernel
theorem d_M_at_35 : decode b_M_at 35 = .ok (.invokevirtual 41, 3) := by decide +kernel
theorem d_M_at_38 : decode b_M_at 38 = .ok (.ifCond .eq 5, 3) := by decide +kernel
theorem d_M_at_41 : decode b_M_at 41 = .ok (.iconst 0, 1) := by decide +kernel
theorem d_M_at_42 : decode b_M_at 42 = .ok (.ireturn, 1) := by decide +kernel
theorem d_M_at_43 : decode b_M_at 43 = .ok (.iconst 0, 1) := by decide +kernel
theorem d_M_at_44 : decode b_M_at 44 = .ok (.istore_n 2, 1) := by decide +kernel
theorem d_M_at_45 : decode b_M_at 45 = .ok (.iconst 0, 1) := by decide +kernel
theorem d_M_at_46 : decode b_M_at 46 = .ok (.istore_n 3, 1) := by decide +kernel
theorem d_M_at_47 : decode b_M_at 47 = .ok (.iload_n 3, 1) := by decide +kernel
theorem d_M_at_48 : decode b_M_at 48 = .ok (.iconst 3, 1) := by decide +kernel
theorem d_M_at_49 : decode b_M_at 49 = .ok (.if_icmp .ge 45, 3) := by decide +kernel
theorem d_M_at_52 : decode b_M_at 52 = .ok (.aload_n 0, 1) := by decide +kernel
theorem d_M_at_53 : decode b_M_at 53 = .ok (.iload_n 3, 1) := by decide +kernel
theorem d_M_at_54 : decode b_M_at 54 = .ok (.aload_n 0, 1) := by decide +kernel
theorem d_M_at_55 : decode b_M_at 55 = .ok (.getfield 84, 3) := by decide +kernel
theorem d_M_at_58 : decode b_M_at 58 = .ok (.aload_n 0, 1) := by decide +kernel
theorem d_M_at_59 : decode b_M_at 59 = .ok (.getfield 87, 3) := by decide +kernel
theorem d_M_at_62 : decode b_M_at 62 = .ok (.invokevirtual 70, 3) := by decide +kernel
theorem d_M_at_65 : decode b_M_at 65 = .ok (.aload_n 0, 1) := by decide +kernel
theorem d_M_at_66 : decode b_M_at 66 = .ok (.getfield 19, 3) := by decide +kernel
theorem d_M_at_69 : decode b_M_at 69 = .ok (.iload_n 3, 1) := by decide +kernel
theorem d_M_at_70 : decode b_M_at 70 = .ok (.iaload, 1) := by decide +kernel
theorem d_M_at_71 : decode b_M_at 71 = .ok (.i2l, 1) := by decide +kernel
theorem d_M_at_72 : decode b_M_at 72 = .ok (.lmul, 1) := by decide +kernel
theorem d_M_at_73 : decode b_M_at 73 = .ok (.iload_n 2, 1) := by decide +kernel
theorem d_M_at_74 : decode b_M_at 74 = .ok (.lshr, 1) := by decide +kernel
theorem d_M_at_75 : decode b_M_at 75 = .ok (.ldc2_w 95, 3) := by decide +kernel
theorem d_M_at_78 : decode b_M_at 78 = .ok (.lcmp, 1) := by decide +kernel
theorem d_M_at_79 : decode b_M_at 79 = .ok (.ifCond .lt 9, 3) := by decide +kernel
theorem d_M_at_82 : decode b_M_at 82 = .ok (.iinc 2 1, 3) := by decide +kernel
theorem d_M_at_85 : decode b_M_at 85 = .ok (.goto (-33), 3) := by decide +kernel
theorem d_M_at_88 : decode b_M_at 88 = .ok (.iinc 3 1, 3) := by decide +kernel
theorem d_M_at_91 : decode b_M_at 91 = .ok (.goto (-44), 3) := by decide +kernel
theorem d_M_at_94 : decode b_M_at 94 = .ok (.lconst 0, 1) := by decide +kernel
theorem d_M_at_95 : decode b_M_at 95 = .ok (.lstore_n 3, 1) := by decide +kernel
theorem d_M_at_96 : decode b_M_at 96 = .ok (.lconst 0, 1) := by decide +kernel
theorem d_M_at_97 : decode b_M_at 97 = .ok (.lstore 5, 2) := by decide +kernel
theorem d_M_at_99 : decode b_M_at 99 = .ok (.iconst 0, 1) := by decide +kernel
theorem d_M_at_100 : decode b_M_at 100 = .ok (.istore 7, 2) := by decide +kernel
theorem d_M_at_102 : decode b_M_at 102 = .ok (.iload 7, 2) := by decide +kernel
theorem d_M_at_104 : decode b_M_at 104 = .ok (.iconst 3, 1) := by decide +kernel
theorem d_M_at_105 : decode b_M_at 105 = .ok (.if_icmp .ge 62, 3) := by decide +kernel
theorem d_M_at_108 : decode b_M_at 108 = .ok (.aload_n 0, 1) := by decide +kernel
theorem d_M_at_109 : decode b_M_at 109 = .ok (.iload 7, 2) := by decide +kernel
theorem d_M_at_111 : decode b_M_at 111 = .ok (.aload_n 0, 1) := by decide +kernel
theorem d_M_at_112 : decode b_M_at 112 = .ok (.getfield 84, 3) := by decide +kernel
theorem d_M_at_115 : decode b_M_at 115 = .ok (.aload_n 0, 1) := by decide +kernel
theorem d_M_at_116 : decode b_M_at 116 = .ok (.getfield 87, 3) := by decide +kernel
theorem d_M_at_119 : decode b_M_at 119 = .ok (.invokevirtual 70, 3) := by decide +kernel
theorem d_M_at_122 : decode b_M_at 122 = .ok (.aload_n 0, 1) := by decide +kernel
theorem d_M_at_123 : decode b_M_at 123 = .ok (.getfield 19, 3) := by decide +kernel
theorem d_M_at_126 : decode b_M_at 126 = .ok (.iload 7, 2) := by decide +kernel
theorem d_M_at_128 : decode b_M_at 128 = .ok (.iaload, 1) := by decide +kernel
theorem d_M_at_129 : decode b_M_at 129 = .ok (.i2l, 1) := by decide +kernel
theorem d_M_at_130 : decode b_M_at 130 = .ok (.lmul, 1) := by decide +kernel
theorem d_M_at_131 : decode b_M_at 131 = .ok (.iload_n 2, 1) := by decide +kernel
theorem d_M_at_132 : decode b_M_at 132 = .ok (.lshr, 1) := by decide +kernel
theorem d_M_at_133 : decode b_M_at 133 = .ok (.lstore 8, 2) := by decide +kernel
theorem d_M_at_135 : decode b_M_at 135 = .ok (.lload_n 3, 1) := by decide +kernel
theorem d_M_at_136 : decode b_M_at 136 = .ok (.lload 8, 2) := by decide +kernel
theorem d_M_at_138 : decode b_M_at 138 = .ok (.aload_n 0, 1) := by decide +kernel
theorem d_M_at_139 : decode b_M_at 139 = .ok (.getfield 22, 3) := by decide +kernel
theorem d_M_at_142 : decode b_M_at 142 = .ok (.bipush 28, 2) := by decide +kernel
theorem d_M_at_144 : decode b_M_at 144 = .ok (.iload 7, 2) := by decide +kernel
theorem d_M_at_146 : decode b_M_at 146 = .ok (.imul, 1) := by decide +kernel
theorem d_M_at_147 : decode b_M_at 147 = .ok (.iload_n 1, 1) := by decide +kernel
theorem d_M_at_148 : decode b_M_at 148 = .ok (.iadd, 1) := by decide +kernel
theorem d_M_at_149 : decode b_M_at 149 = .ok (.iaload, 1) := by decide +kernel
theorem d_M_at_150 : decode b_M_at 150 = .ok (.i2l, 1) := by decide +kernel
theorem d_M_at_151 : decode b_M_at 151 = .ok (.lmul, 1) := by decide +kernel
theorem d_M_at_152 : decode b_M_at 152 = .ok (.ladd, 1) := by decide +kernel
theorem d_M_at_153 : decode b_M_at 153 = .ok (.lstore_n 3, 1) := by decide +kernel
theorem d_M_at_154 : decode b_M_at 154 = .ok (.lload 5, 2) := by decide +kernel
theorem d_M_at_156 : decode b_M_at 156 = .ok (.lload 8, 2) := by decide +kernel
theorem d_M_at_158 : decode b_M_at 158 = .ok (.ladd, 1) := by decide +kernel
theorem d_M_at_159 : decode b_M_at 159 = .ok (.lstore 5, 2) := by decide +kernel
theorem d_M_at_161 : decode b_M_at 161 = .ok (.iinc 7 1, 3) := by decide +kernel
theorem d_M_at_164 : decode b_M_at 164 = .ok (.goto (-62), 3) := by decide +kernel
theorem d_M_at_167 : decode b_M_at 167 = .ok (.lload_n 3, 1) := by decide +kernel
theorem d_M_at_168 : decode b_M_at 168 = .ok (.lload 5, 2) := by decide +kernel
theorem d_M_at_170 : decode b_M_at 170 = .ok (.invokestatic 91, 3) := by decide +kernel
theorem d_M_at_173 : decode b_M_at 173 = .ok (.l2i, 1) := by decide +kernel
theorem d_M_at_174 : decode b_M_at 174 = .ok (.ireturn, 1) := by decide +kernel
