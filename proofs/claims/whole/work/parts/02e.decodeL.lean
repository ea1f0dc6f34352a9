theorem d_L_corner_0 : decode b_L_corner 0 = .ok (.aload_n 0, 1) := by decide +kernel
theorem d_L_corner_1 : decode b_L_corner 1 = .ok (.iload_n 1, 1) := by decide +kernel
theorem d_L_corner_2 : decode b_L_corner 2 = .ok (.iload_n 2, 1) := by decide +kernel
theorem d_L_corner_3 : decode b_L_corner 3 = .ok (.iload_n 3, 1) := by decide +kernel
theorem d_L_corner_4 : decode b_L_corner 4 = .ok (.iload 4, 2) := by decide +kernel
theorem d_L_corner_6 : decode b_L_corner 6 = .ok (.iload 5, 2) := by decide +kernel
theorem d_L_corner_8 : decode b_L_corner 8 = .ok (.invokevirtual 7, 3) := by decide +kernel
theorem d_L_corner_11 : decode b_L_corner 11 = .ok (.goto 7, 3) := by decide +kernel
theorem d_L_corner_14 : decode b_L_corner 14 = .ok (.astore 6, 2) := by decide +kernel
theorem d_L_corner_16 : decode b_L_corner 16 = .ok (.iconst 1, 1) := by decide +kernel
theorem d_L_corner_17 : decode b_L_corner 17 = .ok (.ireturn, 1) := by decide +kernel
theorem d_L_corner_18 : decode b_L_corner 18 = .ok (.iconst 0, 1) := by decide +kernel
theorem d_L_corner_19 : decode b_L_corner 19 = .ok (.ireturn, 1) := by decide +kernel
theorem d_L_value_0 : decode b_L_value 0 = .ok (.aload_n 0, 1) := by decide +kernel
theorem d_L_value_1 : decode b_L_value 1 = .ok (.iload_n 1, 1) := by decide +kernel
theorem d_L_value_2 : decode b_L_value 2 = .ok (.iload_n 2, 1) := by decide +kernel
theorem d_L_value_3 : decode b_L_value 3 = .ok (.iload_n 3, 1) := by decide +kernel
theorem d_L_value_4 : decode b_L_value 4 = .ok (.invokevirtual 15, 3) := by decide +kernel
theorem d_L_value_7 : decode b_L_value 7 = .ok (.goto 7, 3) := by decide +kernel
theorem d_L_value_10 : decode b_L_value 10 = .ok (.astore 4, 2) := by decide +kernel
theorem d_L_value_12 : decode b_L_value 12 = .ok (.iconst 1, 1) := by decide +kernel
theorem d_L_value_13 : decode b_L_value 13 = .ok (.ireturn, 1) := by decide +kernel
theorem d_L_value_14 : decode b_L_value 14 = .ok (.iconst 0, 1) := by decide +kernel
theorem d_L_value_15 : decode b_L_value 15 = .ok (.ireturn, 1) := by decide +kernel
theorem d_L_window_0 : decode b_L_window 0 = .ok (.aload_n 0, 1) := by decide +kernel
theorem d_L_window_1 : decode b_L_window 1 = .ok (.iload_n 1, 1) := by decide +kernel
theorem d_L_window_2 : decode b_L_window 2 = .ok (.iload_n 2, 1) := by decide +kernel
theorem d_L_window_3 : decode b_L_window 3 = .ok (.iload_n 3, 1) := by decide +kernel
theorem d_L_window_4 : decode b_L_window 4 = .ok (.iload 4, 2) := by decide +kernel
theorem d_L_window_6 : decode b_L_window 6 = .ok (.invokevirtual 19, 3) := by decide +kernel
theorem d_L_window_9 : decode b_L_window 9 = .ok (.goto 7, 3) := by decide +kernel
theorem d_L_window_12 : decode b_L_window 12 = .ok (.astore 5, 2) := by decide +kernel
theorem d_L_window_14 : decode b_L_window 14 = .ok (.iconst 1, 1) := by decide +kernel
theorem d_L_window_15 : decode b_L_window 15 = .ok (.ireturn, 1) := by decide +kernel
theorem d_L_window_16 : decode b_L_window 16 = .ok (.iconst 0, 1) := by decide +kernel
theorem d_L_window_17 : decode b_L_window 17 = .ok (.ireturn, 1) := by decide +kernel
theorem d_L_covers_0 : decode b_L_covers 0 = .ok (.aload_n 3, 1) := by decide +kernel
theorem d_L_covers_1 : decode b_L_covers 1 = .ok (.iconst 0, 1) := by decide +kernel
theorem d_L_covers_2 : decode b_L_covers 2 = .ok (.aload_n 0, 1) := by decide +kernel
theorem d_L_covers_3 : decode b_L_covers 3 = .ok (.iload_n 1, 1) := by decide +kernel
theorem d_L_covers_4 : decode b_L_covers 4 = .ok (.iload_n 2, 1) := by decide +kernel
theorem d_L_covers_5 : decode b_L_covers 5 = .ok (.invokevirtual 23, 3) := by decide +kernel
theorem d_L_covers_8 : decode b_L_covers 8 = .ok (.ifCond .eq 7, 3) := by decide +kernel
theorem d_L_covers_11 : decode b_L_covers 11 = .ok (.lconst 1, 1) := by decide +kernel
theorem d_L_covers_12 : decode b_L_covers 12 = .ok (.goto 4, 3) := by decide +kernel
theorem d_L_covers_15 : decode b_L_covers 15 = .ok (.lconst 0, 1) := by decide +kernel
theorem d_L_covers_16 : decode b_L_covers 16 = .ok (.lastore, 1) := by decide +kernel
theorem d_L_covers_17 : decode b_L_covers 17 = .ok (.goto 7, 3) := by decide +kernel
theorem d_L_covers_20 : decode b_L_covers 20 = .ok (.astore 4, 2) := by decide +kernel
theorem d_L_covers_22 : decode b_L_covers 22 = .ok (.iconst 1, 1) := by decide +kernel
theorem d_L_covers_23 : decode b_L_covers 23 = .ok (.ireturn, 1) := by decide +kernel
theorem d_L_covers_24 : decode b_L_covers 24 = .ok (.iconst 0, 1) := by decide +kernel
theorem d_L_covers_25 : decode b_L_covers 25 = .ok (.ireturn, 1) := by decide +kernel
theorem d_L_next_0 : decode b_L_next 0 = .ok (.aload_n 1, 1) := by decide +kernel
theorem d_L_next_1 : decode b_L_next 1 = .ok (.iconst 0, 1) := by decide +kernel
theorem d_L_next_2 : decode b_L_next 2 = .ok (.aload_n 0, 1) := by decide +kernel
theorem d_L_next_3 : decode b_L_next 3 = .ok (.invokevirtual 27, 3) := by decide +kernel
theorem d_L_next_6 : decode b_L_next 6 = .ok (.i2l, 1) := by decide +kernel
theorem d_L_next_7 : decode b_L_next 7 = .ok (.lastore, 1) := by decide +kernel
theorem d_L_next_8 : decode b_L_next 8 = .ok (.goto 6, 3) := by decide +kernel
theorem d_L_next_11 : decode b_L_next 11 = .ok (.astore_n 2, 1) := by decide +kernel
theorem d_L_next_12 : decode b_L_next 12 = .ok (.iconst 1, 1) := by decide +kernel
theorem d_L_next_13 : decode b_L_next 13 = .ok (.ireturn, 1) := by decide +kernel
theorem d_L_next_14 : decode b_L_next 14 = .ok (.iconst 0, 1) := by decide +kernel
theorem d_L_next_15 : decode b_L_next 15 = .ok (.ireturn, 1) := by decide +kernel
theorem d_L_weight_0 : decode b_L_weight 0 = .ok (.aload_n 2, 1) := by decide +kernel
theorem d_L_weight_1 : decode b_L_weight 1 = .ok (.iconst 0, 1) := by decide +kernel
theorem d_L_weight_2 : decode b_L_weight 2 = .ok (.aload_n 0, 1) := by decide +kernel
theorem d_L_weight_3 : decode b_L_weight 3 = .ok (.iload_n 1, 1) := by decide +kernel
theorem d_L_weight_4 : decode b_L_weight 4 = .ok (.invokevirtual 33, 3) := by decide +kernel
theorem d_L_weight_7 : decode b_L_weight 7 = .ok (.lastore, 1) := by decide +kernel
theorem d_L_weight_8 : decode b_L_weight 8 = .ok (.goto 9, 3) := by decide +kernel
theorem d_L_weight_11 : decode b_L_weight 11 = .ok (.astore_n 3, 1) := by decide +kernel
theorem d_L_weight_12 : decode b_L_weight 12 = .ok (.iconst 1, 1) := by decide +kernel
theorem d_L_weight_13 : decode b_L_weight 13 = .ok (.ireturn, 1) := by decide +kernel
theorem d_L_weight_14 : decode b_L_weight 14 = .ok (.astore_n 3, 1) := by decide +kernel
theorem d_L_weight_15 : decode b_L_weight 15 = .ok (.iconst 2, 1) := by decide +kernel
theorem d_L_weight_16 : decode b_L_weight 16 = .ok (.ireturn, 1) := by decide +kernel
theorem d_L_weight_17 : decode b_L_weight 17 = .ok (.iconst 0, 1) := by decide +kernel
theorem d_L_weight_18 : decode b_L_weight 18 = .ok (.ireturn, 1) := by decide +kernel
theorem d_L_depth_0 : decode b_L_depth 0 = .ok (.aload_n 1, 1) := by decide +kernel
theorem d_L_depth_1 : decode b_L_depth 1 = .ok (.iconst 0, 1) := by decide +kernel
theorem d_L_depth_2 : decode b_L_depth 2 = .ok (.aload_n 0, 1) := by decide +kernel
theorem d_L_depth_3 : decode b_L_depth 3 = .ok (.invokevirtual 37, 3) := by decide +kernel
theorem d_L_depth_6 : decode b_L_depth 6 = .ok (.i2l, 1) := by decide +kernel
theorem d_L_depth_7 : decode b_L_depth 7 = .ok (.lastore, 1) := by decide +kernel
theorem d_L_depth_8 : decode b_L_depth 8 = .ok (.goto 6, 3) := by decide +kernel
theorem d_L_depth_11 : decode b_L_depth 11 = .ok (.astore_n 2, 1) := by decide +kernel
theorem d_L_depth_12 : decode b_L_depth 12 = .ok (.iconst 1, 1) := by decide +kernel
theorem d_L_depth_13 : decode b_L_depth 13 = .ok (.ireturn, 1) := by decide +kernel
theorem d_L_depth_14 : decode b_L_depth 14 = .ok (.iconst 0, 1) := by decide +kernel
theorem d_L_depth_15 : decode b_L_depth 15 = .ok (.ireturn, 1) := by decide +kernel
theorem d_L_at_0 : decode b_L_at 0 = .ok (.aload_n 2, 1) := by decide +kernel
theorem d_L_at_1 : decode b_L_at 1 = .ok (.iconst 0, 1) := by decide +kernel
theorem d_L_at_2 : decode b_L_at 2 = .ok (.aload_n 0, 1) := by decide +kernel
theorem d_L_at_3 : decode b_L_at 3 = .ok (.iload_n 1, 1) := by decide +kernel
theorem d_L_at_4 : decode b_L_at 4 = .ok (.invokevirtual 40, 3) := by decide +kernel
theorem d_L_at_7 : decode b_L_at 7 = .ok (.i2l, 1) := by decide +kernel
theorem d_L_at_8 : decode b_L_at 8 = .ok (.lastore, 1) := by decide +kernel
theorem d_L_at_9 : decode b_L_at 9 = .ok (.goto 9, 3) := by decide +kernel
theorem d_L_at_12 : decode b_L_at 12 = .ok (.astore_n 3, 1) := by decide +kernel
theorem d_L_at_13 : decode b_L_at 13 = .ok (.iconst 1, 1) := by decide +kernel
theorem d_L_at_14 : decode b_L_at 14 = .ok (.ireturn, 1) := by decide +kernel
theorem d_L_at_15 : decode b_L_at 15 = .ok (.astore_n 3, 1) := by decide +kernel
theorem d_L_at_16 : decode b_L_at 16 = .ok (.iconst 2, 1) := by decide +kernel
theorem d_L_at_17 : decode b_L_at 17 = .ok (.ireturn, 1) := by decide +kernel
theorem d_L_at_18 : decode b_L_at 18 = .ok (.iconst 0, 1) := by decide +kernel
theorem d_L_at_19 : decode b_L_at 19 = .ok (.ireturn, 1) := by decide +kernel
