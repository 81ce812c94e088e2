theorem dX0_init_0 : decode cX0_init 0 = .ok (.aload_n 0, 1) := by decide +kernel
theorem dX0_init_1 : decode cX0_init 1 = .ok (.iload_n 1, 1) := by decide +kernel
theorem dX0_init_2 : decode cX0_init 2 = .ok (.iload_n 2, 1) := by decide +kernel
theorem dX0_init_3 : decode cX0_init 3 = .ok (.iload_n 3, 1) := by decide +kernel
theorem dX0_init_4 : decode cX0_init 4 = .ok (.invokespecial 1, 3) := by decide +kernel
theorem dX0_init_7 : decode cX0_init 7 = .ok (.return_, 1) := by decide +kernel
theorem dX0_markOf_0 : decode cX0_markOf 0 = .ok (.aload_n 0, 1) := by decide +kernel
theorem dX0_markOf_1 : decode cX0_markOf 1 = .ok (.invokevirtual 7, 3) := by decide +kernel
theorem dX0_markOf_4 : decode cX0_markOf 4 = .ok (.bipush 7, 2) := by decide +kernel
theorem dX0_markOf_6 : decode cX0_markOf 6 = .ok (.imul, 1) := by decide +kernel
theorem dX0_markOf_7 : decode cX0_markOf 7 = .ok (.iload_n 1, 1) := by decide +kernel
theorem dX0_markOf_8 : decode cX0_markOf 8 = .ok (.iadd, 1) := by decide +kernel
theorem dX0_markOf_9 : decode cX0_markOf 9 = .ok (.ireturn, 1) := by decide +kernel
theorem dX1_init_0 : decode cX1_init 0 = .ok (.aload_n 0, 1) := by decide +kernel
theorem dX1_init_1 : decode cX1_init 1 = .ok (.iload_n 1, 1) := by decide +kernel
theorem dX1_init_2 : decode cX1_init 2 = .ok (.iload_n 2, 1) := by decide +kernel
theorem dX1_init_3 : decode cX1_init 3 = .ok (.iload_n 3, 1) := by decide +kernel
theorem dX1_init_4 : decode cX1_init 4 = .ok (.invokespecial 1, 3) := by decide +kernel
theorem dX1_init_7 : decode cX1_init 7 = .ok (.return_, 1) := by decide +kernel
theorem dX1_valueOn_0 : decode cX1_valueOn 0 = .ok (.aload_n 0, 1) := by decide +kernel
theorem dX1_valueOn_1 : decode cX1_valueOn 1 = .ok (.iload_n 1, 1) := by decide +kernel
theorem dX1_valueOn_2 : decode cX1_valueOn 2 = .ok (.invokespecial 7, 3) := by decide +kernel
theorem dX1_valueOn_5 : decode cX1_valueOn 5 = .ok (.istore_n 2, 1) := by decide +kernel
theorem dX1_valueOn_6 : decode cX1_valueOn 6 = .ok (.iload_n 1, 1) := by decide +kernel
theorem dX1_valueOn_7 : decode cX1_valueOn 7 = .ok (.bipush 7, 2) := by decide +kernel
theorem dX1_valueOn_9 : decode cX1_valueOn 9 = .ok (.irem, 1) := by decide +kernel
theorem dX1_valueOn_10 : decode cX1_valueOn 10 = .ok (.ifCond .ne 9, 3) := by decide +kernel
theorem dX1_valueOn_13 : decode cX1_valueOn 13 = .ok (.iload_n 2, 1) := by decide +kernel
theorem dX1_valueOn_14 : decode cX1_valueOn 14 = .ok (.iconst 2, 1) := by decide +kernel
theorem dX1_valueOn_15 : decode cX1_valueOn 15 = .ok (.imul, 1) := by decide +kernel
theorem dX1_valueOn_16 : decode cX1_valueOn 16 = .ok (.goto 4, 3) := by decide +kernel
theorem dX1_valueOn_19 : decode cX1_valueOn 19 = .ok (.iload_n 2, 1) := by decide +kernel
theorem dX1_valueOn_20 : decode cX1_valueOn 20 = .ok (.ireturn, 1) := by decide +kernel
theorem dX1_feeOf_0 : decode cX1_feeOf 0 = .ok (.iconst 0, 1) := by decide +kernel
theorem dX1_feeOf_1 : decode cX1_feeOf 1 = .ok (.aload_n 0, 1) := by decide +kernel
theorem dX1_feeOf_2 : decode cX1_feeOf 2 = .ok (.iload_n 1, 1) := by decide +kernel
theorem dX1_feeOf_3 : decode cX1_feeOf 3 = .ok (.invokespecial 11, 3) := by decide +kernel
theorem dX1_feeOf_6 : decode cX1_feeOf 6 = .ok (.aload_n 0, 1) := by decide +kernel
theorem dX1_feeOf_7 : decode cX1_feeOf 7 = .ok (.getfield 14, 3) := by decide +kernel
theorem dX1_feeOf_10 : decode cX1_feeOf 10 = .ok (.isub, 1) := by decide +kernel
theorem dX1_feeOf_11 : decode cX1_feeOf 11 = .ok (.invokestatic 20, 3) := by decide +kernel
theorem dX1_feeOf_14 : decode cX1_feeOf 14 = .ok (.ireturn, 1) := by decide +kernel
theorem dX1_sealNow_0 : decode cX1_sealNow 0 = .ok (.aload_n 0, 1) := by decide +kernel
theorem dX1_sealNow_1 : decode cX1_sealNow 1 = .ok (.invokespecial 26, 3) := by decide +kernel
theorem dX1_sealNow_4 : decode cX1_sealNow 4 = .ok (.iconst 3, 1) := by decide +kernel
theorem dX1_sealNow_5 : decode cX1_sealNow 5 = .ok (.aload_n 0, 1) := by decide +kernel
theorem dX1_sealNow_6 : decode cX1_sealNow 6 = .ok (.getfield 14, 3) := by decide +kernel
theorem dX1_sealNow_9 : decode cX1_sealNow 9 = .ok (.imul, 1) := by decide +kernel
theorem dX1_sealNow_10 : decode cX1_sealNow 10 = .ok (.iadd, 1) := by decide +kernel
theorem dX1_sealNow_11 : decode cX1_sealNow 11 = .ok (.ireturn, 1) := by decide +kernel
theorem dX2_init_0 : decode cX2_init 0 = .ok (.aload_n 0, 1) := by decide +kernel
theorem dX2_init_1 : decode cX2_init 1 = .ok (.iload_n 1, 1) := by decide +kernel
theorem dX2_init_2 : decode cX2_init 2 = .ok (.iload_n 2, 1) := by decide +kernel
theorem dX2_init_3 : decode cX2_init 3 = .ok (.iload_n 3, 1) := by decide +kernel
theorem dX2_init_4 : decode cX2_init 4 = .ok (.invokespecial 1, 3) := by decide +kernel
theorem dX2_init_7 : decode cX2_init 7 = .ok (.return_, 1) := by decide +kernel
theorem dX3_init_0 : decode cX3_init 0 = .ok (.aload_n 0, 1) := by decide +kernel
theorem dX3_init_1 : decode cX3_init 1 = .ok (.iload_n 1, 1) := by decide +kernel
theorem dX3_init_2 : decode cX3_init 2 = .ok (.iload_n 2, 1) := by decide +kernel
theorem dX3_init_3 : decode cX3_init 3 = .ok (.iload_n 3, 1) := by decide +kernel
theorem dX3_init_4 : decode cX3_init 4 = .ok (.invokespecial 1, 3) := by decide +kernel
theorem dX3_init_7 : decode cX3_init 7 = .ok (.aload_n 0, 1) := by decide +kernel
theorem dX3_init_8 : decode cX3_init 8 = .ok (.iconst 0, 1) := by decide +kernel
theorem dX3_init_9 : decode cX3_init 9 = .ok (.putfield 7, 3) := by decide +kernel
theorem dX3_init_12 : decode cX3_init 12 = .ok (.return_, 1) := by decide +kernel
theorem dX3_valueOn_0 : decode cX3_valueOn 0 = .ok (.aload_n 0, 1) := by decide +kernel
theorem dX3_valueOn_1 : decode cX3_valueOn 1 = .ok (.iload_n 1, 1) := by decide +kernel
theorem dX3_valueOn_2 : decode cX3_valueOn 2 = .ok (.invokespecial 13, 3) := by decide +kernel
theorem dX3_valueOn_5 : decode cX3_valueOn 5 = .ok (.aload_n 0, 1) := by decide +kernel
theorem dX3_valueOn_6 : decode cX3_valueOn 6 = .ok (.getfield 7, 3) := by decide +kernel
theorem dX3_valueOn_9 : decode cX3_valueOn 9 = .ok (.iadd, 1) := by decide +kernel
theorem dX3_valueOn_10 : decode cX3_valueOn 10 = .ok (.ireturn, 1) := by decide +kernel
theorem dX3_spendOn_0 : decode cX3_spendOn 0 = .ok (.aload_n 0, 1) := by decide +kernel
theorem dX3_spendOn_1 : decode cX3_spendOn 1 = .ok (.iload_n 1, 1) := by decide +kernel
theorem dX3_spendOn_2 : decode cX3_spendOn 2 = .ok (.iload_n 2, 1) := by decide +kernel
theorem dX3_spendOn_3 : decode cX3_spendOn 3 = .ok (.invokespecial 17, 3) := by decide +kernel
theorem dX3_spendOn_6 : decode cX3_spendOn 6 = .ok (.istore_n 3, 1) := by decide +kernel
theorem dX3_spendOn_7 : decode cX3_spendOn 7 = .ok (.iload_n 3, 1) := by decide +kernel
theorem dX3_spendOn_8 : decode cX3_spendOn 8 = .ok (.ifCond .lt 16, 3) := by decide +kernel
theorem dX3_spendOn_11 : decode cX3_spendOn 11 = .ok (.aload_n 0, 1) := by decide +kernel
theorem dX3_spendOn_12 : decode cX3_spendOn 12 = .ok (.dup, 1) := by decide +kernel
theorem dX3_spendOn_13 : decode cX3_spendOn 13 = .ok (.getfield 7, 3) := by decide +kernel
theorem dX3_spendOn_16 : decode cX3_spendOn 16 = .ok (.iload_n 2, 1) := by decide +kernel
theorem dX3_spendOn_17 : decode cX3_spendOn 17 = .ok (.bipush 100, 2) := by decide +kernel
theorem dX3_spendOn_19 : decode cX3_spendOn 19 = .ok (.idiv, 1) := by decide +kernel
theorem dX3_spendOn_20 : decode cX3_spendOn 20 = .ok (.iadd, 1) := by decide +kernel
theorem dX3_spendOn_21 : decode cX3_spendOn 21 = .ok (.putfield 7, 3) := by decide +kernel
theorem dX3_spendOn_24 : decode cX3_spendOn 24 = .ok (.iload_n 3, 1) := by decide +kernel
theorem dX3_spendOn_25 : decode cX3_spendOn 25 = .ok (.ireturn, 1) := by decide +kernel
theorem dX3_pointsNow_0 : decode cX3_pointsNow 0 = .ok (.aload_n 0, 1) := by decide +kernel
theorem dX3_pointsNow_1 : decode cX3_pointsNow 1 = .ok (.getfield 7, 3) := by decide +kernel
theorem dX3_pointsNow_4 : decode cX3_pointsNow 4 = .ok (.ireturn, 1) := by decide +kernel
theorem dX3_takeIn_0 : decode cX3_takeIn 0 = .ok (.aload_n 0, 1) := by decide +kernel
theorem dX3_takeIn_1 : decode cX3_takeIn 1 = .ok (.aload_n 1, 1) := by decide +kernel
theorem dX3_takeIn_2 : decode cX3_takeIn 2 = .ok (.invokespecial 21, 3) := by decide +kernel
theorem dX3_takeIn_5 : decode cX3_takeIn 5 = .ok (.aload_n 0, 1) := by decide +kernel
theorem dX3_takeIn_6 : decode cX3_takeIn 6 = .ok (.dup, 1) := by decide +kernel
theorem dX3_takeIn_7 : decode cX3_takeIn 7 = .ok (.getfield 7, 3) := by decide +kernel
theorem dX3_takeIn_10 : decode cX3_takeIn 10 = .ok (.aload_n 1, 1) := by decide +kernel
theorem dX3_takeIn_11 : decode cX3_takeIn 11 = .ok (.invokevirtual 25, 3) := by decide +kernel
theorem dX3_takeIn_14 : decode cX3_takeIn 14 = .ok (.iadd, 1) := by decide +kernel
theorem dX3_takeIn_15 : decode cX3_takeIn 15 = .ok (.putfield 7, 3) := by decide +kernel
theorem dX3_takeIn_18 : decode cX3_takeIn 18 = .ok (.return_, 1) := by decide +kernel
theorem dX4_init_0 : decode cX4_init 0 = .ok (.aload_n 0, 1) := by decide +kernel
theorem dX4_init_1 : decode cX4_init 1 = .ok (.invokespecial 3, 3) := by decide +kernel
theorem dX4_init_4 : decode cX4_init 4 = .ok (.aload_n 0, 1) := by decide +kernel
theorem dX4_init_5 : decode cX4_init 5 = .ok (.iload_n 1, 1) := by decide +kernel
theorem dX4_init_6 : decode cX4_init 6 = .ok (.putfield 9, 3) := by decide +kernel
theorem dX4_init_9 : decode cX4_init 9 = .ok (.aload_n 0, 1) := by decide +kernel
theorem dX4_init_10 : decode cX4_init 10 = .ok (.iload_n 3, 1) := by decide +kernel
theorem dX4_init_11 : decode cX4_init 11 = .ok (.putfield 15, 3) := by decide +kernel
theorem dX4_init_14 : decode cX4_init 14 = .ok (.aload_n 0, 1) := by decide +kernel
theorem dX4_init_15 : decode cX4_init 15 = .ok (.iload_n 2, 1) := by decide +kernel
theorem dX4_init_16 : decode cX4_init 16 = .ok (.putfield 18, 3) := by decide +kernel
theorem dX4_init_19 : decode cX4_init 19 = .ok (.aload_n 0, 1) := by decide +kernel
theorem dX4_init_20 : decode cX4_init 20 = .ok (.iload_n 2, 1) := by decide +kernel
theorem dX4_init_21 : decode cX4_init 21 = .ok (.putfield 21, 3) := by decide +kernel
theorem dX4_init_24 : decode cX4_init 24 = .ok (.return_, 1) := by decide +kernel
theorem dX4_valueOn_0 : decode cX4_valueOn 0 = .ok (.aload_n 0, 1) := by decide +kernel
theorem dX4_valueOn_1 : decode cX4_valueOn 1 = .ok (.getfield 21, 3) := by decide +kernel
theorem dX4_valueOn_4 : decode cX4_valueOn 4 = .ok (.ireturn, 1) := by decide +kernel
theorem dX4_feeOf_0 : decode cX4_feeOf 0 = .ok (.iload_n 1, 1) := by decide +kernel
theorem dX4_feeOf_1 : decode cX4_feeOf 1 = .ok (.bipush 50, 2) := by decide +kernel
theorem dX4_feeOf_3 : decode cX4_feeOf 3 = .ok (.idiv, 1) := by decide +kernel
theorem dX4_feeOf_4 : decode cX4_feeOf 4 = .ok (.iconst 1, 1) := by decide +kernel
theorem dX4_feeOf_5 : decode cX4_feeOf 5 = .ok (.iadd, 1) := by decide +kernel
theorem dX4_feeOf_6 : decode cX4_feeOf 6 = .ok (.ireturn, 1) := by decide +kernel
theorem dX4_spendOn_0 : decode cX4_spendOn 0 = .ok (.iload_n 2, 1) := by decide +kernel
theorem dX4_spendOn_1 : decode cX4_spendOn 1 = .ok (.aload_n 0, 1) := by decide +kernel
theorem dX4_spendOn_2 : decode cX4_spendOn 2 = .ok (.iload_n 2, 1) := by decide +kernel
theorem dX4_spendOn_3 : decode cX4_spendOn 3 = .ok (.invokevirtual 24, 3) := by decide +kernel
theorem dX4_spendOn_6 : decode cX4_spendOn 6 = .ok (.iadd, 1) := by decide +kernel
theorem dX4_spendOn_7 : decode cX4_spendOn 7 = .ok (.istore_n 3, 1) := by decide +kernel
theorem dX4_spendOn_8 : decode cX4_spendOn 8 = .ok (.iload_n 2, 1) := by decide +kernel
theorem dX4_spendOn_9 : decode cX4_spendOn 9 = .ok (.aload_n 0, 1) := by decide +kernel
theorem dX4_spendOn_10 : decode cX4_spendOn 10 = .ok (.iload_n 1, 1) := by decide +kernel
theorem dX4_spendOn_11 : decode cX4_spendOn 11 = .ok (.invokevirtual 28, 3) := by decide +kernel
theorem dX4_spendOn_14 : decode cX4_spendOn 14 = .ok (.if_icmp .gt 11, 3) := by decide +kernel
theorem dX4_spendOn_17 : decode cX4_spendOn 17 = .ok (.iload_n 3, 1) := by decide +kernel
theorem dX4_spendOn_18 : decode cX4_spendOn 18 = .ok (.aload_n 0, 1) := by decide +kernel
theorem dX4_spendOn_19 : decode cX4_spendOn 19 = .ok (.getfield 21, 3) := by decide +kernel
theorem dX4_spendOn_22 : decode cX4_spendOn 22 = .ok (.if_icmp .le 6, 3) := by decide +kernel
theorem dX4_spendOn_25 : decode cX4_spendOn 25 = .ok (.bipush (-5), 2) := by decide +kernel
theorem dX4_spendOn_27 : decode cX4_spendOn 27 = .ok (.ireturn, 1) := by decide +kernel
theorem dX4_spendOn_28 : decode cX4_spendOn 28 = .ok (.aload_n 0, 1) := by decide +kernel
theorem dX4_spendOn_29 : decode cX4_spendOn 29 = .ok (.dup, 1) := by decide +kernel
theorem dX4_spendOn_30 : decode cX4_spendOn 30 = .ok (.getfield 21, 3) := by decide +kernel
theorem dX4_spendOn_33 : decode cX4_spendOn 33 = .ok (.iload_n 3, 1) := by decide +kernel
theorem dX4_spendOn_34 : decode cX4_spendOn 34 = .ok (.isub, 1) := by decide +kernel
theorem dX4_spendOn_35 : decode cX4_spendOn 35 = .ok (.putfield 21, 3) := by decide +kernel
theorem dX4_spendOn_38 : decode cX4_spendOn 38 = .ok (.aload_n 0, 1) := by decide +kernel
theorem dX4_spendOn_39 : decode cX4_spendOn 39 = .ok (.getfield 21, 3) := by decide +kernel
theorem dX4_spendOn_42 : decode cX4_spendOn 42 = .ok (.ireturn, 1) := by decide +kernel
theorem dX4_sealNow_0 : decode cX4_sealNow 0 = .ok (.aload_n 0, 1) := by decide +kernel
theorem dX4_sealNow_1 : decode cX4_sealNow 1 = .ok (.getfield 21, 3) := by decide +kernel
theorem dX4_sealNow_4 : decode cX4_sealNow 4 = .ok (.bipush 31, 2) := by decide +kernel
theorem dX4_sealNow_6 : decode cX4_sealNow 6 = .ok (.imul, 1) := by decide +kernel
theorem dX4_sealNow_7 : decode cX4_sealNow 7 = .ok (.aload_n 0, 1) := by decide +kernel
theorem dX4_sealNow_8 : decode cX4_sealNow 8 = .ok (.getfield 15, 3) := by decide +kernel
theorem dX4_sealNow_11 : decode cX4_sealNow 11 = .ok (.iadd, 1) := by decide +kernel
theorem dX4_sealNow_12 : decode cX4_sealNow 12 = .ok (.bipush 31, 2) := by decide +kernel
theorem dX4_sealNow_14 : decode cX4_sealNow 14 = .ok (.imul, 1) := by decide +kernel
theorem dX4_sealNow_15 : decode cX4_sealNow 15 = .ok (.aload_n 0, 1) := by decide +kernel
theorem dX4_sealNow_16 : decode cX4_sealNow 16 = .ok (.getfield 18, 3) := by decide +kernel
theorem dX4_sealNow_19 : decode cX4_sealNow 19 = .ok (.iadd, 1) := by decide +kernel
theorem dX4_sealNow_20 : decode cX4_sealNow 20 = .ok (.ireturn, 1) := by decide +kernel
theorem dX4_markOf_0 : decode cX4_markOf 0 = .ok (.bipush (-3), 2) := by decide +kernel
theorem dX4_markOf_2 : decode cX4_markOf 2 = .ok (.ireturn, 1) := by decide +kernel
theorem dX4_daysLeftOn_0 : decode cX4_daysLeftOn 0 = .ok (.bipush (-3), 2) := by decide +kernel
theorem dX4_daysLeftOn_2 : decode cX4_daysLeftOn 2 = .ok (.ireturn, 1) := by decide +kernel
theorem dX4_lastDay_0 : decode cX4_lastDay 0 = .ok (.bipush (-3), 2) := by decide +kernel
theorem dX4_lastDay_2 : decode cX4_lastDay 2 = .ok (.ireturn, 1) := by decide +kernel
theorem dX4_lapseOn_0 : decode cX4_lapseOn 0 = .ok (.iconst 0, 1) := by decide +kernel
theorem dX4_lapseOn_1 : decode cX4_lapseOn 1 = .ok (.ireturn, 1) := by decide +kernel
theorem dX4_pointsNow_0 : decode cX4_pointsNow 0 = .ok (.iconst 0, 1) := by decide +kernel
theorem dX4_pointsNow_1 : decode cX4_pointsNow 1 = .ok (.ireturn, 1) := by decide +kernel
theorem dX4_lastSpent_0 : decode cX4_lastSpent 0 = .ok (.iconst (-1), 1) := by decide +kernel
theorem dX4_lastSpent_1 : decode cX4_lastSpent 1 = .ok (.ireturn, 1) := by decide +kernel
theorem dX4_takeIn_0 : decode cX4_takeIn 0 = .ok (.aload_n 0, 1) := by decide +kernel
theorem dX4_takeIn_1 : decode cX4_takeIn 1 = .ok (.dup, 1) := by decide +kernel
theorem dX4_takeIn_2 : decode cX4_takeIn 2 = .ok (.getfield 18, 3) := by decide +kernel
theorem dX4_takeIn_5 : decode cX4_takeIn 5 = .ok (.aload_n 1, 1) := by decide +kernel
theorem dX4_takeIn_6 : decode cX4_takeIn 6 = .ok (.getfield 18, 3) := by decide +kernel
theorem dX4_takeIn_9 : decode cX4_takeIn 9 = .ok (.iadd, 1) := by decide +kernel
theorem dX4_takeIn_10 : decode cX4_takeIn 10 = .ok (.putfield 18, 3) := by decide +kernel
theorem dX4_takeIn_13 : decode cX4_takeIn 13 = .ok (.aload_n 0, 1) := by decide +kernel
theorem dX4_takeIn_14 : decode cX4_takeIn 14 = .ok (.dup, 1) := by decide +kernel
theorem dX4_takeIn_15 : decode cX4_takeIn 15 = .ok (.getfield 21, 3) := by decide +kernel
theorem dX4_takeIn_18 : decode cX4_takeIn 18 = .ok (.aload_n 1, 1) := by decide +kernel
theorem dX4_takeIn_19 : decode cX4_takeIn 19 = .ok (.getfield 21, 3) := by decide +kernel
theorem dX4_takeIn_22 : decode cX4_takeIn 22 = .ok (.iadd, 1) := by decide +kernel
theorem dX4_takeIn_23 : decode cX4_takeIn 23 = .ok (.putfield 21, 3) := by decide +kernel
theorem dX4_takeIn_26 : decode cX4_takeIn 26 = .ok (.return_, 1) := by decide +kernel
theorem dX5_init_0 : decode cX5_init 0 = .ok (.aload_n 0, 1) := by decide +kernel
theorem dX5_init_1 : decode cX5_init 1 = .ok (.iload_n 1, 1) := by decide +kernel
theorem dX5_init_2 : decode cX5_init 2 = .ok (.iload_n 2, 1) := by decide +kernel
theorem dX5_init_3 : decode cX5_init 3 = .ok (.iload_n 3, 1) := by decide +kernel
theorem dX5_init_4 : decode cX5_init 4 = .ok (.invokespecial 1, 3) := by decide +kernel
theorem dX5_init_7 : decode cX5_init 7 = .ok (.return_, 1) := by decide +kernel
theorem dX5_valueOn_0 : decode cX5_valueOn 0 = .ok (.aload_n 0, 1) := by decide +kernel
theorem dX5_valueOn_1 : decode cX5_valueOn 1 = .ok (.iload_n 1, 1) := by decide +kernel
theorem dX5_valueOn_2 : decode cX5_valueOn 2 = .ok (.invokespecial 7, 3) := by decide +kernel
theorem dX5_valueOn_5 : decode cX5_valueOn 5 = .ok (.istore_n 2, 1) := by decide +kernel
theorem dX5_valueOn_6 : decode cX5_valueOn 6 = .ok (.iload_n 2, 1) := by decide +kernel
theorem dX5_valueOn_7 : decode cX5_valueOn 7 = .ok (.iload_n 2, 1) := by decide +kernel
theorem dX5_valueOn_8 : decode cX5_valueOn 8 = .ok (.bipush 10, 2) := by decide +kernel
theorem dX5_valueOn_10 : decode cX5_valueOn 10 = .ok (.irem, 1) := by decide +kernel
theorem dX5_valueOn_11 : decode cX5_valueOn 11 = .ok (.isub, 1) := by decide +kernel
theorem dX5_valueOn_12 : decode cX5_valueOn 12 = .ok (.ireturn, 1) := by decide +kernel
theorem dX6_init_0 : decode cX6_init 0 = .ok (.aload_n 0, 1) := by decide +kernel
theorem dX6_init_1 : decode cX6_init 1 = .ok (.iload_n 1, 1) := by decide +kernel
theorem dX6_init_2 : decode cX6_init 2 = .ok (.iload_n 2, 1) := by decide +kernel
theorem dX6_init_3 : decode cX6_init 3 = .ok (.iload_n 3, 1) := by decide +kernel
theorem dX6_init_4 : decode cX6_init 4 = .ok (.invokespecial 1, 3) := by decide +kernel
theorem dX6_init_7 : decode cX6_init 7 = .ok (.return_, 1) := by decide +kernel
theorem dX6_lastDay_0 : decode cX6_lastDay 0 = .ok (.aload_n 0, 1) := by decide +kernel
theorem dX6_lastDay_1 : decode cX6_lastDay 1 = .ok (.getfield 7, 3) := by decide +kernel
theorem dX6_lastDay_4 : decode cX6_lastDay 4 = .ok (.bipush 90, 2) := by decide +kernel
theorem dX6_lastDay_6 : decode cX6_lastDay 6 = .ok (.iadd, 1) := by decide +kernel
theorem dX6_lastDay_7 : decode cX6_lastDay 7 = .ok (.ireturn, 1) := by decide +kernel
theorem dX6_valueOn_0 : decode cX6_valueOn 0 = .ok (.iload_n 1, 1) := by decide +kernel
theorem dX6_valueOn_1 : decode cX6_valueOn 1 = .ok (.aload_n 0, 1) := by decide +kernel
theorem dX6_valueOn_2 : decode cX6_valueOn 2 = .ok (.invokevirtual 13, 3) := by decide +kernel
theorem dX6_valueOn_5 : decode cX6_valueOn 5 = .ok (.if_icmp .le 7, 3) := by decide +kernel
theorem dX6_valueOn_8 : decode cX6_valueOn 8 = .ok (.iconst 0, 1) := by decide +kernel
theorem dX6_valueOn_9 : decode cX6_valueOn 9 = .ok (.goto 8, 3) := by decide +kernel
theorem dX6_valueOn_12 : decode cX6_valueOn 12 = .ok (.aload_n 0, 1) := by decide +kernel
theorem dX6_valueOn_13 : decode cX6_valueOn 13 = .ok (.iload_n 1, 1) := by decide +kernel
theorem dX6_valueOn_14 : decode cX6_valueOn 14 = .ok (.invokespecial 17, 3) := by decide +kernel
theorem dX6_valueOn_17 : decode cX6_valueOn 17 = .ok (.ireturn, 1) := by decide +kernel
theorem dX6_sealNow_0 : decode cX6_sealNow 0 = .ok (.aload_n 0, 1) := by decide +kernel
theorem dX6_sealNow_1 : decode cX6_sealNow 1 = .ok (.invokespecial 21, 3) := by decide +kernel
theorem dX6_sealNow_4 : decode cX6_sealNow 4 = .ok (.aload_n 0, 1) := by decide +kernel
theorem dX6_sealNow_5 : decode cX6_sealNow 5 = .ok (.invokevirtual 13, 3) := by decide +kernel
theorem dX6_sealNow_8 : decode cX6_sealNow 8 = .ok (.iadd, 1) := by decide +kernel
theorem dX6_sealNow_9 : decode cX6_sealNow 9 = .ok (.ireturn, 1) := by decide +kernel
theorem dX6_daysLeftOn_0 : decode cX6_daysLeftOn 0 = .ok (.iconst 0, 1) := by decide +kernel
theorem dX6_daysLeftOn_1 : decode cX6_daysLeftOn 1 = .ok (.aload_n 0, 1) := by decide +kernel
theorem dX6_daysLeftOn_2 : decode cX6_daysLeftOn 2 = .ok (.invokevirtual 13, 3) := by decide +kernel
theorem dX6_daysLeftOn_5 : decode cX6_daysLeftOn 5 = .ok (.iload_n 1, 1) := by decide +kernel
theorem dX6_daysLeftOn_6 : decode cX6_daysLeftOn 6 = .ok (.isub, 1) := by decide +kernel
theorem dX6_daysLeftOn_7 : decode cX6_daysLeftOn 7 = .ok (.invokestatic 24, 3) := by decide +kernel
theorem dX6_daysLeftOn_10 : decode cX6_daysLeftOn 10 = .ok (.ireturn, 1) := by decide +kernel
theorem dX6_lapseOn_0 : decode cX6_lapseOn 0 = .ok (.aload_n 0, 1) := by decide +kernel
theorem dX6_lapseOn_1 : decode cX6_lapseOn 1 = .ok (.invokevirtual 13, 3) := by decide +kernel
theorem dX6_lapseOn_4 : decode cX6_lapseOn 4 = .ok (.iload_n 1, 1) := by decide +kernel
theorem dX6_lapseOn_5 : decode cX6_lapseOn 5 = .ok (.if_icmp .lt 5, 3) := by decide +kernel
theorem dX6_lapseOn_8 : decode cX6_lapseOn 8 = .ok (.iconst 0, 1) := by decide +kernel
theorem dX6_lapseOn_9 : decode cX6_lapseOn 9 = .ok (.ireturn, 1) := by decide +kernel
theorem dX6_lapseOn_10 : decode cX6_lapseOn 10 = .ok (.aload_n 0, 1) := by decide +kernel
theorem dX6_lapseOn_11 : decode cX6_lapseOn 11 = .ok (.getfield 30, 3) := by decide +kernel
theorem dX6_lapseOn_14 : decode cX6_lapseOn 14 = .ok (.istore_n 2, 1) := by decide +kernel
theorem dX6_lapseOn_15 : decode cX6_lapseOn 15 = .ok (.aload_n 0, 1) := by decide +kernel
theorem dX6_lapseOn_16 : decode cX6_lapseOn 16 = .ok (.iconst 0, 1) := by decide +kernel
theorem dX6_lapseOn_17 : decode cX6_lapseOn 17 = .ok (.putfield 30, 3) := by decide +kernel
theorem dX6_lapseOn_20 : decode cX6_lapseOn 20 = .ok (.iload_n 2, 1) := by decide +kernel
theorem dX6_lapseOn_21 : decode cX6_lapseOn 21 = .ok (.ireturn, 1) := by decide +kernel
theorem dX7_init_0 : decode cX7_init 0 = .ok (.aload_n 0, 1) := by decide +kernel
theorem dX7_init_1 : decode cX7_init 1 = .ok (.iload_n 1, 1) := by decide +kernel
theorem dX7_init_2 : decode cX7_init 2 = .ok (.iload_n 2, 1) := by decide +kernel
theorem dX7_init_3 : decode cX7_init 3 = .ok (.iload_n 3, 1) := by decide +kernel
theorem dX7_init_4 : decode cX7_init 4 = .ok (.invokespecial 3, 3) := by decide +kernel
theorem dX7_init_7 : decode cX7_init 7 = .ok (.aload_n 0, 1) := by decide +kernel
theorem dX7_init_8 : decode cX7_init 8 = .ok (.iconst (-1), 1) := by decide +kernel
theorem dX7_init_9 : decode cX7_init 9 = .ok (.putfield 11, 3) := by decide +kernel
theorem dX7_init_12 : decode cX7_init 12 = .ok (.return_, 1) := by decide +kernel
theorem dX7_lastDay_0 : decode cX7_lastDay 0 = .ok (.aload_n 0, 1) := by decide +kernel
theorem dX7_lastDay_1 : decode cX7_lastDay 1 = .ok (.getfield 17, 3) := by decide +kernel
theorem dX7_lastDay_4 : decode cX7_lastDay 4 = .ok (.bipush 30, 2) := by decide +kernel
theorem dX7_lastDay_6 : decode cX7_lastDay 6 = .ok (.iadd, 1) := by decide +kernel
theorem dX7_lastDay_7 : decode cX7_lastDay 7 = .ok (.ireturn, 1) := by decide +kernel
theorem dX7_valueOn_0 : decode cX7_valueOn 0 = .ok (.aload_n 0, 1) := by decide +kernel
theorem dX7_valueOn_1 : decode cX7_valueOn 1 = .ok (.iload_n 1, 1) := by decide +kernel
theorem dX7_valueOn_2 : decode cX7_valueOn 2 = .ok (.invokespecial 20, 3) := by decide +kernel
theorem dX7_valueOn_5 : decode cX7_valueOn 5 = .ok (.istore_n 2, 1) := by decide +kernel
theorem dX7_valueOn_6 : decode cX7_valueOn 6 = .ok (.iload_n 2, 1) := by decide +kernel
theorem dX7_valueOn_7 : decode cX7_valueOn 7 = .ok (.iload_n 2, 1) := by decide +kernel
theorem dX7_valueOn_8 : decode cX7_valueOn 8 = .ok (.bipush 10, 2) := by decide +kernel
theorem dX7_valueOn_10 : decode cX7_valueOn 10 = .ok (.idiv, 1) := by decide +kernel
theorem dX7_valueOn_11 : decode cX7_valueOn 11 = .ok (.isub, 1) := by decide +kernel
theorem dX7_valueOn_12 : decode cX7_valueOn 12 = .ok (.ireturn, 1) := by decide +kernel
theorem dX7_feeOf_0 : decode cX7_feeOf 0 = .ok (.aload_n 0, 1) := by decide +kernel
theorem dX7_feeOf_1 : decode cX7_feeOf 1 = .ok (.iload_n 1, 1) := by decide +kernel
theorem dX7_feeOf_2 : decode cX7_feeOf 2 = .ok (.invokespecial 24, 3) := by decide +kernel
theorem dX7_feeOf_5 : decode cX7_feeOf 5 = .ok (.iconst 2, 1) := by decide +kernel
theorem dX7_feeOf_6 : decode cX7_feeOf 6 = .ok (.idiv, 1) := by decide +kernel
theorem dX7_feeOf_7 : decode cX7_feeOf 7 = .ok (.ireturn, 1) := by decide +kernel
theorem dX7_spendOn_0 : decode cX7_spendOn 0 = .ok (.aload_n 0, 1) := by decide +kernel
theorem dX7_spendOn_1 : decode cX7_spendOn 1 = .ok (.getfield 11, 3) := by decide +kernel
theorem dX7_spendOn_4 : decode cX7_spendOn 4 = .ok (.iload_n 1, 1) := by decide +kernel
theorem dX7_spendOn_5 : decode cX7_spendOn 5 = .ok (.if_icmp .ne 6, 3) := by decide +kernel
theorem dX7_spendOn_8 : decode cX7_spendOn 8 = .ok (.bipush (-6), 2) := by decide +kernel
theorem dX7_spendOn_10 : decode cX7_spendOn 10 = .ok (.ireturn, 1) := by decide +kernel
theorem dX7_spendOn_11 : decode cX7_spendOn 11 = .ok (.aload_n 0, 1) := by decide +kernel
theorem dX7_spendOn_12 : decode cX7_spendOn 12 = .ok (.iload_n 1, 1) := by decide +kernel
theorem dX7_spendOn_13 : decode cX7_spendOn 13 = .ok (.iload_n 2, 1) := by decide +kernel
theorem dX7_spendOn_14 : decode cX7_spendOn 14 = .ok (.invokespecial 27, 3) := by decide +kernel
theorem dX7_spendOn_17 : decode cX7_spendOn 17 = .ok (.istore_n 3, 1) := by decide +kernel
theorem dX7_spendOn_18 : decode cX7_spendOn 18 = .ok (.iload_n 3, 1) := by decide +kernel
theorem dX7_spendOn_19 : decode cX7_spendOn 19 = .ok (.ifCond .lt 8, 3) := by decide +kernel
theorem dX7_spendOn_22 : decode cX7_spendOn 22 = .ok (.aload_n 0, 1) := by decide +kernel
theorem dX7_spendOn_23 : decode cX7_spendOn 23 = .ok (.iload_n 1, 1) := by decide +kernel
theorem dX7_spendOn_24 : decode cX7_spendOn 24 = .ok (.putfield 11, 3) := by decide +kernel
theorem dX7_spendOn_27 : decode cX7_spendOn 27 = .ok (.iload_n 3, 1) := by decide +kernel
theorem dX7_spendOn_28 : decode cX7_spendOn 28 = .ok (.ireturn, 1) := by decide +kernel
theorem dX7_lastSpent_0 : decode cX7_lastSpent 0 = .ok (.aload_n 0, 1) := by decide +kernel
theorem dX7_lastSpent_1 : decode cX7_lastSpent 1 = .ok (.getfield 11, 3) := by decide +kernel
theorem dX7_lastSpent_4 : decode cX7_lastSpent 4 = .ok (.ireturn, 1) := by decide +kernel
theorem dX7_takeIn_0 : decode cX7_takeIn 0 = .ok (.aload_n 0, 1) := by decide +kernel
theorem dX7_takeIn_1 : decode cX7_takeIn 1 = .ok (.aload_n 1, 1) := by decide +kernel
theorem dX7_takeIn_2 : decode cX7_takeIn 2 = .ok (.invokespecial 31, 3) := by decide +kernel
theorem dX7_takeIn_5 : decode cX7_takeIn 5 = .ok (.aload_n 0, 1) := by decide +kernel
theorem dX7_takeIn_6 : decode cX7_takeIn 6 = .ok (.aload_n 0, 1) := by decide +kernel
theorem dX7_takeIn_7 : decode cX7_takeIn 7 = .ok (.getfield 11, 3) := by decide +kernel
theorem dX7_takeIn_10 : decode cX7_takeIn 10 = .ok (.aload_n 1, 1) := by decide +kernel
theorem dX7_takeIn_11 : decode cX7_takeIn 11 = .ok (.invokevirtual 35, 3) := by decide +kernel
theorem dX7_takeIn_14 : decode cX7_takeIn 14 = .ok (.invokestatic 38, 3) := by decide +kernel
theorem dX7_takeIn_17 : decode cX7_takeIn 17 = .ok (.putfield 11, 3) := by decide +kernel
theorem dX7_takeIn_20 : decode cX7_takeIn 20 = .ok (.return_, 1) := by decide +kernel
theorem dX8_init_0 : decode cX8_init 0 = .ok (.aload_n 0, 1) := by decide +kernel
theorem dX8_init_1 : decode cX8_init 1 = .ok (.invokespecial 1, 3) := by decide +kernel
theorem dX8_init_4 : decode cX8_init 4 = .ok (.aload_n 0, 1) := by decide +kernel
theorem dX8_init_5 : decode cX8_init 5 = .ok (.bipush 40, 2) := by decide +kernel
theorem dX8_init_7 : decode cX8_init 7 = .ok (.anewarray 9, 3) := by decide +kernel
theorem dX8_init_10 : decode cX8_init 10 = .ok (.putfield 11, 3) := by decide +kernel
theorem dX8_init_13 : decode cX8_init 13 = .ok (.aload_n 0, 1) := by decide +kernel
theorem dX8_init_14 : decode cX8_init 14 = .ok (.iconst 0, 1) := by decide +kernel
theorem dX8_init_15 : decode cX8_init 15 = .ok (.putfield 15, 3) := by decide +kernel
theorem dX8_init_18 : decode cX8_init 18 = .ok (.aload_n 0, 1) := by decide +kernel
theorem dX8_init_19 : decode cX8_init 19 = .ok (.iconst 0, 1) := by decide +kernel
theorem dX8_init_20 : decode cX8_init 20 = .ok (.putfield 19, 3) := by decide +kernel
theorem dX8_init_23 : decode cX8_init 23 = .ok (.aload_n 0, 1) := by decide +kernel
theorem dX8_init_24 : decode cX8_init 24 = .ok (.iconst 0, 1) := by decide +kernel
theorem dX8_init_25 : decode cX8_init 25 = .ok (.putfield 22, 3) := by decide +kernel
theorem dX8_init_28 : decode cX8_init 28 = .ok (.aload_n 0, 1) := by decide +kernel
theorem dX8_init_29 : decode cX8_init 29 = .ok (.iconst 0, 1) := by decide +kernel
theorem dX8_init_30 : decode cX8_init 30 = .ok (.putfield 25, 3) := by decide +kernel
theorem dX8_init_33 : decode cX8_init 33 = .ok (.aload_n 0, 1) := by decide +kernel
theorem dX8_init_34 : decode cX8_init 34 = .ok (.iconst 0, 1) := by decide +kernel
theorem dX8_init_35 : decode cX8_init 35 = .ok (.putfield 28, 3) := by decide +kernel
theorem dX8_init_38 : decode cX8_init 38 = .ok (.aload_n 0, 1) := by decide +kernel
theorem dX8_init_39 : decode cX8_init 39 = .ok (.iconst 0, 1) := by decide +kernel
theorem dX8_init_40 : decode cX8_init 40 = .ok (.putfield 31, 3) := by decide +kernel
theorem dX8_init_43 : decode cX8_init 43 = .ok (.return_, 1) := by decide +kernel
theorem dX8_issue_0 : decode cX8_issue 0 = .ok (.iload_n 1, 1) := by decide +kernel
theorem dX8_issue_1 : decode cX8_issue 1 = .ok (.iconst 0, 1) := by decide +kernel
theorem dX8_issue_2 : decode cX8_issue 2 = .ok (.bipush 7, 2) := by decide +kernel
theorem dX8_issue_4 : decode cX8_issue 4 = .ok (.invokestatic 34, 3) := by decide +kernel
theorem dX8_issue_7 : decode cX8_issue 7 = .ok (.ifCond .ne 13, 3) := by decide +kernel
theorem dX8_issue_10 : decode cX8_issue 10 = .ok (.iload_n 2, 1) := by decide +kernel
theorem dX8_issue_11 : decode cX8_issue 11 = .ok (.iconst 1, 1) := by decide +kernel
theorem dX8_issue_12 : decode cX8_issue 12 = .ok (.ldc 38, 2) := by decide +kernel
theorem dX8_issue_14 : decode cX8_issue 14 = .ok (.invokestatic 34, 3) := by decide +kernel
theorem dX8_issue_17 : decode cX8_issue 17 = .ok (.ifCond .eq 6, 3) := by decide +kernel
theorem dX8_issue_20 : decode cX8_issue 20 = .ok (.bipush (-2), 2) := by decide +kernel
theorem dX8_issue_22 : decode cX8_issue 22 = .ok (.ireturn, 1) := by decide +kernel
theorem dX8_issue_23 : decode cX8_issue 23 = .ok (.aload_n 0, 1) := by decide +kernel
theorem dX8_issue_24 : decode cX8_issue 24 = .ok (.getfield 15, 3) := by decide +kernel
theorem dX8_issue_27 : decode cX8_issue 27 = .ok (.bipush 40, 2) := by decide +kernel
theorem dX8_issue_29 : decode cX8_issue 29 = .ok (.if_icmp .lt 6, 3) := by decide +kernel
theorem dX8_issue_32 : decode cX8_issue 32 = .ok (.bipush (-4), 2) := by decide +kernel
theorem dX8_issue_34 : decode cX8_issue 34 = .ok (.ireturn, 1) := by decide +kernel
theorem dX8_issue_35 : decode cX8_issue 35 = .ok (.aload_n 0, 1) := by decide +kernel
theorem dX8_issue_36 : decode cX8_issue 36 = .ok (.getfield 15, 3) := by decide +kernel
theorem dX8_issue_39 : decode cX8_issue 39 = .ok (.istore_n 3, 1) := by decide +kernel
theorem dX8_issue_40 : decode cX8_issue 40 = .ok (.aload_n 0, 1) := by decide +kernel
theorem dX8_issue_41 : decode cX8_issue 41 = .ok (.getfield 11, 3) := by decide +kernel
theorem dX8_issue_44 : decode cX8_issue 44 = .ok (.iload_n 3, 1) := by decide +kernel
theorem dX8_issue_45 : decode cX8_issue 45 = .ok (.iload_n 1, 1) := by decide +kernel
theorem dX8_issue_46 : decode cX8_issue 46 = .ok (.iload_n 2, 1) := by decide +kernel
theorem dX8_issue_47 : decode cX8_issue 47 = .ok (.aload_n 0, 1) := by decide +kernel
theorem dX8_issue_48 : decode cX8_issue 48 = .ok (.getfield 19, 3) := by decide +kernel
theorem dX8_issue_51 : decode cX8_issue 51 = .ok (.invokestatic 39, 3) := by decide +kernel
theorem dX8_issue_54 : decode cX8_issue 54 = .ok (.aastore, 1) := by decide +kernel
theorem dX8_issue_55 : decode cX8_issue 55 = .ok (.aload_n 0, 1) := by decide +kernel
theorem dX8_issue_56 : decode cX8_issue 56 = .ok (.iload_n 3, 1) := by decide +kernel
theorem dX8_issue_57 : decode cX8_issue 57 = .ok (.iconst 1, 1) := by decide +kernel
theorem dX8_issue_58 : decode cX8_issue 58 = .ok (.iadd, 1) := by decide +kernel
theorem dX8_issue_59 : decode cX8_issue 59 = .ok (.putfield 15, 3) := by decide +kernel
theorem dX8_issue_62 : decode cX8_issue 62 = .ok (.aload_n 0, 1) := by decide +kernel
theorem dX8_issue_63 : decode cX8_issue 63 = .ok (.dup, 1) := by decide +kernel
theorem dX8_issue_64 : decode cX8_issue 64 = .ok (.getfield 22, 3) := by decide +kernel
theorem dX8_issue_67 : decode cX8_issue 67 = .ok (.iload_n 2, 1) := by decide +kernel
theorem dX8_issue_68 : decode cX8_issue 68 = .ok (.iadd, 1) := by decide +kernel
theorem dX8_issue_69 : decode cX8_issue 69 = .ok (.putfield 22, 3) := by decide +kernel
theorem dX8_issue_72 : decode cX8_issue 72 = .ok (.iload_n 3, 1) := by decide +kernel
theorem dX8_issue_73 : decode cX8_issue 73 = .ok (.ireturn, 1) := by decide +kernel
theorem dX8_pass_0 : decode cX8_pass 0 = .ok (.iload_n 1, 1) := by decide +kernel
theorem dX8_pass_1 : decode cX8_pass 1 = .ok (.iconst 1, 1) := by decide +kernel
theorem dX8_pass_2 : decode cX8_pass 2 = .ok (.sipush 1000, 3) := by decide +kernel
theorem dX8_pass_5 : decode cX8_pass 5 = .ok (.invokestatic 34, 3) := by decide +kernel
theorem dX8_pass_8 : decode cX8_pass 8 = .ok (.ifCond .eq 6, 3) := by decide +kernel
theorem dX8_pass_11 : decode cX8_pass 11 = .ok (.bipush (-2), 2) := by decide +kernel
theorem dX8_pass_13 : decode cX8_pass 13 = .ok (.ireturn, 1) := by decide +kernel
theorem dX8_pass_14 : decode cX8_pass 14 = .ok (.aload_n 0, 1) := by decide +kernel
theorem dX8_pass_15 : decode cX8_pass 15 = .ok (.getfield 19, 3) := by decide +kernel
theorem dX8_pass_18 : decode cX8_pass 18 = .ok (.iload_n 1, 1) := by decide +kernel
theorem dX8_pass_19 : decode cX8_pass 19 = .ok (.iadd, 1) := by decide +kernel
theorem dX8_pass_20 : decode cX8_pass 20 = .ok (.sipush 20000, 3) := by decide +kernel
theorem dX8_pass_23 : decode cX8_pass 23 = .ok (.if_icmp .le 6, 3) := by decide +kernel
theorem dX8_pass_26 : decode cX8_pass 26 = .ok (.bipush (-4), 2) := by decide +kernel
theorem dX8_pass_28 : decode cX8_pass 28 = .ok (.ireturn, 1) := by decide +kernel
theorem dX8_pass_29 : decode cX8_pass 29 = .ok (.aload_n 0, 1) := by decide +kernel
theorem dX8_pass_30 : decode cX8_pass 30 = .ok (.dup, 1) := by decide +kernel
theorem dX8_pass_31 : decode cX8_pass 31 = .ok (.getfield 19, 3) := by decide +kernel
theorem dX8_pass_34 : decode cX8_pass 34 = .ok (.iload_n 1, 1) := by decide +kernel
theorem dX8_pass_35 : decode cX8_pass 35 = .ok (.iadd, 1) := by decide +kernel
theorem dX8_pass_36 : decode cX8_pass 36 = .ok (.putfield 19, 3) := by decide +kernel
theorem dX8_pass_39 : decode cX8_pass 39 = .ok (.aload_n 0, 1) := by decide +kernel
theorem dX8_pass_40 : decode cX8_pass 40 = .ok (.getfield 19, 3) := by decide +kernel
theorem dX8_pass_43 : decode cX8_pass 43 = .ok (.ireturn, 1) := by decide +kernel
theorem dX8_value_0 : decode cX8_value 0 = .ok (.aload_n 0, 1) := by decide +kernel
theorem dX8_value_1 : decode cX8_value 1 = .ok (.iload_n 1, 1) := by decide +kernel
theorem dX8_value_2 : decode cX8_value 2 = .ok (.invokevirtual 43, 3) := by decide +kernel
theorem dX8_value_5 : decode cX8_value 5 = .ok (.astore_n 3, 1) := by decide +kernel
theorem dX8_value_6 : decode cX8_value 6 = .ok (.aload_n 3, 1) := by decide +kernel
theorem dX8_value_7 : decode cX8_value 7 = .ok (.ifnonnull 5, 3) := by decide +kernel
theorem dX8_value_10 : decode cX8_value 10 = .ok (.iconst (-1), 1) := by decide +kernel
theorem dX8_value_11 : decode cX8_value 11 = .ok (.ireturn, 1) := by decide +kernel
theorem dX8_value_12 : decode cX8_value 12 = .ok (.iload_n 2, 1) := by decide +kernel
theorem dX8_value_13 : decode cX8_value 13 = .ok (.iconst 0, 1) := by decide +kernel
theorem dX8_value_14 : decode cX8_value 14 = .ok (.sipush 20000, 3) := by decide +kernel
theorem dX8_value_17 : decode cX8_value 17 = .ok (.invokestatic 34, 3) := by decide +kernel
theorem dX8_value_20 : decode cX8_value 20 = .ok (.ifCond .eq 6, 3) := by decide +kernel
theorem dX8_value_23 : decode cX8_value 23 = .ok (.bipush (-2), 2) := by decide +kernel
theorem dX8_value_25 : decode cX8_value 25 = .ok (.ireturn, 1) := by decide +kernel
theorem dX8_value_26 : decode cX8_value 26 = .ok (.aload_n 3, 1) := by decide +kernel
theorem dX8_value_27 : decode cX8_value 27 = .ok (.iload_n 2, 1) := by decide +kernel
theorem dX8_value_28 : decode cX8_value 28 = .ok (.invokevirtual 47, 3) := by decide +kernel
theorem dX8_value_31 : decode cX8_value 31 = .ok (.ireturn, 1) := by decide +kernel
theorem dX8_fee_0 : decode cX8_fee 0 = .ok (.aload_n 0, 1) := by decide +kernel
theorem dX8_fee_1 : decode cX8_fee 1 = .ok (.iload_n 1, 1) := by decide +kernel
theorem dX8_fee_2 : decode cX8_fee 2 = .ok (.invokevirtual 43, 3) := by decide +kernel
theorem dX8_fee_5 : decode cX8_fee 5 = .ok (.astore_n 3, 1) := by decide +kernel
theorem dX8_fee_6 : decode cX8_fee 6 = .ok (.aload_n 3, 1) := by decide +kernel
theorem dX8_fee_7 : decode cX8_fee 7 = .ok (.ifnonnull 5, 3) := by decide +kernel
theorem dX8_fee_10 : decode cX8_fee 10 = .ok (.iconst (-1), 1) := by decide +kernel
theorem dX8_fee_11 : decode cX8_fee 11 = .ok (.ireturn, 1) := by decide +kernel
theorem dX8_fee_12 : decode cX8_fee 12 = .ok (.iload_n 2, 1) := by decide +kernel
theorem dX8_fee_13 : decode cX8_fee 13 = .ok (.iconst 1, 1) := by decide +kernel
theorem dX8_fee_14 : decode cX8_fee 14 = .ok (.ldc 38, 2) := by decide +kernel
theorem dX8_fee_16 : decode cX8_fee 16 = .ok (.invokestatic 34, 3) := by decide +kernel
theorem dX8_fee_19 : decode cX8_fee 19 = .ok (.ifCond .eq 6, 3) := by decide +kernel
theorem dX8_fee_22 : decode cX8_fee 22 = .ok (.bipush (-2), 2) := by decide +kernel
theorem dX8_fee_24 : decode cX8_fee 24 = .ok (.ireturn, 1) := by decide +kernel
theorem dX8_fee_25 : decode cX8_fee 25 = .ok (.aload_n 3, 1) := by decide +kernel
theorem dX8_fee_26 : decode cX8_fee 26 = .ok (.iload_n 2, 1) := by decide +kernel
theorem dX8_fee_27 : decode cX8_fee 27 = .ok (.invokevirtual 51, 3) := by decide +kernel
theorem dX8_fee_30 : decode cX8_fee 30 = .ok (.ireturn, 1) := by decide +kernel
theorem dX8_spend_0 : decode cX8_spend 0 = .ok (.aload_n 0, 1) := by decide +kernel
theorem dX8_spend_1 : decode cX8_spend 1 = .ok (.iload_n 1, 1) := by decide +kernel
theorem dX8_spend_2 : decode cX8_spend 2 = .ok (.invokevirtual 43, 3) := by decide +kernel
theorem dX8_spend_5 : decode cX8_spend 5 = .ok (.astore_n 3, 1) := by decide +kernel
theorem dX8_spend_6 : decode cX8_spend 6 = .ok (.aload_n 3, 1) := by decide +kernel
theorem dX8_spend_7 : decode cX8_spend 7 = .ok (.ifnonnull 5, 3) := by decide +kernel
theorem dX8_spend_10 : decode cX8_spend 10 = .ok (.iconst (-1), 1) := by decide +kernel
theorem dX8_spend_11 : decode cX8_spend 11 = .ok (.ireturn, 1) := by decide +kernel
theorem dX8_spend_12 : decode cX8_spend 12 = .ok (.iload_n 2, 1) := by decide +kernel
theorem dX8_spend_13 : decode cX8_spend 13 = .ok (.iconst 1, 1) := by decide +kernel
theorem dX8_spend_14 : decode cX8_spend 14 = .ok (.ldc 38, 2) := by decide +kernel
theorem dX8_spend_16 : decode cX8_spend 16 = .ok (.invokestatic 34, 3) := by decide +kernel
theorem dX8_spend_19 : decode cX8_spend 19 = .ok (.ifCond .eq 6, 3) := by decide +kernel
theorem dX8_spend_22 : decode cX8_spend 22 = .ok (.bipush (-2), 2) := by decide +kernel
theorem dX8_spend_24 : decode cX8_spend 24 = .ok (.ireturn, 1) := by decide +kernel
theorem dX8_spend_25 : decode cX8_spend 25 = .ok (.aload_n 3, 1) := by decide +kernel
theorem dX8_spend_26 : decode cX8_spend 26 = .ok (.iload_n 2, 1) := by decide +kernel
theorem dX8_spend_27 : decode cX8_spend 27 = .ok (.invokevirtual 51, 3) := by decide +kernel
theorem dX8_spend_30 : decode cX8_spend 30 = .ok (.istore 4, 2) := by decide +kernel
theorem dX8_spend_32 : decode cX8_spend 32 = .ok (.aload_n 3, 1) := by decide +kernel
theorem dX8_spend_33 : decode cX8_spend 33 = .ok (.aload_n 0, 1) := by decide +kernel
theorem dX8_spend_34 : decode cX8_spend 34 = .ok (.getfield 19, 3) := by decide +kernel
theorem dX8_spend_37 : decode cX8_spend 37 = .ok (.iload_n 2, 1) := by decide +kernel
theorem dX8_spend_38 : decode cX8_spend 38 = .ok (.invokevirtual 54, 3) := by decide +kernel
theorem dX8_spend_41 : decode cX8_spend 41 = .ok (.istore 5, 2) := by decide +kernel
theorem dX8_spend_43 : decode cX8_spend 43 = .ok (.iload 5, 2) := by decide +kernel
theorem dX8_spend_45 : decode cX8_spend 45 = .ok (.ifCond .lt 24, 3) := by decide +kernel
theorem dX8_spend_48 : decode cX8_spend 48 = .ok (.aload_n 0, 1) := by decide +kernel
theorem dX8_spend_49 : decode cX8_spend 49 = .ok (.dup, 1) := by decide +kernel
theorem dX8_spend_50 : decode cX8_spend 50 = .ok (.getfield 25, 3) := by decide +kernel
theorem dX8_spend_53 : decode cX8_spend 53 = .ok (.iload_n 2, 1) := by decide +kernel
theorem dX8_spend_54 : decode cX8_spend 54 = .ok (.iadd, 1) := by decide +kernel
theorem dX8_spend_55 : decode cX8_spend 55 = .ok (.putfield 25, 3) := by decide +kernel
theorem dX8_spend_58 : decode cX8_spend 58 = .ok (.aload_n 0, 1) := by decide +kernel
theorem dX8_spend_59 : decode cX8_spend 59 = .ok (.dup, 1) := by decide +kernel
theorem dX8_spend_60 : decode cX8_spend 60 = .ok (.getfield 28, 3) := by decide +kernel
theorem dX8_spend_63 : decode cX8_spend 63 = .ok (.iload 4, 2) := by decide +kernel
theorem dX8_spend_65 : decode cX8_spend 65 = .ok (.iadd, 1) := by decide +kernel
theorem dX8_spend_66 : decode cX8_spend 66 = .ok (.putfield 28, 3) := by decide +kernel
theorem dX8_spend_69 : decode cX8_spend 69 = .ok (.iload 5, 2) := by decide +kernel
theorem dX8_spend_71 : decode cX8_spend 71 = .ok (.ireturn, 1) := by decide +kernel
theorem dX8_seal_0 : decode cX8_seal 0 = .ok (.aload_n 0, 1) := by decide +kernel
theorem dX8_seal_1 : decode cX8_seal 1 = .ok (.iload_n 1, 1) := by decide +kernel
theorem dX8_seal_2 : decode cX8_seal 2 = .ok (.invokevirtual 43, 3) := by decide +kernel
theorem dX8_seal_5 : decode cX8_seal 5 = .ok (.astore_n 2, 1) := by decide +kernel
theorem dX8_seal_6 : decode cX8_seal 6 = .ok (.aload_n 2, 1) := by decide +kernel
theorem dX8_seal_7 : decode cX8_seal 7 = .ok (.ifnonnull 5, 3) := by decide +kernel
theorem dX8_seal_10 : decode cX8_seal 10 = .ok (.iconst (-1), 1) := by decide +kernel
theorem dX8_seal_11 : decode cX8_seal 11 = .ok (.ireturn, 1) := by decide +kernel
theorem dX8_seal_12 : decode cX8_seal 12 = .ok (.aload_n 2, 1) := by decide +kernel
theorem dX8_seal_13 : decode cX8_seal 13 = .ok (.invokevirtual 58, 3) := by decide +kernel
theorem dX8_seal_16 : decode cX8_seal 16 = .ok (.ireturn, 1) := by decide +kernel
theorem dX8_mark_0 : decode cX8_mark 0 = .ok (.aload_n 0, 1) := by decide +kernel
theorem dX8_mark_1 : decode cX8_mark 1 = .ok (.iload_n 1, 1) := by decide +kernel
theorem dX8_mark_2 : decode cX8_mark 2 = .ok (.invokevirtual 43, 3) := by decide +kernel
theorem dX8_mark_5 : decode cX8_mark 5 = .ok (.astore_n 3, 1) := by decide +kernel
theorem dX8_mark_6 : decode cX8_mark 6 = .ok (.aload_n 3, 1) := by decide +kernel
theorem dX8_mark_7 : decode cX8_mark 7 = .ok (.ifnonnull 5, 3) := by decide +kernel
theorem dX8_mark_10 : decode cX8_mark 10 = .ok (.iconst (-1), 1) := by decide +kernel
theorem dX8_mark_11 : decode cX8_mark 11 = .ok (.ireturn, 1) := by decide +kernel
theorem dX8_mark_12 : decode cX8_mark 12 = .ok (.iload_n 2, 1) := by decide +kernel
theorem dX8_mark_13 : decode cX8_mark 13 = .ok (.iconst 0, 1) := by decide +kernel
theorem dX8_mark_14 : decode cX8_mark 14 = .ok (.sipush 999, 3) := by decide +kernel
theorem dX8_mark_17 : decode cX8_mark 17 = .ok (.invokestatic 34, 3) := by decide +kernel
theorem dX8_mark_20 : decode cX8_mark 20 = .ok (.ifCond .eq 6, 3) := by decide +kernel
theorem dX8_mark_23 : decode cX8_mark 23 = .ok (.bipush (-2), 2) := by decide +kernel
theorem dX8_mark_25 : decode cX8_mark 25 = .ok (.ireturn, 1) := by decide +kernel
theorem dX8_mark_26 : decode cX8_mark 26 = .ok (.aload_n 3, 1) := by decide +kernel
theorem dX8_mark_27 : decode cX8_mark 27 = .ok (.iload_n 2, 1) := by decide +kernel
theorem dX8_mark_28 : decode cX8_mark 28 = .ok (.invokevirtual 62, 3) := by decide +kernel
theorem dX8_mark_31 : decode cX8_mark 31 = .ok (.ireturn, 1) := by decide +kernel
theorem dX8_daysLeft_0 : decode cX8_daysLeft 0 = .ok (.aload_n 0, 1) := by decide +kernel
theorem dX8_daysLeft_1 : decode cX8_daysLeft 1 = .ok (.iload_n 1, 1) := by decide +kernel
theorem dX8_daysLeft_2 : decode cX8_daysLeft 2 = .ok (.invokevirtual 43, 3) := by decide +kernel
theorem dX8_daysLeft_5 : decode cX8_daysLeft 5 = .ok (.astore_n 3, 1) := by decide +kernel
theorem dX8_daysLeft_6 : decode cX8_daysLeft 6 = .ok (.aload_n 3, 1) := by decide +kernel
theorem dX8_daysLeft_7 : decode cX8_daysLeft 7 = .ok (.ifnonnull 5, 3) := by decide +kernel
theorem dX8_daysLeft_10 : decode cX8_daysLeft 10 = .ok (.iconst (-1), 1) := by decide +kernel
theorem dX8_daysLeft_11 : decode cX8_daysLeft 11 = .ok (.ireturn, 1) := by decide +kernel
theorem dX8_daysLeft_12 : decode cX8_daysLeft 12 = .ok (.iload_n 2, 1) := by decide +kernel
theorem dX8_daysLeft_13 : decode cX8_daysLeft 13 = .ok (.iconst 0, 1) := by decide +kernel
theorem dX8_daysLeft_14 : decode cX8_daysLeft 14 = .ok (.sipush 20000, 3) := by decide +kernel
theorem dX8_daysLeft_17 : decode cX8_daysLeft 17 = .ok (.invokestatic 34, 3) := by decide +kernel
theorem dX8_daysLeft_20 : decode cX8_daysLeft 20 = .ok (.ifCond .eq 6, 3) := by decide +kernel
theorem dX8_daysLeft_23 : decode cX8_daysLeft 23 = .ok (.bipush (-2), 2) := by decide +kernel
theorem dX8_daysLeft_25 : decode cX8_daysLeft 25 = .ok (.ireturn, 1) := by decide +kernel
theorem dX8_daysLeft_26 : decode cX8_daysLeft 26 = .ok (.aload_n 3, 1) := by decide +kernel
theorem dX8_daysLeft_27 : decode cX8_daysLeft 27 = .ok (.iload_n 2, 1) := by decide +kernel
theorem dX8_daysLeft_28 : decode cX8_daysLeft 28 = .ok (.invokevirtual 65, 3) := by decide +kernel
theorem dX8_daysLeft_31 : decode cX8_daysLeft 31 = .ok (.ireturn, 1) := by decide +kernel
theorem dX8_lapse_0 : decode cX8_lapse 0 = .ok (.iconst 0, 1) := by decide +kernel
theorem dX8_lapse_1 : decode cX8_lapse 1 = .ok (.istore_n 1, 1) := by decide +kernel
theorem dX8_lapse_2 : decode cX8_lapse 2 = .ok (.iconst 0, 1) := by decide +kernel
theorem dX8_lapse_3 : decode cX8_lapse 3 = .ok (.istore_n 2, 1) := by decide +kernel
theorem dX8_lapse_4 : decode cX8_lapse 4 = .ok (.iload_n 2, 1) := by decide +kernel
theorem dX8_lapse_5 : decode cX8_lapse 5 = .ok (.bipush 40, 2) := by decide +kernel
theorem dX8_lapse_7 : decode cX8_lapse 7 = .ok (.if_icmp .ge 30, 3) := by decide +kernel
theorem dX8_lapse_10 : decode cX8_lapse 10 = .ok (.aload_n 0, 1) := by decide +kernel
theorem dX8_lapse_11 : decode cX8_lapse 11 = .ok (.iload_n 2, 1) := by decide +kernel
theorem dX8_lapse_12 : decode cX8_lapse 12 = .ok (.invokevirtual 43, 3) := by decide +kernel
theorem dX8_lapse_15 : decode cX8_lapse 15 = .ok (.astore_n 3, 1) := by decide +kernel
theorem dX8_lapse_16 : decode cX8_lapse 16 = .ok (.aload_n 3, 1) := by decide +kernel
theorem dX8_lapse_17 : decode cX8_lapse 17 = .ok (.ifnull 14, 3) := by decide +kernel
theorem dX8_lapse_20 : decode cX8_lapse 20 = .ok (.iload_n 1, 1) := by decide +kernel
theorem dX8_lapse_21 : decode cX8_lapse 21 = .ok (.aload_n 3, 1) := by decide +kernel
theorem dX8_lapse_22 : decode cX8_lapse 22 = .ok (.aload_n 0, 1) := by decide +kernel
theorem dX8_lapse_23 : decode cX8_lapse 23 = .ok (.getfield 19, 3) := by decide +kernel
theorem dX8_lapse_26 : decode cX8_lapse 26 = .ok (.invokevirtual 68, 3) := by decide +kernel
theorem dX8_lapse_29 : decode cX8_lapse 29 = .ok (.iadd, 1) := by decide +kernel
theorem dX8_lapse_30 : decode cX8_lapse 30 = .ok (.istore_n 1, 1) := by decide +kernel
theorem dX8_lapse_31 : decode cX8_lapse 31 = .ok (.iinc 2 1, 3) := by decide +kernel
theorem dX8_lapse_34 : decode cX8_lapse 34 = .ok (.goto (-30), 3) := by decide +kernel
theorem dX8_lapse_37 : decode cX8_lapse 37 = .ok (.aload_n 0, 1) := by decide +kernel
theorem dX8_lapse_38 : decode cX8_lapse 38 = .ok (.dup, 1) := by decide +kernel
theorem dX8_lapse_39 : decode cX8_lapse 39 = .ok (.getfield 31, 3) := by decide +kernel
theorem dX8_lapse_42 : decode cX8_lapse 42 = .ok (.iload_n 1, 1) := by decide +kernel
theorem dX8_lapse_43 : decode cX8_lapse 43 = .ok (.iadd, 1) := by decide +kernel
theorem dX8_lapse_44 : decode cX8_lapse 44 = .ok (.putfield 31, 3) := by decide +kernel
theorem dX8_lapse_47 : decode cX8_lapse 47 = .ok (.iload_n 1, 1) := by decide +kernel
theorem dX8_lapse_48 : decode cX8_lapse 48 = .ok (.ireturn, 1) := by decide +kernel
theorem dX8_merge_0 : decode cX8_merge 0 = .ok (.aload_n 0, 1) := by decide +kernel
theorem dX8_merge_1 : decode cX8_merge 1 = .ok (.iload_n 1, 1) := by decide +kernel
theorem dX8_merge_2 : decode cX8_merge 2 = .ok (.invokevirtual 43, 3) := by decide +kernel
theorem dX8_merge_5 : decode cX8_merge 5 = .ok (.astore_n 3, 1) := by decide +kernel
theorem dX8_merge_6 : decode cX8_merge 6 = .ok (.aload_n 0, 1) := by decide +kernel
theorem dX8_merge_7 : decode cX8_merge 7 = .ok (.iload_n 2, 1) := by decide +kernel
theorem dX8_merge_8 : decode cX8_merge 8 = .ok (.invokevirtual 43, 3) := by decide +kernel
theorem dX8_merge_11 : decode cX8_merge 11 = .ok (.astore 4, 2) := by decide +kernel
theorem dX8_merge_13 : decode cX8_merge 13 = .ok (.aload_n 3, 1) := by decide +kernel
theorem dX8_merge_14 : decode cX8_merge 14 = .ok (.ifnull 8, 3) := by decide +kernel
theorem dX8_merge_17 : decode cX8_merge 17 = .ok (.aload 4, 2) := by decide +kernel
theorem dX8_merge_19 : decode cX8_merge 19 = .ok (.ifnonnull 5, 3) := by decide +kernel
theorem dX8_merge_22 : decode cX8_merge 22 = .ok (.iconst (-1), 1) := by decide +kernel
theorem dX8_merge_23 : decode cX8_merge 23 = .ok (.ireturn, 1) := by decide +kernel
theorem dX8_merge_24 : decode cX8_merge 24 = .ok (.iload_n 1, 1) := by decide +kernel
theorem dX8_merge_25 : decode cX8_merge 25 = .ok (.iload_n 2, 1) := by decide +kernel
theorem dX8_merge_26 : decode cX8_merge 26 = .ok (.if_icmp .ne 6, 3) := by decide +kernel
theorem dX8_merge_29 : decode cX8_merge 29 = .ok (.bipush (-2), 2) := by decide +kernel
theorem dX8_merge_31 : decode cX8_merge 31 = .ok (.ireturn, 1) := by decide +kernel
theorem dX8_merge_32 : decode cX8_merge 32 = .ok (.aload_n 3, 1) := by decide +kernel
theorem dX8_merge_33 : decode cX8_merge 33 = .ok (.getfield 71, 3) := by decide +kernel
theorem dX8_merge_36 : decode cX8_merge 36 = .ok (.aload 4, 2) := by decide +kernel
theorem dX8_merge_38 : decode cX8_merge 38 = .ok (.getfield 71, 3) := by decide +kernel
theorem dX8_merge_41 : decode cX8_merge 41 = .ok (.if_icmp .eq 6, 3) := by decide +kernel
theorem dX8_merge_44 : decode cX8_merge 44 = .ok (.bipush (-3), 2) := by decide +kernel
theorem dX8_merge_46 : decode cX8_merge 46 = .ok (.ireturn, 1) := by decide +kernel
theorem dX8_merge_47 : decode cX8_merge 47 = .ok (.aload_n 3, 1) := by decide +kernel
theorem dX8_merge_48 : decode cX8_merge 48 = .ok (.getfield 74, 3) := by decide +kernel
theorem dX8_merge_51 : decode cX8_merge 51 = .ok (.aload 4, 2) := by decide +kernel
theorem dX8_merge_53 : decode cX8_merge 53 = .ok (.getfield 74, 3) := by decide +kernel
theorem dX8_merge_56 : decode cX8_merge 56 = .ok (.iadd, 1) := by decide +kernel
theorem dX8_merge_57 : decode cX8_merge 57 = .ok (.ldc 38, 2) := by decide +kernel
theorem dX8_merge_59 : decode cX8_merge 59 = .ok (.if_icmp .le 6, 3) := by decide +kernel
theorem dX8_merge_62 : decode cX8_merge 62 = .ok (.bipush (-4), 2) := by decide +kernel
theorem dX8_merge_64 : decode cX8_merge 64 = .ok (.ireturn, 1) := by decide +kernel
theorem dX8_merge_65 : decode cX8_merge 65 = .ok (.aload_n 3, 1) := by decide +kernel
theorem dX8_merge_66 : decode cX8_merge 66 = .ok (.aload 4, 2) := by decide +kernel
theorem dX8_merge_68 : decode cX8_merge 68 = .ok (.invokevirtual 77, 3) := by decide +kernel
theorem dX8_merge_71 : decode cX8_merge 71 = .ok (.aload_n 0, 1) := by decide +kernel
theorem dX8_merge_72 : decode cX8_merge 72 = .ok (.getfield 11, 3) := by decide +kernel
theorem dX8_merge_75 : decode cX8_merge 75 = .ok (.iload_n 2, 1) := by decide +kernel
theorem dX8_merge_76 : decode cX8_merge 76 = .ok (.aconst_null, 1) := by decide +kernel
theorem dX8_merge_77 : decode cX8_merge 77 = .ok (.aastore, 1) := by decide +kernel
theorem dX8_merge_78 : decode cX8_merge 78 = .ok (.aload_n 3, 1) := by decide +kernel
theorem dX8_merge_79 : decode cX8_merge 79 = .ok (.getfield 74, 3) := by decide +kernel
theorem dX8_merge_82 : decode cX8_merge 82 = .ok (.ireturn, 1) := by decide +kernel
theorem dX8_total_0 : decode cX8_total 0 = .ok (.iload_n 1, 1) := by decide +kernel
theorem dX8_total_1 : decode cX8_total 1 = .ok (.iconst 0, 1) := by decide +kernel
theorem dX8_total_2 : decode cX8_total 2 = .ok (.sipush 20000, 3) := by decide +kernel
theorem dX8_total_5 : decode cX8_total 5 = .ok (.invokestatic 34, 3) := by decide +kernel
theorem dX8_total_8 : decode cX8_total 8 = .ok (.ifCond .eq 6, 3) := by decide +kernel
theorem dX8_total_11 : decode cX8_total 11 = .ok (.bipush (-2), 2) := by decide +kernel
theorem dX8_total_13 : decode cX8_total 13 = .ok (.ireturn, 1) := by decide +kernel
theorem dX8_total_14 : decode cX8_total 14 = .ok (.iconst 0, 1) := by decide +kernel
theorem dX8_total_15 : decode cX8_total 15 = .ok (.istore_n 2, 1) := by decide +kernel
theorem dX8_total_16 : decode cX8_total 16 = .ok (.iconst 0, 1) := by decide +kernel
theorem dX8_total_17 : decode cX8_total 17 = .ok (.istore_n 3, 1) := by decide +kernel
theorem dX8_total_18 : decode cX8_total 18 = .ok (.iload_n 3, 1) := by decide +kernel
theorem dX8_total_19 : decode cX8_total 19 = .ok (.bipush 40, 2) := by decide +kernel
theorem dX8_total_21 : decode cX8_total 21 = .ok (.if_icmp .ge 30, 3) := by decide +kernel
theorem dX8_total_24 : decode cX8_total 24 = .ok (.aload_n 0, 1) := by decide +kernel
theorem dX8_total_25 : decode cX8_total 25 = .ok (.iload_n 3, 1) := by decide +kernel
theorem dX8_total_26 : decode cX8_total 26 = .ok (.invokevirtual 43, 3) := by decide +kernel
theorem dX8_total_29 : decode cX8_total 29 = .ok (.astore 4, 2) := by decide +kernel
theorem dX8_total_31 : decode cX8_total 31 = .ok (.aload 4, 2) := by decide +kernel
theorem dX8_total_33 : decode cX8_total 33 = .ok (.ifnull 12, 3) := by decide +kernel
theorem dX8_total_36 : decode cX8_total 36 = .ok (.iload_n 2, 1) := by decide +kernel
theorem dX8_total_37 : decode cX8_total 37 = .ok (.aload 4, 2) := by decide +kernel
theorem dX8_total_39 : decode cX8_total 39 = .ok (.iload_n 1, 1) := by decide +kernel
theorem dX8_total_40 : decode cX8_total 40 = .ok (.invokevirtual 47, 3) := by decide +kernel
theorem dX8_total_43 : decode cX8_total 43 = .ok (.iadd, 1) := by decide +kernel
theorem dX8_total_44 : decode cX8_total 44 = .ok (.istore_n 2, 1) := by decide +kernel
theorem dX8_total_45 : decode cX8_total 45 = .ok (.iinc 3 1, 3) := by decide +kernel
theorem dX8_total_48 : decode cX8_total 48 = .ok (.goto (-30), 3) := by decide +kernel
theorem dX8_total_51 : decode cX8_total 51 = .ok (.iload_n 2, 1) := by decide +kernel
theorem dX8_total_52 : decode cX8_total 52 = .ok (.ireturn, 1) := by decide +kernel
theorem dX8_paper_0 : decode cX8_paper 0 = .ok (.aload_n 0, 1) := by decide +kernel
theorem dX8_paper_1 : decode cX8_paper 1 = .ok (.iload_n 1, 1) := by decide +kernel
theorem dX8_paper_2 : decode cX8_paper 2 = .ok (.invokevirtual 43, 3) := by decide +kernel
theorem dX8_paper_5 : decode cX8_paper 5 = .ok (.astore_n 3, 1) := by decide +kernel
theorem dX8_paper_6 : decode cX8_paper 6 = .ok (.aload_n 3, 1) := by decide +kernel
theorem dX8_paper_7 : decode cX8_paper 7 = .ok (.ifnonnull 5, 3) := by decide +kernel
theorem dX8_paper_10 : decode cX8_paper 10 = .ok (.iconst (-1), 1) := by decide +kernel
theorem dX8_paper_11 : decode cX8_paper 11 = .ok (.ireturn, 1) := by decide +kernel
theorem dX8_paper_12 : decode cX8_paper 12 = .ok (.iload_n 2, 1) := by decide +kernel
theorem dX8_paper_13 : decode cX8_paper 13 = .ok (.tableswitch 69 0 5 #[39, 44, 49, 54, 59, 64], 39) := by decide +kernel
theorem dX8_paper_52 : decode cX8_paper 52 = .ok (.aload_n 3, 1) := by decide +kernel
theorem dX8_paper_53 : decode cX8_paper 53 = .ok (.getfield 71, 3) := by decide +kernel
theorem dX8_paper_56 : decode cX8_paper 56 = .ok (.ireturn, 1) := by decide +kernel
theorem dX8_paper_57 : decode cX8_paper 57 = .ok (.aload_n 3, 1) := by decide +kernel
theorem dX8_paper_58 : decode cX8_paper 58 = .ok (.getfield 74, 3) := by decide +kernel
theorem dX8_paper_61 : decode cX8_paper 61 = .ok (.ireturn, 1) := by decide +kernel
theorem dX8_paper_62 : decode cX8_paper 62 = .ok (.aload_n 3, 1) := by decide +kernel
theorem dX8_paper_63 : decode cX8_paper 63 = .ok (.getfield 81, 3) := by decide +kernel
theorem dX8_paper_66 : decode cX8_paper 66 = .ok (.ireturn, 1) := by decide +kernel
theorem dX8_paper_67 : decode cX8_paper 67 = .ok (.aload_n 3, 1) := by decide +kernel
theorem dX8_paper_68 : decode cX8_paper 68 = .ok (.getfield 84, 3) := by decide +kernel
theorem dX8_paper_71 : decode cX8_paper 71 = .ok (.ireturn, 1) := by decide +kernel
theorem dX8_paper_72 : decode cX8_paper 72 = .ok (.aload_n 3, 1) := by decide +kernel
theorem dX8_paper_73 : decode cX8_paper 73 = .ok (.invokevirtual 87, 3) := by decide +kernel
theorem dX8_paper_76 : decode cX8_paper 76 = .ok (.ireturn, 1) := by decide +kernel
theorem dX8_paper_77 : decode cX8_paper 77 = .ok (.aload_n 3, 1) := by decide +kernel
theorem dX8_paper_78 : decode cX8_paper 78 = .ok (.invokevirtual 90, 3) := by decide +kernel
theorem dX8_paper_81 : decode cX8_paper 81 = .ok (.ireturn, 1) := by decide +kernel
theorem dX8_paper_82 : decode cX8_paper 82 = .ok (.bipush (-2), 2) := by decide +kernel
theorem dX8_paper_84 : decode cX8_paper 84 = .ok (.ireturn, 1) := by decide +kernel
theorem dX8_count_0 : decode cX8_count 0 = .ok (.iload_n 1, 1) := by decide +kernel
theorem dX8_count_1 : decode cX8_count 1 = .ok (.tableswitch 78 0 6 #[43, 48, 53, 58, 63, 68, 73], 43) := by decide +kernel
theorem dX8_count_44 : decode cX8_count 44 = .ok (.aload_n 0, 1) := by decide +kernel
theorem dX8_count_45 : decode cX8_count 45 = .ok (.getfield 19, 3) := by decide +kernel
theorem dX8_count_48 : decode cX8_count 48 = .ok (.ireturn, 1) := by decide +kernel
theorem dX8_count_49 : decode cX8_count 49 = .ok (.aload_n 0, 1) := by decide +kernel
theorem dX8_count_50 : decode cX8_count 50 = .ok (.getfield 15, 3) := by decide +kernel
theorem dX8_count_53 : decode cX8_count 53 = .ok (.ireturn, 1) := by decide +kernel
theorem dX8_count_54 : decode cX8_count 54 = .ok (.aload_n 0, 1) := by decide +kernel
theorem dX8_count_55 : decode cX8_count 55 = .ok (.getfield 22, 3) := by decide +kernel
theorem dX8_count_58 : decode cX8_count 58 = .ok (.ireturn, 1) := by decide +kernel
theorem dX8_count_59 : decode cX8_count 59 = .ok (.aload_n 0, 1) := by decide +kernel
theorem dX8_count_60 : decode cX8_count 60 = .ok (.getfield 25, 3) := by decide +kernel
theorem dX8_count_63 : decode cX8_count 63 = .ok (.ireturn, 1) := by decide +kernel
theorem dX8_count_64 : decode cX8_count 64 = .ok (.aload_n 0, 1) := by decide +kernel
theorem dX8_count_65 : decode cX8_count 65 = .ok (.getfield 28, 3) := by decide +kernel
theorem dX8_count_68 : decode cX8_count 68 = .ok (.ireturn, 1) := by decide +kernel
theorem dX8_count_69 : decode cX8_count 69 = .ok (.aload_n 0, 1) := by decide +kernel
theorem dX8_count_70 : decode cX8_count 70 = .ok (.getfield 31, 3) := by decide +kernel
theorem dX8_count_73 : decode cX8_count 73 = .ok (.ireturn, 1) := by decide +kernel
theorem dX8_count_74 : decode cX8_count 74 = .ok (.aload_n 0, 1) := by decide +kernel
theorem dX8_count_75 : decode cX8_count 75 = .ok (.invokevirtual 93, 3) := by decide +kernel
theorem dX8_count_78 : decode cX8_count 78 = .ok (.ireturn, 1) := by decide +kernel
theorem dX8_count_79 : decode cX8_count 79 = .ok (.bipush (-2), 2) := by decide +kernel
theorem dX8_count_81 : decode cX8_count 81 = .ok (.ireturn, 1) := by decide +kernel
theorem dX8_leftOfAll_0 : decode cX8_leftOfAll 0 = .ok (.iconst 0, 1) := by decide +kernel
theorem dX8_leftOfAll_1 : decode cX8_leftOfAll 1 = .ok (.istore_n 1, 1) := by decide +kernel
theorem dX8_leftOfAll_2 : decode cX8_leftOfAll 2 = .ok (.iconst 0, 1) := by decide +kernel
theorem dX8_leftOfAll_3 : decode cX8_leftOfAll 3 = .ok (.istore_n 2, 1) := by decide +kernel
theorem dX8_leftOfAll_4 : decode cX8_leftOfAll 4 = .ok (.iload_n 2, 1) := by decide +kernel
theorem dX8_leftOfAll_5 : decode cX8_leftOfAll 5 = .ok (.bipush 40, 2) := by decide +kernel
theorem dX8_leftOfAll_7 : decode cX8_leftOfAll 7 = .ok (.if_icmp .ge 26, 3) := by decide +kernel
theorem dX8_leftOfAll_10 : decode cX8_leftOfAll 10 = .ok (.aload_n 0, 1) := by decide +kernel
theorem dX8_leftOfAll_11 : decode cX8_leftOfAll 11 = .ok (.iload_n 2, 1) := by decide +kernel
theorem dX8_leftOfAll_12 : decode cX8_leftOfAll 12 = .ok (.invokevirtual 43, 3) := by decide +kernel
theorem dX8_leftOfAll_15 : decode cX8_leftOfAll 15 = .ok (.astore_n 3, 1) := by decide +kernel
theorem dX8_leftOfAll_16 : decode cX8_leftOfAll 16 = .ok (.aload_n 3, 1) := by decide +kernel
theorem dX8_leftOfAll_17 : decode cX8_leftOfAll 17 = .ok (.ifnull 10, 3) := by decide +kernel
theorem dX8_leftOfAll_20 : decode cX8_leftOfAll 20 = .ok (.iload_n 1, 1) := by decide +kernel
theorem dX8_leftOfAll_21 : decode cX8_leftOfAll 21 = .ok (.aload_n 3, 1) := by decide +kernel
theorem dX8_leftOfAll_22 : decode cX8_leftOfAll 22 = .ok (.getfield 81, 3) := by decide +kernel
theorem dX8_leftOfAll_25 : decode cX8_leftOfAll 25 = .ok (.iadd, 1) := by decide +kernel
theorem dX8_leftOfAll_26 : decode cX8_leftOfAll 26 = .ok (.istore_n 1, 1) := by decide +kernel
theorem dX8_leftOfAll_27 : decode cX8_leftOfAll 27 = .ok (.iinc 2 1, 3) := by decide +kernel
theorem dX8_leftOfAll_30 : decode cX8_leftOfAll 30 = .ok (.goto (-26), 3) := by decide +kernel
theorem dX8_leftOfAll_33 : decode cX8_leftOfAll 33 = .ok (.iload_n 1, 1) := by decide +kernel
theorem dX8_leftOfAll_34 : decode cX8_leftOfAll 34 = .ok (.ireturn, 1) := by decide +kernel
theorem dX8_find_0 : decode cX8_find 0 = .ok (.iload_n 1, 1) := by decide +kernel
theorem dX8_find_1 : decode cX8_find 1 = .ok (.iconst 0, 1) := by decide +kernel
theorem dX8_find_2 : decode cX8_find 2 = .ok (.bipush 39, 2) := by decide +kernel
theorem dX8_find_4 : decode cX8_find 4 = .ok (.invokestatic 34, 3) := by decide +kernel
theorem dX8_find_7 : decode cX8_find 7 = .ok (.ifCond .eq 5, 3) := by decide +kernel
theorem dX8_find_10 : decode cX8_find 10 = .ok (.aconst_null, 1) := by decide +kernel
theorem dX8_find_11 : decode cX8_find 11 = .ok (.areturn, 1) := by decide +kernel
theorem dX8_find_12 : decode cX8_find 12 = .ok (.aload_n 0, 1) := by decide +kernel
theorem dX8_find_13 : decode cX8_find 13 = .ok (.getfield 11, 3) := by decide +kernel
theorem dX8_find_16 : decode cX8_find 16 = .ok (.iload_n 1, 1) := by decide +kernel
theorem dX8_find_17 : decode cX8_find 17 = .ok (.aaload, 1) := by decide +kernel
theorem dX8_find_18 : decode cX8_find 18 = .ok (.areturn, 1) := by decide +kernel
theorem dX8_isOutside_0 : decode cX8_isOutside 0 = .ok (.iload_n 0, 1) := by decide +kernel
theorem dX8_isOutside_1 : decode cX8_isOutside 1 = .ok (.iload_n 1, 1) := by decide +kernel
theorem dX8_isOutside_2 : decode cX8_isOutside 2 = .ok (.if_icmp .lt 8, 3) := by decide +kernel
theorem dX8_isOutside_5 : decode cX8_isOutside 5 = .ok (.iload_n 0, 1) := by decide +kernel
theorem dX8_isOutside_6 : decode cX8_isOutside 6 = .ok (.iload_n 2, 1) := by decide +kernel
theorem dX8_isOutside_7 : decode cX8_isOutside 7 = .ok (.if_icmp .le 7, 3) := by decide +kernel
theorem dX8_isOutside_10 : decode cX8_isOutside 10 = .ok (.iconst 1, 1) := by decide +kernel
theorem dX8_isOutside_11 : decode cX8_isOutside 11 = .ok (.goto 4, 3) := by decide +kernel
theorem dX8_isOutside_14 : decode cX8_isOutside 14 = .ok (.iconst 0, 1) := by decide +kernel
theorem dX8_isOutside_15 : decode cX8_isOutside 15 = .ok (.ireturn, 1) := by decide +kernel
theorem dX8_newVoucher_0 : decode cX8_newVoucher 0 = .ok (.iload_n 0, 1) := by decide +kernel
theorem dX8_newVoucher_1 : decode cX8_newVoucher 1 = .ok (.tableswitch 120 0 6 #[43, 54, 65, 76, 87, 98, 109], 43) := by decide +kernel
theorem dX8_newVoucher_44 : decode cX8_newVoucher 44 = .ok (.new 9, 3) := by decide +kernel
theorem dX8_newVoucher_47 : decode cX8_newVoucher 47 = .ok (.dup, 1) := by decide +kernel
theorem dX8_newVoucher_48 : decode cX8_newVoucher 48 = .ok (.iload_n 0, 1) := by decide +kernel
theorem dX8_newVoucher_49 : decode cX8_newVoucher 49 = .ok (.iload_n 1, 1) := by decide +kernel
theorem dX8_newVoucher_50 : decode cX8_newVoucher 50 = .ok (.iload_n 2, 1) := by decide +kernel
theorem dX8_newVoucher_51 : decode cX8_newVoucher 51 = .ok (.invokespecial 96, 3) := by decide +kernel
theorem dX8_newVoucher_54 : decode cX8_newVoucher 54 = .ok (.areturn, 1) := by decide +kernel
theorem dX8_newVoucher_55 : decode cX8_newVoucher 55 = .ok (.new 99, 3) := by decide +kernel
theorem dX8_newVoucher_58 : decode cX8_newVoucher 58 = .ok (.dup, 1) := by decide +kernel
theorem dX8_newVoucher_59 : decode cX8_newVoucher 59 = .ok (.iload_n 0, 1) := by decide +kernel
theorem dX8_newVoucher_60 : decode cX8_newVoucher 60 = .ok (.iload_n 1, 1) := by decide +kernel
theorem dX8_newVoucher_61 : decode cX8_newVoucher 61 = .ok (.iload_n 2, 1) := by decide +kernel
theorem dX8_newVoucher_62 : decode cX8_newVoucher 62 = .ok (.invokespecial 101, 3) := by decide +kernel
theorem dX8_newVoucher_65 : decode cX8_newVoucher 65 = .ok (.areturn, 1) := by decide +kernel
theorem dX8_newVoucher_66 : decode cX8_newVoucher 66 = .ok (.new 102, 3) := by decide +kernel
theorem dX8_newVoucher_69 : decode cX8_newVoucher 69 = .ok (.dup, 1) := by decide +kernel
theorem dX8_newVoucher_70 : decode cX8_newVoucher 70 = .ok (.iload_n 0, 1) := by decide +kernel
theorem dX8_newVoucher_71 : decode cX8_newVoucher 71 = .ok (.iload_n 1, 1) := by decide +kernel
theorem dX8_newVoucher_72 : decode cX8_newVoucher 72 = .ok (.iload_n 2, 1) := by decide +kernel
theorem dX8_newVoucher_73 : decode cX8_newVoucher 73 = .ok (.invokespecial 104, 3) := by decide +kernel
theorem dX8_newVoucher_76 : decode cX8_newVoucher 76 = .ok (.areturn, 1) := by decide +kernel
theorem dX8_newVoucher_77 : decode cX8_newVoucher 77 = .ok (.new 105, 3) := by decide +kernel
theorem dX8_newVoucher_80 : decode cX8_newVoucher 80 = .ok (.dup, 1) := by decide +kernel
theorem dX8_newVoucher_81 : decode cX8_newVoucher 81 = .ok (.iload_n 0, 1) := by decide +kernel
theorem dX8_newVoucher_82 : decode cX8_newVoucher 82 = .ok (.iload_n 1, 1) := by decide +kernel
theorem dX8_newVoucher_83 : decode cX8_newVoucher 83 = .ok (.iload_n 2, 1) := by decide +kernel
theorem dX8_newVoucher_84 : decode cX8_newVoucher 84 = .ok (.invokespecial 107, 3) := by decide +kernel
theorem dX8_newVoucher_87 : decode cX8_newVoucher 87 = .ok (.areturn, 1) := by decide +kernel
theorem dX8_newVoucher_88 : decode cX8_newVoucher 88 = .ok (.new 108, 3) := by decide +kernel
theorem dX8_newVoucher_91 : decode cX8_newVoucher 91 = .ok (.dup, 1) := by decide +kernel
theorem dX8_newVoucher_92 : decode cX8_newVoucher 92 = .ok (.iload_n 0, 1) := by decide +kernel
theorem dX8_newVoucher_93 : decode cX8_newVoucher 93 = .ok (.iload_n 1, 1) := by decide +kernel
theorem dX8_newVoucher_94 : decode cX8_newVoucher 94 = .ok (.iload_n 2, 1) := by decide +kernel
theorem dX8_newVoucher_95 : decode cX8_newVoucher 95 = .ok (.invokespecial 110, 3) := by decide +kernel
theorem dX8_newVoucher_98 : decode cX8_newVoucher 98 = .ok (.areturn, 1) := by decide +kernel
theorem dX8_newVoucher_99 : decode cX8_newVoucher 99 = .ok (.new 111, 3) := by decide +kernel
theorem dX8_newVoucher_102 : decode cX8_newVoucher 102 = .ok (.dup, 1) := by decide +kernel
theorem dX8_newVoucher_103 : decode cX8_newVoucher 103 = .ok (.iload_n 0, 1) := by decide +kernel
theorem dX8_newVoucher_104 : decode cX8_newVoucher 104 = .ok (.iload_n 1, 1) := by decide +kernel
theorem dX8_newVoucher_105 : decode cX8_newVoucher 105 = .ok (.iload_n 2, 1) := by decide +kernel
theorem dX8_newVoucher_106 : decode cX8_newVoucher 106 = .ok (.invokespecial 113, 3) := by decide +kernel
theorem dX8_newVoucher_109 : decode cX8_newVoucher 109 = .ok (.areturn, 1) := by decide +kernel
theorem dX8_newVoucher_110 : decode cX8_newVoucher 110 = .ok (.new 114, 3) := by decide +kernel
theorem dX8_newVoucher_113 : decode cX8_newVoucher 113 = .ok (.dup, 1) := by decide +kernel
theorem dX8_newVoucher_114 : decode cX8_newVoucher 114 = .ok (.iload_n 0, 1) := by decide +kernel
theorem dX8_newVoucher_115 : decode cX8_newVoucher 115 = .ok (.iload_n 1, 1) := by decide +kernel
theorem dX8_newVoucher_116 : decode cX8_newVoucher 116 = .ok (.iload_n 2, 1) := by decide +kernel
theorem dX8_newVoucher_117 : decode cX8_newVoucher 117 = .ok (.invokespecial 116, 3) := by decide +kernel
theorem dX8_newVoucher_120 : decode cX8_newVoucher 120 = .ok (.areturn, 1) := by decide +kernel
theorem dX8_newVoucher_121 : decode cX8_newVoucher 121 = .ok (.new 117, 3) := by decide +kernel
theorem dX8_newVoucher_124 : decode cX8_newVoucher 124 = .ok (.dup, 1) := by decide +kernel
theorem dX8_newVoucher_125 : decode cX8_newVoucher 125 = .ok (.iload_n 0, 1) := by decide +kernel
theorem dX8_newVoucher_126 : decode cX8_newVoucher 126 = .ok (.iload_n 1, 1) := by decide +kernel
theorem dX8_newVoucher_127 : decode cX8_newVoucher 127 = .ok (.iload_n 2, 1) := by decide +kernel
theorem dX8_newVoucher_128 : decode cX8_newVoucher 128 = .ok (.invokespecial 119, 3) := by decide +kernel
theorem dX8_newVoucher_131 : decode cX8_newVoucher 131 = .ok (.areturn, 1) := by decide +kernel
theorem dX9_init_0 : decode cX9_init 0 = .ok (.aload_n 0, 1) := by decide +kernel
theorem dX9_init_1 : decode cX9_init 1 = .ok (.invokespecial 1, 3) := by decide +kernel
theorem dX9_init_4 : decode cX9_init 4 = .ok (.aload_n 0, 1) := by decide +kernel
theorem dX9_init_5 : decode cX9_init 5 = .ok (.bipush 40, 2) := by decide +kernel
theorem dX9_init_7 : decode cX9_init 7 = .ok (.newarray .int, 2) := by decide +kernel
theorem dX9_init_9 : decode cX9_init 9 = .ok (.putfield 7, 3) := by decide +kernel
theorem dX9_init_12 : decode cX9_init 12 = .ok (.aload_n 0, 1) := by decide +kernel
theorem dX9_init_13 : decode cX9_init 13 = .ok (.bipush 40, 2) := by decide +kernel
theorem dX9_init_15 : decode cX9_init 15 = .ok (.newarray .int, 2) := by decide +kernel
theorem dX9_init_17 : decode cX9_init 17 = .ok (.putfield 13, 3) := by decide +kernel
theorem dX9_init_20 : decode cX9_init 20 = .ok (.aload_n 0, 1) := by decide +kernel
theorem dX9_init_21 : decode cX9_init 21 = .ok (.bipush 40, 2) := by decide +kernel
theorem dX9_init_23 : decode cX9_init 23 = .ok (.newarray .int, 2) := by decide +kernel
theorem dX9_init_25 : decode cX9_init 25 = .ok (.putfield 16, 3) := by decide +kernel
