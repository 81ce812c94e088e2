theorem dX9_init_28 : decode cX9_init 28 = .ok (.aload_n 0, 1) := by decide +kernel
theorem dX9_init_29 : decode cX9_init 29 = .ok (.bipush 40, 2) := by decide +kernel
theorem dX9_init_31 : decode cX9_init 31 = .ok (.newarray .int, 2) := by decide +kernel
theorem dX9_init_33 : decode cX9_init 33 = .ok (.putfield 19, 3) := by decide +kernel
theorem dX9_init_36 : decode cX9_init 36 = .ok (.aload_n 0, 1) := by decide +kernel
theorem dX9_init_37 : decode cX9_init 37 = .ok (.bipush 40, 2) := by decide +kernel
theorem dX9_init_39 : decode cX9_init 39 = .ok (.newarray .int, 2) := by decide +kernel
theorem dX9_init_41 : decode cX9_init 41 = .ok (.putfield 22, 3) := by decide +kernel
theorem dX9_init_44 : decode cX9_init 44 = .ok (.aload_n 0, 1) := by decide +kernel
theorem dX9_init_45 : decode cX9_init 45 = .ok (.bipush 40, 2) := by decide +kernel
theorem dX9_init_47 : decode cX9_init 47 = .ok (.newarray .int, 2) := by decide +kernel
theorem dX9_init_49 : decode cX9_init 49 = .ok (.putfield 25, 3) := by decide +kernel
theorem dX9_init_52 : decode cX9_init 52 = .ok (.aload_n 0, 1) := by decide +kernel
theorem dX9_init_53 : decode cX9_init 53 = .ok (.bipush 40, 2) := by decide +kernel
theorem dX9_init_55 : decode cX9_init 55 = .ok (.newarray .boolean, 2) := by decide +kernel
theorem dX9_init_57 : decode cX9_init 57 = .ok (.putfield 28, 3) := by decide +kernel
theorem dX9_init_60 : decode cX9_init 60 = .ok (.return_, 1) := by decide +kernel
theorem dX9_within_0 : decode cX9_within 0 = .ok (.iload_n 0, 1) := by decide +kernel
theorem dX9_within_1 : decode cX9_within 1 = .ok (.iload_n 1, 1) := by decide +kernel
theorem dX9_within_2 : decode cX9_within 2 = .ok (.if_icmp .lt 12, 3) := by decide +kernel
theorem dX9_within_5 : decode cX9_within 5 = .ok (.iload_n 0, 1) := by decide +kernel
theorem dX9_within_6 : decode cX9_within 6 = .ok (.iload_n 2, 1) := by decide +kernel
theorem dX9_within_7 : decode cX9_within 7 = .ok (.if_icmp .gt 7, 3) := by decide +kernel
theorem dX9_within_10 : decode cX9_within 10 = .ok (.iconst 1, 1) := by decide +kernel
theorem dX9_within_11 : decode cX9_within 11 = .ok (.goto 4, 3) := by decide +kernel
theorem dX9_within_14 : decode cX9_within 14 = .ok (.iconst 0, 1) := by decide +kernel
theorem dX9_within_15 : decode cX9_within 15 = .ok (.ireturn, 1) := by decide +kernel
theorem dX9_isThere_0 : decode cX9_isThere 0 = .ok (.iload_n 1, 1) := by decide +kernel
theorem dX9_isThere_1 : decode cX9_isThere 1 = .ok (.iconst 0, 1) := by decide +kernel
theorem dX9_isThere_2 : decode cX9_isThere 2 = .ok (.aload_n 0, 1) := by decide +kernel
theorem dX9_isThere_3 : decode cX9_isThere 3 = .ok (.getfield 32, 3) := by decide +kernel
theorem dX9_isThere_6 : decode cX9_isThere 6 = .ok (.iconst 1, 1) := by decide +kernel
theorem dX9_isThere_7 : decode cX9_isThere 7 = .ok (.isub, 1) := by decide +kernel
theorem dX9_isThere_8 : decode cX9_isThere 8 = .ok (.invokestatic 36, 3) := by decide +kernel
theorem dX9_isThere_11 : decode cX9_isThere 11 = .ok (.ifCond .eq 16, 3) := by decide +kernel
theorem dX9_isThere_14 : decode cX9_isThere 14 = .ok (.aload_n 0, 1) := by decide +kernel
theorem dX9_isThere_15 : decode cX9_isThere 15 = .ok (.getfield 28, 3) := by decide +kernel
theorem dX9_isThere_18 : decode cX9_isThere 18 = .ok (.iload_n 1, 1) := by decide +kernel
theorem dX9_isThere_19 : decode cX9_isThere 19 = .ok (.baload, 1) := by decide +kernel
theorem dX9_isThere_20 : decode cX9_isThere 20 = .ok (.ifCond .ne 7, 3) := by decide +kernel
theorem dX9_isThere_23 : decode cX9_isThere 23 = .ok (.iconst 1, 1) := by decide +kernel
theorem dX9_isThere_24 : decode cX9_isThere 24 = .ok (.goto 4, 3) := by decide +kernel
theorem dX9_isThere_27 : decode cX9_isThere 27 = .ok (.iconst 0, 1) := by decide +kernel
theorem dX9_isThere_28 : decode cX9_isThere 28 = .ok (.ireturn, 1) := by decide +kernel
theorem dX9_isDated_0 : decode cX9_isDated 0 = .ok (.aload_n 0, 1) := by decide +kernel
theorem dX9_isDated_1 : decode cX9_isDated 1 = .ok (.getfield 7, 3) := by decide +kernel
theorem dX9_isDated_4 : decode cX9_isDated 4 = .ok (.iload_n 1, 1) := by decide +kernel
theorem dX9_isDated_5 : decode cX9_isDated 5 = .ok (.iaload, 1) := by decide +kernel
theorem dX9_isDated_6 : decode cX9_isDated 6 = .ok (.iconst 2, 1) := by decide +kernel
theorem dX9_isDated_7 : decode cX9_isDated 7 = .ok (.if_icmp .eq 13, 3) := by decide +kernel
theorem dX9_isDated_10 : decode cX9_isDated 10 = .ok (.aload_n 0, 1) := by decide +kernel
theorem dX9_isDated_11 : decode cX9_isDated 11 = .ok (.getfield 7, 3) := by decide +kernel
theorem dX9_isDated_14 : decode cX9_isDated 14 = .ok (.iload_n 1, 1) := by decide +kernel
theorem dX9_isDated_15 : decode cX9_isDated 15 = .ok (.iaload, 1) := by decide +kernel
theorem dX9_isDated_16 : decode cX9_isDated 16 = .ok (.iconst 3, 1) := by decide +kernel
theorem dX9_isDated_17 : decode cX9_isDated 17 = .ok (.if_icmp .ne 7, 3) := by decide +kernel
theorem dX9_isDated_20 : decode cX9_isDated 20 = .ok (.iconst 1, 1) := by decide +kernel
theorem dX9_isDated_21 : decode cX9_isDated 21 = .ok (.goto 4, 3) := by decide +kernel
theorem dX9_isDated_24 : decode cX9_isDated 24 = .ok (.iconst 0, 1) := by decide +kernel
theorem dX9_isDated_25 : decode cX9_isDated 25 = .ok (.ireturn, 1) := by decide +kernel
theorem dX9_hasPoints_0 : decode cX9_hasPoints 0 = .ok (.aload_n 0, 1) := by decide +kernel
theorem dX9_hasPoints_1 : decode cX9_hasPoints 1 = .ok (.getfield 7, 3) := by decide +kernel
theorem dX9_hasPoints_4 : decode cX9_hasPoints 4 = .ok (.iload_n 1, 1) := by decide +kernel
theorem dX9_hasPoints_5 : decode cX9_hasPoints 5 = .ok (.iaload, 1) := by decide +kernel
theorem dX9_hasPoints_6 : decode cX9_hasPoints 6 = .ok (.bipush 6, 2) := by decide +kernel
theorem dX9_hasPoints_8 : decode cX9_hasPoints 8 = .ok (.if_icmp .lt 7, 3) := by decide +kernel
theorem dX9_hasPoints_11 : decode cX9_hasPoints 11 = .ok (.iconst 1, 1) := by decide +kernel
theorem dX9_hasPoints_12 : decode cX9_hasPoints 12 = .ok (.goto 4, 3) := by decide +kernel
theorem dX9_hasPoints_15 : decode cX9_hasPoints 15 = .ok (.iconst 0, 1) := by decide +kernel
theorem dX9_hasPoints_16 : decode cX9_hasPoints 16 = .ok (.ireturn, 1) := by decide +kernel
theorem dX9_lastDay_0 : decode cX9_lastDay 0 = .ok (.aload_n 0, 1) := by decide +kernel
theorem dX9_lastDay_1 : decode cX9_lastDay 1 = .ok (.getfield 19, 3) := by decide +kernel
theorem dX9_lastDay_4 : decode cX9_lastDay 4 = .ok (.iload_n 1, 1) := by decide +kernel
theorem dX9_lastDay_5 : decode cX9_lastDay 5 = .ok (.iaload, 1) := by decide +kernel
theorem dX9_lastDay_6 : decode cX9_lastDay 6 = .ok (.aload_n 0, 1) := by decide +kernel
theorem dX9_lastDay_7 : decode cX9_lastDay 7 = .ok (.getfield 7, 3) := by decide +kernel
theorem dX9_lastDay_10 : decode cX9_lastDay 10 = .ok (.iload_n 1, 1) := by decide +kernel
theorem dX9_lastDay_11 : decode cX9_lastDay 11 = .ok (.iaload, 1) := by decide +kernel
theorem dX9_lastDay_12 : decode cX9_lastDay 12 = .ok (.iconst 3, 1) := by decide +kernel
theorem dX9_lastDay_13 : decode cX9_lastDay 13 = .ok (.if_icmp .ne 8, 3) := by decide +kernel
theorem dX9_lastDay_16 : decode cX9_lastDay 16 = .ok (.bipush 30, 2) := by decide +kernel
theorem dX9_lastDay_18 : decode cX9_lastDay 18 = .ok (.goto 5, 3) := by decide +kernel
theorem dX9_lastDay_21 : decode cX9_lastDay 21 = .ok (.bipush 90, 2) := by decide +kernel
theorem dX9_lastDay_23 : decode cX9_lastDay 23 = .ok (.iadd, 1) := by decide +kernel
theorem dX9_lastDay_24 : decode cX9_lastDay 24 = .ok (.ireturn, 1) := by decide +kernel
theorem dX9_valueOf_0 : decode cX9_valueOf 0 = .ok (.aload_n 0, 1) := by decide +kernel
theorem dX9_valueOf_1 : decode cX9_valueOf 1 = .ok (.iload_n 1, 1) := by decide +kernel
theorem dX9_valueOf_2 : decode cX9_valueOf 2 = .ok (.invokevirtual 40, 3) := by decide +kernel
theorem dX9_valueOf_5 : decode cX9_valueOf 5 = .ok (.ifCond .eq 14, 3) := by decide +kernel
theorem dX9_valueOf_8 : decode cX9_valueOf 8 = .ok (.iload_n 2, 1) := by decide +kernel
theorem dX9_valueOf_9 : decode cX9_valueOf 9 = .ok (.aload_n 0, 1) := by decide +kernel
theorem dX9_valueOf_10 : decode cX9_valueOf 10 = .ok (.iload_n 1, 1) := by decide +kernel
theorem dX9_valueOf_11 : decode cX9_valueOf 11 = .ok (.invokevirtual 44, 3) := by decide +kernel
theorem dX9_valueOf_14 : decode cX9_valueOf 14 = .ok (.if_icmp .le 5, 3) := by decide +kernel
theorem dX9_valueOf_17 : decode cX9_valueOf 17 = .ok (.iconst 0, 1) := by decide +kernel
theorem dX9_valueOf_18 : decode cX9_valueOf 18 = .ok (.ireturn, 1) := by decide +kernel
theorem dX9_valueOf_19 : decode cX9_valueOf 19 = .ok (.aload_n 0, 1) := by decide +kernel
theorem dX9_valueOf_20 : decode cX9_valueOf 20 = .ok (.getfield 16, 3) := by decide +kernel
theorem dX9_valueOf_23 : decode cX9_valueOf 23 = .ok (.iload_n 1, 1) := by decide +kernel
theorem dX9_valueOf_24 : decode cX9_valueOf 24 = .ok (.iaload, 1) := by decide +kernel
theorem dX9_valueOf_25 : decode cX9_valueOf 25 = .ok (.istore_n 3, 1) := by decide +kernel
theorem dX9_valueOf_26 : decode cX9_valueOf 26 = .ok (.aload_n 0, 1) := by decide +kernel
theorem dX9_valueOf_27 : decode cX9_valueOf 27 = .ok (.getfield 7, 3) := by decide +kernel
theorem dX9_valueOf_30 : decode cX9_valueOf 30 = .ok (.iload_n 1, 1) := by decide +kernel
theorem dX9_valueOf_31 : decode cX9_valueOf 31 = .ok (.iaload, 1) := by decide +kernel
theorem dX9_valueOf_32 : decode cX9_valueOf 32 = .ok (.iconst 3, 1) := by decide +kernel
theorem dX9_valueOf_33 : decode cX9_valueOf 33 = .ok (.if_icmp .ne 10, 3) := by decide +kernel
theorem dX9_valueOf_36 : decode cX9_valueOf 36 = .ok (.iload_n 3, 1) := by decide +kernel
theorem dX9_valueOf_37 : decode cX9_valueOf 37 = .ok (.iload_n 3, 1) := by decide +kernel
theorem dX9_valueOf_38 : decode cX9_valueOf 38 = .ok (.bipush 10, 2) := by decide +kernel
theorem dX9_valueOf_40 : decode cX9_valueOf 40 = .ok (.idiv, 1) := by decide +kernel
theorem dX9_valueOf_41 : decode cX9_valueOf 41 = .ok (.isub, 1) := by decide +kernel
theorem dX9_valueOf_42 : decode cX9_valueOf 42 = .ok (.ireturn, 1) := by decide +kernel
theorem dX9_valueOf_43 : decode cX9_valueOf 43 = .ok (.aload_n 0, 1) := by decide +kernel
theorem dX9_valueOf_44 : decode cX9_valueOf 44 = .ok (.getfield 7, 3) := by decide +kernel
theorem dX9_valueOf_47 : decode cX9_valueOf 47 = .ok (.iload_n 1, 1) := by decide +kernel
theorem dX9_valueOf_48 : decode cX9_valueOf 48 = .ok (.iaload, 1) := by decide +kernel
theorem dX9_valueOf_49 : decode cX9_valueOf 49 = .ok (.iconst 4, 1) := by decide +kernel
theorem dX9_valueOf_50 : decode cX9_valueOf 50 = .ok (.if_icmp .ge 5, 3) := by decide +kernel
theorem dX9_valueOf_53 : decode cX9_valueOf 53 = .ok (.iload_n 3, 1) := by decide +kernel
theorem dX9_valueOf_54 : decode cX9_valueOf 54 = .ok (.ireturn, 1) := by decide +kernel
theorem dX9_valueOf_55 : decode cX9_valueOf 55 = .ok (.iload_n 3, 1) := by decide +kernel
theorem dX9_valueOf_56 : decode cX9_valueOf 56 = .ok (.bipush 10, 2) := by decide +kernel
theorem dX9_valueOf_58 : decode cX9_valueOf 58 = .ok (.idiv, 1) := by decide +kernel
theorem dX9_valueOf_59 : decode cX9_valueOf 59 = .ok (.bipush 10, 2) := by decide +kernel
theorem dX9_valueOf_61 : decode cX9_valueOf 61 = .ok (.imul, 1) := by decide +kernel
theorem dX9_valueOf_62 : decode cX9_valueOf 62 = .ok (.istore_n 3, 1) := by decide +kernel
theorem dX9_valueOf_63 : decode cX9_valueOf 63 = .ok (.aload_n 0, 1) := by decide +kernel
theorem dX9_valueOf_64 : decode cX9_valueOf 64 = .ok (.iload_n 1, 1) := by decide +kernel
theorem dX9_valueOf_65 : decode cX9_valueOf 65 = .ok (.invokevirtual 48, 3) := by decide +kernel
theorem dX9_valueOf_68 : decode cX9_valueOf 68 = .ok (.ifCond .eq 12, 3) := by decide +kernel
theorem dX9_valueOf_71 : decode cX9_valueOf 71 = .ok (.iload_n 3, 1) := by decide +kernel
theorem dX9_valueOf_72 : decode cX9_valueOf 72 = .ok (.aload_n 0, 1) := by decide +kernel
theorem dX9_valueOf_73 : decode cX9_valueOf 73 = .ok (.getfield 22, 3) := by decide +kernel
theorem dX9_valueOf_76 : decode cX9_valueOf 76 = .ok (.iload_n 1, 1) := by decide +kernel
theorem dX9_valueOf_77 : decode cX9_valueOf 77 = .ok (.iaload, 1) := by decide +kernel
theorem dX9_valueOf_78 : decode cX9_valueOf 78 = .ok (.iadd, 1) := by decide +kernel
theorem dX9_valueOf_79 : decode cX9_valueOf 79 = .ok (.istore_n 3, 1) := by decide +kernel
theorem dX9_valueOf_80 : decode cX9_valueOf 80 = .ok (.aload_n 0, 1) := by decide +kernel
theorem dX9_valueOf_81 : decode cX9_valueOf 81 = .ok (.getfield 7, 3) := by decide +kernel
theorem dX9_valueOf_84 : decode cX9_valueOf 84 = .ok (.iload_n 1, 1) := by decide +kernel
theorem dX9_valueOf_85 : decode cX9_valueOf 85 = .ok (.iaload, 1) := by decide +kernel
theorem dX9_valueOf_86 : decode cX9_valueOf 86 = .ok (.bipush 7, 2) := by decide +kernel
theorem dX9_valueOf_88 : decode cX9_valueOf 88 = .ok (.if_icmp .ne 16, 3) := by decide +kernel
theorem dX9_valueOf_91 : decode cX9_valueOf 91 = .ok (.iload_n 2, 1) := by decide +kernel
theorem dX9_valueOf_92 : decode cX9_valueOf 92 = .ok (.bipush 7, 2) := by decide +kernel
theorem dX9_valueOf_94 : decode cX9_valueOf 94 = .ok (.irem, 1) := by decide +kernel
theorem dX9_valueOf_95 : decode cX9_valueOf 95 = .ok (.ifCond .ne 9, 3) := by decide +kernel
theorem dX9_valueOf_98 : decode cX9_valueOf 98 = .ok (.iconst 2, 1) := by decide +kernel
theorem dX9_valueOf_99 : decode cX9_valueOf 99 = .ok (.iload_n 3, 1) := by decide +kernel
theorem dX9_valueOf_100 : decode cX9_valueOf 100 = .ok (.imul, 1) := by decide +kernel
theorem dX9_valueOf_101 : decode cX9_valueOf 101 = .ok (.goto 4, 3) := by decide +kernel
theorem dX9_valueOf_104 : decode cX9_valueOf 104 = .ok (.iload_n 3, 1) := by decide +kernel
theorem dX9_valueOf_105 : decode cX9_valueOf 105 = .ok (.ireturn, 1) := by decide +kernel
theorem dX9_feeOf_0 : decode cX9_feeOf 0 = .ok (.iload_n 2, 1) := by decide +kernel
theorem dX9_feeOf_1 : decode cX9_feeOf 1 = .ok (.bipush 50, 2) := by decide +kernel
theorem dX9_feeOf_3 : decode cX9_feeOf 3 = .ok (.idiv, 1) := by decide +kernel
theorem dX9_feeOf_4 : decode cX9_feeOf 4 = .ok (.iconst 1, 1) := by decide +kernel
theorem dX9_feeOf_5 : decode cX9_feeOf 5 = .ok (.iadd, 1) := by decide +kernel
theorem dX9_feeOf_6 : decode cX9_feeOf 6 = .ok (.istore_n 3, 1) := by decide +kernel
theorem dX9_feeOf_7 : decode cX9_feeOf 7 = .ok (.aload_n 0, 1) := by decide +kernel
theorem dX9_feeOf_8 : decode cX9_feeOf 8 = .ok (.getfield 7, 3) := by decide +kernel
theorem dX9_feeOf_11 : decode cX9_feeOf 11 = .ok (.iload_n 1, 1) := by decide +kernel
theorem dX9_feeOf_12 : decode cX9_feeOf 12 = .ok (.iaload, 1) := by decide +kernel
theorem dX9_feeOf_13 : decode cX9_feeOf 13 = .ok (.iconst 3, 1) := by decide +kernel
theorem dX9_feeOf_14 : decode cX9_feeOf 14 = .ok (.if_icmp .ne 7, 3) := by decide +kernel
theorem dX9_feeOf_17 : decode cX9_feeOf 17 = .ok (.iload_n 3, 1) := by decide +kernel
theorem dX9_feeOf_18 : decode cX9_feeOf 18 = .ok (.iconst 2, 1) := by decide +kernel
theorem dX9_feeOf_19 : decode cX9_feeOf 19 = .ok (.idiv, 1) := by decide +kernel
theorem dX9_feeOf_20 : decode cX9_feeOf 20 = .ok (.ireturn, 1) := by decide +kernel
theorem dX9_feeOf_21 : decode cX9_feeOf 21 = .ok (.aload_n 0, 1) := by decide +kernel
theorem dX9_feeOf_22 : decode cX9_feeOf 22 = .ok (.getfield 7, 3) := by decide +kernel
theorem dX9_feeOf_25 : decode cX9_feeOf 25 = .ok (.iload_n 1, 1) := by decide +kernel
theorem dX9_feeOf_26 : decode cX9_feeOf 26 = .ok (.iaload, 1) := by decide +kernel
theorem dX9_feeOf_27 : decode cX9_feeOf 27 = .ok (.bipush 7, 2) := by decide +kernel
theorem dX9_feeOf_29 : decode cX9_feeOf 29 = .ok (.if_icmp .eq 5, 3) := by decide +kernel
theorem dX9_feeOf_32 : decode cX9_feeOf 32 = .ok (.iload_n 3, 1) := by decide +kernel
theorem dX9_feeOf_33 : decode cX9_feeOf 33 = .ok (.ireturn, 1) := by decide +kernel
theorem dX9_feeOf_34 : decode cX9_feeOf 34 = .ok (.iload_n 3, 1) := by decide +kernel
theorem dX9_feeOf_35 : decode cX9_feeOf 35 = .ok (.aload_n 0, 1) := by decide +kernel
theorem dX9_feeOf_36 : decode cX9_feeOf 36 = .ok (.getfield 22, 3) := by decide +kernel
theorem dX9_feeOf_39 : decode cX9_feeOf 39 = .ok (.iload_n 1, 1) := by decide +kernel
theorem dX9_feeOf_40 : decode cX9_feeOf 40 = .ok (.iaload, 1) := by decide +kernel
theorem dX9_feeOf_41 : decode cX9_feeOf 41 = .ok (.if_icmp .le 14, 3) := by decide +kernel
theorem dX9_feeOf_44 : decode cX9_feeOf 44 = .ok (.iload_n 3, 1) := by decide +kernel
theorem dX9_feeOf_45 : decode cX9_feeOf 45 = .ok (.aload_n 0, 1) := by decide +kernel
theorem dX9_feeOf_46 : decode cX9_feeOf 46 = .ok (.getfield 22, 3) := by decide +kernel
theorem dX9_feeOf_49 : decode cX9_feeOf 49 = .ok (.iload_n 1, 1) := by decide +kernel
theorem dX9_feeOf_50 : decode cX9_feeOf 50 = .ok (.iaload, 1) := by decide +kernel
theorem dX9_feeOf_51 : decode cX9_feeOf 51 = .ok (.isub, 1) := by decide +kernel
theorem dX9_feeOf_52 : decode cX9_feeOf 52 = .ok (.goto 4, 3) := by decide +kernel
theorem dX9_feeOf_55 : decode cX9_feeOf 55 = .ok (.iconst 0, 1) := by decide +kernel
theorem dX9_feeOf_56 : decode cX9_feeOf 56 = .ok (.ireturn, 1) := by decide +kernel
theorem dX9_sealOf_0 : decode cX9_sealOf 0 = .ok (.aload_n 0, 1) := by decide +kernel
theorem dX9_sealOf_1 : decode cX9_sealOf 1 = .ok (.getfield 16, 3) := by decide +kernel
theorem dX9_sealOf_4 : decode cX9_sealOf 4 = .ok (.iload_n 1, 1) := by decide +kernel
theorem dX9_sealOf_5 : decode cX9_sealOf 5 = .ok (.iaload, 1) := by decide +kernel
theorem dX9_sealOf_6 : decode cX9_sealOf 6 = .ok (.sipush 961, 3) := by decide +kernel
theorem dX9_sealOf_9 : decode cX9_sealOf 9 = .ok (.imul, 1) := by decide +kernel
theorem dX9_sealOf_10 : decode cX9_sealOf 10 = .ok (.aload_n 0, 1) := by decide +kernel
theorem dX9_sealOf_11 : decode cX9_sealOf 11 = .ok (.getfield 19, 3) := by decide +kernel
theorem dX9_sealOf_14 : decode cX9_sealOf 14 = .ok (.iload_n 1, 1) := by decide +kernel
theorem dX9_sealOf_15 : decode cX9_sealOf 15 = .ok (.iaload, 1) := by decide +kernel
theorem dX9_sealOf_16 : decode cX9_sealOf 16 = .ok (.bipush 31, 2) := by decide +kernel
theorem dX9_sealOf_18 : decode cX9_sealOf 18 = .ok (.imul, 1) := by decide +kernel
theorem dX9_sealOf_19 : decode cX9_sealOf 19 = .ok (.iadd, 1) := by decide +kernel
theorem dX9_sealOf_20 : decode cX9_sealOf 20 = .ok (.aload_n 0, 1) := by decide +kernel
theorem dX9_sealOf_21 : decode cX9_sealOf 21 = .ok (.getfield 13, 3) := by decide +kernel
theorem dX9_sealOf_24 : decode cX9_sealOf 24 = .ok (.iload_n 1, 1) := by decide +kernel
theorem dX9_sealOf_25 : decode cX9_sealOf 25 = .ok (.iaload, 1) := by decide +kernel
theorem dX9_sealOf_26 : decode cX9_sealOf 26 = .ok (.iadd, 1) := by decide +kernel
theorem dX9_sealOf_27 : decode cX9_sealOf 27 = .ok (.istore_n 2, 1) := by decide +kernel
theorem dX9_sealOf_28 : decode cX9_sealOf 28 = .ok (.aload_n 0, 1) := by decide +kernel
theorem dX9_sealOf_29 : decode cX9_sealOf 29 = .ok (.iload_n 1, 1) := by decide +kernel
theorem dX9_sealOf_30 : decode cX9_sealOf 30 = .ok (.invokevirtual 40, 3) := by decide +kernel
theorem dX9_sealOf_33 : decode cX9_sealOf 33 = .ok (.ifCond .eq 11, 3) := by decide +kernel
theorem dX9_sealOf_36 : decode cX9_sealOf 36 = .ok (.iload_n 2, 1) := by decide +kernel
theorem dX9_sealOf_37 : decode cX9_sealOf 37 = .ok (.aload_n 0, 1) := by decide +kernel
theorem dX9_sealOf_38 : decode cX9_sealOf 38 = .ok (.iload_n 1, 1) := by decide +kernel
theorem dX9_sealOf_39 : decode cX9_sealOf 39 = .ok (.invokevirtual 44, 3) := by decide +kernel
theorem dX9_sealOf_42 : decode cX9_sealOf 42 = .ok (.iadd, 1) := by decide +kernel
theorem dX9_sealOf_43 : decode cX9_sealOf 43 = .ok (.istore_n 2, 1) := by decide +kernel
theorem dX9_sealOf_44 : decode cX9_sealOf 44 = .ok (.aload_n 0, 1) := by decide +kernel
theorem dX9_sealOf_45 : decode cX9_sealOf 45 = .ok (.getfield 7, 3) := by decide +kernel
theorem dX9_sealOf_48 : decode cX9_sealOf 48 = .ok (.iload_n 1, 1) := by decide +kernel
theorem dX9_sealOf_49 : decode cX9_sealOf 49 = .ok (.iaload, 1) := by decide +kernel
theorem dX9_sealOf_50 : decode cX9_sealOf 50 = .ok (.bipush 7, 2) := by decide +kernel
theorem dX9_sealOf_52 : decode cX9_sealOf 52 = .ok (.if_icmp .ne 14, 3) := by decide +kernel
theorem dX9_sealOf_55 : decode cX9_sealOf 55 = .ok (.iload_n 2, 1) := by decide +kernel
theorem dX9_sealOf_56 : decode cX9_sealOf 56 = .ok (.iconst 3, 1) := by decide +kernel
theorem dX9_sealOf_57 : decode cX9_sealOf 57 = .ok (.aload_n 0, 1) := by decide +kernel
theorem dX9_sealOf_58 : decode cX9_sealOf 58 = .ok (.getfield 22, 3) := by decide +kernel
theorem dX9_sealOf_61 : decode cX9_sealOf 61 = .ok (.iload_n 1, 1) := by decide +kernel
theorem dX9_sealOf_62 : decode cX9_sealOf 62 = .ok (.iaload, 1) := by decide +kernel
theorem dX9_sealOf_63 : decode cX9_sealOf 63 = .ok (.imul, 1) := by decide +kernel
theorem dX9_sealOf_64 : decode cX9_sealOf 64 = .ok (.iadd, 1) := by decide +kernel
theorem dX9_sealOf_65 : decode cX9_sealOf 65 = .ok (.istore_n 2, 1) := by decide +kernel
theorem dX9_sealOf_66 : decode cX9_sealOf 66 = .ok (.iload_n 2, 1) := by decide +kernel
theorem dX9_sealOf_67 : decode cX9_sealOf 67 = .ok (.ireturn, 1) := by decide +kernel
theorem dX9_issue_0 : decode cX9_issue 0 = .ok (.iload_n 1, 1) := by decide +kernel
theorem dX9_issue_1 : decode cX9_issue 1 = .ok (.iconst 0, 1) := by decide +kernel
theorem dX9_issue_2 : decode cX9_issue 2 = .ok (.bipush 7, 2) := by decide +kernel
theorem dX9_issue_4 : decode cX9_issue 4 = .ok (.invokestatic 36, 3) := by decide +kernel
theorem dX9_issue_7 : decode cX9_issue 7 = .ok (.ifCond .eq 13, 3) := by decide +kernel
theorem dX9_issue_10 : decode cX9_issue 10 = .ok (.iload_n 2, 1) := by decide +kernel
theorem dX9_issue_11 : decode cX9_issue 11 = .ok (.iconst 1, 1) := by decide +kernel
theorem dX9_issue_12 : decode cX9_issue 12 = .ok (.ldc 51, 2) := by decide +kernel
theorem dX9_issue_14 : decode cX9_issue 14 = .ok (.invokestatic 36, 3) := by decide +kernel
theorem dX9_issue_17 : decode cX9_issue 17 = .ok (.ifCond .ne 6, 3) := by decide +kernel
theorem dX9_issue_20 : decode cX9_issue 20 = .ok (.bipush (-2), 2) := by decide +kernel
theorem dX9_issue_22 : decode cX9_issue 22 = .ok (.ireturn, 1) := by decide +kernel
theorem dX9_issue_23 : decode cX9_issue 23 = .ok (.aload_n 0, 1) := by decide +kernel
theorem dX9_issue_24 : decode cX9_issue 24 = .ok (.getfield 32, 3) := by decide +kernel
theorem dX9_issue_27 : decode cX9_issue 27 = .ok (.bipush 40, 2) := by decide +kernel
theorem dX9_issue_29 : decode cX9_issue 29 = .ok (.if_icmp .ne 6, 3) := by decide +kernel
theorem dX9_issue_32 : decode cX9_issue 32 = .ok (.bipush (-4), 2) := by decide +kernel
theorem dX9_issue_34 : decode cX9_issue 34 = .ok (.ireturn, 1) := by decide +kernel
theorem dX9_issue_35 : decode cX9_issue 35 = .ok (.aload_n 0, 1) := by decide +kernel
theorem dX9_issue_36 : decode cX9_issue 36 = .ok (.getfield 32, 3) := by decide +kernel
theorem dX9_issue_39 : decode cX9_issue 39 = .ok (.istore_n 3, 1) := by decide +kernel
theorem dX9_issue_40 : decode cX9_issue 40 = .ok (.aload_n 0, 1) := by decide +kernel
theorem dX9_issue_41 : decode cX9_issue 41 = .ok (.getfield 7, 3) := by decide +kernel
theorem dX9_issue_44 : decode cX9_issue 44 = .ok (.iload_n 3, 1) := by decide +kernel
theorem dX9_issue_45 : decode cX9_issue 45 = .ok (.iload_n 1, 1) := by decide +kernel
theorem dX9_issue_46 : decode cX9_issue 46 = .ok (.iastore, 1) := by decide +kernel
theorem dX9_issue_47 : decode cX9_issue 47 = .ok (.aload_n 0, 1) := by decide +kernel
theorem dX9_issue_48 : decode cX9_issue 48 = .ok (.getfield 13, 3) := by decide +kernel
theorem dX9_issue_51 : decode cX9_issue 51 = .ok (.iload_n 3, 1) := by decide +kernel
theorem dX9_issue_52 : decode cX9_issue 52 = .ok (.iload_n 2, 1) := by decide +kernel
theorem dX9_issue_53 : decode cX9_issue 53 = .ok (.iastore, 1) := by decide +kernel
theorem dX9_issue_54 : decode cX9_issue 54 = .ok (.aload_n 0, 1) := by decide +kernel
theorem dX9_issue_55 : decode cX9_issue 55 = .ok (.getfield 16, 3) := by decide +kernel
theorem dX9_issue_58 : decode cX9_issue 58 = .ok (.iload_n 3, 1) := by decide +kernel
theorem dX9_issue_59 : decode cX9_issue 59 = .ok (.iload_n 2, 1) := by decide +kernel
theorem dX9_issue_60 : decode cX9_issue 60 = .ok (.iastore, 1) := by decide +kernel
theorem dX9_issue_61 : decode cX9_issue 61 = .ok (.aload_n 0, 1) := by decide +kernel
theorem dX9_issue_62 : decode cX9_issue 62 = .ok (.getfield 19, 3) := by decide +kernel
theorem dX9_issue_65 : decode cX9_issue 65 = .ok (.iload_n 3, 1) := by decide +kernel
theorem dX9_issue_66 : decode cX9_issue 66 = .ok (.aload_n 0, 1) := by decide +kernel
theorem dX9_issue_67 : decode cX9_issue 67 = .ok (.getfield 52, 3) := by decide +kernel
theorem dX9_issue_70 : decode cX9_issue 70 = .ok (.iastore, 1) := by decide +kernel
theorem dX9_issue_71 : decode cX9_issue 71 = .ok (.aload_n 0, 1) := by decide +kernel
theorem dX9_issue_72 : decode cX9_issue 72 = .ok (.dup, 1) := by decide +kernel
theorem dX9_issue_73 : decode cX9_issue 73 = .ok (.getfield 32, 3) := by decide +kernel
theorem dX9_issue_76 : decode cX9_issue 76 = .ok (.iconst 1, 1) := by decide +kernel
theorem dX9_issue_77 : decode cX9_issue 77 = .ok (.iadd, 1) := by decide +kernel
theorem dX9_issue_78 : decode cX9_issue 78 = .ok (.putfield 32, 3) := by decide +kernel
theorem dX9_issue_81 : decode cX9_issue 81 = .ok (.aload_n 0, 1) := by decide +kernel
theorem dX9_issue_82 : decode cX9_issue 82 = .ok (.dup, 1) := by decide +kernel
theorem dX9_issue_83 : decode cX9_issue 83 = .ok (.getfield 55, 3) := by decide +kernel
theorem dX9_issue_86 : decode cX9_issue 86 = .ok (.iload_n 2, 1) := by decide +kernel
theorem dX9_issue_87 : decode cX9_issue 87 = .ok (.iadd, 1) := by decide +kernel
theorem dX9_issue_88 : decode cX9_issue 88 = .ok (.putfield 55, 3) := by decide +kernel
theorem dX9_issue_91 : decode cX9_issue 91 = .ok (.iload_n 3, 1) := by decide +kernel
theorem dX9_issue_92 : decode cX9_issue 92 = .ok (.ireturn, 1) := by decide +kernel
theorem dX9_pass_0 : decode cX9_pass 0 = .ok (.iload_n 1, 1) := by decide +kernel
theorem dX9_pass_1 : decode cX9_pass 1 = .ok (.iconst 1, 1) := by decide +kernel
theorem dX9_pass_2 : decode cX9_pass 2 = .ok (.sipush 1000, 3) := by decide +kernel
theorem dX9_pass_5 : decode cX9_pass 5 = .ok (.invokestatic 36, 3) := by decide +kernel
theorem dX9_pass_8 : decode cX9_pass 8 = .ok (.ifCond .ne 6, 3) := by decide +kernel
theorem dX9_pass_11 : decode cX9_pass 11 = .ok (.bipush (-2), 2) := by decide +kernel
theorem dX9_pass_13 : decode cX9_pass 13 = .ok (.ireturn, 1) := by decide +kernel
theorem dX9_pass_14 : decode cX9_pass 14 = .ok (.aload_n 0, 1) := by decide +kernel
theorem dX9_pass_15 : decode cX9_pass 15 = .ok (.getfield 52, 3) := by decide +kernel
theorem dX9_pass_18 : decode cX9_pass 18 = .ok (.iload_n 1, 1) := by decide +kernel
theorem dX9_pass_19 : decode cX9_pass 19 = .ok (.iadd, 1) := by decide +kernel
theorem dX9_pass_20 : decode cX9_pass 20 = .ok (.sipush 20000, 3) := by decide +kernel
theorem dX9_pass_23 : decode cX9_pass 23 = .ok (.if_icmp .le 6, 3) := by decide +kernel
theorem dX9_pass_26 : decode cX9_pass 26 = .ok (.bipush (-4), 2) := by decide +kernel
theorem dX9_pass_28 : decode cX9_pass 28 = .ok (.ireturn, 1) := by decide +kernel
theorem dX9_pass_29 : decode cX9_pass 29 = .ok (.aload_n 0, 1) := by decide +kernel
theorem dX9_pass_30 : decode cX9_pass 30 = .ok (.dup, 1) := by decide +kernel
theorem dX9_pass_31 : decode cX9_pass 31 = .ok (.getfield 52, 3) := by decide +kernel
theorem dX9_pass_34 : decode cX9_pass 34 = .ok (.iload_n 1, 1) := by decide +kernel
theorem dX9_pass_35 : decode cX9_pass 35 = .ok (.iadd, 1) := by decide +kernel
theorem dX9_pass_36 : decode cX9_pass 36 = .ok (.putfield 52, 3) := by decide +kernel
theorem dX9_pass_39 : decode cX9_pass 39 = .ok (.aload_n 0, 1) := by decide +kernel
theorem dX9_pass_40 : decode cX9_pass 40 = .ok (.getfield 52, 3) := by decide +kernel
theorem dX9_pass_43 : decode cX9_pass 43 = .ok (.ireturn, 1) := by decide +kernel
theorem dX9_value_0 : decode cX9_value 0 = .ok (.aload_n 0, 1) := by decide +kernel
theorem dX9_value_1 : decode cX9_value 1 = .ok (.iload_n 1, 1) := by decide +kernel
theorem dX9_value_2 : decode cX9_value 2 = .ok (.invokevirtual 58, 3) := by decide +kernel
theorem dX9_value_5 : decode cX9_value 5 = .ok (.ifCond .ne 5, 3) := by decide +kernel
theorem dX9_value_8 : decode cX9_value 8 = .ok (.iconst (-1), 1) := by decide +kernel
theorem dX9_value_9 : decode cX9_value 9 = .ok (.ireturn, 1) := by decide +kernel
theorem dX9_value_10 : decode cX9_value 10 = .ok (.iload_n 2, 1) := by decide +kernel
theorem dX9_value_11 : decode cX9_value 11 = .ok (.iconst 0, 1) := by decide +kernel
theorem dX9_value_12 : decode cX9_value 12 = .ok (.sipush 20000, 3) := by decide +kernel
theorem dX9_value_15 : decode cX9_value 15 = .ok (.invokestatic 36, 3) := by decide +kernel
theorem dX9_value_18 : decode cX9_value 18 = .ok (.ifCond .eq 12, 3) := by decide +kernel
theorem dX9_value_21 : decode cX9_value 21 = .ok (.aload_n 0, 1) := by decide +kernel
theorem dX9_value_22 : decode cX9_value 22 = .ok (.iload_n 1, 1) := by decide +kernel
theorem dX9_value_23 : decode cX9_value 23 = .ok (.iload_n 2, 1) := by decide +kernel
theorem dX9_value_24 : decode cX9_value 24 = .ok (.invokevirtual 61, 3) := by decide +kernel
theorem dX9_value_27 : decode cX9_value 27 = .ok (.goto 5, 3) := by decide +kernel
theorem dX9_value_30 : decode cX9_value 30 = .ok (.bipush (-2), 2) := by decide +kernel
theorem dX9_value_32 : decode cX9_value 32 = .ok (.ireturn, 1) := by decide +kernel
theorem dX9_fee_0 : decode cX9_fee 0 = .ok (.aload_n 0, 1) := by decide +kernel
theorem dX9_fee_1 : decode cX9_fee 1 = .ok (.iload_n 1, 1) := by decide +kernel
theorem dX9_fee_2 : decode cX9_fee 2 = .ok (.invokevirtual 58, 3) := by decide +kernel
theorem dX9_fee_5 : decode cX9_fee 5 = .ok (.ifCond .ne 5, 3) := by decide +kernel
theorem dX9_fee_8 : decode cX9_fee 8 = .ok (.iconst (-1), 1) := by decide +kernel
theorem dX9_fee_9 : decode cX9_fee 9 = .ok (.ireturn, 1) := by decide +kernel
theorem dX9_fee_10 : decode cX9_fee 10 = .ok (.iload_n 2, 1) := by decide +kernel
theorem dX9_fee_11 : decode cX9_fee 11 = .ok (.iconst 1, 1) := by decide +kernel
theorem dX9_fee_12 : decode cX9_fee 12 = .ok (.ldc 51, 2) := by decide +kernel
theorem dX9_fee_14 : decode cX9_fee 14 = .ok (.invokestatic 36, 3) := by decide +kernel
theorem dX9_fee_17 : decode cX9_fee 17 = .ok (.ifCond .eq 12, 3) := by decide +kernel
theorem dX9_fee_20 : decode cX9_fee 20 = .ok (.aload_n 0, 1) := by decide +kernel
theorem dX9_fee_21 : decode cX9_fee 21 = .ok (.iload_n 1, 1) := by decide +kernel
theorem dX9_fee_22 : decode cX9_fee 22 = .ok (.iload_n 2, 1) := by decide +kernel
theorem dX9_fee_23 : decode cX9_fee 23 = .ok (.invokevirtual 65, 3) := by decide +kernel
theorem dX9_fee_26 : decode cX9_fee 26 = .ok (.goto 5, 3) := by decide +kernel
theorem dX9_fee_29 : decode cX9_fee 29 = .ok (.bipush (-2), 2) := by decide +kernel
theorem dX9_fee_31 : decode cX9_fee 31 = .ok (.ireturn, 1) := by decide +kernel
theorem dX9_spend_0 : decode cX9_spend 0 = .ok (.aload_n 0, 1) := by decide +kernel
theorem dX9_spend_1 : decode cX9_spend 1 = .ok (.iload_n 1, 1) := by decide +kernel
theorem dX9_spend_2 : decode cX9_spend 2 = .ok (.invokevirtual 58, 3) := by decide +kernel
theorem dX9_spend_5 : decode cX9_spend 5 = .ok (.ifCond .ne 5, 3) := by decide +kernel
theorem dX9_spend_8 : decode cX9_spend 8 = .ok (.iconst (-1), 1) := by decide +kernel
theorem dX9_spend_9 : decode cX9_spend 9 = .ok (.ireturn, 1) := by decide +kernel
theorem dX9_spend_10 : decode cX9_spend 10 = .ok (.iload_n 2, 1) := by decide +kernel
theorem dX9_spend_11 : decode cX9_spend 11 = .ok (.iconst 1, 1) := by decide +kernel
theorem dX9_spend_12 : decode cX9_spend 12 = .ok (.ldc 51, 2) := by decide +kernel
theorem dX9_spend_14 : decode cX9_spend 14 = .ok (.invokestatic 36, 3) := by decide +kernel
theorem dX9_spend_17 : decode cX9_spend 17 = .ok (.ifCond .ne 6, 3) := by decide +kernel
theorem dX9_spend_20 : decode cX9_spend 20 = .ok (.bipush (-2), 2) := by decide +kernel
theorem dX9_spend_22 : decode cX9_spend 22 = .ok (.ireturn, 1) := by decide +kernel
theorem dX9_spend_23 : decode cX9_spend 23 = .ok (.aload_n 0, 1) := by decide +kernel
theorem dX9_spend_24 : decode cX9_spend 24 = .ok (.getfield 7, 3) := by decide +kernel
theorem dX9_spend_27 : decode cX9_spend 27 = .ok (.iload_n 1, 1) := by decide +kernel
theorem dX9_spend_28 : decode cX9_spend 28 = .ok (.iaload, 1) := by decide +kernel
theorem dX9_spend_29 : decode cX9_spend 29 = .ok (.iconst 3, 1) := by decide +kernel
theorem dX9_spend_30 : decode cX9_spend 30 = .ok (.if_icmp .ne 21, 3) := by decide +kernel
theorem dX9_spend_33 : decode cX9_spend 33 = .ok (.aload_n 0, 1) := by decide +kernel
theorem dX9_spend_34 : decode cX9_spend 34 = .ok (.getfield 25, 3) := by decide +kernel
theorem dX9_spend_37 : decode cX9_spend 37 = .ok (.iload_n 1, 1) := by decide +kernel
theorem dX9_spend_38 : decode cX9_spend 38 = .ok (.iaload, 1) := by decide +kernel
theorem dX9_spend_39 : decode cX9_spend 39 = .ok (.aload_n 0, 1) := by decide +kernel
theorem dX9_spend_40 : decode cX9_spend 40 = .ok (.getfield 52, 3) := by decide +kernel
theorem dX9_spend_43 : decode cX9_spend 43 = .ok (.iconst 1, 1) := by decide +kernel
theorem dX9_spend_44 : decode cX9_spend 44 = .ok (.iadd, 1) := by decide +kernel
theorem dX9_spend_45 : decode cX9_spend 45 = .ok (.if_icmp .ne 6, 3) := by decide +kernel
theorem dX9_spend_48 : decode cX9_spend 48 = .ok (.bipush (-6), 2) := by decide +kernel
theorem dX9_spend_50 : decode cX9_spend 50 = .ok (.ireturn, 1) := by decide +kernel
theorem dX9_spend_51 : decode cX9_spend 51 = .ok (.aload_n 0, 1) := by decide +kernel
theorem dX9_spend_52 : decode cX9_spend 52 = .ok (.iload_n 1, 1) := by decide +kernel
theorem dX9_spend_53 : decode cX9_spend 53 = .ok (.iload_n 2, 1) := by decide +kernel
theorem dX9_spend_54 : decode cX9_spend 54 = .ok (.invokevirtual 65, 3) := by decide +kernel
theorem dX9_spend_57 : decode cX9_spend 57 = .ok (.istore_n 3, 1) := by decide +kernel
theorem dX9_spend_58 : decode cX9_spend 58 = .ok (.iload_n 2, 1) := by decide +kernel
theorem dX9_spend_59 : decode cX9_spend 59 = .ok (.aload_n 0, 1) := by decide +kernel
theorem dX9_spend_60 : decode cX9_spend 60 = .ok (.iload_n 1, 1) := by decide +kernel
theorem dX9_spend_61 : decode cX9_spend 61 = .ok (.aload_n 0, 1) := by decide +kernel
theorem dX9_spend_62 : decode cX9_spend 62 = .ok (.getfield 52, 3) := by decide +kernel
theorem dX9_spend_65 : decode cX9_spend 65 = .ok (.invokevirtual 61, 3) := by decide +kernel
theorem dX9_spend_68 : decode cX9_spend 68 = .ok (.if_icmp .gt 15, 3) := by decide +kernel
theorem dX9_spend_71 : decode cX9_spend 71 = .ok (.iload_n 2, 1) := by decide +kernel
theorem dX9_spend_72 : decode cX9_spend 72 = .ok (.iload_n 3, 1) := by decide +kernel
theorem dX9_spend_73 : decode cX9_spend 73 = .ok (.iadd, 1) := by decide +kernel
theorem dX9_spend_74 : decode cX9_spend 74 = .ok (.aload_n 0, 1) := by decide +kernel
theorem dX9_spend_75 : decode cX9_spend 75 = .ok (.getfield 16, 3) := by decide +kernel
theorem dX9_spend_78 : decode cX9_spend 78 = .ok (.iload_n 1, 1) := by decide +kernel
theorem dX9_spend_79 : decode cX9_spend 79 = .ok (.iaload, 1) := by decide +kernel
theorem dX9_spend_80 : decode cX9_spend 80 = .ok (.if_icmp .le 6, 3) := by decide +kernel
theorem dX9_spend_83 : decode cX9_spend 83 = .ok (.bipush (-5), 2) := by decide +kernel
theorem dX9_spend_85 : decode cX9_spend 85 = .ok (.ireturn, 1) := by decide +kernel
theorem dX9_spend_86 : decode cX9_spend 86 = .ok (.aload_n 0, 1) := by decide +kernel
theorem dX9_spend_87 : decode cX9_spend 87 = .ok (.getfield 16, 3) := by decide +kernel
theorem dX9_spend_90 : decode cX9_spend 90 = .ok (.iload_n 1, 1) := by decide +kernel
theorem dX9_spend_91 : decode cX9_spend 91 = .ok (.dup2, 1) := by decide +kernel
theorem dX9_spend_92 : decode cX9_spend 92 = .ok (.iaload, 1) := by decide +kernel
theorem dX9_spend_93 : decode cX9_spend 93 = .ok (.iload_n 2, 1) := by decide +kernel
theorem dX9_spend_94 : decode cX9_spend 94 = .ok (.iload_n 3, 1) := by decide +kernel
theorem dX9_spend_95 : decode cX9_spend 95 = .ok (.iadd, 1) := by decide +kernel
theorem dX9_spend_96 : decode cX9_spend 96 = .ok (.isub, 1) := by decide +kernel
theorem dX9_spend_97 : decode cX9_spend 97 = .ok (.iastore, 1) := by decide +kernel
theorem dX9_spend_98 : decode cX9_spend 98 = .ok (.aload_n 0, 1) := by decide +kernel
theorem dX9_spend_99 : decode cX9_spend 99 = .ok (.getfield 25, 3) := by decide +kernel
theorem dX9_spend_102 : decode cX9_spend 102 = .ok (.iload_n 1, 1) := by decide +kernel
theorem dX9_spend_103 : decode cX9_spend 103 = .ok (.aload_n 0, 1) := by decide +kernel
theorem dX9_spend_104 : decode cX9_spend 104 = .ok (.getfield 52, 3) := by decide +kernel
theorem dX9_spend_107 : decode cX9_spend 107 = .ok (.iconst 1, 1) := by decide +kernel
theorem dX9_spend_108 : decode cX9_spend 108 = .ok (.iadd, 1) := by decide +kernel
theorem dX9_spend_109 : decode cX9_spend 109 = .ok (.iastore, 1) := by decide +kernel
theorem dX9_spend_110 : decode cX9_spend 110 = .ok (.aload_n 0, 1) := by decide +kernel
theorem dX9_spend_111 : decode cX9_spend 111 = .ok (.dup, 1) := by decide +kernel
theorem dX9_spend_112 : decode cX9_spend 112 = .ok (.getfield 68, 3) := by decide +kernel
theorem dX9_spend_115 : decode cX9_spend 115 = .ok (.iload_n 2, 1) := by decide +kernel
theorem dX9_spend_116 : decode cX9_spend 116 = .ok (.iadd, 1) := by decide +kernel
theorem dX9_spend_117 : decode cX9_spend 117 = .ok (.putfield 68, 3) := by decide +kernel
theorem dX9_spend_120 : decode cX9_spend 120 = .ok (.aload_n 0, 1) := by decide +kernel
theorem dX9_spend_121 : decode cX9_spend 121 = .ok (.dup, 1) := by decide +kernel
theorem dX9_spend_122 : decode cX9_spend 122 = .ok (.getfield 71, 3) := by decide +kernel
theorem dX9_spend_125 : decode cX9_spend 125 = .ok (.iload_n 3, 1) := by decide +kernel
theorem dX9_spend_126 : decode cX9_spend 126 = .ok (.iadd, 1) := by decide +kernel
theorem dX9_spend_127 : decode cX9_spend 127 = .ok (.putfield 71, 3) := by decide +kernel
theorem dX9_spend_130 : decode cX9_spend 130 = .ok (.aload_n 0, 1) := by decide +kernel
theorem dX9_spend_131 : decode cX9_spend 131 = .ok (.iload_n 1, 1) := by decide +kernel
theorem dX9_spend_132 : decode cX9_spend 132 = .ok (.invokevirtual 48, 3) := by decide +kernel
theorem dX9_spend_135 : decode cX9_spend 135 = .ok (.ifCond .eq 16, 3) := by decide +kernel
theorem dX9_spend_138 : decode cX9_spend 138 = .ok (.aload_n 0, 1) := by decide +kernel
theorem dX9_spend_139 : decode cX9_spend 139 = .ok (.getfield 22, 3) := by decide +kernel
theorem dX9_spend_142 : decode cX9_spend 142 = .ok (.iload_n 1, 1) := by decide +kernel
theorem dX9_spend_143 : decode cX9_spend 143 = .ok (.dup2, 1) := by decide +kernel
theorem dX9_spend_144 : decode cX9_spend 144 = .ok (.iaload, 1) := by decide +kernel
theorem dX9_spend_145 : decode cX9_spend 145 = .ok (.iload_n 2, 1) := by decide +kernel
theorem dX9_spend_146 : decode cX9_spend 146 = .ok (.bipush 100, 2) := by decide +kernel
theorem dX9_spend_148 : decode cX9_spend 148 = .ok (.idiv, 1) := by decide +kernel
theorem dX9_spend_149 : decode cX9_spend 149 = .ok (.iadd, 1) := by decide +kernel
theorem dX9_spend_150 : decode cX9_spend 150 = .ok (.iastore, 1) := by decide +kernel
theorem dX9_spend_151 : decode cX9_spend 151 = .ok (.aload_n 0, 1) := by decide +kernel
theorem dX9_spend_152 : decode cX9_spend 152 = .ok (.getfield 16, 3) := by decide +kernel
theorem dX9_spend_155 : decode cX9_spend 155 = .ok (.iload_n 1, 1) := by decide +kernel
theorem dX9_spend_156 : decode cX9_spend 156 = .ok (.iaload, 1) := by decide +kernel
theorem dX9_spend_157 : decode cX9_spend 157 = .ok (.ireturn, 1) := by decide +kernel
theorem dX9_seal_0 : decode cX9_seal 0 = .ok (.aload_n 0, 1) := by decide +kernel
theorem dX9_seal_1 : decode cX9_seal 1 = .ok (.iload_n 1, 1) := by decide +kernel
theorem dX9_seal_2 : decode cX9_seal 2 = .ok (.invokevirtual 58, 3) := by decide +kernel
theorem dX9_seal_5 : decode cX9_seal 5 = .ok (.ifCond .eq 11, 3) := by decide +kernel
theorem dX9_seal_8 : decode cX9_seal 8 = .ok (.aload_n 0, 1) := by decide +kernel
theorem dX9_seal_9 : decode cX9_seal 9 = .ok (.iload_n 1, 1) := by decide +kernel
theorem dX9_seal_10 : decode cX9_seal 10 = .ok (.invokevirtual 74, 3) := by decide +kernel
theorem dX9_seal_13 : decode cX9_seal 13 = .ok (.goto 4, 3) := by decide +kernel
theorem dX9_seal_16 : decode cX9_seal 16 = .ok (.iconst (-1), 1) := by decide +kernel
theorem dX9_seal_17 : decode cX9_seal 17 = .ok (.ireturn, 1) := by decide +kernel
theorem dX9_mark_0 : decode cX9_mark 0 = .ok (.aload_n 0, 1) := by decide +kernel
theorem dX9_mark_1 : decode cX9_mark 1 = .ok (.iload_n 1, 1) := by decide +kernel
theorem dX9_mark_2 : decode cX9_mark 2 = .ok (.invokevirtual 58, 3) := by decide +kernel
theorem dX9_mark_5 : decode cX9_mark 5 = .ok (.ifCond .ne 5, 3) := by decide +kernel
theorem dX9_mark_8 : decode cX9_mark 8 = .ok (.iconst (-1), 1) := by decide +kernel
theorem dX9_mark_9 : decode cX9_mark 9 = .ok (.ireturn, 1) := by decide +kernel
theorem dX9_mark_10 : decode cX9_mark 10 = .ok (.iload_n 2, 1) := by decide +kernel
theorem dX9_mark_11 : decode cX9_mark 11 = .ok (.iconst 0, 1) := by decide +kernel
theorem dX9_mark_12 : decode cX9_mark 12 = .ok (.sipush 999, 3) := by decide +kernel
theorem dX9_mark_15 : decode cX9_mark 15 = .ok (.invokestatic 36, 3) := by decide +kernel
theorem dX9_mark_18 : decode cX9_mark 18 = .ok (.ifCond .ne 6, 3) := by decide +kernel
theorem dX9_mark_21 : decode cX9_mark 21 = .ok (.bipush (-2), 2) := by decide +kernel
theorem dX9_mark_23 : decode cX9_mark 23 = .ok (.ireturn, 1) := by decide +kernel
theorem dX9_mark_24 : decode cX9_mark 24 = .ok (.aload_n 0, 1) := by decide +kernel
theorem dX9_mark_25 : decode cX9_mark 25 = .ok (.getfield 7, 3) := by decide +kernel
theorem dX9_mark_28 : decode cX9_mark 28 = .ok (.iload_n 1, 1) := by decide +kernel
theorem dX9_mark_29 : decode cX9_mark 29 = .ok (.iaload, 1) := by decide +kernel
theorem dX9_mark_30 : decode cX9_mark 30 = .ok (.iconst 5, 1) := by decide +kernel
theorem dX9_mark_31 : decode cX9_mark 31 = .ok (.if_icmp .lt 16, 3) := by decide +kernel
theorem dX9_mark_34 : decode cX9_mark 34 = .ok (.aload_n 0, 1) := by decide +kernel
theorem dX9_mark_35 : decode cX9_mark 35 = .ok (.iload_n 1, 1) := by decide +kernel
theorem dX9_mark_36 : decode cX9_mark 36 = .ok (.invokevirtual 74, 3) := by decide +kernel
theorem dX9_mark_39 : decode cX9_mark 39 = .ok (.bipush 7, 2) := by decide +kernel
theorem dX9_mark_41 : decode cX9_mark 41 = .ok (.imul, 1) := by decide +kernel
theorem dX9_mark_42 : decode cX9_mark 42 = .ok (.iload_n 2, 1) := by decide +kernel
theorem dX9_mark_43 : decode cX9_mark 43 = .ok (.iadd, 1) := by decide +kernel
theorem dX9_mark_44 : decode cX9_mark 44 = .ok (.goto 5, 3) := by decide +kernel
theorem dX9_mark_47 : decode cX9_mark 47 = .ok (.bipush (-3), 2) := by decide +kernel
theorem dX9_mark_49 : decode cX9_mark 49 = .ok (.ireturn, 1) := by decide +kernel
theorem dX9_daysLeft_0 : decode cX9_daysLeft 0 = .ok (.aload_n 0, 1) := by decide +kernel
theorem dX9_daysLeft_1 : decode cX9_daysLeft 1 = .ok (.iload_n 1, 1) := by decide +kernel
theorem dX9_daysLeft_2 : decode cX9_daysLeft 2 = .ok (.invokevirtual 58, 3) := by decide +kernel
theorem dX9_daysLeft_5 : decode cX9_daysLeft 5 = .ok (.ifCond .ne 5, 3) := by decide +kernel
theorem dX9_daysLeft_8 : decode cX9_daysLeft 8 = .ok (.iconst (-1), 1) := by decide +kernel
theorem dX9_daysLeft_9 : decode cX9_daysLeft 9 = .ok (.ireturn, 1) := by decide +kernel
theorem dX9_daysLeft_10 : decode cX9_daysLeft 10 = .ok (.iload_n 2, 1) := by decide +kernel
theorem dX9_daysLeft_11 : decode cX9_daysLeft 11 = .ok (.iconst 0, 1) := by decide +kernel
theorem dX9_daysLeft_12 : decode cX9_daysLeft 12 = .ok (.sipush 20000, 3) := by decide +kernel
theorem dX9_daysLeft_15 : decode cX9_daysLeft 15 = .ok (.invokestatic 36, 3) := by decide +kernel
theorem dX9_daysLeft_18 : decode cX9_daysLeft 18 = .ok (.ifCond .ne 6, 3) := by decide +kernel
theorem dX9_daysLeft_21 : decode cX9_daysLeft 21 = .ok (.bipush (-2), 2) := by decide +kernel
theorem dX9_daysLeft_23 : decode cX9_daysLeft 23 = .ok (.ireturn, 1) := by decide +kernel
theorem dX9_daysLeft_24 : decode cX9_daysLeft 24 = .ok (.aload_n 0, 1) := by decide +kernel
theorem dX9_daysLeft_25 : decode cX9_daysLeft 25 = .ok (.iload_n 1, 1) := by decide +kernel
theorem dX9_daysLeft_26 : decode cX9_daysLeft 26 = .ok (.invokevirtual 40, 3) := by decide +kernel
theorem dX9_daysLeft_29 : decode cX9_daysLeft 29 = .ok (.ifCond .ne 6, 3) := by decide +kernel
theorem dX9_daysLeft_32 : decode cX9_daysLeft 32 = .ok (.bipush (-3), 2) := by decide +kernel
theorem dX9_daysLeft_34 : decode cX9_daysLeft 34 = .ok (.ireturn, 1) := by decide +kernel
theorem dX9_daysLeft_35 : decode cX9_daysLeft 35 = .ok (.aload_n 0, 1) := by decide +kernel
theorem dX9_daysLeft_36 : decode cX9_daysLeft 36 = .ok (.iload_n 1, 1) := by decide +kernel
theorem dX9_daysLeft_37 : decode cX9_daysLeft 37 = .ok (.invokevirtual 44, 3) := by decide +kernel
theorem dX9_daysLeft_40 : decode cX9_daysLeft 40 = .ok (.iload_n 2, 1) := by decide +kernel
theorem dX9_daysLeft_41 : decode cX9_daysLeft 41 = .ok (.isub, 1) := by decide +kernel
theorem dX9_daysLeft_42 : decode cX9_daysLeft 42 = .ok (.istore_n 3, 1) := by decide +kernel
theorem dX9_daysLeft_43 : decode cX9_daysLeft 43 = .ok (.iload_n 3, 1) := by decide +kernel
theorem dX9_daysLeft_44 : decode cX9_daysLeft 44 = .ok (.ifCond .le 7, 3) := by decide +kernel
theorem dX9_daysLeft_47 : decode cX9_daysLeft 47 = .ok (.iload_n 3, 1) := by decide +kernel
theorem dX9_daysLeft_48 : decode cX9_daysLeft 48 = .ok (.goto 4, 3) := by decide +kernel
theorem dX9_daysLeft_51 : decode cX9_daysLeft 51 = .ok (.iconst 0, 1) := by decide +kernel
theorem dX9_daysLeft_52 : decode cX9_daysLeft 52 = .ok (.ireturn, 1) := by decide +kernel
theorem dX9_lapse_0 : decode cX9_lapse 0 = .ok (.iconst 0, 1) := by decide +kernel
theorem dX9_lapse_1 : decode cX9_lapse 1 = .ok (.istore_n 1, 1) := by decide +kernel
theorem dX9_lapse_2 : decode cX9_lapse 2 = .ok (.iconst 0, 1) := by decide +kernel
theorem dX9_lapse_3 : decode cX9_lapse 3 = .ok (.istore_n 2, 1) := by decide +kernel
theorem dX9_lapse_4 : decode cX9_lapse 4 = .ok (.iload_n 2, 1) := by decide +kernel
theorem dX9_lapse_5 : decode cX9_lapse 5 = .ok (.aload_n 0, 1) := by decide +kernel
theorem dX9_lapse_6 : decode cX9_lapse 6 = .ok (.getfield 32, 3) := by decide +kernel
theorem dX9_lapse_9 : decode cX9_lapse 9 = .ok (.if_icmp .ge 57, 3) := by decide +kernel
theorem dX9_lapse_12 : decode cX9_lapse 12 = .ok (.aload_n 0, 1) := by decide +kernel
theorem dX9_lapse_13 : decode cX9_lapse 13 = .ok (.getfield 28, 3) := by decide +kernel
theorem dX9_lapse_16 : decode cX9_lapse 16 = .ok (.iload_n 2, 1) := by decide +kernel
theorem dX9_lapse_17 : decode cX9_lapse 17 = .ok (.baload, 1) := by decide +kernel
theorem dX9_lapse_18 : decode cX9_lapse 18 = .ok (.ifCond .ne 42, 3) := by decide +kernel
theorem dX9_lapse_21 : decode cX9_lapse 21 = .ok (.aload_n 0, 1) := by decide +kernel
theorem dX9_lapse_22 : decode cX9_lapse 22 = .ok (.iload_n 2, 1) := by decide +kernel
theorem dX9_lapse_23 : decode cX9_lapse 23 = .ok (.invokevirtual 40, 3) := by decide +kernel
theorem dX9_lapse_26 : decode cX9_lapse 26 = .ok (.ifCond .eq 34, 3) := by decide +kernel
theorem dX9_lapse_29 : decode cX9_lapse 29 = .ok (.aload_n 0, 1) := by decide +kernel
theorem dX9_lapse_30 : decode cX9_lapse 30 = .ok (.iload_n 2, 1) := by decide +kernel
theorem dX9_lapse_31 : decode cX9_lapse 31 = .ok (.invokevirtual 44, 3) := by decide +kernel
theorem dX9_lapse_34 : decode cX9_lapse 34 = .ok (.aload_n 0, 1) := by decide +kernel
theorem dX9_lapse_35 : decode cX9_lapse 35 = .ok (.getfield 52, 3) := by decide +kernel
theorem dX9_lapse_38 : decode cX9_lapse 38 = .ok (.if_icmp .lt 6, 3) := by decide +kernel
theorem dX9_lapse_41 : decode cX9_lapse 41 = .ok (.goto 19, 3) := by decide +kernel
theorem dX9_lapse_44 : decode cX9_lapse 44 = .ok (.iload_n 1, 1) := by decide +kernel
theorem dX9_lapse_45 : decode cX9_lapse 45 = .ok (.aload_n 0, 1) := by decide +kernel
theorem dX9_lapse_46 : decode cX9_lapse 46 = .ok (.getfield 16, 3) := by decide +kernel
theorem dX9_lapse_49 : decode cX9_lapse 49 = .ok (.iload_n 2, 1) := by decide +kernel
theorem dX9_lapse_50 : decode cX9_lapse 50 = .ok (.iaload, 1) := by decide +kernel
theorem dX9_lapse_51 : decode cX9_lapse 51 = .ok (.iadd, 1) := by decide +kernel
theorem dX9_lapse_52 : decode cX9_lapse 52 = .ok (.istore_n 1, 1) := by decide +kernel
theorem dX9_lapse_53 : decode cX9_lapse 53 = .ok (.aload_n 0, 1) := by decide +kernel
theorem dX9_lapse_54 : decode cX9_lapse 54 = .ok (.getfield 16, 3) := by decide +kernel
theorem dX9_lapse_57 : decode cX9_lapse 57 = .ok (.iload_n 2, 1) := by decide +kernel
theorem dX9_lapse_58 : decode cX9_lapse 58 = .ok (.iconst 0, 1) := by decide +kernel
theorem dX9_lapse_59 : decode cX9_lapse 59 = .ok (.iastore, 1) := by decide +kernel
theorem dX9_lapse_60 : decode cX9_lapse 60 = .ok (.iinc 2 1, 3) := by decide +kernel
theorem dX9_lapse_63 : decode cX9_lapse 63 = .ok (.goto (-59), 3) := by decide +kernel
theorem dX9_lapse_66 : decode cX9_lapse 66 = .ok (.aload_n 0, 1) := by decide +kernel
theorem dX9_lapse_67 : decode cX9_lapse 67 = .ok (.dup, 1) := by decide +kernel
theorem dX9_lapse_68 : decode cX9_lapse 68 = .ok (.getfield 77, 3) := by decide +kernel
theorem dX9_lapse_71 : decode cX9_lapse 71 = .ok (.iload_n 1, 1) := by decide +kernel
theorem dX9_lapse_72 : decode cX9_lapse 72 = .ok (.iadd, 1) := by decide +kernel
theorem dX9_lapse_73 : decode cX9_lapse 73 = .ok (.putfield 77, 3) := by decide +kernel
theorem dX9_lapse_76 : decode cX9_lapse 76 = .ok (.iload_n 1, 1) := by decide +kernel
theorem dX9_lapse_77 : decode cX9_lapse 77 = .ok (.ireturn, 1) := by decide +kernel
theorem dX9_merge_0 : decode cX9_merge 0 = .ok (.aload_n 0, 1) := by decide +kernel
theorem dX9_merge_1 : decode cX9_merge 1 = .ok (.iload_n 1, 1) := by decide +kernel
theorem dX9_merge_2 : decode cX9_merge 2 = .ok (.invokevirtual 58, 3) := by decide +kernel
theorem dX9_merge_5 : decode cX9_merge 5 = .ok (.ifCond .eq 11, 3) := by decide +kernel
theorem dX9_merge_8 : decode cX9_merge 8 = .ok (.aload_n 0, 1) := by decide +kernel
theorem dX9_merge_9 : decode cX9_merge 9 = .ok (.iload_n 2, 1) := by decide +kernel
theorem dX9_merge_10 : decode cX9_merge 10 = .ok (.invokevirtual 58, 3) := by decide +kernel
theorem dX9_merge_13 : decode cX9_merge 13 = .ok (.ifCond .ne 5, 3) := by decide +kernel
theorem dX9_merge_16 : decode cX9_merge 16 = .ok (.iconst (-1), 1) := by decide +kernel
theorem dX9_merge_17 : decode cX9_merge 17 = .ok (.ireturn, 1) := by decide +kernel
theorem dX9_merge_18 : decode cX9_merge 18 = .ok (.iload_n 1, 1) := by decide +kernel
theorem dX9_merge_19 : decode cX9_merge 19 = .ok (.iload_n 2, 1) := by decide +kernel
theorem dX9_merge_20 : decode cX9_merge 20 = .ok (.if_icmp .ne 6, 3) := by decide +kernel
theorem dX9_merge_23 : decode cX9_merge 23 = .ok (.bipush (-2), 2) := by decide +kernel
theorem dX9_merge_25 : decode cX9_merge 25 = .ok (.ireturn, 1) := by decide +kernel
theorem dX9_merge_26 : decode cX9_merge 26 = .ok (.aload_n 0, 1) := by decide +kernel
theorem dX9_merge_27 : decode cX9_merge 27 = .ok (.getfield 7, 3) := by decide +kernel
theorem dX9_merge_30 : decode cX9_merge 30 = .ok (.iload_n 1, 1) := by decide +kernel
theorem dX9_merge_31 : decode cX9_merge 31 = .ok (.iaload, 1) := by decide +kernel
theorem dX9_merge_32 : decode cX9_merge 32 = .ok (.aload_n 0, 1) := by decide +kernel
theorem dX9_merge_33 : decode cX9_merge 33 = .ok (.getfield 7, 3) := by decide +kernel
theorem dX9_merge_36 : decode cX9_merge 36 = .ok (.iload_n 2, 1) := by decide +kernel
theorem dX9_merge_37 : decode cX9_merge 37 = .ok (.iaload, 1) := by decide +kernel
theorem dX9_merge_38 : decode cX9_merge 38 = .ok (.if_icmp .eq 6, 3) := by decide +kernel
theorem dX9_merge_41 : decode cX9_merge 41 = .ok (.bipush (-3), 2) := by decide +kernel
theorem dX9_merge_43 : decode cX9_merge 43 = .ok (.ireturn, 1) := by decide +kernel
theorem dX9_merge_44 : decode cX9_merge 44 = .ok (.aload_n 0, 1) := by decide +kernel
theorem dX9_merge_45 : decode cX9_merge 45 = .ok (.getfield 13, 3) := by decide +kernel
theorem dX9_merge_48 : decode cX9_merge 48 = .ok (.iload_n 1, 1) := by decide +kernel
theorem dX9_merge_49 : decode cX9_merge 49 = .ok (.iaload, 1) := by decide +kernel
theorem dX9_merge_50 : decode cX9_merge 50 = .ok (.aload_n 0, 1) := by decide +kernel
theorem dX9_merge_51 : decode cX9_merge 51 = .ok (.getfield 13, 3) := by decide +kernel
theorem dX9_merge_54 : decode cX9_merge 54 = .ok (.iload_n 2, 1) := by decide +kernel
theorem dX9_merge_55 : decode cX9_merge 55 = .ok (.iaload, 1) := by decide +kernel
theorem dX9_merge_56 : decode cX9_merge 56 = .ok (.iadd, 1) := by decide +kernel
theorem dX9_merge_57 : decode cX9_merge 57 = .ok (.ldc 51, 2) := by decide +kernel
theorem dX9_merge_59 : decode cX9_merge 59 = .ok (.if_icmp .le 6, 3) := by decide +kernel
theorem dX9_merge_62 : decode cX9_merge 62 = .ok (.bipush (-4), 2) := by decide +kernel
theorem dX9_merge_64 : decode cX9_merge 64 = .ok (.ireturn, 1) := by decide +kernel
theorem dX9_merge_65 : decode cX9_merge 65 = .ok (.aload_n 0, 1) := by decide +kernel
theorem dX9_merge_66 : decode cX9_merge 66 = .ok (.getfield 13, 3) := by decide +kernel
theorem dX9_merge_69 : decode cX9_merge 69 = .ok (.iload_n 1, 1) := by decide +kernel
theorem dX9_merge_70 : decode cX9_merge 70 = .ok (.dup2, 1) := by decide +kernel
theorem dX9_merge_71 : decode cX9_merge 71 = .ok (.iaload, 1) := by decide +kernel
theorem dX9_merge_72 : decode cX9_merge 72 = .ok (.aload_n 0, 1) := by decide +kernel
theorem dX9_merge_73 : decode cX9_merge 73 = .ok (.getfield 13, 3) := by decide +kernel
theorem dX9_merge_76 : decode cX9_merge 76 = .ok (.iload_n 2, 1) := by decide +kernel
theorem dX9_merge_77 : decode cX9_merge 77 = .ok (.iaload, 1) := by decide +kernel
theorem dX9_merge_78 : decode cX9_merge 78 = .ok (.iadd, 1) := by decide +kernel
theorem dX9_merge_79 : decode cX9_merge 79 = .ok (.iastore, 1) := by decide +kernel
theorem dX9_merge_80 : decode cX9_merge 80 = .ok (.aload_n 0, 1) := by decide +kernel
theorem dX9_merge_81 : decode cX9_merge 81 = .ok (.getfield 16, 3) := by decide +kernel
theorem dX9_merge_84 : decode cX9_merge 84 = .ok (.iload_n 1, 1) := by decide +kernel
theorem dX9_merge_85 : decode cX9_merge 85 = .ok (.dup2, 1) := by decide +kernel
theorem dX9_merge_86 : decode cX9_merge 86 = .ok (.iaload, 1) := by decide +kernel
theorem dX9_merge_87 : decode cX9_merge 87 = .ok (.aload_n 0, 1) := by decide +kernel
theorem dX9_merge_88 : decode cX9_merge 88 = .ok (.getfield 16, 3) := by decide +kernel
theorem dX9_merge_91 : decode cX9_merge 91 = .ok (.iload_n 2, 1) := by decide +kernel
theorem dX9_merge_92 : decode cX9_merge 92 = .ok (.iaload, 1) := by decide +kernel
theorem dX9_merge_93 : decode cX9_merge 93 = .ok (.iadd, 1) := by decide +kernel
theorem dX9_merge_94 : decode cX9_merge 94 = .ok (.iastore, 1) := by decide +kernel
theorem dX9_merge_95 : decode cX9_merge 95 = .ok (.aload_n 0, 1) := by decide +kernel
theorem dX9_merge_96 : decode cX9_merge 96 = .ok (.getfield 22, 3) := by decide +kernel
theorem dX9_merge_99 : decode cX9_merge 99 = .ok (.iload_n 1, 1) := by decide +kernel
theorem dX9_merge_100 : decode cX9_merge 100 = .ok (.dup2, 1) := by decide +kernel
theorem dX9_merge_101 : decode cX9_merge 101 = .ok (.iaload, 1) := by decide +kernel
theorem dX9_merge_102 : decode cX9_merge 102 = .ok (.aload_n 0, 1) := by decide +kernel
theorem dX9_merge_103 : decode cX9_merge 103 = .ok (.getfield 22, 3) := by decide +kernel
theorem dX9_merge_106 : decode cX9_merge 106 = .ok (.iload_n 2, 1) := by decide +kernel
theorem dX9_merge_107 : decode cX9_merge 107 = .ok (.iaload, 1) := by decide +kernel
theorem dX9_merge_108 : decode cX9_merge 108 = .ok (.iadd, 1) := by decide +kernel
theorem dX9_merge_109 : decode cX9_merge 109 = .ok (.iastore, 1) := by decide +kernel
theorem dX9_merge_110 : decode cX9_merge 110 = .ok (.aload_n 0, 1) := by decide +kernel
theorem dX9_merge_111 : decode cX9_merge 111 = .ok (.getfield 25, 3) := by decide +kernel
theorem dX9_merge_114 : decode cX9_merge 114 = .ok (.iload_n 1, 1) := by decide +kernel
theorem dX9_merge_115 : decode cX9_merge 115 = .ok (.aload_n 0, 1) := by decide +kernel
theorem dX9_merge_116 : decode cX9_merge 116 = .ok (.getfield 25, 3) := by decide +kernel
theorem dX9_merge_119 : decode cX9_merge 119 = .ok (.iload_n 2, 1) := by decide +kernel
theorem dX9_merge_120 : decode cX9_merge 120 = .ok (.iaload, 1) := by decide +kernel
theorem dX9_merge_121 : decode cX9_merge 121 = .ok (.aload_n 0, 1) := by decide +kernel
theorem dX9_merge_122 : decode cX9_merge 122 = .ok (.getfield 25, 3) := by decide +kernel
theorem dX9_merge_125 : decode cX9_merge 125 = .ok (.iload_n 1, 1) := by decide +kernel
theorem dX9_merge_126 : decode cX9_merge 126 = .ok (.iaload, 1) := by decide +kernel
theorem dX9_merge_127 : decode cX9_merge 127 = .ok (.if_icmp .le 12, 3) := by decide +kernel
theorem dX9_merge_130 : decode cX9_merge 130 = .ok (.aload_n 0, 1) := by decide +kernel
theorem dX9_merge_131 : decode cX9_merge 131 = .ok (.getfield 25, 3) := by decide +kernel
theorem dX9_merge_134 : decode cX9_merge 134 = .ok (.iload_n 2, 1) := by decide +kernel
theorem dX9_merge_135 : decode cX9_merge 135 = .ok (.iaload, 1) := by decide +kernel
theorem dX9_merge_136 : decode cX9_merge 136 = .ok (.goto 9, 3) := by decide +kernel
theorem dX9_merge_139 : decode cX9_merge 139 = .ok (.aload_n 0, 1) := by decide +kernel
theorem dX9_merge_140 : decode cX9_merge 140 = .ok (.getfield 25, 3) := by decide +kernel
theorem dX9_merge_143 : decode cX9_merge 143 = .ok (.iload_n 1, 1) := by decide +kernel
theorem dX9_merge_144 : decode cX9_merge 144 = .ok (.iaload, 1) := by decide +kernel
theorem dX9_merge_145 : decode cX9_merge 145 = .ok (.iastore, 1) := by decide +kernel
theorem dX9_merge_146 : decode cX9_merge 146 = .ok (.aload_n 0, 1) := by decide +kernel
theorem dX9_merge_147 : decode cX9_merge 147 = .ok (.getfield 28, 3) := by decide +kernel
theorem dX9_merge_150 : decode cX9_merge 150 = .ok (.iload_n 2, 1) := by decide +kernel
theorem dX9_merge_151 : decode cX9_merge 151 = .ok (.iconst 1, 1) := by decide +kernel
theorem dX9_merge_152 : decode cX9_merge 152 = .ok (.bastore, 1) := by decide +kernel
theorem dX9_merge_153 : decode cX9_merge 153 = .ok (.aload_n 0, 1) := by decide +kernel
theorem dX9_merge_154 : decode cX9_merge 154 = .ok (.getfield 13, 3) := by decide +kernel
theorem dX9_merge_157 : decode cX9_merge 157 = .ok (.iload_n 1, 1) := by decide +kernel
theorem dX9_merge_158 : decode cX9_merge 158 = .ok (.iaload, 1) := by decide +kernel
theorem dX9_merge_159 : decode cX9_merge 159 = .ok (.ireturn, 1) := by decide +kernel
theorem dX9_total_0 : decode cX9_total 0 = .ok (.iload_n 1, 1) := by decide +kernel
theorem dX9_total_1 : decode cX9_total 1 = .ok (.iconst 0, 1) := by decide +kernel
theorem dX9_total_2 : decode cX9_total 2 = .ok (.sipush 20000, 3) := by decide +kernel
theorem dX9_total_5 : decode cX9_total 5 = .ok (.invokestatic 36, 3) := by decide +kernel
theorem dX9_total_8 : decode cX9_total 8 = .ok (.ifCond .ne 6, 3) := by decide +kernel
theorem dX9_total_11 : decode cX9_total 11 = .ok (.bipush (-2), 2) := by decide +kernel
theorem dX9_total_13 : decode cX9_total 13 = .ok (.ireturn, 1) := by decide +kernel
theorem dX9_total_14 : decode cX9_total 14 = .ok (.iconst 0, 1) := by decide +kernel
theorem dX9_total_15 : decode cX9_total 15 = .ok (.istore_n 2, 1) := by decide +kernel
theorem dX9_total_16 : decode cX9_total 16 = .ok (.iconst 0, 1) := by decide +kernel
theorem dX9_total_17 : decode cX9_total 17 = .ok (.istore_n 3, 1) := by decide +kernel
theorem dX9_total_18 : decode cX9_total 18 = .ok (.iload_n 3, 1) := by decide +kernel
theorem dX9_total_19 : decode cX9_total 19 = .ok (.aload_n 0, 1) := by decide +kernel
theorem dX9_total_20 : decode cX9_total 20 = .ok (.getfield 32, 3) := by decide +kernel
theorem dX9_total_23 : decode cX9_total 23 = .ok (.if_icmp .ge 31, 3) := by decide +kernel
theorem dX9_total_26 : decode cX9_total 26 = .ok (.iload_n 2, 1) := by decide +kernel
theorem dX9_total_27 : decode cX9_total 27 = .ok (.aload_n 0, 1) := by decide +kernel
theorem dX9_total_28 : decode cX9_total 28 = .ok (.getfield 28, 3) := by decide +kernel
theorem dX9_total_31 : decode cX9_total 31 = .ok (.iload_n 3, 1) := by decide +kernel
theorem dX9_total_32 : decode cX9_total 32 = .ok (.baload, 1) := by decide +kernel
theorem dX9_total_33 : decode cX9_total 33 = .ok (.ifCond .eq 7, 3) := by decide +kernel
theorem dX9_total_36 : decode cX9_total 36 = .ok (.iconst 0, 1) := by decide +kernel
theorem dX9_total_37 : decode cX9_total 37 = .ok (.goto 9, 3) := by decide +kernel
theorem dX9_total_40 : decode cX9_total 40 = .ok (.aload_n 0, 1) := by decide +kernel
theorem dX9_total_41 : decode cX9_total 41 = .ok (.iload_n 3, 1) := by decide +kernel
theorem dX9_total_42 : decode cX9_total 42 = .ok (.iload_n 1, 1) := by decide +kernel
theorem dX9_total_43 : decode cX9_total 43 = .ok (.invokevirtual 61, 3) := by decide +kernel
theorem dX9_total_46 : decode cX9_total 46 = .ok (.iadd, 1) := by decide +kernel
theorem dX9_total_47 : decode cX9_total 47 = .ok (.istore_n 2, 1) := by decide +kernel
theorem dX9_total_48 : decode cX9_total 48 = .ok (.iinc 3 1, 3) := by decide +kernel
theorem dX9_total_51 : decode cX9_total 51 = .ok (.goto (-33), 3) := by decide +kernel
theorem dX9_total_54 : decode cX9_total 54 = .ok (.iload_n 2, 1) := by decide +kernel
theorem dX9_total_55 : decode cX9_total 55 = .ok (.ireturn, 1) := by decide +kernel
theorem dX9_paper_0 : decode cX9_paper 0 = .ok (.aload_n 0, 1) := by decide +kernel
theorem dX9_paper_1 : decode cX9_paper 1 = .ok (.iload_n 1, 1) := by decide +kernel
theorem dX9_paper_2 : decode cX9_paper 2 = .ok (.invokevirtual 58, 3) := by decide +kernel
theorem dX9_paper_5 : decode cX9_paper 5 = .ok (.ifCond .ne 5, 3) := by decide +kernel
theorem dX9_paper_8 : decode cX9_paper 8 = .ok (.iconst (-1), 1) := by decide +kernel
theorem dX9_paper_9 : decode cX9_paper 9 = .ok (.ireturn, 1) := by decide +kernel
theorem dX9_paper_10 : decode cX9_paper 10 = .ok (.iload_n 2, 1) := by decide +kernel
theorem dX9_paper_11 : decode cX9_paper 11 = .ok (.iconst 0, 1) := by decide +kernel
theorem dX9_paper_12 : decode cX9_paper 12 = .ok (.iconst 5, 1) := by decide +kernel
theorem dX9_paper_13 : decode cX9_paper 13 = .ok (.invokestatic 36, 3) := by decide +kernel
theorem dX9_paper_16 : decode cX9_paper 16 = .ok (.ifCond .ne 6, 3) := by decide +kernel
theorem dX9_paper_19 : decode cX9_paper 19 = .ok (.bipush (-2), 2) := by decide +kernel
theorem dX9_paper_21 : decode cX9_paper 21 = .ok (.ireturn, 1) := by decide +kernel
theorem dX9_paper_22 : decode cX9_paper 22 = .ok (.iload_n 2, 1) := by decide +kernel
theorem dX9_paper_23 : decode cX9_paper 23 = .ok (.tableswitch 68 0 4 #[33, 40, 47, 54, 61], 33) := by decide +kernel
theorem dX9_paper_56 : decode cX9_paper 56 = .ok (.aload_n 0, 1) := by decide +kernel
theorem dX9_paper_57 : decode cX9_paper 57 = .ok (.getfield 7, 3) := by decide +kernel
theorem dX9_paper_60 : decode cX9_paper 60 = .ok (.iload_n 1, 1) := by decide +kernel
theorem dX9_paper_61 : decode cX9_paper 61 = .ok (.iaload, 1) := by decide +kernel
theorem dX9_paper_62 : decode cX9_paper 62 = .ok (.ireturn, 1) := by decide +kernel
theorem dX9_paper_63 : decode cX9_paper 63 = .ok (.aload_n 0, 1) := by decide +kernel
theorem dX9_paper_64 : decode cX9_paper 64 = .ok (.getfield 13, 3) := by decide +kernel
theorem dX9_paper_67 : decode cX9_paper 67 = .ok (.iload_n 1, 1) := by decide +kernel
theorem dX9_paper_68 : decode cX9_paper 68 = .ok (.iaload, 1) := by decide +kernel
theorem dX9_paper_69 : decode cX9_paper 69 = .ok (.ireturn, 1) := by decide +kernel
theorem dX9_paper_70 : decode cX9_paper 70 = .ok (.aload_n 0, 1) := by decide +kernel
theorem dX9_paper_71 : decode cX9_paper 71 = .ok (.getfield 16, 3) := by decide +kernel
theorem dX9_paper_74 : decode cX9_paper 74 = .ok (.iload_n 1, 1) := by decide +kernel
theorem dX9_paper_75 : decode cX9_paper 75 = .ok (.iaload, 1) := by decide +kernel
theorem dX9_paper_76 : decode cX9_paper 76 = .ok (.ireturn, 1) := by decide +kernel
theorem dX9_paper_77 : decode cX9_paper 77 = .ok (.aload_n 0, 1) := by decide +kernel
theorem dX9_paper_78 : decode cX9_paper 78 = .ok (.getfield 19, 3) := by decide +kernel
theorem dX9_paper_81 : decode cX9_paper 81 = .ok (.iload_n 1, 1) := by decide +kernel
theorem dX9_paper_82 : decode cX9_paper 82 = .ok (.iaload, 1) := by decide +kernel
theorem dX9_paper_83 : decode cX9_paper 83 = .ok (.ireturn, 1) := by decide +kernel
theorem dX9_paper_84 : decode cX9_paper 84 = .ok (.aload_n 0, 1) := by decide +kernel
theorem dX9_paper_85 : decode cX9_paper 85 = .ok (.getfield 22, 3) := by decide +kernel
theorem dX9_paper_88 : decode cX9_paper 88 = .ok (.iload_n 1, 1) := by decide +kernel
theorem dX9_paper_89 : decode cX9_paper 89 = .ok (.iaload, 1) := by decide +kernel
theorem dX9_paper_90 : decode cX9_paper 90 = .ok (.ireturn, 1) := by decide +kernel
theorem dX9_paper_91 : decode cX9_paper 91 = .ok (.aload_n 0, 1) := by decide +kernel
theorem dX9_paper_92 : decode cX9_paper 92 = .ok (.iload_n 1, 1) := by decide +kernel
theorem dX9_paper_93 : decode cX9_paper 93 = .ok (.invokevirtual 40, 3) := by decide +kernel
theorem dX9_paper_96 : decode cX9_paper 96 = .ok (.ifCond .eq 11, 3) := by decide +kernel
theorem dX9_paper_99 : decode cX9_paper 99 = .ok (.aload_n 0, 1) := by decide +kernel
theorem dX9_paper_100 : decode cX9_paper 100 = .ok (.iload_n 1, 1) := by decide +kernel
theorem dX9_paper_101 : decode cX9_paper 101 = .ok (.invokevirtual 44, 3) := by decide +kernel
theorem dX9_paper_104 : decode cX9_paper 104 = .ok (.goto 5, 3) := by decide +kernel
theorem dX9_paper_107 : decode cX9_paper 107 = .ok (.bipush (-3), 2) := by decide +kernel
theorem dX9_paper_109 : decode cX9_paper 109 = .ok (.ireturn, 1) := by decide +kernel
theorem dX9_leftOfAll_0 : decode cX9_leftOfAll 0 = .ok (.iconst 0, 1) := by decide +kernel
theorem dX9_leftOfAll_1 : decode cX9_leftOfAll 1 = .ok (.istore_n 1, 1) := by decide +kernel
theorem dX9_leftOfAll_2 : decode cX9_leftOfAll 2 = .ok (.iconst 0, 1) := by decide +kernel
theorem dX9_leftOfAll_3 : decode cX9_leftOfAll 3 = .ok (.istore_n 2, 1) := by decide +kernel
theorem dX9_leftOfAll_4 : decode cX9_leftOfAll 4 = .ok (.iload_n 2, 1) := by decide +kernel
theorem dX9_leftOfAll_5 : decode cX9_leftOfAll 5 = .ok (.aload_n 0, 1) := by decide +kernel
theorem dX9_leftOfAll_6 : decode cX9_leftOfAll 6 = .ok (.getfield 32, 3) := by decide +kernel
theorem dX9_leftOfAll_9 : decode cX9_leftOfAll 9 = .ok (.if_icmp .ge 31, 3) := by decide +kernel
theorem dX9_leftOfAll_12 : decode cX9_leftOfAll 12 = .ok (.iload_n 1, 1) := by decide +kernel
theorem dX9_leftOfAll_13 : decode cX9_leftOfAll 13 = .ok (.aload_n 0, 1) := by decide +kernel
theorem dX9_leftOfAll_14 : decode cX9_leftOfAll 14 = .ok (.getfield 28, 3) := by decide +kernel
theorem dX9_leftOfAll_17 : decode cX9_leftOfAll 17 = .ok (.iload_n 2, 1) := by decide +kernel
theorem dX9_leftOfAll_18 : decode cX9_leftOfAll 18 = .ok (.baload, 1) := by decide +kernel
theorem dX9_leftOfAll_19 : decode cX9_leftOfAll 19 = .ok (.ifCond .eq 7, 3) := by decide +kernel
theorem dX9_leftOfAll_22 : decode cX9_leftOfAll 22 = .ok (.iconst 0, 1) := by decide +kernel
theorem dX9_leftOfAll_23 : decode cX9_leftOfAll 23 = .ok (.goto 9, 3) := by decide +kernel
theorem dX9_leftOfAll_26 : decode cX9_leftOfAll 26 = .ok (.aload_n 0, 1) := by decide +kernel
theorem dX9_leftOfAll_27 : decode cX9_leftOfAll 27 = .ok (.getfield 16, 3) := by decide +kernel
theorem dX9_leftOfAll_30 : decode cX9_leftOfAll 30 = .ok (.iload_n 2, 1) := by decide +kernel
theorem dX9_leftOfAll_31 : decode cX9_leftOfAll 31 = .ok (.iaload, 1) := by decide +kernel
theorem dX9_leftOfAll_32 : decode cX9_leftOfAll 32 = .ok (.iadd, 1) := by decide +kernel
theorem dX9_leftOfAll_33 : decode cX9_leftOfAll 33 = .ok (.istore_n 1, 1) := by decide +kernel
theorem dX9_leftOfAll_34 : decode cX9_leftOfAll 34 = .ok (.iinc 2 1, 3) := by decide +kernel
theorem dX9_leftOfAll_37 : decode cX9_leftOfAll 37 = .ok (.goto (-33), 3) := by decide +kernel
theorem dX9_leftOfAll_40 : decode cX9_leftOfAll 40 = .ok (.iload_n 1, 1) := by decide +kernel
theorem dX9_leftOfAll_41 : decode cX9_leftOfAll 41 = .ok (.ireturn, 1) := by decide +kernel
theorem dX9_count_0 : decode cX9_count 0 = .ok (.iload_n 1, 1) := by decide +kernel
theorem dX9_count_1 : decode cX9_count 1 = .ok (.tableswitch 78 0 6 #[43, 48, 53, 58, 63, 68, 73], 43) := by decide +kernel
theorem dX9_count_44 : decode cX9_count 44 = .ok (.aload_n 0, 1) := by decide +kernel
theorem dX9_count_45 : decode cX9_count 45 = .ok (.getfield 52, 3) := by decide +kernel
theorem dX9_count_48 : decode cX9_count 48 = .ok (.ireturn, 1) := by decide +kernel
theorem dX9_count_49 : decode cX9_count 49 = .ok (.aload_n 0, 1) := by decide +kernel
theorem dX9_count_50 : decode cX9_count 50 = .ok (.getfield 32, 3) := by decide +kernel
theorem dX9_count_53 : decode cX9_count 53 = .ok (.ireturn, 1) := by decide +kernel
theorem dX9_count_54 : decode cX9_count 54 = .ok (.aload_n 0, 1) := by decide +kernel
theorem dX9_count_55 : decode cX9_count 55 = .ok (.getfield 55, 3) := by decide +kernel
theorem dX9_count_58 : decode cX9_count 58 = .ok (.ireturn, 1) := by decide +kernel
theorem dX9_count_59 : decode cX9_count 59 = .ok (.aload_n 0, 1) := by decide +kernel
theorem dX9_count_60 : decode cX9_count 60 = .ok (.getfield 68, 3) := by decide +kernel
theorem dX9_count_63 : decode cX9_count 63 = .ok (.ireturn, 1) := by decide +kernel
theorem dX9_count_64 : decode cX9_count 64 = .ok (.aload_n 0, 1) := by decide +kernel
theorem dX9_count_65 : decode cX9_count 65 = .ok (.getfield 71, 3) := by decide +kernel
theorem dX9_count_68 : decode cX9_count 68 = .ok (.ireturn, 1) := by decide +kernel
theorem dX9_count_69 : decode cX9_count 69 = .ok (.aload_n 0, 1) := by decide +kernel
theorem dX9_count_70 : decode cX9_count 70 = .ok (.getfield 77, 3) := by decide +kernel
theorem dX9_count_73 : decode cX9_count 73 = .ok (.ireturn, 1) := by decide +kernel
theorem dX9_count_74 : decode cX9_count 74 = .ok (.aload_n 0, 1) := by decide +kernel
theorem dX9_count_75 : decode cX9_count 75 = .ok (.invokevirtual 80, 3) := by decide +kernel
theorem dX9_count_78 : decode cX9_count 78 = .ok (.ireturn, 1) := by decide +kernel
theorem dX9_count_79 : decode cX9_count 79 = .ok (.bipush (-2), 2) := by decide +kernel
theorem dX9_count_81 : decode cX9_count 81 = .ok (.ireturn, 1) := by decide +kernel
theorem dJ9_max_7cf53_0 : decode cJ9_max_7cf53 0 = .ok (.iload_n 0, 1) := by decide +kernel
theorem dJ9_max_7cf53_1 : decode cJ9_max_7cf53 1 = .ok (.iload_n 1, 1) := by decide +kernel
theorem dJ9_max_7cf53_2 : decode cJ9_max_7cf53 2 = .ok (.if_icmp .lt 7, 3) := by decide +kernel
theorem dJ9_max_7cf53_5 : decode cJ9_max_7cf53 5 = .ok (.iload_n 0, 1) := by decide +kernel
theorem dJ9_max_7cf53_6 : decode cJ9_max_7cf53 6 = .ok (.goto 4, 3) := by decide +kernel
theorem dJ9_max_7cf53_9 : decode cJ9_max_7cf53 9 = .ok (.iload_n 1, 1) := by decide +kernel
theorem dJ9_max_7cf53_10 : decode cJ9_max_7cf53 10 = .ok (.ireturn, 1) := by decide +kernel
