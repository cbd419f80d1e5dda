theorem dX12_loudOf_74 : decode cX12_loudOf 74 = .ok (.lload_n 3, 1) := by decide +kernel
theorem dX12_loudOf_75 : decode cX12_loudOf 75 = .ok (.lload_n 3, 1) := by decide +kernel
theorem dX12_loudOf_76 : decode cX12_loudOf 76 = .ok (.lmul, 1) := by decide +kernel
theorem dX12_loudOf_77 : decode cX12_loudOf 77 = .ok (.lload 5, 2) := by decide +kernel
theorem dX12_loudOf_79 : decode cX12_loudOf 79 = .ok (.lload 5, 2) := by decide +kernel
theorem dX12_loudOf_81 : decode cX12_loudOf 81 = .ok (.lmul, 1) := by decide +kernel
theorem dX12_loudOf_82 : decode cX12_loudOf 82 = .ok (.ladd, 1) := by decide +kernel
theorem dX12_loudOf_83 : decode cX12_loudOf 83 = .ok (.ldc2_w 265, 3) := by decide +kernel
theorem dX12_loudOf_86 : decode cX12_loudOf 86 = .ok (.ldiv, 1) := by decide +kernel
theorem dX12_loudOf_87 : decode cX12_loudOf 87 = .ok (.lreturn, 1) := by decide +kernel
theorem dX12_loud_0 : decode cX12_loud 0 = .ok (.aload_n 0, 1) := by decide +kernel
theorem dX12_loud_1 : decode cX12_loud 1 = .ok (.iload_n 1, 1) := by decide +kernel
theorem dX12_loud_2 : decode cX12_loud 2 = .ok (.invokevirtual 163, 3) := by decide +kernel
theorem dX12_loud_5 : decode cX12_loud 5 = .ok (.ifCond .eq 24, 3) := by decide +kernel
theorem dX12_loud_8 : decode cX12_loud 8 = .ok (.iload_n 2, 1) := by decide +kernel
theorem dX12_loud_9 : decode cX12_loud 9 = .ok (.i2l, 1) := by decide +kernel
theorem dX12_loud_10 : decode cX12_loud 10 = .ok (.lconst 0, 1) := by decide +kernel
theorem dX12_loud_11 : decode cX12_loud 11 = .ok (.ldc2_w 267, 3) := by decide +kernel
theorem dX12_loud_14 : decode cX12_loud 14 = .ok (.invokestatic 73, 3) := by decide +kernel
theorem dX12_loud_17 : decode cX12_loud 17 = .ok (.ifCond .eq 12, 3) := by decide +kernel
theorem dX12_loud_20 : decode cX12_loud 20 = .ok (.aload_n 0, 1) := by decide +kernel
theorem dX12_loud_21 : decode cX12_loud 21 = .ok (.iload_n 1, 1) := by decide +kernel
theorem dX12_loud_22 : decode cX12_loud 22 = .ok (.iload_n 2, 1) := by decide +kernel
theorem dX12_loud_23 : decode cX12_loud 23 = .ok (.invokevirtual 269, 3) := by decide +kernel
theorem dX12_loud_26 : decode cX12_loud 26 = .ok (.goto 6, 3) := by decide +kernel
theorem dX12_loud_29 : decode cX12_loud 29 = .ok (.ldc2_w 168, 3) := by decide +kernel
theorem dX12_loud_32 : decode cX12_loud 32 = .ok (.lreturn, 1) := by decide +kernel
theorem dX12_whineOf_0 : decode cX12_whineOf 0 = .ok (.iconst 1, 1) := by decide +kernel
theorem dX12_whineOf_1 : decode cX12_whineOf 1 = .ok (.istore_n 2, 1) := by decide +kernel
theorem dX12_whineOf_2 : decode cX12_whineOf 2 = .ok (.iconst 2, 1) := by decide +kernel
theorem dX12_whineOf_3 : decode cX12_whineOf 3 = .ok (.istore_n 3, 1) := by decide +kernel
theorem dX12_whineOf_4 : decode cX12_whineOf 4 = .ok (.iload_n 3, 1) := by decide +kernel
theorem dX12_whineOf_5 : decode cX12_whineOf 5 = .ok (.bipush 8, 2) := by decide +kernel
theorem dX12_whineOf_7 : decode cX12_whineOf 7 = .ok (.if_icmp .gt 31, 3) := by decide +kernel
theorem dX12_whineOf_10 : decode cX12_whineOf 10 = .ok (.aload_n 0, 1) := by decide +kernel
theorem dX12_whineOf_11 : decode cX12_whineOf 11 = .ok (.iload_n 1, 1) := by decide +kernel
theorem dX12_whineOf_12 : decode cX12_whineOf 12 = .ok (.iload_n 3, 1) := by decide +kernel
theorem dX12_whineOf_13 : decode cX12_whineOf 13 = .ok (.invokevirtual 269, 3) := by decide +kernel
theorem dX12_whineOf_16 : decode cX12_whineOf 16 = .ok (.aload_n 0, 1) := by decide +kernel
theorem dX12_whineOf_17 : decode cX12_whineOf 17 = .ok (.iload_n 1, 1) := by decide +kernel
theorem dX12_whineOf_18 : decode cX12_whineOf 18 = .ok (.iload_n 2, 1) := by decide +kernel
theorem dX12_whineOf_19 : decode cX12_whineOf 19 = .ok (.invokevirtual 269, 3) := by decide +kernel
theorem dX12_whineOf_22 : decode cX12_whineOf 22 = .ok (.lcmp, 1) := by decide +kernel
theorem dX12_whineOf_23 : decode cX12_whineOf 23 = .ok (.ifCond .le 7, 3) := by decide +kernel
theorem dX12_whineOf_26 : decode cX12_whineOf 26 = .ok (.iload_n 3, 1) := by decide +kernel
theorem dX12_whineOf_27 : decode cX12_whineOf 27 = .ok (.goto 4, 3) := by decide +kernel
theorem dX12_whineOf_30 : decode cX12_whineOf 30 = .ok (.iload_n 2, 1) := by decide +kernel
theorem dX12_whineOf_31 : decode cX12_whineOf 31 = .ok (.istore_n 2, 1) := by decide +kernel
theorem dX12_whineOf_32 : decode cX12_whineOf 32 = .ok (.iinc 3 1, 3) := by decide +kernel
theorem dX12_whineOf_35 : decode cX12_whineOf 35 = .ok (.goto (-31), 3) := by decide +kernel
theorem dX12_whineOf_38 : decode cX12_whineOf 38 = .ok (.iload_n 2, 1) := by decide +kernel
theorem dX12_whineOf_39 : decode cX12_whineOf 39 = .ok (.ireturn, 1) := by decide +kernel
theorem dX12_whine_0 : decode cX12_whine 0 = .ok (.aload_n 0, 1) := by decide +kernel
theorem dX12_whine_1 : decode cX12_whine 1 = .ok (.iload_n 1, 1) := by decide +kernel
theorem dX12_whine_2 : decode cX12_whine 2 = .ok (.invokevirtual 163, 3) := by decide +kernel
theorem dX12_whine_5 : decode cX12_whine 5 = .ok (.ifCond .eq 11, 3) := by decide +kernel
theorem dX12_whine_8 : decode cX12_whine 8 = .ok (.aload_n 0, 1) := by decide +kernel
theorem dX12_whine_9 : decode cX12_whine 9 = .ok (.iload_n 1, 1) := by decide +kernel
theorem dX12_whine_10 : decode cX12_whine 10 = .ok (.invokevirtual 273, 3) := by decide +kernel
theorem dX12_whine_13 : decode cX12_whine 13 = .ok (.goto 4, 3) := by decide +kernel
theorem dX12_whine_16 : decode cX12_whine 16 = .ok (.iconst (-1), 1) := by decide +kernel
theorem dX12_whine_17 : decode cX12_whine 17 = .ok (.ireturn, 1) := by decide +kernel
theorem dX12_pair_0 : decode cX12_pair 0 = .ok (.iload_n 1, 1) := by decide +kernel
theorem dX12_pair_1 : decode cX12_pair 1 = .ok (.i2l, 1) := by decide +kernel
theorem dX12_pair_2 : decode cX12_pair 2 = .ok (.lconst 0, 1) := by decide +kernel
theorem dX12_pair_3 : decode cX12_pair 3 = .ok (.ldc2_w 202, 3) := by decide +kernel
theorem dX12_pair_6 : decode cX12_pair 6 = .ok (.invokestatic 73, 3) := by decide +kernel
theorem dX12_pair_9 : decode cX12_pair 9 = .ok (.ifCond .eq 15, 3) := by decide +kernel
theorem dX12_pair_12 : decode cX12_pair 12 = .ok (.iload_n 2, 1) := by decide +kernel
theorem dX12_pair_13 : decode cX12_pair 13 = .ok (.i2l, 1) := by decide +kernel
theorem dX12_pair_14 : decode cX12_pair 14 = .ok (.lconst 1, 1) := by decide +kernel
theorem dX12_pair_15 : decode cX12_pair 15 = .ok (.ldc2_w 202, 3) := by decide +kernel
theorem dX12_pair_18 : decode cX12_pair 18 = .ok (.invokestatic 73, 3) := by decide +kernel
theorem dX12_pair_21 : decode cX12_pair 21 = .ok (.ifCond .ne 5, 3) := by decide +kernel
theorem dX12_pair_24 : decode cX12_pair 24 = .ok (.iconst (-1), 1) := by decide +kernel
theorem dX12_pair_25 : decode cX12_pair 25 = .ok (.ireturn, 1) := by decide +kernel
theorem dX12_pair_26 : decode cX12_pair 26 = .ok (.aload_n 0, 1) := by decide +kernel
theorem dX12_pair_27 : decode cX12_pair 27 = .ok (.getfield 13, 3) := by decide +kernel
theorem dX12_pair_30 : decode cX12_pair 30 = .ok (.sipush 1743, 3) := by decide +kernel
theorem dX12_pair_33 : decode cX12_pair 33 = .ok (.iaload, 1) := by decide +kernel
theorem dX12_pair_34 : decode cX12_pair 34 = .ok (.bipush 6, 2) := by decide +kernel
theorem dX12_pair_36 : decode cX12_pair 36 = .ok (.if_icmp .ne 6, 3) := by decide +kernel
theorem dX12_pair_39 : decode cX12_pair 39 = .ok (.bipush (-2), 2) := by decide +kernel
theorem dX12_pair_41 : decode cX12_pair 41 = .ok (.ireturn, 1) := by decide +kernel
theorem dX12_pair_42 : decode cX12_pair 42 = .ok (.aload_n 0, 1) := by decide +kernel
theorem dX12_pair_43 : decode cX12_pair 43 = .ok (.getfield 13, 3) := by decide +kernel
theorem dX12_pair_46 : decode cX12_pair 46 = .ok (.sipush 1728, 3) := by decide +kernel
theorem dX12_pair_49 : decode cX12_pair 49 = .ok (.iconst 2, 1) := by decide +kernel
theorem dX12_pair_50 : decode cX12_pair 50 = .ok (.aload_n 0, 1) := by decide +kernel
theorem dX12_pair_51 : decode cX12_pair 51 = .ok (.getfield 13, 3) := by decide +kernel
theorem dX12_pair_54 : decode cX12_pair 54 = .ok (.sipush 1743, 3) := by decide +kernel
theorem dX12_pair_57 : decode cX12_pair 57 = .ok (.iaload, 1) := by decide +kernel
theorem dX12_pair_58 : decode cX12_pair 58 = .ok (.imul, 1) := by decide +kernel
theorem dX12_pair_59 : decode cX12_pair 59 = .ok (.iadd, 1) := by decide +kernel
theorem dX12_pair_60 : decode cX12_pair 60 = .ok (.iload_n 1, 1) := by decide +kernel
theorem dX12_pair_61 : decode cX12_pair 61 = .ok (.iastore, 1) := by decide +kernel
theorem dX12_pair_62 : decode cX12_pair 62 = .ok (.aload_n 0, 1) := by decide +kernel
theorem dX12_pair_63 : decode cX12_pair 63 = .ok (.getfield 13, 3) := by decide +kernel
theorem dX12_pair_66 : decode cX12_pair 66 = .ok (.sipush 1728, 3) := by decide +kernel
theorem dX12_pair_69 : decode cX12_pair 69 = .ok (.iconst 2, 1) := by decide +kernel
theorem dX12_pair_70 : decode cX12_pair 70 = .ok (.aload_n 0, 1) := by decide +kernel
theorem dX12_pair_71 : decode cX12_pair 71 = .ok (.getfield 13, 3) := by decide +kernel
theorem dX12_pair_74 : decode cX12_pair 74 = .ok (.sipush 1743, 3) := by decide +kernel
theorem dX12_pair_77 : decode cX12_pair 77 = .ok (.iaload, 1) := by decide +kernel
theorem dX12_pair_78 : decode cX12_pair 78 = .ok (.imul, 1) := by decide +kernel
theorem dX12_pair_79 : decode cX12_pair 79 = .ok (.iadd, 1) := by decide +kernel
theorem dX12_pair_80 : decode cX12_pair 80 = .ok (.iconst 1, 1) := by decide +kernel
theorem dX12_pair_81 : decode cX12_pair 81 = .ok (.iadd, 1) := by decide +kernel
theorem dX12_pair_82 : decode cX12_pair 82 = .ok (.iload_n 2, 1) := by decide +kernel
theorem dX12_pair_83 : decode cX12_pair 83 = .ok (.iastore, 1) := by decide +kernel
theorem dX12_pair_84 : decode cX12_pair 84 = .ok (.aload_n 0, 1) := by decide +kernel
theorem dX12_pair_85 : decode cX12_pair 85 = .ok (.getfield 13, 3) := by decide +kernel
theorem dX12_pair_88 : decode cX12_pair 88 = .ok (.sipush 1743, 3) := by decide +kernel
theorem dX12_pair_91 : decode cX12_pair 91 = .ok (.dup2, 1) := by decide +kernel
theorem dX12_pair_92 : decode cX12_pair 92 = .ok (.iaload, 1) := by decide +kernel
theorem dX12_pair_93 : decode cX12_pair 93 = .ok (.iconst 1, 1) := by decide +kernel
theorem dX12_pair_94 : decode cX12_pair 94 = .ok (.iadd, 1) := by decide +kernel
theorem dX12_pair_95 : decode cX12_pair 95 = .ok (.iastore, 1) := by decide +kernel
theorem dX12_pair_96 : decode cX12_pair 96 = .ok (.aload_n 0, 1) := by decide +kernel
theorem dX12_pair_97 : decode cX12_pair 97 = .ok (.getfield 13, 3) := by decide +kernel
theorem dX12_pair_100 : decode cX12_pair 100 = .ok (.sipush 1743, 3) := by decide +kernel
theorem dX12_pair_103 : decode cX12_pair 103 = .ok (.iaload, 1) := by decide +kernel
theorem dX12_pair_104 : decode cX12_pair 104 = .ok (.ireturn, 1) := by decide +kernel
theorem dX12_clear_0 : decode cX12_clear 0 = .ok (.aload_n 0, 1) := by decide +kernel
theorem dX12_clear_1 : decode cX12_clear 1 = .ok (.getfield 13, 3) := by decide +kernel
theorem dX12_clear_4 : decode cX12_clear 4 = .ok (.sipush 1743, 3) := by decide +kernel
theorem dX12_clear_7 : decode cX12_clear 7 = .ok (.iaload, 1) := by decide +kernel
theorem dX12_clear_8 : decode cX12_clear 8 = .ok (.istore_n 1, 1) := by decide +kernel
theorem dX12_clear_9 : decode cX12_clear 9 = .ok (.aload_n 0, 1) := by decide +kernel
theorem dX12_clear_10 : decode cX12_clear 10 = .ok (.getfield 13, 3) := by decide +kernel
theorem dX12_clear_13 : decode cX12_clear 13 = .ok (.sipush 1743, 3) := by decide +kernel
theorem dX12_clear_16 : decode cX12_clear 16 = .ok (.iconst 0, 1) := by decide +kernel
theorem dX12_clear_17 : decode cX12_clear 17 = .ok (.iastore, 1) := by decide +kernel
theorem dX12_clear_18 : decode cX12_clear 18 = .ok (.iload_n 1, 1) := by decide +kernel
theorem dX12_clear_19 : decode cX12_clear 19 = .ok (.ireturn, 1) := by decide +kernel
theorem dX12_shareAt_0 : decode cX12_shareAt 0 = .ok (.iload_n 2, 1) := by decide +kernel
theorem dX12_shareAt_1 : decode cX12_shareAt 1 = .ok (.aload_n 0, 1) := by decide +kernel
theorem dX12_shareAt_2 : decode cX12_shareAt 2 = .ok (.getfield 13, 3) := by decide +kernel
theorem dX12_shareAt_5 : decode cX12_shareAt 5 = .ok (.sipush 1728, 3) := by decide +kernel
theorem dX12_shareAt_8 : decode cX12_shareAt 8 = .ok (.iconst 2, 1) := by decide +kernel
theorem dX12_shareAt_9 : decode cX12_shareAt 9 = .ok (.iload_n 1, 1) := by decide +kernel
theorem dX12_shareAt_10 : decode cX12_shareAt 10 = .ok (.imul, 1) := by decide +kernel
theorem dX12_shareAt_11 : decode cX12_shareAt 11 = .ok (.iadd, 1) := by decide +kernel
theorem dX12_shareAt_12 : decode cX12_shareAt 12 = .ok (.iaload, 1) := by decide +kernel
theorem dX12_shareAt_13 : decode cX12_shareAt 13 = .ok (.if_icmp .le 35, 3) := by decide +kernel
theorem dX12_shareAt_16 : decode cX12_shareAt 16 = .ok (.aload_n 0, 1) := by decide +kernel
theorem dX12_shareAt_17 : decode cX12_shareAt 17 = .ok (.getfield 13, 3) := by decide +kernel
theorem dX12_shareAt_20 : decode cX12_shareAt 20 = .ok (.sipush 1728, 3) := by decide +kernel
theorem dX12_shareAt_23 : decode cX12_shareAt 23 = .ok (.iconst 2, 1) := by decide +kernel
theorem dX12_shareAt_24 : decode cX12_shareAt 24 = .ok (.iload_n 1, 1) := by decide +kernel
theorem dX12_shareAt_25 : decode cX12_shareAt 25 = .ok (.imul, 1) := by decide +kernel
theorem dX12_shareAt_26 : decode cX12_shareAt 26 = .ok (.iadd, 1) := by decide +kernel
theorem dX12_shareAt_27 : decode cX12_shareAt 27 = .ok (.iconst 1, 1) := by decide +kernel
theorem dX12_shareAt_28 : decode cX12_shareAt 28 = .ok (.iadd, 1) := by decide +kernel
theorem dX12_shareAt_29 : decode cX12_shareAt 29 = .ok (.iaload, 1) := by decide +kernel
theorem dX12_shareAt_30 : decode cX12_shareAt 30 = .ok (.iload_n 2, 1) := by decide +kernel
theorem dX12_shareAt_31 : decode cX12_shareAt 31 = .ok (.aload_n 0, 1) := by decide +kernel
theorem dX12_shareAt_32 : decode cX12_shareAt 32 = .ok (.getfield 13, 3) := by decide +kernel
theorem dX12_shareAt_35 : decode cX12_shareAt 35 = .ok (.sipush 1728, 3) := by decide +kernel
theorem dX12_shareAt_38 : decode cX12_shareAt 38 = .ok (.iconst 2, 1) := by decide +kernel
theorem dX12_shareAt_39 : decode cX12_shareAt 39 = .ok (.iload_n 1, 1) := by decide +kernel
theorem dX12_shareAt_40 : decode cX12_shareAt 40 = .ok (.imul, 1) := by decide +kernel
theorem dX12_shareAt_41 : decode cX12_shareAt 41 = .ok (.iadd, 1) := by decide +kernel
theorem dX12_shareAt_42 : decode cX12_shareAt 42 = .ok (.iaload, 1) := by decide +kernel
theorem dX12_shareAt_43 : decode cX12_shareAt 43 = .ok (.isub, 1) := by decide +kernel
theorem dX12_shareAt_44 : decode cX12_shareAt 44 = .ok (.imul, 1) := by decide +kernel
theorem dX12_shareAt_45 : decode cX12_shareAt 45 = .ok (.goto 4, 3) := by decide +kernel
theorem dX12_shareAt_48 : decode cX12_shareAt 48 = .ok (.iconst 0, 1) := by decide +kernel
theorem dX12_shareAt_49 : decode cX12_shareAt 49 = .ok (.ireturn, 1) := by decide +kernel
theorem dX12_pushedOf_0 : decode cX12_pushedOf 0 = .ok (.iconst 0, 1) := by decide +kernel
theorem dX12_pushedOf_1 : decode cX12_pushedOf 1 = .ok (.istore_n 2, 1) := by decide +kernel
theorem dX12_pushedOf_2 : decode cX12_pushedOf 2 = .ok (.iload_n 2, 1) := by decide +kernel
theorem dX12_pushedOf_3 : decode cX12_pushedOf 3 = .ok (.sipush 10000, 3) := by decide +kernel
theorem dX12_pushedOf_6 : decode cX12_pushedOf 6 = .ok (.if_icmp .ge 50, 3) := by decide +kernel
theorem dX12_pushedOf_9 : decode cX12_pushedOf 9 = .ok (.iconst 0, 1) := by decide +kernel
theorem dX12_pushedOf_10 : decode cX12_pushedOf 10 = .ok (.istore_n 3, 1) := by decide +kernel
theorem dX12_pushedOf_11 : decode cX12_pushedOf 11 = .ok (.iconst 0, 1) := by decide +kernel
theorem dX12_pushedOf_12 : decode cX12_pushedOf 12 = .ok (.istore 4, 2) := by decide +kernel
theorem dX12_pushedOf_14 : decode cX12_pushedOf 14 = .ok (.iload 4, 2) := by decide +kernel
theorem dX12_pushedOf_16 : decode cX12_pushedOf 16 = .ok (.aload_n 0, 1) := by decide +kernel
theorem dX12_pushedOf_17 : decode cX12_pushedOf 17 = .ok (.getfield 13, 3) := by decide +kernel
theorem dX12_pushedOf_20 : decode cX12_pushedOf 20 = .ok (.sipush 1743, 3) := by decide +kernel
theorem dX12_pushedOf_23 : decode cX12_pushedOf 23 = .ok (.iaload, 1) := by decide +kernel
theorem dX12_pushedOf_24 : decode cX12_pushedOf 24 = .ok (.if_icmp .ge 19, 3) := by decide +kernel
theorem dX12_pushedOf_27 : decode cX12_pushedOf 27 = .ok (.iload_n 3, 1) := by decide +kernel
theorem dX12_pushedOf_28 : decode cX12_pushedOf 28 = .ok (.aload_n 0, 1) := by decide +kernel
theorem dX12_pushedOf_29 : decode cX12_pushedOf 29 = .ok (.iload 4, 2) := by decide +kernel
theorem dX12_pushedOf_31 : decode cX12_pushedOf 31 = .ok (.iload_n 2, 1) := by decide +kernel
theorem dX12_pushedOf_32 : decode cX12_pushedOf 32 = .ok (.invokevirtual 276, 3) := by decide +kernel
theorem dX12_pushedOf_35 : decode cX12_pushedOf 35 = .ok (.iadd, 1) := by decide +kernel
theorem dX12_pushedOf_36 : decode cX12_pushedOf 36 = .ok (.istore_n 3, 1) := by decide +kernel
theorem dX12_pushedOf_37 : decode cX12_pushedOf 37 = .ok (.iinc 4 1, 3) := by decide +kernel
theorem dX12_pushedOf_40 : decode cX12_pushedOf 40 = .ok (.goto (-26), 3) := by decide +kernel
theorem dX12_pushedOf_43 : decode cX12_pushedOf 43 = .ok (.iload_n 3, 1) := by decide +kernel
theorem dX12_pushedOf_44 : decode cX12_pushedOf 44 = .ok (.iload_n 1, 1) := by decide +kernel
theorem dX12_pushedOf_45 : decode cX12_pushedOf 45 = .ok (.if_icmp .lt 5, 3) := by decide +kernel
theorem dX12_pushedOf_48 : decode cX12_pushedOf 48 = .ok (.iload_n 2, 1) := by decide +kernel
theorem dX12_pushedOf_49 : decode cX12_pushedOf 49 = .ok (.ireturn, 1) := by decide +kernel
theorem dX12_pushedOf_50 : decode cX12_pushedOf 50 = .ok (.iinc 2 1, 3) := by decide +kernel
theorem dX12_pushedOf_53 : decode cX12_pushedOf 53 = .ok (.goto (-51), 3) := by decide +kernel
theorem dX12_pushedOf_56 : decode cX12_pushedOf 56 = .ok (.bipush (-4), 2) := by decide +kernel
theorem dX12_pushedOf_58 : decode cX12_pushedOf 58 = .ok (.ireturn, 1) := by decide +kernel
theorem dX12_isLoad_0 : decode cX12_isLoad 0 = .ok (.iload_n 0, 1) := by decide +kernel
theorem dX12_isLoad_1 : decode cX12_isLoad 1 = .ok (.i2l, 1) := by decide +kernel
theorem dX12_isLoad_2 : decode cX12_isLoad 2 = .ok (.lconst 0, 1) := by decide +kernel
theorem dX12_isLoad_3 : decode cX12_isLoad 3 = .ok (.ldc2_w 279, 3) := by decide +kernel
theorem dX12_isLoad_6 : decode cX12_isLoad 6 = .ok (.invokestatic 73, 3) := by decide +kernel
theorem dX12_isLoad_9 : decode cX12_isLoad 9 = .ok (.ireturn, 1) := by decide +kernel
theorem dX12_pushed_0 : decode cX12_pushed 0 = .ok (.iload_n 1, 1) := by decide +kernel
theorem dX12_pushed_1 : decode cX12_pushed 1 = .ok (.invokestatic 281, 3) := by decide +kernel
theorem dX12_pushed_4 : decode cX12_pushed 4 = .ok (.ifCond .eq 11, 3) := by decide +kernel
theorem dX12_pushed_7 : decode cX12_pushed 7 = .ok (.aload_n 0, 1) := by decide +kernel
theorem dX12_pushed_8 : decode cX12_pushed 8 = .ok (.iload_n 1, 1) := by decide +kernel
theorem dX12_pushed_9 : decode cX12_pushed 9 = .ok (.invokevirtual 284, 3) := by decide +kernel
theorem dX12_pushed_12 : decode cX12_pushed 12 = .ok (.goto 4, 3) := by decide +kernel
theorem dX12_pushed_15 : decode cX12_pushed 15 = .ok (.iconst (-1), 1) := by decide +kernel
theorem dX12_pushed_16 : decode cX12_pushed 16 = .ok (.ireturn, 1) := by decide +kernel
theorem dX12_share_0 : decode cX12_share 0 = .ok (.iload_n 1, 1) := by decide +kernel
theorem dX12_share_1 : decode cX12_share 1 = .ok (.i2l, 1) := by decide +kernel
theorem dX12_share_2 : decode cX12_share 2 = .ok (.lconst 0, 1) := by decide +kernel
theorem dX12_share_3 : decode cX12_share 3 = .ok (.aload_n 0, 1) := by decide +kernel
theorem dX12_share_4 : decode cX12_share 4 = .ok (.getfield 13, 3) := by decide +kernel
theorem dX12_share_7 : decode cX12_share 7 = .ok (.sipush 1743, 3) := by decide +kernel
theorem dX12_share_10 : decode cX12_share 10 = .ok (.iaload, 1) := by decide +kernel
theorem dX12_share_11 : decode cX12_share 11 = .ok (.iconst 1, 1) := by decide +kernel
theorem dX12_share_12 : decode cX12_share 12 = .ok (.isub, 1) := by decide +kernel
theorem dX12_share_13 : decode cX12_share 13 = .ok (.i2l, 1) := by decide +kernel
theorem dX12_share_14 : decode cX12_share 14 = .ok (.invokestatic 73, 3) := by decide +kernel
theorem dX12_share_17 : decode cX12_share 17 = .ok (.ifCond .eq 10, 3) := by decide +kernel
theorem dX12_share_20 : decode cX12_share 20 = .ok (.iload_n 2, 1) := by decide +kernel
theorem dX12_share_21 : decode cX12_share 21 = .ok (.invokestatic 281, 3) := by decide +kernel
theorem dX12_share_24 : decode cX12_share 24 = .ok (.ifCond .ne 5, 3) := by decide +kernel
theorem dX12_share_27 : decode cX12_share 27 = .ok (.iconst (-1), 1) := by decide +kernel
theorem dX12_share_28 : decode cX12_share 28 = .ok (.ireturn, 1) := by decide +kernel
theorem dX12_share_29 : decode cX12_share 29 = .ok (.aload_n 0, 1) := by decide +kernel
theorem dX12_share_30 : decode cX12_share 30 = .ok (.iload_n 2, 1) := by decide +kernel
theorem dX12_share_31 : decode cX12_share 31 = .ok (.invokevirtual 284, 3) := by decide +kernel
theorem dX12_share_34 : decode cX12_share 34 = .ok (.istore_n 3, 1) := by decide +kernel
theorem dX12_share_35 : decode cX12_share 35 = .ok (.iload_n 3, 1) := by decide +kernel
theorem dX12_share_36 : decode cX12_share 36 = .ok (.ifCond .ge 8, 3) := by decide +kernel
theorem dX12_share_39 : decode cX12_share 39 = .ok (.bipush (-3), 2) := by decide +kernel
theorem dX12_share_41 : decode cX12_share 41 = .ok (.goto 9, 3) := by decide +kernel
theorem dX12_share_44 : decode cX12_share 44 = .ok (.aload_n 0, 1) := by decide +kernel
theorem dX12_share_45 : decode cX12_share 45 = .ok (.iload_n 1, 1) := by decide +kernel
theorem dX12_share_46 : decode cX12_share 46 = .ok (.iload_n 3, 1) := by decide +kernel
theorem dX12_share_47 : decode cX12_share 47 = .ok (.invokevirtual 276, 3) := by decide +kernel
theorem dX12_share_50 : decode cX12_share 50 = .ok (.ireturn, 1) := by decide +kernel
theorem dX12_bearing_0 : decode cX12_bearing 0 = .ok (.iload_n 1, 1) := by decide +kernel
theorem dX12_bearing_1 : decode cX12_bearing 1 = .ok (.invokestatic 281, 3) := by decide +kernel
theorem dX12_bearing_4 : decode cX12_bearing 4 = .ok (.ifCond .ne 5, 3) := by decide +kernel
theorem dX12_bearing_7 : decode cX12_bearing 7 = .ok (.iconst (-1), 1) := by decide +kernel
theorem dX12_bearing_8 : decode cX12_bearing 8 = .ok (.ireturn, 1) := by decide +kernel
theorem dX12_bearing_9 : decode cX12_bearing 9 = .ok (.aload_n 0, 1) := by decide +kernel
theorem dX12_bearing_10 : decode cX12_bearing 10 = .ok (.iload_n 1, 1) := by decide +kernel
theorem dX12_bearing_11 : decode cX12_bearing 11 = .ok (.invokevirtual 284, 3) := by decide +kernel
theorem dX12_bearing_14 : decode cX12_bearing 14 = .ok (.istore_n 2, 1) := by decide +kernel
theorem dX12_bearing_15 : decode cX12_bearing 15 = .ok (.iload_n 2, 1) := by decide +kernel
theorem dX12_bearing_16 : decode cX12_bearing 16 = .ok (.ifCond .ge 6, 3) := by decide +kernel
theorem dX12_bearing_19 : decode cX12_bearing 19 = .ok (.bipush (-3), 2) := by decide +kernel
theorem dX12_bearing_21 : decode cX12_bearing 21 = .ok (.ireturn, 1) := by decide +kernel
theorem dX12_bearing_22 : decode cX12_bearing 22 = .ok (.iconst 0, 1) := by decide +kernel
theorem dX12_bearing_23 : decode cX12_bearing 23 = .ok (.istore_n 3, 1) := by decide +kernel
theorem dX12_bearing_24 : decode cX12_bearing 24 = .ok (.iconst 0, 1) := by decide +kernel
theorem dX12_bearing_25 : decode cX12_bearing 25 = .ok (.istore 4, 2) := by decide +kernel
theorem dX12_bearing_27 : decode cX12_bearing 27 = .ok (.iload 4, 2) := by decide +kernel
theorem dX12_bearing_29 : decode cX12_bearing 29 = .ok (.aload_n 0, 1) := by decide +kernel
theorem dX12_bearing_30 : decode cX12_bearing 30 = .ok (.getfield 13, 3) := by decide +kernel
theorem dX12_bearing_33 : decode cX12_bearing 33 = .ok (.sipush 1743, 3) := by decide +kernel
theorem dX12_bearing_36 : decode cX12_bearing 36 = .ok (.iaload, 1) := by decide +kernel
theorem dX12_bearing_37 : decode cX12_bearing 37 = .ok (.if_icmp .ge 30, 3) := by decide +kernel
theorem dX12_bearing_40 : decode cX12_bearing 40 = .ok (.iload_n 3, 1) := by decide +kernel
theorem dX12_bearing_41 : decode cX12_bearing 41 = .ok (.aload_n 0, 1) := by decide +kernel
theorem dX12_bearing_42 : decode cX12_bearing 42 = .ok (.iload 4, 2) := by decide +kernel
theorem dX12_bearing_44 : decode cX12_bearing 44 = .ok (.iload_n 2, 1) := by decide +kernel
theorem dX12_bearing_45 : decode cX12_bearing 45 = .ok (.invokevirtual 276, 3) := by decide +kernel
theorem dX12_bearing_48 : decode cX12_bearing 48 = .ok (.ifCond .le 10, 3) := by decide +kernel
theorem dX12_bearing_51 : decode cX12_bearing 51 = .ok (.iconst 1, 1) := by decide +kernel
theorem dX12_bearing_52 : decode cX12_bearing 52 = .ok (.iload 4, 2) := by decide +kernel
theorem dX12_bearing_54 : decode cX12_bearing 54 = .ok (.ishl, 1) := by decide +kernel
theorem dX12_bearing_55 : decode cX12_bearing 55 = .ok (.goto 4, 3) := by decide +kernel
theorem dX12_bearing_58 : decode cX12_bearing 58 = .ok (.iconst 0, 1) := by decide +kernel
theorem dX12_bearing_59 : decode cX12_bearing 59 = .ok (.ior, 1) := by decide +kernel
theorem dX12_bearing_60 : decode cX12_bearing 60 = .ok (.istore_n 3, 1) := by decide +kernel
theorem dX12_bearing_61 : decode cX12_bearing 61 = .ok (.iinc 4 1, 3) := by decide +kernel
theorem dX12_bearing_64 : decode cX12_bearing 64 = .ok (.goto (-37), 3) := by decide +kernel
theorem dX12_bearing_67 : decode cX12_bearing 67 = .ok (.iload_n 3, 1) := by decide +kernel
theorem dX12_bearing_68 : decode cX12_bearing 68 = .ok (.ireturn, 1) := by decide +kernel
theorem dX12_readsOr_0 : decode cX12_readsOr 0 = .ok (.aload_n 0, 1) := by decide +kernel
theorem dX12_readsOr_1 : decode cX12_readsOr 1 = .ok (.invokevirtual 287, 3) := by decide +kernel
theorem dX12_readsOr_4 : decode cX12_readsOr 4 = .ok (.ifCond .ne 5, 3) := by decide +kernel
theorem dX12_readsOr_7 : decode cX12_readsOr 7 = .ok (.iconst 0, 1) := by decide +kernel
theorem dX12_readsOr_8 : decode cX12_readsOr 8 = .ok (.ireturn, 1) := by decide +kernel
theorem dX12_readsOr_9 : decode cX12_readsOr 9 = .ok (.aload_n 0, 1) := by decide +kernel
theorem dX12_readsOr_10 : decode cX12_readsOr 10 = .ok (.bipush 124, 2) := by decide +kernel
theorem dX12_readsOr_12 : decode cX12_readsOr 12 = .ok (.invokevirtual 110, 3) := by decide +kernel
theorem dX12_readsOr_15 : decode cX12_readsOr 15 = .ok (.ifCond .eq 12, 3) := by decide +kernel
theorem dX12_readsOr_18 : decode cX12_readsOr 18 = .ok (.aload_n 0, 1) := by decide +kernel
theorem dX12_readsOr_19 : decode cX12_readsOr 19 = .ok (.invokevirtual 287, 3) := by decide +kernel
theorem dX12_readsOr_22 : decode cX12_readsOr 22 = .ok (.ifCond .ne (-13), 3) := by decide +kernel
theorem dX12_readsOr_25 : decode cX12_readsOr 25 = .ok (.iconst 0, 1) := by decide +kernel
theorem dX12_readsOr_26 : decode cX12_readsOr 26 = .ok (.ireturn, 1) := by decide +kernel
theorem dX12_readsOr_27 : decode cX12_readsOr 27 = .ok (.iconst 1, 1) := by decide +kernel
theorem dX12_readsOr_28 : decode cX12_readsOr 28 = .ok (.ireturn, 1) := by decide +kernel
theorem dX12_readsAnd_0 : decode cX12_readsAnd 0 = .ok (.aload_n 0, 1) := by decide +kernel
theorem dX12_readsAnd_1 : decode cX12_readsAnd 1 = .ok (.invokevirtual 290, 3) := by decide +kernel
theorem dX12_readsAnd_4 : decode cX12_readsAnd 4 = .ok (.ifCond .ne 5, 3) := by decide +kernel
theorem dX12_readsAnd_7 : decode cX12_readsAnd 7 = .ok (.iconst 0, 1) := by decide +kernel
theorem dX12_readsAnd_8 : decode cX12_readsAnd 8 = .ok (.ireturn, 1) := by decide +kernel
theorem dX12_readsAnd_9 : decode cX12_readsAnd 9 = .ok (.aload_n 0, 1) := by decide +kernel
theorem dX12_readsAnd_10 : decode cX12_readsAnd 10 = .ok (.bipush 38, 2) := by decide +kernel
theorem dX12_readsAnd_12 : decode cX12_readsAnd 12 = .ok (.invokevirtual 110, 3) := by decide +kernel
theorem dX12_readsAnd_15 : decode cX12_readsAnd 15 = .ok (.ifCond .eq 12, 3) := by decide +kernel
theorem dX12_readsAnd_18 : decode cX12_readsAnd 18 = .ok (.aload_n 0, 1) := by decide +kernel
theorem dX12_readsAnd_19 : decode cX12_readsAnd 19 = .ok (.invokevirtual 290, 3) := by decide +kernel
theorem dX12_readsAnd_22 : decode cX12_readsAnd 22 = .ok (.ifCond .ne (-13), 3) := by decide +kernel
theorem dX12_readsAnd_25 : decode cX12_readsAnd 25 = .ok (.iconst 0, 1) := by decide +kernel
theorem dX12_readsAnd_26 : decode cX12_readsAnd 26 = .ok (.ireturn, 1) := by decide +kernel
theorem dX12_readsAnd_27 : decode cX12_readsAnd 27 = .ok (.iconst 1, 1) := by decide +kernel
theorem dX12_readsAnd_28 : decode cX12_readsAnd 28 = .ok (.ireturn, 1) := by decide +kernel
theorem dX12_readsTest_0 : decode cX12_readsTest 0 = .ok (.aload_n 0, 1) := by decide +kernel
theorem dX12_readsTest_1 : decode cX12_readsTest 1 = .ok (.bipush 33, 2) := by decide +kernel
theorem dX12_readsTest_3 : decode cX12_readsTest 3 = .ok (.invokevirtual 110, 3) := by decide +kernel
theorem dX12_readsTest_6 : decode cX12_readsTest 6 = .ok (.ifCond .eq 8, 3) := by decide +kernel
theorem dX12_readsTest_9 : decode cX12_readsTest 9 = .ok (.aload_n 0, 1) := by decide +kernel
theorem dX12_readsTest_10 : decode cX12_readsTest 10 = .ok (.invokevirtual 290, 3) := by decide +kernel
theorem dX12_readsTest_13 : decode cX12_readsTest 13 = .ok (.ireturn, 1) := by decide +kernel
theorem dX12_readsTest_14 : decode cX12_readsTest 14 = .ok (.aload_n 0, 1) := by decide +kernel
theorem dX12_readsTest_15 : decode cX12_readsTest 15 = .ok (.invokevirtual 99, 3) := by decide +kernel
theorem dX12_readsTest_18 : decode cX12_readsTest 18 = .ok (.bipush 40, 2) := by decide +kernel
theorem dX12_readsTest_20 : decode cX12_readsTest 20 = .ok (.if_icmp .ne 64, 3) := by decide +kernel
theorem dX12_readsTest_23 : decode cX12_readsTest 23 = .ok (.aload_n 0, 1) := by decide +kernel
theorem dX12_readsTest_24 : decode cX12_readsTest 24 = .ok (.getfield 293, 3) := by decide +kernel
theorem dX12_readsTest_27 : decode cX12_readsTest 27 = .ok (.bipush 8, 2) := by decide +kernel
theorem dX12_readsTest_29 : decode cX12_readsTest 29 = .ok (.if_icmp .ne 5, 3) := by decide +kernel
theorem dX12_readsTest_32 : decode cX12_readsTest 32 = .ok (.iconst 0, 1) := by decide +kernel
theorem dX12_readsTest_33 : decode cX12_readsTest 33 = .ok (.ireturn, 1) := by decide +kernel
theorem dX12_readsTest_34 : decode cX12_readsTest 34 = .ok (.aload_n 0, 1) := by decide +kernel
theorem dX12_readsTest_35 : decode cX12_readsTest 35 = .ok (.dup, 1) := by decide +kernel
theorem dX12_readsTest_36 : decode cX12_readsTest 36 = .ok (.getfield 90, 3) := by decide +kernel
theorem dX12_readsTest_39 : decode cX12_readsTest 39 = .ok (.iconst 1, 1) := by decide +kernel
theorem dX12_readsTest_40 : decode cX12_readsTest 40 = .ok (.iadd, 1) := by decide +kernel
theorem dX12_readsTest_41 : decode cX12_readsTest 41 = .ok (.putfield 90, 3) := by decide +kernel
theorem dX12_readsTest_44 : decode cX12_readsTest 44 = .ok (.aload_n 0, 1) := by decide +kernel
theorem dX12_readsTest_45 : decode cX12_readsTest 45 = .ok (.dup, 1) := by decide +kernel
theorem dX12_readsTest_46 : decode cX12_readsTest 46 = .ok (.getfield 293, 3) := by decide +kernel
theorem dX12_readsTest_49 : decode cX12_readsTest 49 = .ok (.iconst 1, 1) := by decide +kernel
theorem dX12_readsTest_50 : decode cX12_readsTest 50 = .ok (.iadd, 1) := by decide +kernel
theorem dX12_readsTest_51 : decode cX12_readsTest 51 = .ok (.putfield 293, 3) := by decide +kernel
theorem dX12_readsTest_54 : decode cX12_readsTest 54 = .ok (.aload_n 0, 1) := by decide +kernel
theorem dX12_readsTest_55 : decode cX12_readsTest 55 = .ok (.invokevirtual 296, 3) := by decide +kernel
theorem dX12_readsTest_58 : decode cX12_readsTest 58 = .ok (.ifCond .eq 12, 3) := by decide +kernel
theorem dX12_readsTest_61 : decode cX12_readsTest 61 = .ok (.aload_n 0, 1) := by decide +kernel
theorem dX12_readsTest_62 : decode cX12_readsTest 62 = .ok (.bipush 41, 2) := by decide +kernel
theorem dX12_readsTest_64 : decode cX12_readsTest 64 = .ok (.invokevirtual 110, 3) := by decide +kernel
theorem dX12_readsTest_67 : decode cX12_readsTest 67 = .ok (.ifCond .ne 5, 3) := by decide +kernel
theorem dX12_readsTest_70 : decode cX12_readsTest 70 = .ok (.iconst 0, 1) := by decide +kernel
theorem dX12_readsTest_71 : decode cX12_readsTest 71 = .ok (.ireturn, 1) := by decide +kernel
theorem dX12_readsTest_72 : decode cX12_readsTest 72 = .ok (.aload_n 0, 1) := by decide +kernel
theorem dX12_readsTest_73 : decode cX12_readsTest 73 = .ok (.dup, 1) := by decide +kernel
theorem dX12_readsTest_74 : decode cX12_readsTest 74 = .ok (.getfield 293, 3) := by decide +kernel
theorem dX12_readsTest_77 : decode cX12_readsTest 77 = .ok (.iconst 1, 1) := by decide +kernel
theorem dX12_readsTest_78 : decode cX12_readsTest 78 = .ok (.isub, 1) := by decide +kernel
theorem dX12_readsTest_79 : decode cX12_readsTest 79 = .ok (.putfield 293, 3) := by decide +kernel
theorem dX12_readsTest_82 : decode cX12_readsTest 82 = .ok (.iconst 1, 1) := by decide +kernel
theorem dX12_readsTest_83 : decode cX12_readsTest 83 = .ok (.ireturn, 1) := by decide +kernel
theorem dX12_readsTest_84 : decode cX12_readsTest 84 = .ok (.aload_n 0, 1) := by decide +kernel
theorem dX12_readsTest_85 : decode cX12_readsTest 85 = .ok (.invokevirtual 299, 3) := by decide +kernel
theorem dX12_readsTest_88 : decode cX12_readsTest 88 = .ok (.ifCond .eq 30, 3) := by decide +kernel
theorem dX12_readsTest_91 : decode cX12_readsTest 91 = .ok (.aload_n 0, 1) := by decide +kernel
theorem dX12_readsTest_92 : decode cX12_readsTest 92 = .ok (.bipush 60, 2) := by decide +kernel
theorem dX12_readsTest_94 : decode cX12_readsTest 94 = .ok (.invokevirtual 110, 3) := by decide +kernel
theorem dX12_readsTest_97 : decode cX12_readsTest 97 = .ok (.ifCond .ne 23, 3) := by decide +kernel
theorem dX12_readsTest_100 : decode cX12_readsTest 100 = .ok (.aload_n 0, 1) := by decide +kernel
theorem dX12_readsTest_101 : decode cX12_readsTest 101 = .ok (.bipush 62, 2) := by decide +kernel
theorem dX12_readsTest_103 : decode cX12_readsTest 103 = .ok (.invokevirtual 110, 3) := by decide +kernel
theorem dX12_readsTest_106 : decode cX12_readsTest 106 = .ok (.ifCond .ne 14, 3) := by decide +kernel
theorem dX12_readsTest_109 : decode cX12_readsTest 109 = .ok (.aload_n 0, 1) := by decide +kernel
theorem dX12_readsTest_110 : decode cX12_readsTest 110 = .ok (.bipush 61, 2) := by decide +kernel
theorem dX12_readsTest_112 : decode cX12_readsTest 112 = .ok (.invokevirtual 110, 3) := by decide +kernel
theorem dX12_readsTest_115 : decode cX12_readsTest 115 = .ok (.ifCond .ne 5, 3) := by decide +kernel
theorem dX12_readsTest_118 : decode cX12_readsTest 118 = .ok (.iconst 0, 1) := by decide +kernel
theorem dX12_readsTest_119 : decode cX12_readsTest 119 = .ok (.ireturn, 1) := by decide +kernel
theorem dX12_readsTest_120 : decode cX12_readsTest 120 = .ok (.aload_n 0, 1) := by decide +kernel
theorem dX12_readsTest_121 : decode cX12_readsTest 121 = .ok (.invokevirtual 299, 3) := by decide +kernel
theorem dX12_readsTest_124 : decode cX12_readsTest 124 = .ok (.ireturn, 1) := by decide +kernel
theorem dX12_readsSum_0 : decode cX12_readsSum 0 = .ok (.aload_n 0, 1) := by decide +kernel
theorem dX12_readsSum_1 : decode cX12_readsSum 1 = .ok (.invokevirtual 302, 3) := by decide +kernel
theorem dX12_readsSum_4 : decode cX12_readsSum 4 = .ok (.ifCond .ne 5, 3) := by decide +kernel
theorem dX12_readsSum_7 : decode cX12_readsSum 7 = .ok (.iconst 0, 1) := by decide +kernel
theorem dX12_readsSum_8 : decode cX12_readsSum 8 = .ok (.ireturn, 1) := by decide +kernel
theorem dX12_readsSum_9 : decode cX12_readsSum 9 = .ok (.aload_n 0, 1) := by decide +kernel
theorem dX12_readsSum_10 : decode cX12_readsSum 10 = .ok (.bipush 43, 2) := by decide +kernel
theorem dX12_readsSum_12 : decode cX12_readsSum 12 = .ok (.invokevirtual 110, 3) := by decide +kernel
theorem dX12_readsSum_15 : decode cX12_readsSum 15 = .ok (.ifCond .ne 12, 3) := by decide +kernel
theorem dX12_readsSum_18 : decode cX12_readsSum 18 = .ok (.aload_n 0, 1) := by decide +kernel
theorem dX12_readsSum_19 : decode cX12_readsSum 19 = .ok (.bipush 45, 2) := by decide +kernel
theorem dX12_readsSum_21 : decode cX12_readsSum 21 = .ok (.invokevirtual 110, 3) := by decide +kernel
theorem dX12_readsSum_24 : decode cX12_readsSum 24 = .ok (.ifCond .eq 12, 3) := by decide +kernel
theorem dX12_readsSum_27 : decode cX12_readsSum 27 = .ok (.aload_n 0, 1) := by decide +kernel
theorem dX12_readsSum_28 : decode cX12_readsSum 28 = .ok (.invokevirtual 302, 3) := by decide +kernel
theorem dX12_readsSum_31 : decode cX12_readsSum 31 = .ok (.ifCond .ne (-22), 3) := by decide +kernel
theorem dX12_readsSum_34 : decode cX12_readsSum 34 = .ok (.iconst 0, 1) := by decide +kernel
theorem dX12_readsSum_35 : decode cX12_readsSum 35 = .ok (.ireturn, 1) := by decide +kernel
theorem dX12_readsSum_36 : decode cX12_readsSum 36 = .ok (.iconst 1, 1) := by decide +kernel
theorem dX12_readsSum_37 : decode cX12_readsSum 37 = .ok (.ireturn, 1) := by decide +kernel
theorem dX12_isDigit_0 : decode cX12_isDigit 0 = .ok (.iload_n 0, 1) := by decide +kernel
theorem dX12_isDigit_1 : decode cX12_isDigit 1 = .ok (.bipush 48, 2) := by decide +kernel
theorem dX12_isDigit_3 : decode cX12_isDigit 3 = .ok (.if_icmp .lt 13, 3) := by decide +kernel
theorem dX12_isDigit_6 : decode cX12_isDigit 6 = .ok (.iload_n 0, 1) := by decide +kernel
theorem dX12_isDigit_7 : decode cX12_isDigit 7 = .ok (.bipush 57, 2) := by decide +kernel
theorem dX12_isDigit_9 : decode cX12_isDigit 9 = .ok (.if_icmp .gt 7, 3) := by decide +kernel
theorem dX12_isDigit_12 : decode cX12_isDigit 12 = .ok (.iconst 1, 1) := by decide +kernel
theorem dX12_isDigit_13 : decode cX12_isDigit 13 = .ok (.goto 4, 3) := by decide +kernel
theorem dX12_isDigit_16 : decode cX12_isDigit 16 = .ok (.iconst 0, 1) := by decide +kernel
theorem dX12_isDigit_17 : decode cX12_isDigit 17 = .ok (.ireturn, 1) := by decide +kernel
theorem dX12_isField_0 : decode cX12_isField 0 = .ok (.iload_n 0, 1) := by decide +kernel
theorem dX12_isField_1 : decode cX12_isField 1 = .ok (.bipush 101, 2) := by decide +kernel
theorem dX12_isField_3 : decode cX12_isField 3 = .ok (.if_icmp .eq 39, 3) := by decide +kernel
theorem dX12_isField_6 : decode cX12_isField 6 = .ok (.iload_n 0, 1) := by decide +kernel
theorem dX12_isField_7 : decode cX12_isField 7 = .ok (.bipush 103, 2) := by decide +kernel
theorem dX12_isField_9 : decode cX12_isField 9 = .ok (.if_icmp .eq 33, 3) := by decide +kernel
theorem dX12_isField_12 : decode cX12_isField 12 = .ok (.iload_n 0, 1) := by decide +kernel
theorem dX12_isField_13 : decode cX12_isField 13 = .ok (.bipush 119, 2) := by decide +kernel
theorem dX12_isField_15 : decode cX12_isField 15 = .ok (.if_icmp .eq 27, 3) := by decide +kernel
theorem dX12_isField_18 : decode cX12_isField 18 = .ok (.iload_n 0, 1) := by decide +kernel
theorem dX12_isField_19 : decode cX12_isField 19 = .ok (.bipush 108, 2) := by decide +kernel
theorem dX12_isField_21 : decode cX12_isField 21 = .ok (.if_icmp .eq 21, 3) := by decide +kernel
theorem dX12_isField_24 : decode cX12_isField 24 = .ok (.iload_n 0, 1) := by decide +kernel
theorem dX12_isField_25 : decode cX12_isField 25 = .ok (.bipush 114, 2) := by decide +kernel
theorem dX12_isField_27 : decode cX12_isField 27 = .ok (.if_icmp .eq 15, 3) := by decide +kernel
theorem dX12_isField_30 : decode cX12_isField 30 = .ok (.iload_n 0, 1) := by decide +kernel
theorem dX12_isField_31 : decode cX12_isField 31 = .ok (.bipush 116, 2) := by decide +kernel
theorem dX12_isField_33 : decode cX12_isField 33 = .ok (.if_icmp .eq 9, 3) := by decide +kernel
theorem dX12_isField_36 : decode cX12_isField 36 = .ok (.iload_n 0, 1) := by decide +kernel
theorem dX12_isField_37 : decode cX12_isField 37 = .ok (.bipush 117, 2) := by decide +kernel
theorem dX12_isField_39 : decode cX12_isField 39 = .ok (.if_icmp .ne 7, 3) := by decide +kernel
theorem dX12_isField_42 : decode cX12_isField 42 = .ok (.iconst 1, 1) := by decide +kernel
theorem dX12_isField_43 : decode cX12_isField 43 = .ok (.goto 4, 3) := by decide +kernel
theorem dX12_isField_46 : decode cX12_isField 46 = .ok (.iconst 0, 1) := by decide +kernel
theorem dX12_isField_47 : decode cX12_isField 47 = .ok (.ireturn, 1) := by decide +kernel
theorem dX12_readsAtom_0 : decode cX12_readsAtom 0 = .ok (.aload_n 0, 1) := by decide +kernel
theorem dX12_readsAtom_1 : decode cX12_readsAtom 1 = .ok (.invokevirtual 99, 3) := by decide +kernel
theorem dX12_readsAtom_4 : decode cX12_readsAtom 4 = .ok (.invokestatic 305, 3) := by decide +kernel
theorem dX12_readsAtom_7 : decode cX12_readsAtom 7 = .ok (.ifCond .eq 15, 3) := by decide +kernel
theorem dX12_readsAtom_10 : decode cX12_readsAtom 10 = .ok (.aload_n 0, 1) := by decide +kernel
theorem dX12_readsAtom_11 : decode cX12_readsAtom 11 = .ok (.dup, 1) := by decide +kernel
theorem dX12_readsAtom_12 : decode cX12_readsAtom 12 = .ok (.getfield 90, 3) := by decide +kernel
theorem dX12_readsAtom_15 : decode cX12_readsAtom 15 = .ok (.iconst 1, 1) := by decide +kernel
theorem dX12_readsAtom_16 : decode cX12_readsAtom 16 = .ok (.iadd, 1) := by decide +kernel
theorem dX12_readsAtom_17 : decode cX12_readsAtom 17 = .ok (.putfield 90, 3) := by decide +kernel
theorem dX12_readsAtom_20 : decode cX12_readsAtom 20 = .ok (.iconst 1, 1) := by decide +kernel
theorem dX12_readsAtom_21 : decode cX12_readsAtom 21 = .ok (.ireturn, 1) := by decide +kernel
theorem dX12_readsAtom_22 : decode cX12_readsAtom 22 = .ok (.aload_n 0, 1) := by decide +kernel
theorem dX12_readsAtom_23 : decode cX12_readsAtom 23 = .ok (.invokevirtual 99, 3) := by decide +kernel
theorem dX12_readsAtom_26 : decode cX12_readsAtom 26 = .ok (.invokestatic 308, 3) := by decide +kernel
theorem dX12_readsAtom_29 : decode cX12_readsAtom 29 = .ok (.ifCond .ne 5, 3) := by decide +kernel
theorem dX12_readsAtom_32 : decode cX12_readsAtom 32 = .ok (.iconst 0, 1) := by decide +kernel
theorem dX12_readsAtom_33 : decode cX12_readsAtom 33 = .ok (.ireturn, 1) := by decide +kernel
theorem dX12_readsAtom_34 : decode cX12_readsAtom 34 = .ok (.aload_n 0, 1) := by decide +kernel
theorem dX12_readsAtom_35 : decode cX12_readsAtom 35 = .ok (.invokevirtual 99, 3) := by decide +kernel
theorem dX12_readsAtom_38 : decode cX12_readsAtom 38 = .ok (.bipush 48, 2) := by decide +kernel
theorem dX12_readsAtom_40 : decode cX12_readsAtom 40 = .ok (.if_icmp .ne 7, 3) := by decide +kernel
theorem dX12_readsAtom_43 : decode cX12_readsAtom 43 = .ok (.iconst 1, 1) := by decide +kernel
theorem dX12_readsAtom_44 : decode cX12_readsAtom 44 = .ok (.goto 4, 3) := by decide +kernel
theorem dX12_readsAtom_47 : decode cX12_readsAtom 47 = .ok (.iconst 0, 1) := by decide +kernel
theorem dX12_readsAtom_48 : decode cX12_readsAtom 48 = .ok (.istore_n 1, 1) := by decide +kernel
theorem dX12_readsAtom_49 : decode cX12_readsAtom 49 = .ok (.aload_n 0, 1) := by decide +kernel
theorem dX12_readsAtom_50 : decode cX12_readsAtom 50 = .ok (.dup, 1) := by decide +kernel
theorem dX12_readsAtom_51 : decode cX12_readsAtom 51 = .ok (.getfield 90, 3) := by decide +kernel
theorem dX12_readsAtom_54 : decode cX12_readsAtom 54 = .ok (.iconst 1, 1) := by decide +kernel
theorem dX12_readsAtom_55 : decode cX12_readsAtom 55 = .ok (.iadd, 1) := by decide +kernel
theorem dX12_readsAtom_56 : decode cX12_readsAtom 56 = .ok (.putfield 90, 3) := by decide +kernel
theorem dX12_readsAtom_59 : decode cX12_readsAtom 59 = .ok (.iconst 1, 1) := by decide +kernel
theorem dX12_readsAtom_60 : decode cX12_readsAtom 60 = .ok (.istore_n 2, 1) := by decide +kernel
theorem dX12_readsAtom_61 : decode cX12_readsAtom 61 = .ok (.iload_n 2, 1) := by decide +kernel
theorem dX12_readsAtom_62 : decode cX12_readsAtom 62 = .ok (.iconst 4, 1) := by decide +kernel
theorem dX12_readsAtom_63 : decode cX12_readsAtom 63 = .ok (.if_icmp .ge 33, 3) := by decide +kernel
theorem dX12_readsAtom_66 : decode cX12_readsAtom 66 = .ok (.iload_n 1, 1) := by decide +kernel
theorem dX12_readsAtom_67 : decode cX12_readsAtom 67 = .ok (.ifCond .ne 29, 3) := by decide +kernel
theorem dX12_readsAtom_70 : decode cX12_readsAtom 70 = .ok (.aload_n 0, 1) := by decide +kernel
theorem dX12_readsAtom_71 : decode cX12_readsAtom 71 = .ok (.invokevirtual 99, 3) := by decide +kernel
theorem dX12_readsAtom_74 : decode cX12_readsAtom 74 = .ok (.invokestatic 308, 3) := by decide +kernel
theorem dX12_readsAtom_77 : decode cX12_readsAtom 77 = .ok (.ifCond .eq 19, 3) := by decide +kernel
theorem dX12_readsAtom_80 : decode cX12_readsAtom 80 = .ok (.aload_n 0, 1) := by decide +kernel
theorem dX12_readsAtom_81 : decode cX12_readsAtom 81 = .ok (.dup, 1) := by decide +kernel
theorem dX12_readsAtom_82 : decode cX12_readsAtom 82 = .ok (.getfield 90, 3) := by decide +kernel
theorem dX12_readsAtom_85 : decode cX12_readsAtom 85 = .ok (.iconst 1, 1) := by decide +kernel
theorem dX12_readsAtom_86 : decode cX12_readsAtom 86 = .ok (.iadd, 1) := by decide +kernel
theorem dX12_readsAtom_87 : decode cX12_readsAtom 87 = .ok (.putfield 90, 3) := by decide +kernel
theorem dX12_readsAtom_90 : decode cX12_readsAtom 90 = .ok (.iinc 2 1, 3) := by decide +kernel
theorem dX12_readsAtom_93 : decode cX12_readsAtom 93 = .ok (.goto (-32), 3) := by decide +kernel
theorem dX12_readsAtom_96 : decode cX12_readsAtom 96 = .ok (.iconst 1, 1) := by decide +kernel
theorem dX12_readsAtom_97 : decode cX12_readsAtom 97 = .ok (.ireturn, 1) := by decide +kernel
theorem dX12_faultOf_0 : decode cX12_faultOf 0 = .ok (.aload_n 0, 1) := by decide +kernel
theorem dX12_faultOf_1 : decode cX12_faultOf 1 = .ok (.iload_n 1, 1) := by decide +kernel
theorem dX12_faultOf_2 : decode cX12_faultOf 2 = .ok (.invokevirtual 133, 3) := by decide +kernel
theorem dX12_faultOf_5 : decode cX12_faultOf 5 = .ok (.aload_n 0, 1) := by decide +kernel
theorem dX12_faultOf_6 : decode cX12_faultOf 6 = .ok (.iconst 0, 1) := by decide +kernel
theorem dX12_faultOf_7 : decode cX12_faultOf 7 = .ok (.putfield 293, 3) := by decide +kernel
theorem dX12_faultOf_10 : decode cX12_faultOf 10 = .ok (.aload_n 0, 1) := by decide +kernel
theorem dX12_faultOf_11 : decode cX12_faultOf 11 = .ok (.invokevirtual 296, 3) := by decide +kernel
theorem dX12_faultOf_14 : decode cX12_faultOf 14 = .ok (.istore_n 2, 1) := by decide +kernel
theorem dX12_faultOf_15 : decode cX12_faultOf 15 = .ok (.iload_n 2, 1) := by decide +kernel
theorem dX12_faultOf_16 : decode cX12_faultOf 16 = .ok (.ifCond .eq 19, 3) := by decide +kernel
theorem dX12_faultOf_19 : decode cX12_faultOf 19 = .ok (.aload_n 0, 1) := by decide +kernel
theorem dX12_faultOf_20 : decode cX12_faultOf 20 = .ok (.getfield 90, 3) := by decide +kernel
theorem dX12_faultOf_23 : decode cX12_faultOf 23 = .ok (.aload_n 0, 1) := by decide +kernel
theorem dX12_faultOf_24 : decode cX12_faultOf 24 = .ok (.getfield 93, 3) := by decide +kernel
theorem dX12_faultOf_27 : decode cX12_faultOf 27 = .ok (.if_icmp .ne 8, 3) := by decide +kernel
theorem dX12_faultOf_30 : decode cX12_faultOf 30 = .ok (.bipush (-4), 2) := by decide +kernel
theorem dX12_faultOf_32 : decode cX12_faultOf 32 = .ok (.goto 7, 3) := by decide +kernel
theorem dX12_faultOf_35 : decode cX12_faultOf 35 = .ok (.aload_n 0, 1) := by decide +kernel
theorem dX12_faultOf_36 : decode cX12_faultOf 36 = .ok (.getfield 90, 3) := by decide +kernel
theorem dX12_faultOf_39 : decode cX12_faultOf 39 = .ok (.ireturn, 1) := by decide +kernel
theorem dX12_fault_0 : decode cX12_fault 0 = .ok (.aload_n 0, 1) := by decide +kernel
theorem dX12_fault_1 : decode cX12_fault 1 = .ok (.iload_n 1, 1) := by decide +kernel
theorem dX12_fault_2 : decode cX12_fault 2 = .ok (.iconst 0, 1) := by decide +kernel
theorem dX12_fault_3 : decode cX12_fault 3 = .ok (.invokevirtual 130, 3) := by decide +kernel
theorem dX12_fault_6 : decode cX12_fault 6 = .ok (.istore_n 2, 1) := by decide +kernel
theorem dX12_fault_7 : decode cX12_fault 7 = .ok (.iload_n 2, 1) := by decide +kernel
theorem dX12_fault_8 : decode cX12_fault 8 = .ok (.ifCond .eq 7, 3) := by decide +kernel
theorem dX12_fault_11 : decode cX12_fault 11 = .ok (.iload_n 2, 1) := by decide +kernel
theorem dX12_fault_12 : decode cX12_fault 12 = .ok (.goto 8, 3) := by decide +kernel
theorem dX12_fault_15 : decode cX12_fault 15 = .ok (.aload_n 0, 1) := by decide +kernel
theorem dX12_fault_16 : decode cX12_fault 16 = .ok (.iload_n 1, 1) := by decide +kernel
theorem dX12_fault_17 : decode cX12_fault 17 = .ok (.invokevirtual 311, 3) := by decide +kernel
theorem dX12_fault_20 : decode cX12_fault 20 = .ok (.ireturn, 1) := by decide +kernel
theorem dX12_rule_0 : decode cX12_rule 0 = .ok (.iload_n 1, 1) := by decide +kernel
theorem dX12_rule_1 : decode cX12_rule 1 = .ok (.invokestatic 127, 3) := by decide +kernel
theorem dX12_rule_4 : decode cX12_rule 4 = .ok (.ifCond .ne 5, 3) := by decide +kernel
theorem dX12_rule_7 : decode cX12_rule 7 = .ok (.iconst (-1), 1) := by decide +kernel
theorem dX12_rule_8 : decode cX12_rule 8 = .ok (.ireturn, 1) := by decide +kernel
theorem dX12_rule_9 : decode cX12_rule 9 = .ok (.aload_n 0, 1) := by decide +kernel
theorem dX12_rule_10 : decode cX12_rule 10 = .ok (.getfield 13, 3) := by decide +kernel
theorem dX12_rule_13 : decode cX12_rule 13 = .ok (.sipush 1742, 3) := by decide +kernel
theorem dX12_rule_16 : decode cX12_rule 16 = .ok (.iaload, 1) := by decide +kernel
theorem dX12_rule_17 : decode cX12_rule 17 = .ok (.bipush 12, 2) := by decide +kernel
theorem dX12_rule_19 : decode cX12_rule 19 = .ok (.if_icmp .ne 6, 3) := by decide +kernel
theorem dX12_rule_22 : decode cX12_rule 22 = .ok (.bipush (-2), 2) := by decide +kernel
theorem dX12_rule_24 : decode cX12_rule 24 = .ok (.ireturn, 1) := by decide +kernel
theorem dX12_rule_25 : decode cX12_rule 25 = .ok (.aload_n 0, 1) := by decide +kernel
theorem dX12_rule_26 : decode cX12_rule 26 = .ok (.iload_n 1, 1) := by decide +kernel
theorem dX12_rule_27 : decode cX12_rule 27 = .ok (.iconst 0, 1) := by decide +kernel
theorem dX12_rule_28 : decode cX12_rule 28 = .ok (.invokevirtual 130, 3) := by decide +kernel
theorem dX12_rule_31 : decode cX12_rule 31 = .ok (.istore_n 2, 1) := by decide +kernel
theorem dX12_rule_32 : decode cX12_rule 32 = .ok (.iload_n 2, 1) := by decide +kernel
theorem dX12_rule_33 : decode cX12_rule 33 = .ok (.ifCond .eq 5, 3) := by decide +kernel
theorem dX12_rule_36 : decode cX12_rule 36 = .ok (.iload_n 2, 1) := by decide +kernel
theorem dX12_rule_37 : decode cX12_rule 37 = .ok (.ireturn, 1) := by decide +kernel
theorem dX12_rule_38 : decode cX12_rule 38 = .ok (.aload_n 0, 1) := by decide +kernel
theorem dX12_rule_39 : decode cX12_rule 39 = .ok (.iload_n 1, 1) := by decide +kernel
theorem dX12_rule_40 : decode cX12_rule 40 = .ok (.invokevirtual 311, 3) := by decide +kernel
theorem dX12_rule_43 : decode cX12_rule 43 = .ok (.istore_n 3, 1) := by decide +kernel
theorem dX12_rule_44 : decode cX12_rule 44 = .ok (.iload_n 3, 1) := by decide +kernel
theorem dX12_rule_45 : decode cX12_rule 45 = .ok (.bipush (-4), 2) := by decide +kernel
theorem dX12_rule_47 : decode cX12_rule 47 = .ok (.if_icmp .eq 8, 3) := by decide +kernel
theorem dX12_rule_50 : decode cX12_rule 50 = .ok (.bipush (-100), 2) := by decide +kernel
theorem dX12_rule_52 : decode cX12_rule 52 = .ok (.iload_n 3, 1) := by decide +kernel
theorem dX12_rule_53 : decode cX12_rule 53 = .ok (.isub, 1) := by decide +kernel
theorem dX12_rule_54 : decode cX12_rule 54 = .ok (.ireturn, 1) := by decide +kernel
theorem dX12_rule_55 : decode cX12_rule 55 = .ok (.aload_n 0, 1) := by decide +kernel
theorem dX12_rule_56 : decode cX12_rule 56 = .ok (.getfield 13, 3) := by decide +kernel
theorem dX12_rule_59 : decode cX12_rule 59 = .ok (.sipush 1742, 3) := by decide +kernel
theorem dX12_rule_62 : decode cX12_rule 62 = .ok (.iaload, 1) := by decide +kernel
theorem dX12_rule_63 : decode cX12_rule 63 = .ok (.istore 4, 2) := by decide +kernel
theorem dX12_rule_65 : decode cX12_rule 65 = .ok (.aload_n 0, 1) := by decide +kernel
theorem dX12_rule_66 : decode cX12_rule 66 = .ok (.getfield 13, 3) := by decide +kernel
theorem dX12_rule_69 : decode cX12_rule 69 = .ok (.sipush 1742, 3) := by decide +kernel
theorem dX12_rule_72 : decode cX12_rule 72 = .ok (.dup2, 1) := by decide +kernel
theorem dX12_rule_73 : decode cX12_rule 73 = .ok (.iaload, 1) := by decide +kernel
theorem dX12_rule_74 : decode cX12_rule 74 = .ok (.iconst 1, 1) := by decide +kernel
theorem dX12_rule_75 : decode cX12_rule 75 = .ok (.iadd, 1) := by decide +kernel
theorem dX12_rule_76 : decode cX12_rule 76 = .ok (.iastore, 1) := by decide +kernel
theorem dX12_rule_77 : decode cX12_rule 77 = .ok (.aload_n 0, 1) := by decide +kernel
theorem dX12_rule_78 : decode cX12_rule 78 = .ok (.getfield 13, 3) := by decide +kernel
theorem dX12_rule_81 : decode cX12_rule 81 = .ok (.sipush 276, 3) := by decide +kernel
theorem dX12_rule_84 : decode cX12_rule 84 = .ok (.bipush 121, 2) := by decide +kernel
theorem dX12_rule_86 : decode cX12_rule 86 = .ok (.iload 4, 2) := by decide +kernel
theorem dX12_rule_88 : decode cX12_rule 88 = .ok (.imul, 1) := by decide +kernel
theorem dX12_rule_89 : decode cX12_rule 89 = .ok (.iadd, 1) := by decide +kernel
theorem dX12_rule_90 : decode cX12_rule 90 = .ok (.aload_n 0, 1) := by decide +kernel
theorem dX12_rule_91 : decode cX12_rule 91 = .ok (.getfield 28, 3) := by decide +kernel
theorem dX12_rule_94 : decode cX12_rule 94 = .ok (.iload_n 1, 1) := by decide +kernel
theorem dX12_rule_95 : decode cX12_rule 95 = .ok (.iaload, 1) := by decide +kernel
theorem dX12_rule_96 : decode cX12_rule 96 = .ok (.iastore, 1) := by decide +kernel
theorem dX12_rule_97 : decode cX12_rule 97 = .ok (.iconst 0, 1) := by decide +kernel
theorem dX12_rule_98 : decode cX12_rule 98 = .ok (.istore 5, 2) := by decide +kernel
theorem dX12_rule_100 : decode cX12_rule 100 = .ok (.iload 5, 2) := by decide +kernel
theorem dX12_rule_102 : decode cX12_rule 102 = .ok (.aload_n 0, 1) := by decide +kernel
theorem dX12_rule_103 : decode cX12_rule 103 = .ok (.getfield 28, 3) := by decide +kernel
theorem dX12_rule_106 : decode cX12_rule 106 = .ok (.iload_n 1, 1) := by decide +kernel
theorem dX12_rule_107 : decode cX12_rule 107 = .ok (.iaload, 1) := by decide +kernel
theorem dX12_rule_108 : decode cX12_rule 108 = .ok (.if_icmp .ge 40, 3) := by decide +kernel
theorem dX12_rule_111 : decode cX12_rule 111 = .ok (.aload_n 0, 1) := by decide +kernel
theorem dX12_rule_112 : decode cX12_rule 112 = .ok (.getfield 13, 3) := by decide +kernel
theorem dX12_rule_115 : decode cX12_rule 115 = .ok (.sipush 276, 3) := by decide +kernel
theorem dX12_rule_118 : decode cX12_rule 118 = .ok (.bipush 121, 2) := by decide +kernel
theorem dX12_rule_120 : decode cX12_rule 120 = .ok (.iload 4, 2) := by decide +kernel
theorem dX12_rule_122 : decode cX12_rule 122 = .ok (.imul, 1) := by decide +kernel
theorem dX12_rule_123 : decode cX12_rule 123 = .ok (.iadd, 1) := by decide +kernel
theorem dX12_rule_124 : decode cX12_rule 124 = .ok (.iconst 1, 1) := by decide +kernel
theorem dX12_rule_125 : decode cX12_rule 125 = .ok (.iadd, 1) := by decide +kernel
theorem dX12_rule_126 : decode cX12_rule 126 = .ok (.iload 5, 2) := by decide +kernel
theorem dX12_rule_128 : decode cX12_rule 128 = .ok (.iadd, 1) := by decide +kernel
theorem dX12_rule_129 : decode cX12_rule 129 = .ok (.aload_n 0, 1) := by decide +kernel
theorem dX12_rule_130 : decode cX12_rule 130 = .ok (.getfield 31, 3) := by decide +kernel
theorem dX12_rule_133 : decode cX12_rule 133 = .ok (.bipush 120, 2) := by decide +kernel
theorem dX12_rule_135 : decode cX12_rule 135 = .ok (.iload_n 1, 1) := by decide +kernel
theorem dX12_rule_136 : decode cX12_rule 136 = .ok (.imul, 1) := by decide +kernel
theorem dX12_rule_137 : decode cX12_rule 137 = .ok (.iload 5, 2) := by decide +kernel
theorem dX12_rule_139 : decode cX12_rule 139 = .ok (.iadd, 1) := by decide +kernel
theorem dX12_rule_140 : decode cX12_rule 140 = .ok (.iaload, 1) := by decide +kernel
theorem dX12_rule_141 : decode cX12_rule 141 = .ok (.iastore, 1) := by decide +kernel
theorem dX12_rule_142 : decode cX12_rule 142 = .ok (.iinc 5 1, 3) := by decide +kernel
theorem dX12_rule_145 : decode cX12_rule 145 = .ok (.goto (-45), 3) := by decide +kernel
theorem dX12_rule_148 : decode cX12_rule 148 = .ok (.iload 4, 2) := by decide +kernel
theorem dX12_rule_150 : decode cX12_rule 150 = .ok (.ireturn, 1) := by decide +kernel
theorem dX12_or_0 : decode cX12_or 0 = .ok (.aload_n 0, 1) := by decide +kernel
theorem dX12_or_1 : decode cX12_or 1 = .ok (.invokevirtual 314, 3) := by decide +kernel
theorem dX12_or_4 : decode cX12_or 4 = .ok (.istore_n 1, 1) := by decide +kernel
theorem dX12_or_5 : decode cX12_or 5 = .ok (.aload_n 0, 1) := by decide +kernel
theorem dX12_or_6 : decode cX12_or 6 = .ok (.bipush 124, 2) := by decide +kernel
theorem dX12_or_8 : decode cX12_or 8 = .ok (.invokevirtual 110, 3) := by decide +kernel
theorem dX12_or_11 : decode cX12_or 11 = .ok (.ifCond .eq 25, 3) := by decide +kernel
theorem dX12_or_14 : decode cX12_or 14 = .ok (.aload_n 0, 1) := by decide +kernel
theorem dX12_or_15 : decode cX12_or 15 = .ok (.invokevirtual 314, 3) := by decide +kernel
theorem dX12_or_18 : decode cX12_or 18 = .ok (.istore_n 2, 1) := by decide +kernel
theorem dX12_or_19 : decode cX12_or 19 = .ok (.iload_n 1, 1) := by decide +kernel
theorem dX12_or_20 : decode cX12_or 20 = .ok (.ifCond .ne 7, 3) := by decide +kernel
theorem dX12_or_23 : decode cX12_or 23 = .ok (.iload_n 2, 1) := by decide +kernel
theorem dX12_or_24 : decode cX12_or 24 = .ok (.ifCond .eq 7, 3) := by decide +kernel
theorem dX12_or_27 : decode cX12_or 27 = .ok (.iconst 1, 1) := by decide +kernel
theorem dX12_or_28 : decode cX12_or 28 = .ok (.goto 4, 3) := by decide +kernel
theorem dX12_or_31 : decode cX12_or 31 = .ok (.iconst 0, 1) := by decide +kernel
theorem dX12_or_32 : decode cX12_or 32 = .ok (.istore_n 1, 1) := by decide +kernel
theorem dX12_or_33 : decode cX12_or 33 = .ok (.goto (-28), 3) := by decide +kernel
theorem dX12_or_36 : decode cX12_or 36 = .ok (.iload_n 1, 1) := by decide +kernel
theorem dX12_or_37 : decode cX12_or 37 = .ok (.ireturn, 1) := by decide +kernel
theorem dX12_and_0 : decode cX12_and 0 = .ok (.aload_n 0, 1) := by decide +kernel
theorem dX12_and_1 : decode cX12_and 1 = .ok (.invokevirtual 317, 3) := by decide +kernel
theorem dX12_and_4 : decode cX12_and 4 = .ok (.istore_n 1, 1) := by decide +kernel
theorem dX12_and_5 : decode cX12_and 5 = .ok (.aload_n 0, 1) := by decide +kernel
theorem dX12_and_6 : decode cX12_and 6 = .ok (.bipush 38, 2) := by decide +kernel
theorem dX12_and_8 : decode cX12_and 8 = .ok (.invokevirtual 110, 3) := by decide +kernel
theorem dX12_and_11 : decode cX12_and 11 = .ok (.ifCond .eq 25, 3) := by decide +kernel
theorem dX12_and_14 : decode cX12_and 14 = .ok (.aload_n 0, 1) := by decide +kernel
theorem dX12_and_15 : decode cX12_and 15 = .ok (.invokevirtual 317, 3) := by decide +kernel
theorem dX12_and_18 : decode cX12_and 18 = .ok (.istore_n 2, 1) := by decide +kernel
theorem dX12_and_19 : decode cX12_and 19 = .ok (.iload_n 1, 1) := by decide +kernel
theorem dX12_and_20 : decode cX12_and 20 = .ok (.ifCond .eq 11, 3) := by decide +kernel
theorem dX12_and_23 : decode cX12_and 23 = .ok (.iload_n 2, 1) := by decide +kernel
theorem dX12_and_24 : decode cX12_and 24 = .ok (.ifCond .eq 7, 3) := by decide +kernel
theorem dX12_and_27 : decode cX12_and 27 = .ok (.iconst 1, 1) := by decide +kernel
theorem dX12_and_28 : decode cX12_and 28 = .ok (.goto 4, 3) := by decide +kernel
theorem dX12_and_31 : decode cX12_and 31 = .ok (.iconst 0, 1) := by decide +kernel
theorem dX12_and_32 : decode cX12_and 32 = .ok (.istore_n 1, 1) := by decide +kernel
theorem dX12_and_33 : decode cX12_and 33 = .ok (.goto (-28), 3) := by decide +kernel
theorem dX12_and_36 : decode cX12_and 36 = .ok (.iload_n 1, 1) := by decide +kernel
theorem dX12_and_37 : decode cX12_and 37 = .ok (.ireturn, 1) := by decide +kernel
theorem dX12_test_0 : decode cX12_test 0 = .ok (.aload_n 0, 1) := by decide +kernel
theorem dX12_test_1 : decode cX12_test 1 = .ok (.bipush 33, 2) := by decide +kernel
theorem dX12_test_3 : decode cX12_test 3 = .ok (.invokevirtual 110, 3) := by decide +kernel
theorem dX12_test_6 : decode cX12_test 6 = .ok (.ifCond .eq 16, 3) := by decide +kernel
theorem dX12_test_9 : decode cX12_test 9 = .ok (.aload_n 0, 1) := by decide +kernel
theorem dX12_test_10 : decode cX12_test 10 = .ok (.invokevirtual 317, 3) := by decide +kernel
theorem dX12_test_13 : decode cX12_test 13 = .ok (.ifCond .ne 7, 3) := by decide +kernel
theorem dX12_test_16 : decode cX12_test 16 = .ok (.iconst 1, 1) := by decide +kernel
theorem dX12_test_17 : decode cX12_test 17 = .ok (.goto 4, 3) := by decide +kernel
theorem dX12_test_20 : decode cX12_test 20 = .ok (.iconst 0, 1) := by decide +kernel
theorem dX12_test_21 : decode cX12_test 21 = .ok (.ireturn, 1) := by decide +kernel
theorem dX12_test_22 : decode cX12_test 22 = .ok (.aload_n 0, 1) := by decide +kernel
theorem dX12_test_23 : decode cX12_test 23 = .ok (.bipush 40, 2) := by decide +kernel
theorem dX12_test_25 : decode cX12_test 25 = .ok (.invokevirtual 110, 3) := by decide +kernel
theorem dX12_test_28 : decode cX12_test 28 = .ok (.ifCond .eq 20, 3) := by decide +kernel
theorem dX12_test_31 : decode cX12_test 31 = .ok (.aload_n 0, 1) := by decide +kernel
theorem dX12_test_32 : decode cX12_test 32 = .ok (.invokevirtual 320, 3) := by decide +kernel
theorem dX12_test_35 : decode cX12_test 35 = .ok (.istore_n 1, 1) := by decide +kernel
theorem dX12_test_36 : decode cX12_test 36 = .ok (.aload_n 0, 1) := by decide +kernel
theorem dX12_test_37 : decode cX12_test 37 = .ok (.dup, 1) := by decide +kernel
theorem dX12_test_38 : decode cX12_test 38 = .ok (.getfield 90, 3) := by decide +kernel
theorem dX12_test_41 : decode cX12_test 41 = .ok (.iconst 1, 1) := by decide +kernel
theorem dX12_test_42 : decode cX12_test 42 = .ok (.iadd, 1) := by decide +kernel
theorem dX12_test_43 : decode cX12_test 43 = .ok (.putfield 90, 3) := by decide +kernel
theorem dX12_test_46 : decode cX12_test 46 = .ok (.iload_n 1, 1) := by decide +kernel
theorem dX12_test_47 : decode cX12_test 47 = .ok (.ireturn, 1) := by decide +kernel
theorem dX12_test_48 : decode cX12_test 48 = .ok (.aload_n 0, 1) := by decide +kernel
theorem dX12_test_49 : decode cX12_test 49 = .ok (.invokevirtual 323, 3) := by decide +kernel
theorem dX12_test_52 : decode cX12_test 52 = .ok (.istore_n 1, 1) := by decide +kernel
theorem dX12_test_53 : decode cX12_test 53 = .ok (.aload_n 0, 1) := by decide +kernel
theorem dX12_test_54 : decode cX12_test 54 = .ok (.invokevirtual 99, 3) := by decide +kernel
theorem dX12_test_57 : decode cX12_test 57 = .ok (.istore_n 2, 1) := by decide +kernel
theorem dX12_test_58 : decode cX12_test 58 = .ok (.aload_n 0, 1) := by decide +kernel
theorem dX12_test_59 : decode cX12_test 59 = .ok (.dup, 1) := by decide +kernel
theorem dX12_test_60 : decode cX12_test 60 = .ok (.getfield 90, 3) := by decide +kernel
theorem dX12_test_63 : decode cX12_test 63 = .ok (.iconst 1, 1) := by decide +kernel
theorem dX12_test_64 : decode cX12_test 64 = .ok (.iadd, 1) := by decide +kernel
theorem dX12_test_65 : decode cX12_test 65 = .ok (.putfield 90, 3) := by decide +kernel
theorem dX12_test_68 : decode cX12_test 68 = .ok (.aload_n 0, 1) := by decide +kernel
theorem dX12_test_69 : decode cX12_test 69 = .ok (.invokevirtual 323, 3) := by decide +kernel
theorem dX12_test_72 : decode cX12_test 72 = .ok (.istore_n 3, 1) := by decide +kernel
theorem dX12_test_73 : decode cX12_test 73 = .ok (.iload_n 2, 1) := by decide +kernel
theorem dX12_test_74 : decode cX12_test 74 = .ok (.bipush 60, 2) := by decide +kernel
theorem dX12_test_76 : decode cX12_test 76 = .ok (.if_icmp .ne 16, 3) := by decide +kernel
theorem dX12_test_79 : decode cX12_test 79 = .ok (.iload_n 1, 1) := by decide +kernel
theorem dX12_test_80 : decode cX12_test 80 = .ok (.iload_n 3, 1) := by decide +kernel
theorem dX12_test_81 : decode cX12_test 81 = .ok (.if_icmp .ge 7, 3) := by decide +kernel
theorem dX12_test_84 : decode cX12_test 84 = .ok (.iconst 1, 1) := by decide +kernel
theorem dX12_test_85 : decode cX12_test 85 = .ok (.goto 36, 3) := by decide +kernel
theorem dX12_test_88 : decode cX12_test 88 = .ok (.iconst 0, 1) := by decide +kernel
theorem dX12_test_89 : decode cX12_test 89 = .ok (.goto 32, 3) := by decide +kernel
theorem dX12_test_92 : decode cX12_test 92 = .ok (.iload_n 2, 1) := by decide +kernel
theorem dX12_test_93 : decode cX12_test 93 = .ok (.bipush 62, 2) := by decide +kernel
theorem dX12_test_95 : decode cX12_test 95 = .ok (.if_icmp .ne 16, 3) := by decide +kernel
theorem dX12_test_98 : decode cX12_test 98 = .ok (.iload_n 1, 1) := by decide +kernel
theorem dX12_test_99 : decode cX12_test 99 = .ok (.iload_n 3, 1) := by decide +kernel
theorem dX12_test_100 : decode cX12_test 100 = .ok (.if_icmp .le 7, 3) := by decide +kernel
theorem dX12_test_103 : decode cX12_test 103 = .ok (.iconst 1, 1) := by decide +kernel
theorem dX12_test_104 : decode cX12_test 104 = .ok (.goto 17, 3) := by decide +kernel
theorem dX12_test_107 : decode cX12_test 107 = .ok (.iconst 0, 1) := by decide +kernel
theorem dX12_test_108 : decode cX12_test 108 = .ok (.goto 13, 3) := by decide +kernel
theorem dX12_test_111 : decode cX12_test 111 = .ok (.iload_n 1, 1) := by decide +kernel
theorem dX12_test_112 : decode cX12_test 112 = .ok (.iload_n 3, 1) := by decide +kernel
theorem dX12_test_113 : decode cX12_test 113 = .ok (.if_icmp .ne 7, 3) := by decide +kernel
theorem dX12_test_116 : decode cX12_test 116 = .ok (.iconst 1, 1) := by decide +kernel
theorem dX12_test_117 : decode cX12_test 117 = .ok (.goto 4, 3) := by decide +kernel
theorem dX12_test_120 : decode cX12_test 120 = .ok (.iconst 0, 1) := by decide +kernel
theorem dX12_test_121 : decode cX12_test 121 = .ok (.ireturn, 1) := by decide +kernel
theorem dX12_sum_0 : decode cX12_sum 0 = .ok (.aload_n 0, 1) := by decide +kernel
theorem dX12_sum_1 : decode cX12_sum 1 = .ok (.invokevirtual 326, 3) := by decide +kernel
theorem dX12_sum_4 : decode cX12_sum 4 = .ok (.istore_n 1, 1) := by decide +kernel
theorem dX12_sum_5 : decode cX12_sum 5 = .ok (.aload_n 0, 1) := by decide +kernel
theorem dX12_sum_6 : decode cX12_sum 6 = .ok (.invokevirtual 99, 3) := by decide +kernel
theorem dX12_sum_9 : decode cX12_sum 9 = .ok (.bipush 43, 2) := by decide +kernel
theorem dX12_sum_11 : decode cX12_sum 11 = .ok (.if_icmp .eq 12, 3) := by decide +kernel
theorem dX12_sum_14 : decode cX12_sum 14 = .ok (.aload_n 0, 1) := by decide +kernel
theorem dX12_sum_15 : decode cX12_sum 15 = .ok (.invokevirtual 99, 3) := by decide +kernel
theorem dX12_sum_18 : decode cX12_sum 18 = .ok (.bipush 45, 2) := by decide +kernel
theorem dX12_sum_20 : decode cX12_sum 20 = .ok (.if_icmp .ne 41, 3) := by decide +kernel
theorem dX12_sum_23 : decode cX12_sum 23 = .ok (.aload_n 0, 1) := by decide +kernel
theorem dX12_sum_24 : decode cX12_sum 24 = .ok (.invokevirtual 99, 3) := by decide +kernel
theorem dX12_sum_27 : decode cX12_sum 27 = .ok (.istore_n 2, 1) := by decide +kernel
theorem dX12_sum_28 : decode cX12_sum 28 = .ok (.aload_n 0, 1) := by decide +kernel
theorem dX12_sum_29 : decode cX12_sum 29 = .ok (.dup, 1) := by decide +kernel
theorem dX12_sum_30 : decode cX12_sum 30 = .ok (.getfield 90, 3) := by decide +kernel
theorem dX12_sum_33 : decode cX12_sum 33 = .ok (.iconst 1, 1) := by decide +kernel
theorem dX12_sum_34 : decode cX12_sum 34 = .ok (.iadd, 1) := by decide +kernel
theorem dX12_sum_35 : decode cX12_sum 35 = .ok (.putfield 90, 3) := by decide +kernel
theorem dX12_sum_38 : decode cX12_sum 38 = .ok (.aload_n 0, 1) := by decide +kernel
theorem dX12_sum_39 : decode cX12_sum 39 = .ok (.invokevirtual 326, 3) := by decide +kernel
theorem dX12_sum_42 : decode cX12_sum 42 = .ok (.istore_n 3, 1) := by decide +kernel
theorem dX12_sum_43 : decode cX12_sum 43 = .ok (.iload_n 1, 1) := by decide +kernel
theorem dX12_sum_44 : decode cX12_sum 44 = .ok (.iload_n 2, 1) := by decide +kernel
theorem dX12_sum_45 : decode cX12_sum 45 = .ok (.bipush 43, 2) := by decide +kernel
theorem dX12_sum_47 : decode cX12_sum 47 = .ok (.if_icmp .ne 7, 3) := by decide +kernel
theorem dX12_sum_50 : decode cX12_sum 50 = .ok (.iload_n 3, 1) := by decide +kernel
theorem dX12_sum_51 : decode cX12_sum 51 = .ok (.goto 5, 3) := by decide +kernel
theorem dX12_sum_54 : decode cX12_sum 54 = .ok (.iload_n 3, 1) := by decide +kernel
theorem dX12_sum_55 : decode cX12_sum 55 = .ok (.ineg, 1) := by decide +kernel
theorem dX12_sum_56 : decode cX12_sum 56 = .ok (.iadd, 1) := by decide +kernel
theorem dX12_sum_57 : decode cX12_sum 57 = .ok (.istore_n 1, 1) := by decide +kernel
theorem dX12_sum_58 : decode cX12_sum 58 = .ok (.goto (-53), 3) := by decide +kernel
theorem dX12_sum_61 : decode cX12_sum 61 = .ok (.iload_n 1, 1) := by decide +kernel
theorem dX12_sum_62 : decode cX12_sum 62 = .ok (.ireturn, 1) := by decide +kernel
theorem dX12_atom_0 : decode cX12_atom 0 = .ok (.aload_n 0, 1) := by decide +kernel
theorem dX12_atom_1 : decode cX12_atom 1 = .ok (.invokevirtual 99, 3) := by decide +kernel
theorem dX12_atom_4 : decode cX12_atom 4 = .ok (.istore_n 1, 1) := by decide +kernel
theorem dX12_atom_5 : decode cX12_atom 5 = .ok (.iload_n 1, 1) := by decide +kernel
theorem dX12_atom_6 : decode cX12_atom 6 = .ok (.invokestatic 308, 3) := by decide +kernel
theorem dX12_atom_9 : decode cX12_atom 9 = .ok (.ifCond .ne 19, 3) := by decide +kernel
theorem dX12_atom_12 : decode cX12_atom 12 = .ok (.aload_n 0, 1) := by decide +kernel
theorem dX12_atom_13 : decode cX12_atom 13 = .ok (.dup, 1) := by decide +kernel
theorem dX12_atom_14 : decode cX12_atom 14 = .ok (.getfield 90, 3) := by decide +kernel
theorem dX12_atom_17 : decode cX12_atom 17 = .ok (.iconst 1, 1) := by decide +kernel
theorem dX12_atom_18 : decode cX12_atom 18 = .ok (.iadd, 1) := by decide +kernel
theorem dX12_atom_19 : decode cX12_atom 19 = .ok (.putfield 90, 3) := by decide +kernel
theorem dX12_atom_22 : decode cX12_atom 22 = .ok (.aload_n 0, 1) := by decide +kernel
theorem dX12_atom_23 : decode cX12_atom 23 = .ok (.iload_n 1, 1) := by decide +kernel
theorem dX12_atom_24 : decode cX12_atom 24 = .ok (.invokevirtual 329, 3) := by decide +kernel
theorem dX12_atom_27 : decode cX12_atom 27 = .ok (.ireturn, 1) := by decide +kernel
theorem dX12_atom_28 : decode cX12_atom 28 = .ok (.iconst 0, 1) := by decide +kernel
theorem dX12_atom_29 : decode cX12_atom 29 = .ok (.istore_n 2, 1) := by decide +kernel
theorem dX12_atom_30 : decode cX12_atom 30 = .ok (.aload_n 0, 1) := by decide +kernel
theorem dX12_atom_31 : decode cX12_atom 31 = .ok (.invokevirtual 99, 3) := by decide +kernel
theorem dX12_atom_34 : decode cX12_atom 34 = .ok (.invokestatic 308, 3) := by decide +kernel
theorem dX12_atom_37 : decode cX12_atom 37 = .ok (.ifCond .eq 29, 3) := by decide +kernel
theorem dX12_atom_40 : decode cX12_atom 40 = .ok (.bipush 10, 2) := by decide +kernel
theorem dX12_atom_42 : decode cX12_atom 42 = .ok (.iload_n 2, 1) := by decide +kernel
theorem dX12_atom_43 : decode cX12_atom 43 = .ok (.imul, 1) := by decide +kernel
theorem dX12_atom_44 : decode cX12_atom 44 = .ok (.aload_n 0, 1) := by decide +kernel
theorem dX12_atom_45 : decode cX12_atom 45 = .ok (.invokevirtual 99, 3) := by decide +kernel
theorem dX12_atom_48 : decode cX12_atom 48 = .ok (.iadd, 1) := by decide +kernel
theorem dX12_atom_49 : decode cX12_atom 49 = .ok (.bipush 48, 2) := by decide +kernel
theorem dX12_atom_51 : decode cX12_atom 51 = .ok (.isub, 1) := by decide +kernel
theorem dX12_atom_52 : decode cX12_atom 52 = .ok (.istore_n 2, 1) := by decide +kernel
theorem dX12_atom_53 : decode cX12_atom 53 = .ok (.aload_n 0, 1) := by decide +kernel
theorem dX12_atom_54 : decode cX12_atom 54 = .ok (.dup, 1) := by decide +kernel
theorem dX12_atom_55 : decode cX12_atom 55 = .ok (.getfield 90, 3) := by decide +kernel
theorem dX12_atom_58 : decode cX12_atom 58 = .ok (.iconst 1, 1) := by decide +kernel
theorem dX12_atom_59 : decode cX12_atom 59 = .ok (.iadd, 1) := by decide +kernel
theorem dX12_atom_60 : decode cX12_atom 60 = .ok (.putfield 90, 3) := by decide +kernel
theorem dX12_atom_63 : decode cX12_atom 63 = .ok (.goto (-33), 3) := by decide +kernel
theorem dX12_atom_66 : decode cX12_atom 66 = .ok (.iload_n 2, 1) := by decide +kernel
theorem dX12_atom_67 : decode cX12_atom 67 = .ok (.ireturn, 1) := by decide +kernel
theorem dX12_fieldOf_0 : decode cX12_fieldOf 0 = .ok (.iload_n 1, 1) := by decide +kernel
theorem dX12_fieldOf_1 : decode cX12_fieldOf 1 = .ok (.tableswitch 171 101 119 #[91, 171, 100, 171, 171, 171, 171, 118, 171, 171, 171, 171, 171, 152, 171, 157, 171, 171, 109], 91) := by decide +kernel
theorem dX12_fieldOf_92 : decode cX12_fieldOf 92 = .ok (.aload_n 0, 1) := by decide +kernel
theorem dX12_fieldOf_93 : decode cX12_fieldOf 93 = .ok (.aload_n 0, 1) := by decide +kernel
theorem dX12_fieldOf_94 : decode cX12_fieldOf 94 = .ok (.getfield 332, 3) := by decide +kernel
theorem dX12_fieldOf_97 : decode cX12_fieldOf 97 = .ok (.invokevirtual 243, 3) := by decide +kernel
theorem dX12_fieldOf_100 : decode cX12_fieldOf 100 = .ok (.ireturn, 1) := by decide +kernel
theorem dX12_fieldOf_101 : decode cX12_fieldOf 101 = .ok (.aload_n 0, 1) := by decide +kernel
theorem dX12_fieldOf_102 : decode cX12_fieldOf 102 = .ok (.aload_n 0, 1) := by decide +kernel
theorem dX12_fieldOf_103 : decode cX12_fieldOf 103 = .ok (.getfield 332, 3) := by decide +kernel
theorem dX12_fieldOf_106 : decode cX12_fieldOf 106 = .ok (.invokevirtual 240, 3) := by decide +kernel
theorem dX12_fieldOf_109 : decode cX12_fieldOf 109 = .ok (.ireturn, 1) := by decide +kernel
theorem dX12_fieldOf_110 : decode cX12_fieldOf 110 = .ok (.aload_n 0, 1) := by decide +kernel
theorem dX12_fieldOf_111 : decode cX12_fieldOf 111 = .ok (.aload_n 0, 1) := by decide +kernel
theorem dX12_fieldOf_112 : decode cX12_fieldOf 112 = .ok (.getfield 332, 3) := by decide +kernel
theorem dX12_fieldOf_115 : decode cX12_fieldOf 115 = .ok (.invokevirtual 273, 3) := by decide +kernel
theorem dX12_fieldOf_118 : decode cX12_fieldOf 118 = .ok (.ireturn, 1) := by decide +kernel
theorem dX12_fieldOf_119 : decode cX12_fieldOf 119 = .ok (.aload_n 0, 1) := by decide +kernel
theorem dX12_fieldOf_120 : decode cX12_fieldOf 120 = .ok (.aload_n 0, 1) := by decide +kernel
theorem dX12_fieldOf_121 : decode cX12_fieldOf 121 = .ok (.getfield 332, 3) := by decide +kernel
theorem dX12_fieldOf_124 : decode cX12_fieldOf 124 = .ok (.aload_n 0, 1) := by decide +kernel
theorem dX12_fieldOf_125 : decode cX12_fieldOf 125 = .ok (.aload_n 0, 1) := by decide +kernel
theorem dX12_fieldOf_126 : decode cX12_fieldOf 126 = .ok (.getfield 332, 3) := by decide +kernel
theorem dX12_fieldOf_129 : decode cX12_fieldOf 129 = .ok (.invokevirtual 273, 3) := by decide +kernel
theorem dX12_fieldOf_132 : decode cX12_fieldOf 132 = .ok (.invokevirtual 269, 3) := by decide +kernel
theorem dX12_fieldOf_135 : decode cX12_fieldOf 135 = .ok (.lstore_n 2, 1) := by decide +kernel
theorem dX12_fieldOf_136 : decode cX12_fieldOf 136 = .ok (.lload_n 2, 1) := by decide +kernel
theorem dX12_fieldOf_137 : decode cX12_fieldOf 137 = .ok (.ldc2_w 279, 3) := by decide +kernel
theorem dX12_fieldOf_140 : decode cX12_fieldOf 140 = .ok (.lcmp, 1) := by decide +kernel
theorem dX12_fieldOf_141 : decode cX12_fieldOf 141 = .ok (.ifCond .le 9, 3) := by decide +kernel
theorem dX12_fieldOf_144 : decode cX12_fieldOf 144 = .ok (.sipush 9999, 3) := by decide +kernel
theorem dX12_fieldOf_147 : decode cX12_fieldOf 147 = .ok (.goto 5, 3) := by decide +kernel
theorem dX12_fieldOf_150 : decode cX12_fieldOf 150 = .ok (.lload_n 2, 1) := by decide +kernel
theorem dX12_fieldOf_151 : decode cX12_fieldOf 151 = .ok (.l2i, 1) := by decide +kernel
theorem dX12_fieldOf_152 : decode cX12_fieldOf 152 = .ok (.ireturn, 1) := by decide +kernel
theorem dX12_fieldOf_153 : decode cX12_fieldOf 153 = .ok (.aload_n 0, 1) := by decide +kernel
theorem dX12_fieldOf_154 : decode cX12_fieldOf 154 = .ok (.getfield 335, 3) := by decide +kernel
theorem dX12_fieldOf_157 : decode cX12_fieldOf 157 = .ok (.ireturn, 1) := by decide +kernel
theorem dX12_fieldOf_158 : decode cX12_fieldOf 158 = .ok (.aload_n 0, 1) := by decide +kernel
theorem dX12_fieldOf_159 : decode cX12_fieldOf 159 = .ok (.aload_n 0, 1) := by decide +kernel
theorem dX12_fieldOf_160 : decode cX12_fieldOf 160 = .ok (.aload_n 0, 1) := by decide +kernel
theorem dX12_fieldOf_161 : decode cX12_fieldOf 161 = .ok (.getfield 332, 3) := by decide +kernel
theorem dX12_fieldOf_164 : decode cX12_fieldOf 164 = .ok (.iconst 0, 1) := by decide +kernel
theorem dX12_fieldOf_165 : decode cX12_fieldOf 165 = .ok (.invokevirtual 118, 3) := by decide +kernel
theorem dX12_fieldOf_168 : decode cX12_fieldOf 168 = .ok (.invokevirtual 155, 3) := by decide +kernel
theorem dX12_fieldOf_171 : decode cX12_fieldOf 171 = .ok (.ireturn, 1) := by decide +kernel
theorem dX12_fieldOf_172 : decode cX12_fieldOf 172 = .ok (.aload_n 0, 1) := by decide +kernel
theorem dX12_fieldOf_173 : decode cX12_fieldOf 173 = .ok (.aload_n 0, 1) := by decide +kernel
theorem dX12_fieldOf_174 : decode cX12_fieldOf 174 = .ok (.aload_n 0, 1) := by decide +kernel
theorem dX12_fieldOf_175 : decode cX12_fieldOf 175 = .ok (.getfield 332, 3) := by decide +kernel
theorem dX12_fieldOf_178 : decode cX12_fieldOf 178 = .ok (.iconst 1, 1) := by decide +kernel
theorem dX12_fieldOf_179 : decode cX12_fieldOf 179 = .ok (.invokevirtual 118, 3) := by decide +kernel
theorem dX12_fieldOf_182 : decode cX12_fieldOf 182 = .ok (.invokevirtual 155, 3) := by decide +kernel
theorem dX12_fieldOf_185 : decode cX12_fieldOf 185 = .ok (.ireturn, 1) := by decide +kernel
theorem dX12_holdsFor_0 : decode cX12_holdsFor 0 = .ok (.aload_n 0, 1) := by decide +kernel
theorem dX12_holdsFor_1 : decode cX12_holdsFor 1 = .ok (.iload_n 2, 1) := by decide +kernel
theorem dX12_holdsFor_2 : decode cX12_holdsFor 2 = .ok (.putfield 332, 3) := by decide +kernel
theorem dX12_holdsFor_5 : decode cX12_holdsFor 5 = .ok (.aload_n 0, 1) := by decide +kernel
theorem dX12_holdsFor_6 : decode cX12_holdsFor 6 = .ok (.iload_n 3, 1) := by decide +kernel
theorem dX12_holdsFor_7 : decode cX12_holdsFor 7 = .ok (.putfield 335, 3) := by decide +kernel
theorem dX12_holdsFor_10 : decode cX12_holdsFor 10 = .ok (.aload_n 0, 1) := by decide +kernel
theorem dX12_holdsFor_11 : decode cX12_holdsFor 11 = .ok (.aload_n 0, 1) := by decide +kernel
theorem dX12_holdsFor_12 : decode cX12_holdsFor 12 = .ok (.getfield 13, 3) := by decide +kernel
theorem dX12_holdsFor_15 : decode cX12_holdsFor 15 = .ok (.putfield 40, 3) := by decide +kernel
theorem dX12_holdsFor_18 : decode cX12_holdsFor 18 = .ok (.aload_n 0, 1) := by decide +kernel
theorem dX12_holdsFor_19 : decode cX12_holdsFor 19 = .ok (.sipush 276, 3) := by decide +kernel
theorem dX12_holdsFor_22 : decode cX12_holdsFor 22 = .ok (.bipush 121, 2) := by decide +kernel
theorem dX12_holdsFor_24 : decode cX12_holdsFor 24 = .ok (.iload_n 1, 1) := by decide +kernel
theorem dX12_holdsFor_25 : decode cX12_holdsFor 25 = .ok (.imul, 1) := by decide +kernel
theorem dX12_holdsFor_26 : decode cX12_holdsFor 26 = .ok (.iadd, 1) := by decide +kernel
theorem dX12_holdsFor_27 : decode cX12_holdsFor 27 = .ok (.iconst 1, 1) := by decide +kernel
theorem dX12_holdsFor_28 : decode cX12_holdsFor 28 = .ok (.iadd, 1) := by decide +kernel
theorem dX12_holdsFor_29 : decode cX12_holdsFor 29 = .ok (.putfield 96, 3) := by decide +kernel
theorem dX12_holdsFor_32 : decode cX12_holdsFor 32 = .ok (.aload_n 0, 1) := by decide +kernel
theorem dX12_holdsFor_33 : decode cX12_holdsFor 33 = .ok (.aload_n 0, 1) := by decide +kernel
theorem dX12_holdsFor_34 : decode cX12_holdsFor 34 = .ok (.getfield 13, 3) := by decide +kernel
theorem dX12_holdsFor_37 : decode cX12_holdsFor 37 = .ok (.sipush 276, 3) := by decide +kernel
theorem dX12_holdsFor_40 : decode cX12_holdsFor 40 = .ok (.bipush 121, 2) := by decide +kernel
theorem dX12_holdsFor_42 : decode cX12_holdsFor 42 = .ok (.iload_n 1, 1) := by decide +kernel
theorem dX12_holdsFor_43 : decode cX12_holdsFor 43 = .ok (.imul, 1) := by decide +kernel
theorem dX12_holdsFor_44 : decode cX12_holdsFor 44 = .ok (.iadd, 1) := by decide +kernel
theorem dX12_holdsFor_45 : decode cX12_holdsFor 45 = .ok (.iaload, 1) := by decide +kernel
theorem dX12_holdsFor_46 : decode cX12_holdsFor 46 = .ok (.putfield 93, 3) := by decide +kernel
theorem dX12_holdsFor_49 : decode cX12_holdsFor 49 = .ok (.aload_n 0, 1) := by decide +kernel
theorem dX12_holdsFor_50 : decode cX12_holdsFor 50 = .ok (.iconst 0, 1) := by decide +kernel
theorem dX12_holdsFor_51 : decode cX12_holdsFor 51 = .ok (.putfield 90, 3) := by decide +kernel
theorem dX12_holdsFor_54 : decode cX12_holdsFor 54 = .ok (.aload_n 0, 1) := by decide +kernel
theorem dX12_holdsFor_55 : decode cX12_holdsFor 55 = .ok (.invokevirtual 320, 3) := by decide +kernel
theorem dX12_holdsFor_58 : decode cX12_holdsFor 58 = .ok (.ireturn, 1) := by decide +kernel
theorem dX12_isRule_0 : decode cX12_isRule 0 = .ok (.iload_n 1, 1) := by decide +kernel
theorem dX12_isRule_1 : decode cX12_isRule 1 = .ok (.i2l, 1) := by decide +kernel
theorem dX12_isRule_2 : decode cX12_isRule 2 = .ok (.lconst 0, 1) := by decide +kernel
theorem dX12_isRule_3 : decode cX12_isRule 3 = .ok (.aload_n 0, 1) := by decide +kernel
theorem dX12_isRule_4 : decode cX12_isRule 4 = .ok (.getfield 13, 3) := by decide +kernel
theorem dX12_isRule_7 : decode cX12_isRule 7 = .ok (.sipush 1742, 3) := by decide +kernel
theorem dX12_isRule_10 : decode cX12_isRule 10 = .ok (.iaload, 1) := by decide +kernel
theorem dX12_isRule_11 : decode cX12_isRule 11 = .ok (.iconst 1, 1) := by decide +kernel
theorem dX12_isRule_12 : decode cX12_isRule 12 = .ok (.isub, 1) := by decide +kernel
theorem dX12_isRule_13 : decode cX12_isRule 13 = .ok (.i2l, 1) := by decide +kernel
theorem dX12_isRule_14 : decode cX12_isRule 14 = .ok (.invokestatic 73, 3) := by decide +kernel
theorem dX12_isRule_17 : decode cX12_isRule 17 = .ok (.ireturn, 1) := by decide +kernel
theorem dX12_holds_0 : decode cX12_holds 0 = .ok (.aload_n 0, 1) := by decide +kernel
theorem dX12_holds_1 : decode cX12_holds 1 = .ok (.iload_n 1, 1) := by decide +kernel
theorem dX12_holds_2 : decode cX12_holds 2 = .ok (.invokevirtual 338, 3) := by decide +kernel
theorem dX12_holds_5 : decode cX12_holds 5 = .ok (.ifCond .eq 29, 3) := by decide +kernel
theorem dX12_holds_8 : decode cX12_holds 8 = .ok (.aload_n 0, 1) := by decide +kernel
theorem dX12_holds_9 : decode cX12_holds 9 = .ok (.iload_n 2, 1) := by decide +kernel
theorem dX12_holds_10 : decode cX12_holds 10 = .ok (.invokevirtual 163, 3) := by decide +kernel
theorem dX12_holds_13 : decode cX12_holds 13 = .ok (.ifCond .eq 21, 3) := by decide +kernel
theorem dX12_holds_16 : decode cX12_holds 16 = .ok (.aload_n 0, 1) := by decide +kernel
theorem dX12_holds_17 : decode cX12_holds 17 = .ok (.iload_n 1, 1) := by decide +kernel
theorem dX12_holds_18 : decode cX12_holds 18 = .ok (.iload_n 2, 1) := by decide +kernel
theorem dX12_holds_19 : decode cX12_holds 19 = .ok (.iconst 0, 1) := by decide +kernel
theorem dX12_holds_20 : decode cX12_holds 20 = .ok (.invokevirtual 341, 3) := by decide +kernel
theorem dX12_holds_23 : decode cX12_holds 23 = .ok (.ifCond .eq 7, 3) := by decide +kernel
theorem dX12_holds_26 : decode cX12_holds 26 = .ok (.iconst 1, 1) := by decide +kernel
theorem dX12_holds_27 : decode cX12_holds 27 = .ok (.goto 8, 3) := by decide +kernel
theorem dX12_holds_30 : decode cX12_holds 30 = .ok (.iconst 0, 1) := by decide +kernel
theorem dX12_holds_31 : decode cX12_holds 31 = .ok (.goto 4, 3) := by decide +kernel
theorem dX12_holds_34 : decode cX12_holds 34 = .ok (.iconst (-1), 1) := by decide +kernel
theorem dX12_holds_35 : decode cX12_holds 35 = .ok (.ireturn, 1) := by decide +kernel
theorem dX12_watch_0 : decode cX12_watch 0 = .ok (.aload_n 0, 1) := by decide +kernel
theorem dX12_watch_1 : decode cX12_watch 1 = .ok (.iload_n 1, 1) := by decide +kernel
theorem dX12_watch_2 : decode cX12_watch 2 = .ok (.invokevirtual 338, 3) := by decide +kernel
theorem dX12_watch_5 : decode cX12_watch 5 = .ok (.ifCond .eq 23, 3) := by decide +kernel
theorem dX12_watch_8 : decode cX12_watch 8 = .ok (.aload_n 0, 1) := by decide +kernel
theorem dX12_watch_9 : decode cX12_watch 9 = .ok (.iload_n 2, 1) := by decide +kernel
theorem dX12_watch_10 : decode cX12_watch 10 = .ok (.invokevirtual 163, 3) := by decide +kernel
theorem dX12_watch_13 : decode cX12_watch 13 = .ok (.ifCond .eq 15, 3) := by decide +kernel
theorem dX12_watch_16 : decode cX12_watch 16 = .ok (.iload_n 3, 1) := by decide +kernel
theorem dX12_watch_17 : decode cX12_watch 17 = .ok (.i2l, 1) := by decide +kernel
theorem dX12_watch_18 : decode cX12_watch 18 = .ok (.lconst 1, 1) := by decide +kernel
theorem dX12_watch_19 : decode cX12_watch 19 = .ok (.ldc2_w 251, 3) := by decide +kernel
theorem dX12_watch_22 : decode cX12_watch 22 = .ok (.invokestatic 73, 3) := by decide +kernel
theorem dX12_watch_25 : decode cX12_watch 25 = .ok (.ifCond .ne 5, 3) := by decide +kernel
theorem dX12_watch_28 : decode cX12_watch 28 = .ok (.iconst (-1), 1) := by decide +kernel
theorem dX12_watch_29 : decode cX12_watch 29 = .ok (.ireturn, 1) := by decide +kernel
theorem dX12_watch_30 : decode cX12_watch 30 = .ok (.aload_n 0, 1) := by decide +kernel
theorem dX12_watch_31 : decode cX12_watch 31 = .ok (.invokevirtual 259, 3) := by decide +kernel
theorem dX12_watch_34 : decode cX12_watch 34 = .ok (.bipush (-4), 2) := by decide +kernel
theorem dX12_watch_36 : decode cX12_watch 36 = .ok (.istore 4, 2) := by decide +kernel
theorem dX12_watch_38 : decode cX12_watch 38 = .ok (.iconst 0, 1) := by decide +kernel
theorem dX12_watch_39 : decode cX12_watch 39 = .ok (.istore 5, 2) := by decide +kernel
theorem dX12_watch_41 : decode cX12_watch 41 = .ok (.iload 5, 2) := by decide +kernel
theorem dX12_watch_43 : decode cX12_watch 43 = .ok (.sipush 200, 3) := by decide +kernel
theorem dX12_watch_46 : decode cX12_watch 46 = .ok (.if_icmp .gt 45, 3) := by decide +kernel
theorem dX12_watch_49 : decode cX12_watch 49 = .ok (.iload 4, 2) := by decide +kernel
theorem dX12_watch_51 : decode cX12_watch 51 = .ok (.ifCond .ge 40, 3) := by decide +kernel
theorem dX12_watch_54 : decode cX12_watch 54 = .ok (.iload 5, 2) := by decide +kernel
theorem dX12_watch_56 : decode cX12_watch 56 = .ok (.ifCond .le 9, 3) := by decide +kernel
theorem dX12_watch_59 : decode cX12_watch 59 = .ok (.aload_n 0, 1) := by decide +kernel
theorem dX12_watch_60 : decode cX12_watch 60 = .ok (.iload_n 2, 1) := by decide +kernel
theorem dX12_watch_61 : decode cX12_watch 61 = .ok (.iload_n 3, 1) := by decide +kernel
theorem dX12_watch_62 : decode cX12_watch 62 = .ok (.invokevirtual 255, 3) := by decide +kernel
theorem dX12_watch_65 : decode cX12_watch 65 = .ok (.aload_n 0, 1) := by decide +kernel
theorem dX12_watch_66 : decode cX12_watch 66 = .ok (.iload_n 1, 1) := by decide +kernel
theorem dX12_watch_67 : decode cX12_watch 67 = .ok (.iload_n 2, 1) := by decide +kernel
theorem dX12_watch_68 : decode cX12_watch 68 = .ok (.iload 5, 2) := by decide +kernel
theorem dX12_watch_70 : decode cX12_watch 70 = .ok (.invokevirtual 341, 3) := by decide +kernel
theorem dX12_watch_73 : decode cX12_watch 73 = .ok (.ifCond .eq 8, 3) := by decide +kernel
theorem dX12_watch_76 : decode cX12_watch 76 = .ok (.iload 5, 2) := by decide +kernel
theorem dX12_watch_78 : decode cX12_watch 78 = .ok (.goto 5, 3) := by decide +kernel
theorem dX12_watch_81 : decode cX12_watch 81 = .ok (.bipush (-4), 2) := by decide +kernel
theorem dX12_watch_83 : decode cX12_watch 83 = .ok (.istore 4, 2) := by decide +kernel
theorem dX12_watch_85 : decode cX12_watch 85 = .ok (.iinc 5 1, 3) := by decide +kernel
theorem dX12_watch_88 : decode cX12_watch 88 = .ok (.goto (-47), 3) := by decide +kernel
theorem dX12_watch_91 : decode cX12_watch 91 = .ok (.aload_n 0, 1) := by decide +kernel
theorem dX12_watch_92 : decode cX12_watch 92 = .ok (.invokevirtual 262, 3) := by decide +kernel
theorem dX12_watch_95 : decode cX12_watch 95 = .ok (.iload 4, 2) := by decide +kernel
theorem dX12_watch_97 : decode cX12_watch 97 = .ok (.ireturn, 1) := by decide +kernel
theorem dX12_ear_0 : decode cX12_ear 0 = .ok (.iload_n 1, 1) := by decide +kernel
theorem dX12_ear_1 : decode cX12_ear 1 = .ok (.invokestatic 127, 3) := by decide +kernel
theorem dX12_ear_4 : decode cX12_ear 4 = .ok (.ifCond .eq 15, 3) := by decide +kernel
theorem dX12_ear_7 : decode cX12_ear 7 = .ok (.iload_n 2, 1) := by decide +kernel
theorem dX12_ear_8 : decode cX12_ear 8 = .ok (.i2l, 1) := by decide +kernel
theorem dX12_ear_9 : decode cX12_ear 9 = .ok (.lconst 0, 1) := by decide +kernel
theorem dX12_ear_10 : decode cX12_ear 10 = .ok (.ldc2_w 166, 3) := by decide +kernel
theorem dX12_ear_13 : decode cX12_ear 13 = .ok (.invokestatic 73, 3) := by decide +kernel
theorem dX12_ear_16 : decode cX12_ear 16 = .ok (.ifCond .ne 5, 3) := by decide +kernel
theorem dX12_ear_19 : decode cX12_ear 19 = .ok (.iconst (-1), 1) := by decide +kernel
theorem dX12_ear_20 : decode cX12_ear 20 = .ok (.ireturn, 1) := by decide +kernel
theorem dX12_ear_21 : decode cX12_ear 21 = .ok (.aload_n 0, 1) := by decide +kernel
theorem dX12_ear_22 : decode cX12_ear 22 = .ok (.iload_n 1, 1) := by decide +kernel
theorem dX12_ear_23 : decode cX12_ear 23 = .ok (.iconst 0, 1) := by decide +kernel
theorem dX12_ear_24 : decode cX12_ear 24 = .ok (.invokevirtual 130, 3) := by decide +kernel
theorem dX12_ear_27 : decode cX12_ear 27 = .ok (.istore_n 3, 1) := by decide +kernel
theorem dX12_ear_28 : decode cX12_ear 28 = .ok (.iload_n 3, 1) := by decide +kernel
theorem dX12_ear_29 : decode cX12_ear 29 = .ok (.ifCond .eq 5, 3) := by decide +kernel
theorem dX12_ear_32 : decode cX12_ear 32 = .ok (.iload_n 3, 1) := by decide +kernel
theorem dX12_ear_33 : decode cX12_ear 33 = .ok (.ireturn, 1) := by decide +kernel
theorem dX12_ear_34 : decode cX12_ear 34 = .ok (.aload_n 0, 1) := by decide +kernel
theorem dX12_ear_35 : decode cX12_ear 35 = .ok (.getfield 28, 3) := by decide +kernel
theorem dX12_ear_38 : decode cX12_ear 38 = .ok (.iload_n 1, 1) := by decide +kernel
theorem dX12_ear_39 : decode cX12_ear 39 = .ok (.iaload, 1) := by decide +kernel
theorem dX12_ear_40 : decode cX12_ear 40 = .ok (.bipush 60, 2) := by decide +kernel
theorem dX12_ear_42 : decode cX12_ear 42 = .ok (.if_icmp .le 6, 3) := by decide +kernel
theorem dX12_ear_45 : decode cX12_ear 45 = .ok (.bipush (-13), 2) := by decide +kernel
theorem dX12_ear_47 : decode cX12_ear 47 = .ok (.ireturn, 1) := by decide +kernel
theorem dX12_ear_48 : decode cX12_ear 48 = .ok (.lconst 0, 1) := by decide +kernel
theorem dX12_ear_49 : decode cX12_ear 49 = .ok (.lstore 4, 2) := by decide +kernel
theorem dX12_ear_51 : decode cX12_ear 51 = .ok (.iconst 0, 1) := by decide +kernel
theorem dX12_ear_52 : decode cX12_ear 52 = .ok (.istore 6, 2) := by decide +kernel
theorem dX12_ear_54 : decode cX12_ear 54 = .ok (.iload 6, 2) := by decide +kernel
theorem dX12_ear_56 : decode cX12_ear 56 = .ok (.aload_n 0, 1) := by decide +kernel
theorem dX12_ear_57 : decode cX12_ear 57 = .ok (.getfield 28, 3) := by decide +kernel
theorem dX12_ear_60 : decode cX12_ear 60 = .ok (.iload_n 1, 1) := by decide +kernel
theorem dX12_ear_61 : decode cX12_ear 61 = .ok (.iaload, 1) := by decide +kernel
theorem dX12_ear_62 : decode cX12_ear 62 = .ok (.if_icmp .ge 48, 3) := by decide +kernel
theorem dX12_ear_65 : decode cX12_ear 65 = .ok (.aload_n 0, 1) := by decide +kernel
theorem dX12_ear_66 : decode cX12_ear 66 = .ok (.getfield 31, 3) := by decide +kernel
theorem dX12_ear_69 : decode cX12_ear 69 = .ok (.bipush 120, 2) := by decide +kernel
theorem dX12_ear_71 : decode cX12_ear 71 = .ok (.iload_n 1, 1) := by decide +kernel
theorem dX12_ear_72 : decode cX12_ear 72 = .ok (.imul, 1) := by decide +kernel
theorem dX12_ear_73 : decode cX12_ear 73 = .ok (.iload 6, 2) := by decide +kernel
theorem dX12_ear_75 : decode cX12_ear 75 = .ok (.iadd, 1) := by decide +kernel
theorem dX12_ear_76 : decode cX12_ear 76 = .ok (.iaload, 1) := by decide +kernel
theorem dX12_ear_77 : decode cX12_ear 77 = .ok (.istore 7, 2) := by decide +kernel
theorem dX12_ear_79 : decode cX12_ear 79 = .ok (.iload 7, 2) := by decide +kernel
theorem dX12_ear_81 : decode cX12_ear 81 = .ok (.ifCond .eq 12, 3) := by decide +kernel
theorem dX12_ear_84 : decode cX12_ear 84 = .ok (.iload 7, 2) := by decide +kernel
theorem dX12_ear_86 : decode cX12_ear 86 = .ok (.iconst 1, 1) := by decide +kernel
theorem dX12_ear_87 : decode cX12_ear 87 = .ok (.if_icmp .eq 6, 3) := by decide +kernel
theorem dX12_ear_90 : decode cX12_ear 90 = .ok (.bipush (-13), 2) := by decide +kernel
theorem dX12_ear_92 : decode cX12_ear 92 = .ok (.ireturn, 1) := by decide +kernel
theorem dX12_ear_93 : decode cX12_ear 93 = .ok (.lload 4, 2) := by decide +kernel
theorem dX12_ear_95 : decode cX12_ear 95 = .ok (.iload 7, 2) := by decide +kernel
theorem dX12_ear_97 : decode cX12_ear 97 = .ok (.i2l, 1) := by decide +kernel
theorem dX12_ear_98 : decode cX12_ear 98 = .ok (.iload 6, 2) := by decide +kernel
theorem dX12_ear_100 : decode cX12_ear 100 = .ok (.lshl, 1) := by decide +kernel
theorem dX12_ear_101 : decode cX12_ear 101 = .ok (.lor, 1) := by decide +kernel
theorem dX12_ear_102 : decode cX12_ear 102 = .ok (.lstore 4, 2) := by decide +kernel
theorem dX12_ear_104 : decode cX12_ear 104 = .ok (.iinc 6 1, 3) := by decide +kernel
theorem dX12_ear_107 : decode cX12_ear 107 = .ok (.goto (-53), 3) := by decide +kernel
theorem dX12_ear_110 : decode cX12_ear 110 = .ok (.iconst 0, 1) := by decide +kernel
theorem dX12_ear_111 : decode cX12_ear 111 = .ok (.istore 6, 2) := by decide +kernel
theorem dX12_ear_113 : decode cX12_ear 113 = .ok (.iconst 0, 1) := by decide +kernel
theorem dX12_ear_114 : decode cX12_ear 114 = .ok (.istore 7, 2) := by decide +kernel
theorem dX12_ear_116 : decode cX12_ear 116 = .ok (.iload 7, 2) := by decide +kernel
theorem dX12_ear_118 : decode cX12_ear 118 = .ok (.aload_n 0, 1) := by decide +kernel
theorem dX12_ear_119 : decode cX12_ear 119 = .ok (.getfield 13, 3) := by decide +kernel
theorem dX12_ear_122 : decode cX12_ear 122 = .ok (.sipush 1740, 3) := by decide +kernel
theorem dX12_ear_125 : decode cX12_ear 125 = .ok (.iaload, 1) := by decide +kernel
theorem dX12_ear_126 : decode cX12_ear 126 = .ok (.if_icmp .ge 108, 3) := by decide +kernel
theorem dX12_ear_129 : decode cX12_ear 129 = .ok (.iconst 0, 1) := by decide +kernel
theorem dX12_ear_130 : decode cX12_ear 130 = .ok (.istore 8, 2) := by decide +kernel
theorem dX12_ear_132 : decode cX12_ear 132 = .ok (.iload 8, 2) := by decide +kernel
theorem dX12_ear_134 : decode cX12_ear 134 = .ok (.aload_n 0, 1) := by decide +kernel
theorem dX12_ear_135 : decode cX12_ear 135 = .ok (.iload 7, 2) := by decide +kernel
theorem dX12_ear_137 : decode cX12_ear 137 = .ok (.invokevirtual 83, 3) := by decide +kernel
theorem dX12_ear_140 : decode cX12_ear 140 = .ok (.if_icmp .ge 88, 3) := by decide +kernel
theorem dX12_ear_143 : decode cX12_ear 143 = .ok (.lconst 0, 1) := by decide +kernel
theorem dX12_ear_144 : decode cX12_ear 144 = .ok (.lstore 9, 2) := by decide +kernel
theorem dX12_ear_146 : decode cX12_ear 146 = .ok (.iload 8, 2) := by decide +kernel
theorem dX12_ear_148 : decode cX12_ear 148 = .ok (.istore 11, 2) := by decide +kernel
theorem dX12_ear_150 : decode cX12_ear 150 = .ok (.iload 11, 2) := by decide +kernel
theorem dX12_ear_152 : decode cX12_ear 152 = .ok (.aload_n 0, 1) := by decide +kernel
theorem dX12_ear_153 : decode cX12_ear 153 = .ok (.getfield 28, 3) := by decide +kernel
theorem dX12_ear_156 : decode cX12_ear 156 = .ok (.iload_n 1, 1) := by decide +kernel
theorem dX12_ear_157 : decode cX12_ear 157 = .ok (.iaload, 1) := by decide +kernel
theorem dX12_ear_158 : decode cX12_ear 158 = .ok (.if_icmp .ge 26, 3) := by decide +kernel
theorem dX12_ear_161 : decode cX12_ear 161 = .ok (.lload 9, 2) := by decide +kernel
theorem dX12_ear_163 : decode cX12_ear 163 = .ok (.lconst 1, 1) := by decide +kernel
theorem dX12_ear_164 : decode cX12_ear 164 = .ok (.iload 11, 2) := by decide +kernel
theorem dX12_ear_166 : decode cX12_ear 166 = .ok (.lshl, 1) := by decide +kernel
theorem dX12_ear_167 : decode cX12_ear 167 = .ok (.lor, 1) := by decide +kernel
theorem dX12_ear_168 : decode cX12_ear 168 = .ok (.lstore 9, 2) := by decide +kernel
theorem dX12_ear_170 : decode cX12_ear 170 = .ok (.iload 11, 2) := by decide +kernel
theorem dX12_ear_172 : decode cX12_ear 172 = .ok (.aload_n 0, 1) := by decide +kernel
theorem dX12_ear_173 : decode cX12_ear 173 = .ok (.iload 7, 2) := by decide +kernel
theorem dX12_ear_175 : decode cX12_ear 175 = .ok (.invokevirtual 83, 3) := by decide +kernel
theorem dX12_ear_178 : decode cX12_ear 178 = .ok (.iadd, 1) := by decide +kernel
theorem dX12_ear_179 : decode cX12_ear 179 = .ok (.istore 11, 2) := by decide +kernel
theorem dX12_ear_181 : decode cX12_ear 181 = .ok (.goto (-31), 3) := by decide +kernel
theorem dX12_ear_184 : decode cX12_ear 184 = .ok (.lload 9, 2) := by decide +kernel
theorem dX12_ear_186 : decode cX12_ear 186 = .ok (.lload 4, 2) := by decide +kernel
theorem dX12_ear_188 : decode cX12_ear 188 = .ok (.ldc2_w 168, 3) := by decide +kernel
theorem dX12_ear_191 : decode cX12_ear 191 = .ok (.lxor, 1) := by decide +kernel
theorem dX12_ear_192 : decode cX12_ear 192 = .ok (.land, 1) := by decide +kernel
theorem dX12_ear_193 : decode cX12_ear 193 = .ok (.lconst 0, 1) := by decide +kernel
theorem dX12_ear_194 : decode cX12_ear 194 = .ok (.lcmp, 1) := by decide +kernel
theorem dX12_ear_195 : decode cX12_ear 195 = .ok (.ifCond .eq 6, 3) := by decide +kernel
theorem dX12_ear_198 : decode cX12_ear 198 = .ok (.goto 24, 3) := by decide +kernel
theorem dX12_ear_201 : decode cX12_ear 201 = .ok (.aload_n 0, 1) := by decide +kernel
theorem dX12_ear_202 : decode cX12_ear 202 = .ok (.getfield 63, 3) := by decide +kernel
theorem dX12_ear_205 : decode cX12_ear 205 = .ok (.iload 6, 2) := by decide +kernel
theorem dX12_ear_207 : decode cX12_ear 207 = .ok (.lload 9, 2) := by decide +kernel
theorem dX12_ear_209 : decode cX12_ear 209 = .ok (.lastore, 1) := by decide +kernel
theorem dX12_ear_210 : decode cX12_ear 210 = .ok (.aload_n 0, 1) := by decide +kernel
theorem dX12_ear_211 : decode cX12_ear 211 = .ok (.getfield 66, 3) := by decide +kernel
theorem dX12_ear_214 : decode cX12_ear 214 = .ok (.iload 6, 2) := by decide +kernel
theorem dX12_ear_216 : decode cX12_ear 216 = .ok (.iload 7, 2) := by decide +kernel
theorem dX12_ear_218 : decode cX12_ear 218 = .ok (.iastore, 1) := by decide +kernel
theorem dX12_ear_219 : decode cX12_ear 219 = .ok (.iinc 6 1, 3) := by decide +kernel
theorem dX12_ear_222 : decode cX12_ear 222 = .ok (.iinc 8 1, 3) := by decide +kernel
theorem dX12_ear_225 : decode cX12_ear 225 = .ok (.goto (-93), 3) := by decide +kernel
theorem dX12_ear_228 : decode cX12_ear 228 = .ok (.iinc 7 1, 3) := by decide +kernel
theorem dX12_ear_231 : decode cX12_ear 231 = .ok (.goto (-115), 3) := by decide +kernel
theorem dX12_ear_234 : decode cX12_ear 234 = .ok (.lload 4, 2) := by decide +kernel
theorem dX12_ear_236 : decode cX12_ear 236 = .ok (.lconst 0, 1) := by decide +kernel
theorem dX12_ear_237 : decode cX12_ear 237 = .ok (.lcmp, 1) := by decide +kernel
theorem dX12_ear_238 : decode cX12_ear 238 = .ok (.ifCond .ne 7, 3) := by decide +kernel
theorem dX12_ear_241 : decode cX12_ear 241 = .ok (.iconst 1, 1) := by decide +kernel
theorem dX12_ear_242 : decode cX12_ear 242 = .ok (.goto 4, 3) := by decide +kernel
theorem dX12_ear_245 : decode cX12_ear 245 = .ok (.iconst 0, 1) := by decide +kernel
theorem dX12_ear_246 : decode cX12_ear 246 = .ok (.istore 7, 2) := by decide +kernel
theorem dX12_ear_248 : decode cX12_ear 248 = .ok (.lload 4, 2) := by decide +kernel
theorem dX12_ear_250 : decode cX12_ear 250 = .ok (.lconst 0, 1) := by decide +kernel
theorem dX12_ear_251 : decode cX12_ear 251 = .ok (.lcmp, 1) := by decide +kernel
theorem dX12_ear_252 : decode cX12_ear 252 = .ok (.ifCond .ne 7, 3) := by decide +kernel
theorem dX12_ear_255 : decode cX12_ear 255 = .ok (.iconst 0, 1) := by decide +kernel
theorem dX12_ear_256 : decode cX12_ear 256 = .ok (.goto 4, 3) := by decide +kernel
theorem dX12_ear_259 : decode cX12_ear 259 = .ok (.iconst (-1), 1) := by decide +kernel
theorem dX12_ear_260 : decode cX12_ear 260 = .ok (.istore 8, 2) := by decide +kernel
theorem dX12_ear_262 : decode cX12_ear 262 = .ok (.iconst 0, 1) := by decide +kernel
theorem dX12_ear_263 : decode cX12_ear 263 = .ok (.istore 9, 2) := by decide +kernel
theorem dX12_ear_265 : decode cX12_ear 265 = .ok (.iconst 0, 1) := by decide +kernel
theorem dX12_ear_266 : decode cX12_ear 266 = .ok (.istore 10, 2) := by decide +kernel
theorem dX12_ear_268 : decode cX12_ear 268 = .ok (.iload 10, 2) := by decide +kernel
theorem dX12_ear_270 : decode cX12_ear 270 = .ok (.iload 6, 2) := by decide +kernel
theorem dX12_ear_272 : decode cX12_ear 272 = .ok (.if_icmp .ge 151, 3) := by decide +kernel
theorem dX12_ear_275 : decode cX12_ear 275 = .ok (.aload_n 0, 1) := by decide +kernel
theorem dX12_ear_276 : decode cX12_ear 276 = .ok (.getfield 63, 3) := by decide +kernel
theorem dX12_ear_279 : decode cX12_ear 279 = .ok (.iload 10, 2) := by decide +kernel
theorem dX12_ear_281 : decode cX12_ear 281 = .ok (.laload, 1) := by decide +kernel
theorem dX12_ear_282 : decode cX12_ear 282 = .ok (.lload 4, 2) := by decide +kernel
theorem dX12_ear_284 : decode cX12_ear 284 = .ok (.lcmp, 1) := by decide +kernel
theorem dX12_ear_285 : decode cX12_ear 285 = .ok (.ifCond .ne 34, 3) := by decide +kernel
theorem dX12_ear_288 : decode cX12_ear 288 = .ok (.iinc 7 1, 3) := by decide +kernel
theorem dX12_ear_291 : decode cX12_ear 291 = .ok (.iload 8, 2) := by decide +kernel
theorem dX12_ear_293 : decode cX12_ear 293 = .ok (.iconst 1, 1) := by decide +kernel
theorem dX12_ear_294 : decode cX12_ear 294 = .ok (.aload_n 0, 1) := by decide +kernel
theorem dX12_ear_295 : decode cX12_ear 295 = .ok (.getfield 66, 3) := by decide +kernel
theorem dX12_ear_298 : decode cX12_ear 298 = .ok (.iload 10, 2) := by decide +kernel
theorem dX12_ear_300 : decode cX12_ear 300 = .ok (.iaload, 1) := by decide +kernel
theorem dX12_ear_301 : decode cX12_ear 301 = .ok (.ishl, 1) := by decide +kernel
theorem dX12_ear_302 : decode cX12_ear 302 = .ok (.iand, 1) := by decide +kernel
theorem dX12_ear_303 : decode cX12_ear 303 = .ok (.istore 8, 2) := by decide +kernel
theorem dX12_ear_305 : decode cX12_ear 305 = .ok (.iload 9, 2) := by decide +kernel
theorem dX12_ear_307 : decode cX12_ear 307 = .ok (.iconst 1, 1) := by decide +kernel
theorem dX12_ear_308 : decode cX12_ear 308 = .ok (.aload_n 0, 1) := by decide +kernel
theorem dX12_ear_309 : decode cX12_ear 309 = .ok (.getfield 66, 3) := by decide +kernel
theorem dX12_ear_312 : decode cX12_ear 312 = .ok (.iload 10, 2) := by decide +kernel
theorem dX12_ear_314 : decode cX12_ear 314 = .ok (.iaload, 1) := by decide +kernel
theorem dX12_ear_315 : decode cX12_ear 315 = .ok (.ishl, 1) := by decide +kernel
theorem dX12_ear_316 : decode cX12_ear 316 = .ok (.ior, 1) := by decide +kernel
theorem dX12_ear_317 : decode cX12_ear 317 = .ok (.istore 9, 2) := by decide +kernel
theorem dX12_ear_319 : decode cX12_ear 319 = .ok (.iload 10, 2) := by decide +kernel
theorem dX12_ear_321 : decode cX12_ear 321 = .ok (.iconst 1, 1) := by decide +kernel
theorem dX12_ear_322 : decode cX12_ear 322 = .ok (.iadd, 1) := by decide +kernel
theorem dX12_ear_323 : decode cX12_ear 323 = .ok (.istore 11, 2) := by decide +kernel
theorem dX12_ear_325 : decode cX12_ear 325 = .ok (.iload 11, 2) := by decide +kernel
theorem dX12_ear_327 : decode cX12_ear 327 = .ok (.iload 6, 2) := by decide +kernel
theorem dX12_ear_329 : decode cX12_ear 329 = .ok (.if_icmp .ge 88, 3) := by decide +kernel
theorem dX12_ear_332 : decode cX12_ear 332 = .ok (.aload_n 0, 1) := by decide +kernel
theorem dX12_ear_333 : decode cX12_ear 333 = .ok (.getfield 66, 3) := by decide +kernel
theorem dX12_ear_336 : decode cX12_ear 336 = .ok (.iload 10, 2) := by decide +kernel
theorem dX12_ear_338 : decode cX12_ear 338 = .ok (.iaload, 1) := by decide +kernel
theorem dX12_ear_339 : decode cX12_ear 339 = .ok (.aload_n 0, 1) := by decide +kernel
theorem dX12_ear_340 : decode cX12_ear 340 = .ok (.getfield 66, 3) := by decide +kernel
theorem dX12_ear_343 : decode cX12_ear 343 = .ok (.iload 11, 2) := by decide +kernel
theorem dX12_ear_345 : decode cX12_ear 345 = .ok (.iaload, 1) := by decide +kernel
theorem dX12_ear_346 : decode cX12_ear 346 = .ok (.if_icmp .eq 65, 3) := by decide +kernel
theorem dX12_ear_349 : decode cX12_ear 349 = .ok (.aload_n 0, 1) := by decide +kernel
theorem dX12_ear_350 : decode cX12_ear 350 = .ok (.getfield 63, 3) := by decide +kernel
theorem dX12_ear_353 : decode cX12_ear 353 = .ok (.iload 10, 2) := by decide +kernel
theorem dX12_ear_355 : decode cX12_ear 355 = .ok (.laload, 1) := by decide +kernel
theorem dX12_ear_356 : decode cX12_ear 356 = .ok (.aload_n 0, 1) := by decide +kernel
theorem dX12_ear_357 : decode cX12_ear 357 = .ok (.getfield 63, 3) := by decide +kernel
theorem dX12_ear_360 : decode cX12_ear 360 = .ok (.iload 11, 2) := by decide +kernel
theorem dX12_ear_362 : decode cX12_ear 362 = .ok (.laload, 1) := by decide +kernel
theorem dX12_ear_363 : decode cX12_ear 363 = .ok (.lor, 1) := by decide +kernel
theorem dX12_ear_364 : decode cX12_ear 364 = .ok (.lload 4, 2) := by decide +kernel
theorem dX12_ear_366 : decode cX12_ear 366 = .ok (.lcmp, 1) := by decide +kernel
theorem dX12_ear_367 : decode cX12_ear 367 = .ok (.ifCond .eq 6, 3) := by decide +kernel
theorem dX12_ear_370 : decode cX12_ear 370 = .ok (.goto 41, 3) := by decide +kernel
theorem dX12_ear_373 : decode cX12_ear 373 = .ok (.iinc 7 1, 3) := by decide +kernel
theorem dX12_ear_376 : decode cX12_ear 376 = .ok (.iconst 1, 1) := by decide +kernel
theorem dX12_ear_377 : decode cX12_ear 377 = .ok (.aload_n 0, 1) := by decide +kernel
theorem dX12_ear_378 : decode cX12_ear 378 = .ok (.getfield 66, 3) := by decide +kernel
theorem dX12_ear_381 : decode cX12_ear 381 = .ok (.iload 10, 2) := by decide +kernel
theorem dX12_ear_383 : decode cX12_ear 383 = .ok (.iaload, 1) := by decide +kernel
theorem dX12_ear_384 : decode cX12_ear 384 = .ok (.ishl, 1) := by decide +kernel
theorem dX12_ear_385 : decode cX12_ear 385 = .ok (.iconst 1, 1) := by decide +kernel
theorem dX12_ear_386 : decode cX12_ear 386 = .ok (.aload_n 0, 1) := by decide +kernel
theorem dX12_ear_387 : decode cX12_ear 387 = .ok (.getfield 66, 3) := by decide +kernel
theorem dX12_ear_390 : decode cX12_ear 390 = .ok (.iload 11, 2) := by decide +kernel
theorem dX12_ear_392 : decode cX12_ear 392 = .ok (.iaload, 1) := by decide +kernel
theorem dX12_ear_393 : decode cX12_ear 393 = .ok (.ishl, 1) := by decide +kernel
theorem dX12_ear_394 : decode cX12_ear 394 = .ok (.ior, 1) := by decide +kernel
theorem dX12_ear_395 : decode cX12_ear 395 = .ok (.istore 12, 2) := by decide +kernel
theorem dX12_ear_397 : decode cX12_ear 397 = .ok (.iload 8, 2) := by decide +kernel
theorem dX12_ear_399 : decode cX12_ear 399 = .ok (.iload 12, 2) := by decide +kernel
theorem dX12_ear_401 : decode cX12_ear 401 = .ok (.iand, 1) := by decide +kernel
theorem dX12_ear_402 : decode cX12_ear 402 = .ok (.istore 8, 2) := by decide +kernel
theorem dX12_ear_404 : decode cX12_ear 404 = .ok (.iload 9, 2) := by decide +kernel
theorem dX12_ear_406 : decode cX12_ear 406 = .ok (.iload 12, 2) := by decide +kernel
theorem dX12_ear_408 : decode cX12_ear 408 = .ok (.ior, 1) := by decide +kernel
theorem dX12_ear_409 : decode cX12_ear 409 = .ok (.istore 9, 2) := by decide +kernel
theorem dX12_ear_411 : decode cX12_ear 411 = .ok (.iinc 11 1, 3) := by decide +kernel
theorem dX12_ear_414 : decode cX12_ear 414 = .ok (.goto (-89), 3) := by decide +kernel
theorem dX12_ear_417 : decode cX12_ear 417 = .ok (.iinc 10 1, 3) := by decide +kernel
theorem dX12_ear_420 : decode cX12_ear 420 = .ok (.goto (-152), 3) := by decide +kernel
theorem dX12_ear_423 : decode cX12_ear 423 = .ok (.iload_n 2, 1) := by decide +kernel
theorem dX12_ear_424 : decode cX12_ear 424 = .ok (.ifCond .ne 8, 3) := by decide +kernel
theorem dX12_ear_427 : decode cX12_ear 427 = .ok (.iload 7, 2) := by decide +kernel
theorem dX12_ear_429 : decode cX12_ear 429 = .ok (.goto 24, 3) := by decide +kernel
theorem dX12_ear_432 : decode cX12_ear 432 = .ok (.iload_n 2, 1) := by decide +kernel
theorem dX12_ear_433 : decode cX12_ear 433 = .ok (.iconst 1, 1) := by decide +kernel
theorem dX12_ear_434 : decode cX12_ear 434 = .ok (.if_icmp .ne 17, 3) := by decide +kernel
theorem dX12_ear_437 : decode cX12_ear 437 = .ok (.iload 7, 2) := by decide +kernel
theorem dX12_ear_439 : decode cX12_ear 439 = .ok (.ifCond .ne 7, 3) := by decide +kernel
theorem dX12_ear_442 : decode cX12_ear 442 = .ok (.iconst 0, 1) := by decide +kernel
theorem dX12_ear_443 : decode cX12_ear 443 = .ok (.goto 10, 3) := by decide +kernel
theorem dX12_ear_446 : decode cX12_ear 446 = .ok (.iload 8, 2) := by decide +kernel
theorem dX12_ear_448 : decode cX12_ear 448 = .ok (.goto 5, 3) := by decide +kernel
theorem dX12_ear_451 : decode cX12_ear 451 = .ok (.iload 9, 2) := by decide +kernel
theorem dX12_ear_453 : decode cX12_ear 453 = .ok (.ireturn, 1) := by decide +kernel
theorem dX12_bestShift_0 : decode cX12_bestShift 0 = .ok (.aload_n 0, 1) := by decide +kernel
theorem dX12_bestShift_1 : decode cX12_bestShift 1 = .ok (.iload_n 1, 1) := by decide +kernel
theorem dX12_bestShift_2 : decode cX12_bestShift 2 = .ok (.invokevirtual 163, 3) := by decide +kernel
theorem dX12_bestShift_5 : decode cX12_bestShift 5 = .ok (.ifCond .eq 22, 3) := by decide +kernel
theorem dX12_bestShift_8 : decode cX12_bestShift 8 = .ok (.iload_n 2, 1) := by decide +kernel
theorem dX12_bestShift_9 : decode cX12_bestShift 9 = .ok (.invokestatic 127, 3) := by decide +kernel
theorem dX12_bestShift_12 : decode cX12_bestShift 12 = .ok (.ifCond .eq 15, 3) := by decide +kernel
theorem dX12_bestShift_15 : decode cX12_bestShift 15 = .ok (.iload_n 3, 1) := by decide +kernel
theorem dX12_bestShift_16 : decode cX12_bestShift 16 = .ok (.i2l, 1) := by decide +kernel
theorem dX12_bestShift_17 : decode cX12_bestShift 17 = .ok (.lconst 1, 1) := by decide +kernel
theorem dX12_bestShift_18 : decode cX12_bestShift 18 = .ok (.ldc2_w 212, 3) := by decide +kernel
theorem dX12_bestShift_21 : decode cX12_bestShift 21 = .ok (.invokestatic 73, 3) := by decide +kernel
theorem dX12_bestShift_24 : decode cX12_bestShift 24 = .ok (.ifCond .ne 6, 3) := by decide +kernel
theorem dX12_bestShift_27 : decode cX12_bestShift 27 = .ok (.ldc 236, 2) := by decide +kernel
theorem dX12_bestShift_29 : decode cX12_bestShift 29 = .ok (.ireturn, 1) := by decide +kernel
theorem dX12_bestShift_30 : decode cX12_bestShift 30 = .ok (.aload_n 0, 1) := by decide +kernel
theorem dX12_bestShift_31 : decode cX12_bestShift 31 = .ok (.iload_n 2, 1) := by decide +kernel
theorem dX12_bestShift_32 : decode cX12_bestShift 32 = .ok (.invokevirtual 214, 3) := by decide +kernel
theorem dX12_bestShift_35 : decode cX12_bestShift 35 = .ok (.istore 4, 2) := by decide +kernel
theorem dX12_bestShift_37 : decode cX12_bestShift 37 = .ok (.iload 4, 2) := by decide +kernel
theorem dX12_bestShift_39 : decode cX12_bestShift 39 = .ok (.ifCond .eq 10, 3) := by decide +kernel
theorem dX12_bestShift_42 : decode cX12_bestShift 42 = .ok (.ldc_w 344, 3) := by decide +kernel
theorem dX12_bestShift_45 : decode cX12_bestShift 45 = .ok (.iload 4, 2) := by decide +kernel
theorem dX12_bestShift_47 : decode cX12_bestShift 47 = .ok (.iadd, 1) := by decide +kernel
theorem dX12_bestShift_48 : decode cX12_bestShift 48 = .ok (.ireturn, 1) := by decide +kernel
theorem dX12_bestShift_49 : decode cX12_bestShift 49 = .ok (.aload_n 0, 1) := by decide +kernel
theorem dX12_bestShift_50 : decode cX12_bestShift 50 = .ok (.invokevirtual 259, 3) := by decide +kernel
theorem dX12_bestShift_53 : decode cX12_bestShift 53 = .ok (.sipush (-4000), 3) := by decide +kernel
theorem dX12_bestShift_56 : decode cX12_bestShift 56 = .ok (.istore 5, 2) := by decide +kernel
theorem dX12_bestShift_58 : decode cX12_bestShift 58 = .ok (.iconst 0, 1) := by decide +kernel
theorem dX12_bestShift_59 : decode cX12_bestShift 59 = .ok (.istore 6, 2) := by decide +kernel
theorem dX12_bestShift_61 : decode cX12_bestShift 61 = .ok (.iconst 0, 1) := by decide +kernel
theorem dX12_bestShift_62 : decode cX12_bestShift 62 = .ok (.istore 7, 2) := by decide +kernel
theorem dX12_bestShift_64 : decode cX12_bestShift 64 = .ok (.iload 7, 2) := by decide +kernel
theorem dX12_bestShift_66 : decode cX12_bestShift 66 = .ok (.bipush 16, 2) := by decide +kernel
theorem dX12_bestShift_68 : decode cX12_bestShift 68 = .ok (.if_icmp .gt 91, 3) := by decide +kernel
theorem dX12_bestShift_71 : decode cX12_bestShift 71 = .ok (.iload 7, 2) := by decide +kernel
theorem dX12_bestShift_73 : decode cX12_bestShift 73 = .ok (.iconst 2, 1) := by decide +kernel
theorem dX12_bestShift_74 : decode cX12_bestShift 74 = .ok (.irem, 1) := by decide +kernel
theorem dX12_bestShift_75 : decode cX12_bestShift 75 = .ok (.iconst 1, 1) := by decide +kernel
theorem dX12_bestShift_76 : decode cX12_bestShift 76 = .ok (.if_icmp .ne 12, 3) := by decide +kernel
theorem dX12_bestShift_79 : decode cX12_bestShift 79 = .ok (.iload 7, 2) := by decide +kernel
theorem dX12_bestShift_81 : decode cX12_bestShift 81 = .ok (.iconst 1, 1) := by decide +kernel
theorem dX12_bestShift_82 : decode cX12_bestShift 82 = .ok (.iadd, 1) := by decide +kernel
theorem dX12_bestShift_83 : decode cX12_bestShift 83 = .ok (.iconst 2, 1) := by decide +kernel
theorem dX12_bestShift_84 : decode cX12_bestShift 84 = .ok (.idiv, 1) := by decide +kernel
theorem dX12_bestShift_85 : decode cX12_bestShift 85 = .ok (.goto 8, 3) := by decide +kernel
theorem dX12_bestShift_88 : decode cX12_bestShift 88 = .ok (.iload 7, 2) := by decide +kernel
theorem dX12_bestShift_90 : decode cX12_bestShift 90 = .ok (.ineg, 1) := by decide +kernel
theorem dX12_bestShift_91 : decode cX12_bestShift 91 = .ok (.iconst 2, 1) := by decide +kernel
theorem dX12_bestShift_92 : decode cX12_bestShift 92 = .ok (.idiv, 1) := by decide +kernel
theorem dX12_bestShift_93 : decode cX12_bestShift 93 = .ok (.istore 8, 2) := by decide +kernel
theorem dX12_bestShift_95 : decode cX12_bestShift 95 = .ok (.aload_n 0, 1) := by decide +kernel
theorem dX12_bestShift_96 : decode cX12_bestShift 96 = .ok (.iload_n 2, 1) := by decide +kernel
theorem dX12_bestShift_97 : decode cX12_bestShift 97 = .ok (.iload 8, 2) := by decide +kernel
theorem dX12_bestShift_99 : decode cX12_bestShift 99 = .ok (.iload_n 3, 1) := by decide +kernel
theorem dX12_bestShift_100 : decode cX12_bestShift 100 = .ok (.invokevirtual 217, 3) := by decide +kernel
theorem dX12_bestShift_103 : decode cX12_bestShift 103 = .ok (.aload_n 0, 1) := by decide +kernel
theorem dX12_bestShift_104 : decode cX12_bestShift 104 = .ok (.aload_n 0, 1) := by decide +kernel
theorem dX12_bestShift_105 : decode cX12_bestShift 105 = .ok (.iload_n 1, 1) := by decide +kernel
theorem dX12_bestShift_106 : decode cX12_bestShift 106 = .ok (.iconst 0, 1) := by decide +kernel
theorem dX12_bestShift_107 : decode cX12_bestShift 107 = .ok (.invokevirtual 118, 3) := by decide +kernel
theorem dX12_bestShift_110 : decode cX12_bestShift 110 = .ok (.invokevirtual 220, 3) := by decide +kernel
theorem dX12_bestShift_113 : decode cX12_bestShift 113 = .ok (.aload_n 0, 1) := by decide +kernel
theorem dX12_bestShift_114 : decode cX12_bestShift 114 = .ok (.iload_n 1, 1) := by decide +kernel
theorem dX12_bestShift_115 : decode cX12_bestShift 115 = .ok (.invokevirtual 237, 3) := by decide +kernel
theorem dX12_bestShift_118 : decode cX12_bestShift 118 = .ok (.ifCond .ge 35, 3) := by decide +kernel
theorem dX12_bestShift_121 : decode cX12_bestShift 121 = .ok (.iload 5, 2) := by decide +kernel
theorem dX12_bestShift_123 : decode cX12_bestShift 123 = .ok (.sipush (-4000), 3) := by decide +kernel
theorem dX12_bestShift_126 : decode cX12_bestShift 126 = .ok (.if_icmp .eq 16, 3) := by decide +kernel
theorem dX12_bestShift_129 : decode cX12_bestShift 129 = .ok (.aload_n 0, 1) := by decide +kernel
theorem dX12_bestShift_130 : decode cX12_bestShift 130 = .ok (.iload_n 1, 1) := by decide +kernel
theorem dX12_bestShift_131 : decode cX12_bestShift 131 = .ok (.invokevirtual 243, 3) := by decide +kernel
theorem dX12_bestShift_134 : decode cX12_bestShift 134 = .ok (.iload 6, 2) := by decide +kernel
theorem dX12_bestShift_136 : decode cX12_bestShift 136 = .ok (.if_icmp .lt 6, 3) := by decide +kernel
theorem dX12_bestShift_139 : decode cX12_bestShift 139 = .ok (.goto 14, 3) := by decide +kernel
theorem dX12_bestShift_142 : decode cX12_bestShift 142 = .ok (.iload 8, 2) := by decide +kernel
theorem dX12_bestShift_144 : decode cX12_bestShift 144 = .ok (.istore 5, 2) := by decide +kernel
theorem dX12_bestShift_146 : decode cX12_bestShift 146 = .ok (.aload_n 0, 1) := by decide +kernel
theorem dX12_bestShift_147 : decode cX12_bestShift 147 = .ok (.iload_n 1, 1) := by decide +kernel
theorem dX12_bestShift_148 : decode cX12_bestShift 148 = .ok (.invokevirtual 243, 3) := by decide +kernel
theorem dX12_bestShift_151 : decode cX12_bestShift 151 = .ok (.istore 6, 2) := by decide +kernel
theorem dX12_bestShift_153 : decode cX12_bestShift 153 = .ok (.iinc 7 1, 3) := by decide +kernel
theorem dX12_bestShift_156 : decode cX12_bestShift 156 = .ok (.goto (-92), 3) := by decide +kernel
theorem dX12_bestShift_159 : decode cX12_bestShift 159 = .ok (.aload_n 0, 1) := by decide +kernel
theorem dX12_bestShift_160 : decode cX12_bestShift 160 = .ok (.invokevirtual 262, 3) := by decide +kernel
theorem dX12_bestShift_163 : decode cX12_bestShift 163 = .ok (.iload 5, 2) := by decide +kernel
theorem dX12_bestShift_165 : decode cX12_bestShift 165 = .ok (.ireturn, 1) := by decide +kernel
theorem dX12_readBack_0 : decode cX12_readBack 0 = .ok (.iload 4, 2) := by decide +kernel
theorem dX12_readBack_2 : decode cX12_readBack 2 = .ok (.iconst (-1), 1) := by decide +kernel
theorem dX12_readBack_3 : decode cX12_readBack 3 = .ok (.if_icmp .lt 30, 3) := by decide +kernel
theorem dX12_readBack_6 : decode cX12_readBack 6 = .ok (.aload_n 0, 1) := by decide +kernel
theorem dX12_readBack_7 : decode cX12_readBack 7 = .ok (.iload_n 1, 1) := by decide +kernel
theorem dX12_readBack_8 : decode cX12_readBack 8 = .ok (.invokevirtual 121, 3) := by decide +kernel
theorem dX12_readBack_11 : decode cX12_readBack 11 = .ok (.ifCond .eq 22, 3) := by decide +kernel
theorem dX12_readBack_14 : decode cX12_readBack 14 = .ok (.iload_n 2, 1) := by decide +kernel
theorem dX12_readBack_15 : decode cX12_readBack 15 = .ok (.invokestatic 127, 3) := by decide +kernel
theorem dX12_readBack_18 : decode cX12_readBack 18 = .ok (.ifCond .eq 15, 3) := by decide +kernel
theorem dX12_readBack_21 : decode cX12_readBack 21 = .ok (.iload_n 3, 1) := by decide +kernel
theorem dX12_readBack_22 : decode cX12_readBack 22 = .ok (.i2l, 1) := by decide +kernel
theorem dX12_readBack_23 : decode cX12_readBack 23 = .ok (.lconst 1, 1) := by decide +kernel
theorem dX12_readBack_24 : decode cX12_readBack 24 = .ok (.ldc2_w 212, 3) := by decide +kernel
theorem dX12_readBack_27 : decode cX12_readBack 27 = .ok (.invokestatic 73, 3) := by decide +kernel
theorem dX12_readBack_30 : decode cX12_readBack 30 = .ok (.ifCond .ne 5, 3) := by decide +kernel
theorem dX12_readBack_33 : decode cX12_readBack 33 = .ok (.iconst (-1), 1) := by decide +kernel
theorem dX12_readBack_34 : decode cX12_readBack 34 = .ok (.ireturn, 1) := by decide +kernel
theorem dX12_readBack_35 : decode cX12_readBack 35 = .ok (.aload_n 0, 1) := by decide +kernel
theorem dX12_readBack_36 : decode cX12_readBack 36 = .ok (.iload_n 2, 1) := by decide +kernel
theorem dX12_readBack_37 : decode cX12_readBack 37 = .ok (.invokevirtual 214, 3) := by decide +kernel
theorem dX12_readBack_40 : decode cX12_readBack 40 = .ok (.istore 5, 2) := by decide +kernel
theorem dX12_readBack_42 : decode cX12_readBack 42 = .ok (.iload 5, 2) := by decide +kernel
theorem dX12_readBack_44 : decode cX12_readBack 44 = .ok (.ifCond .eq 6, 3) := by decide +kernel
theorem dX12_readBack_47 : decode cX12_readBack 47 = .ok (.iload 5, 2) := by decide +kernel
theorem dX12_readBack_49 : decode cX12_readBack 49 = .ok (.ireturn, 1) := by decide +kernel
theorem dX12_readBack_50 : decode cX12_readBack 50 = .ok (.iconst 0, 1) := by decide +kernel
theorem dX12_readBack_51 : decode cX12_readBack 51 = .ok (.istore 6, 2) := by decide +kernel
theorem dX12_readBack_53 : decode cX12_readBack 53 = .ok (.bipush (-8), 2) := by decide +kernel
theorem dX12_readBack_55 : decode cX12_readBack 55 = .ok (.istore 7, 2) := by decide +kernel
theorem dX12_readBack_57 : decode cX12_readBack 57 = .ok (.iload 7, 2) := by decide +kernel
theorem dX12_readBack_59 : decode cX12_readBack 59 = .ok (.bipush 8, 2) := by decide +kernel
theorem dX12_readBack_61 : decode cX12_readBack 61 = .ok (.if_icmp .gt 89, 3) := by decide +kernel
theorem dX12_readBack_64 : decode cX12_readBack 64 = .ok (.aload_n 0, 1) := by decide +kernel
theorem dX12_readBack_65 : decode cX12_readBack 65 = .ok (.iload_n 2, 1) := by decide +kernel
theorem dX12_readBack_66 : decode cX12_readBack 66 = .ok (.iload 7, 2) := by decide +kernel
theorem dX12_readBack_68 : decode cX12_readBack 68 = .ok (.iload_n 3, 1) := by decide +kernel
theorem dX12_readBack_69 : decode cX12_readBack 69 = .ok (.invokevirtual 217, 3) := by decide +kernel
theorem dX12_readBack_72 : decode cX12_readBack 72 = .ok (.iconst 1, 1) := by decide +kernel
theorem dX12_readBack_73 : decode cX12_readBack 73 = .ok (.istore 8, 2) := by decide +kernel
theorem dX12_readBack_75 : decode cX12_readBack 75 = .ok (.iconst 0, 1) := by decide +kernel
theorem dX12_readBack_76 : decode cX12_readBack 76 = .ok (.istore 9, 2) := by decide +kernel
theorem dX12_readBack_78 : decode cX12_readBack 78 = .ok (.iload 9, 2) := by decide +kernel
theorem dX12_readBack_80 : decode cX12_readBack 80 = .ok (.bipush 16, 2) := by decide +kernel
theorem dX12_readBack_82 : decode cX12_readBack 82 = .ok (.if_icmp .ge 38, 3) := by decide +kernel
theorem dX12_readBack_85 : decode cX12_readBack 85 = .ok (.iload 8, 2) := by decide +kernel
theorem dX12_readBack_87 : decode cX12_readBack 87 = .ok (.ifCond .eq 24, 3) := by decide +kernel
theorem dX12_readBack_90 : decode cX12_readBack 90 = .ok (.aload_n 0, 1) := by decide +kernel
theorem dX12_readBack_91 : decode cX12_readBack 91 = .ok (.getfield 60, 3) := by decide +kernel
theorem dX12_readBack_94 : decode cX12_readBack 94 = .ok (.iload 9, 2) := by decide +kernel
theorem dX12_readBack_96 : decode cX12_readBack 96 = .ok (.iaload, 1) := by decide +kernel
theorem dX12_readBack_97 : decode cX12_readBack 97 = .ok (.aload_n 0, 1) := by decide +kernel
theorem dX12_readBack_98 : decode cX12_readBack 98 = .ok (.iload_n 1, 1) := by decide +kernel
theorem dX12_readBack_99 : decode cX12_readBack 99 = .ok (.iload 9, 2) := by decide +kernel
theorem dX12_readBack_101 : decode cX12_readBack 101 = .ok (.invokevirtual 86, 3) := by decide +kernel
theorem dX12_readBack_104 : decode cX12_readBack 104 = .ok (.if_icmp .ne 7, 3) := by decide +kernel
theorem dX12_readBack_107 : decode cX12_readBack 107 = .ok (.iconst 1, 1) := by decide +kernel
theorem dX12_readBack_108 : decode cX12_readBack 108 = .ok (.goto 4, 3) := by decide +kernel
theorem dX12_readBack_111 : decode cX12_readBack 111 = .ok (.iconst 0, 1) := by decide +kernel
theorem dX12_readBack_112 : decode cX12_readBack 112 = .ok (.istore 8, 2) := by decide +kernel
theorem dX12_readBack_114 : decode cX12_readBack 114 = .ok (.iinc 9 1, 3) := by decide +kernel
theorem dX12_readBack_117 : decode cX12_readBack 117 = .ok (.goto (-39), 3) := by decide +kernel
theorem dX12_readBack_120 : decode cX12_readBack 120 = .ok (.iload 8, 2) := by decide +kernel
theorem dX12_readBack_122 : decode cX12_readBack 122 = .ok (.ifCond .ne 6, 3) := by decide +kernel
theorem dX12_readBack_125 : decode cX12_readBack 125 = .ok (.goto 19, 3) := by decide +kernel
theorem dX12_readBack_128 : decode cX12_readBack 128 = .ok (.iload 6, 2) := by decide +kernel
theorem dX12_readBack_130 : decode cX12_readBack 130 = .ok (.iload 4, 2) := by decide +kernel
theorem dX12_readBack_132 : decode cX12_readBack 132 = .ok (.if_icmp .ne 9, 3) := by decide +kernel
theorem dX12_readBack_135 : decode cX12_readBack 135 = .ok (.iload 7, 2) := by decide +kernel
theorem dX12_readBack_137 : decode cX12_readBack 137 = .ok (.bipush 8, 2) := by decide +kernel
theorem dX12_readBack_139 : decode cX12_readBack 139 = .ok (.iadd, 1) := by decide +kernel
theorem dX12_readBack_140 : decode cX12_readBack 140 = .ok (.ireturn, 1) := by decide +kernel
theorem dX12_readBack_141 : decode cX12_readBack 141 = .ok (.iinc 6 1, 3) := by decide +kernel
theorem dX12_readBack_144 : decode cX12_readBack 144 = .ok (.iinc 7 1, 3) := by decide +kernel
theorem dX12_readBack_147 : decode cX12_readBack 147 = .ok (.goto (-90), 3) := by decide +kernel
theorem dX12_readBack_150 : decode cX12_readBack 150 = .ok (.iload 4, 2) := by decide +kernel
theorem dX12_readBack_152 : decode cX12_readBack 152 = .ok (.ifCond .ge 8, 3) := by decide +kernel
theorem dX12_readBack_155 : decode cX12_readBack 155 = .ok (.iload 6, 2) := by decide +kernel
theorem dX12_readBack_157 : decode cX12_readBack 157 = .ok (.goto 5, 3) := by decide +kernel
theorem dX12_readBack_160 : decode cX12_readBack 160 = .ok (.bipush (-4), 2) := by decide +kernel
theorem dX12_readBack_162 : decode cX12_readBack 162 = .ok (.ireturn, 1) := by decide +kernel
theorem dX12_image_0 : decode cX12_image 0 = .ok (.iconst 0, 1) := by decide +kernel
theorem dX12_image_1 : decode cX12_image 1 = .ok (.istore_n 1, 1) := by decide +kernel
theorem dX12_image_2 : decode cX12_image 2 = .ok (.iload_n 1, 1) := by decide +kernel
theorem dX12_image_3 : decode cX12_image 3 = .ok (.sipush 1744, 3) := by decide +kernel
theorem dX12_image_6 : decode cX12_image 6 = .ok (.if_icmp .ge 21, 3) := by decide +kernel
theorem dX12_image_9 : decode cX12_image 9 = .ok (.aload_n 0, 1) := by decide +kernel
theorem dX12_image_10 : decode cX12_image 10 = .ok (.getfield 16, 3) := by decide +kernel
theorem dX12_image_13 : decode cX12_image 13 = .ok (.iload_n 1, 1) := by decide +kernel
theorem dX12_image_14 : decode cX12_image 14 = .ok (.aload_n 0, 1) := by decide +kernel
theorem dX12_image_15 : decode cX12_image 15 = .ok (.getfield 13, 3) := by decide +kernel
theorem dX12_image_18 : decode cX12_image 18 = .ok (.iload_n 1, 1) := by decide +kernel
theorem dX12_image_19 : decode cX12_image 19 = .ok (.iaload, 1) := by decide +kernel
theorem dX12_image_20 : decode cX12_image 20 = .ok (.iastore, 1) := by decide +kernel
theorem dX12_image_21 : decode cX12_image 21 = .ok (.iinc 1 1, 3) := by decide +kernel
theorem dX12_image_24 : decode cX12_image 24 = .ok (.goto (-22), 3) := by decide +kernel
theorem dX12_image_27 : decode cX12_image 27 = .ok (.aload_n 0, 1) := by decide +kernel
theorem dX12_image_28 : decode cX12_image 28 = .ok (.iconst 1, 1) := by decide +kernel
theorem dX12_image_29 : decode cX12_image 29 = .ok (.putfield 345, 3) := by decide +kernel
theorem dX12_image_32 : decode cX12_image 32 = .ok (.aload_n 0, 1) := by decide +kernel
theorem dX12_image_33 : decode cX12_image 33 = .ok (.getfield 13, 3) := by decide +kernel
theorem dX12_image_36 : decode cX12_image 36 = .ok (.sipush 1740, 3) := by decide +kernel
theorem dX12_image_39 : decode cX12_image 39 = .ok (.iaload, 1) := by decide +kernel
theorem dX12_image_40 : decode cX12_image 40 = .ok (.ireturn, 1) := by decide +kernel
theorem dX12_restore_0 : decode cX12_restore 0 = .ok (.aload_n 0, 1) := by decide +kernel
theorem dX12_restore_1 : decode cX12_restore 1 = .ok (.getfield 345, 3) := by decide +kernel
theorem dX12_restore_4 : decode cX12_restore 4 = .ok (.ifCond .ne 6, 3) := by decide +kernel
theorem dX12_restore_7 : decode cX12_restore 7 = .ok (.bipush (-3), 2) := by decide +kernel
theorem dX12_restore_9 : decode cX12_restore 9 = .ok (.ireturn, 1) := by decide +kernel
theorem dX12_restore_10 : decode cX12_restore 10 = .ok (.iconst 0, 1) := by decide +kernel
theorem dX12_restore_11 : decode cX12_restore 11 = .ok (.istore_n 1, 1) := by decide +kernel
theorem dX12_restore_12 : decode cX12_restore 12 = .ok (.iload_n 1, 1) := by decide +kernel
theorem dX12_restore_13 : decode cX12_restore 13 = .ok (.sipush 1744, 3) := by decide +kernel
theorem dX12_restore_16 : decode cX12_restore 16 = .ok (.if_icmp .ge 21, 3) := by decide +kernel
theorem dX12_restore_19 : decode cX12_restore 19 = .ok (.aload_n 0, 1) := by decide +kernel
theorem dX12_restore_20 : decode cX12_restore 20 = .ok (.getfield 13, 3) := by decide +kernel
theorem dX12_restore_23 : decode cX12_restore 23 = .ok (.iload_n 1, 1) := by decide +kernel
theorem dX12_restore_24 : decode cX12_restore 24 = .ok (.aload_n 0, 1) := by decide +kernel
theorem dX12_restore_25 : decode cX12_restore 25 = .ok (.getfield 16, 3) := by decide +kernel
theorem dX12_restore_28 : decode cX12_restore 28 = .ok (.iload_n 1, 1) := by decide +kernel
theorem dX12_restore_29 : decode cX12_restore 29 = .ok (.iaload, 1) := by decide +kernel
theorem dX12_restore_30 : decode cX12_restore 30 = .ok (.iastore, 1) := by decide +kernel
theorem dX12_restore_31 : decode cX12_restore 31 = .ok (.iinc 1 1, 3) := by decide +kernel
theorem dX12_restore_34 : decode cX12_restore 34 = .ok (.goto (-22), 3) := by decide +kernel
theorem dX12_restore_37 : decode cX12_restore 37 = .ok (.aload_n 0, 1) := by decide +kernel
theorem dX12_restore_38 : decode cX12_restore 38 = .ok (.getfield 13, 3) := by decide +kernel
theorem dX12_restore_41 : decode cX12_restore 41 = .ok (.sipush 1740, 3) := by decide +kernel
theorem dX12_restore_44 : decode cX12_restore 44 = .ok (.iaload, 1) := by decide +kernel
theorem dX12_restore_45 : decode cX12_restore 45 = .ok (.ireturn, 1) := by decide +kernel
theorem dX12_count_0 : decode cX12_count 0 = .ok (.iconst 0, 1) := by decide +kernel
theorem dX12_count_1 : decode cX12_count 1 = .ok (.istore_n 2, 1) := by decide +kernel
theorem dX12_count_2 : decode cX12_count 2 = .ok (.iload_n 1, 1) := by decide +kernel
theorem dX12_count_3 : decode cX12_count 3 = .ok (.tableswitch 207 0 6 #[41, 50, 59, 68, 77, 77, 147], 41) := by decide +kernel
theorem dX12_count_44 : decode cX12_count 44 = .ok (.aload_n 0, 1) := by decide +kernel
theorem dX12_count_45 : decode cX12_count 45 = .ok (.getfield 13, 3) := by decide +kernel
theorem dX12_count_48 : decode cX12_count 48 = .ok (.sipush 1740, 3) := by decide +kernel
theorem dX12_count_51 : decode cX12_count 51 = .ok (.iaload, 1) := by decide +kernel
theorem dX12_count_52 : decode cX12_count 52 = .ok (.ireturn, 1) := by decide +kernel
theorem dX12_count_53 : decode cX12_count 53 = .ok (.aload_n 0, 1) := by decide +kernel
theorem dX12_count_54 : decode cX12_count 54 = .ok (.getfield 13, 3) := by decide +kernel
theorem dX12_count_57 : decode cX12_count 57 = .ok (.sipush 1741, 3) := by decide +kernel
theorem dX12_count_60 : decode cX12_count 60 = .ok (.iaload, 1) := by decide +kernel
theorem dX12_count_61 : decode cX12_count 61 = .ok (.ireturn, 1) := by decide +kernel
theorem dX12_count_62 : decode cX12_count 62 = .ok (.aload_n 0, 1) := by decide +kernel
theorem dX12_count_63 : decode cX12_count 63 = .ok (.getfield 13, 3) := by decide +kernel
theorem dX12_count_66 : decode cX12_count 66 = .ok (.sipush 1742, 3) := by decide +kernel
theorem dX12_count_69 : decode cX12_count 69 = .ok (.iaload, 1) := by decide +kernel
theorem dX12_count_70 : decode cX12_count 70 = .ok (.ireturn, 1) := by decide +kernel
theorem dX12_count_71 : decode cX12_count 71 = .ok (.aload_n 0, 1) := by decide +kernel
theorem dX12_count_72 : decode cX12_count 72 = .ok (.getfield 13, 3) := by decide +kernel
theorem dX12_count_75 : decode cX12_count 75 = .ok (.sipush 1743, 3) := by decide +kernel
theorem dX12_count_78 : decode cX12_count 78 = .ok (.iaload, 1) := by decide +kernel
theorem dX12_count_79 : decode cX12_count 79 = .ok (.ireturn, 1) := by decide +kernel
theorem dX12_count_80 : decode cX12_count 80 = .ok (.iconst 0, 1) := by decide +kernel
theorem dX12_count_81 : decode cX12_count 81 = .ok (.istore_n 3, 1) := by decide +kernel
theorem dX12_count_82 : decode cX12_count 82 = .ok (.iload_n 3, 1) := by decide +kernel
theorem dX12_count_83 : decode cX12_count 83 = .ok (.aload_n 0, 1) := by decide +kernel
theorem dX12_count_84 : decode cX12_count 84 = .ok (.getfield 13, 3) := by decide +kernel
theorem dX12_count_87 : decode cX12_count 87 = .ok (.sipush 1740, 3) := by decide +kernel
theorem dX12_count_90 : decode cX12_count 90 = .ok (.iaload, 1) := by decide +kernel
theorem dX12_count_91 : decode cX12_count 91 = .ok (.if_icmp .ge 57, 3) := by decide +kernel
theorem dX12_count_94 : decode cX12_count 94 = .ok (.iload_n 2, 1) := by decide +kernel
theorem dX12_count_95 : decode cX12_count 95 = .ok (.iload_n 1, 1) := by decide +kernel
theorem dX12_count_96 : decode cX12_count 96 = .ok (.iconst 4, 1) := by decide +kernel
theorem dX12_count_97 : decode cX12_count 97 = .ok (.if_icmp .ne 11, 3) := by decide +kernel
theorem dX12_count_100 : decode cX12_count 100 = .ok (.aload_n 0, 1) := by decide +kernel
theorem dX12_count_101 : decode cX12_count 101 = .ok (.iload_n 3, 1) := by decide +kernel
theorem dX12_count_102 : decode cX12_count 102 = .ok (.invokevirtual 83, 3) := by decide +kernel
theorem dX12_count_105 : decode cX12_count 105 = .ok (.goto 4, 3) := by decide +kernel
theorem dX12_count_108 : decode cX12_count 108 = .ok (.iconst 0, 1) := by decide +kernel
theorem dX12_count_109 : decode cX12_count 109 = .ok (.iadd, 1) := by decide +kernel
theorem dX12_count_110 : decode cX12_count 110 = .ok (.istore_n 2, 1) := by decide +kernel
theorem dX12_count_111 : decode cX12_count 111 = .ok (.iconst 0, 1) := by decide +kernel
theorem dX12_count_112 : decode cX12_count 112 = .ok (.istore 4, 2) := by decide +kernel
theorem dX12_count_114 : decode cX12_count 114 = .ok (.iload 4, 2) := by decide +kernel
theorem dX12_count_116 : decode cX12_count 116 = .ok (.bipush 16, 2) := by decide +kernel
theorem dX12_count_118 : decode cX12_count 118 = .ok (.if_icmp .ge 24, 3) := by decide +kernel
theorem dX12_count_121 : decode cX12_count 121 = .ok (.iload_n 1, 1) := by decide +kernel
theorem dX12_count_122 : decode cX12_count 122 = .ok (.iconst 5, 1) := by decide +kernel
theorem dX12_count_123 : decode cX12_count 123 = .ok (.if_icmp .ne 19, 3) := by decide +kernel
theorem dX12_count_126 : decode cX12_count 126 = .ok (.iload_n 2, 1) := by decide +kernel
theorem dX12_count_127 : decode cX12_count 127 = .ok (.aload_n 0, 1) := by decide +kernel
theorem dX12_count_128 : decode cX12_count 128 = .ok (.iload_n 3, 1) := by decide +kernel
theorem dX12_count_129 : decode cX12_count 129 = .ok (.iload 4, 2) := by decide +kernel
theorem dX12_count_131 : decode cX12_count 131 = .ok (.invokevirtual 86, 3) := by decide +kernel
theorem dX12_count_134 : decode cX12_count 134 = .ok (.iadd, 1) := by decide +kernel
theorem dX12_count_135 : decode cX12_count 135 = .ok (.istore_n 2, 1) := by decide +kernel
theorem dX12_count_136 : decode cX12_count 136 = .ok (.iinc 4 1, 3) := by decide +kernel
theorem dX12_count_139 : decode cX12_count 139 = .ok (.goto (-25), 3) := by decide +kernel
theorem dX12_count_142 : decode cX12_count 142 = .ok (.iinc 3 1, 3) := by decide +kernel
theorem dX12_count_145 : decode cX12_count 145 = .ok (.goto (-63), 3) := by decide +kernel
theorem dX12_count_148 : decode cX12_count 148 = .ok (.iload_n 2, 1) := by decide +kernel
theorem dX12_count_149 : decode cX12_count 149 = .ok (.ireturn, 1) := by decide +kernel
theorem dX12_count_150 : decode cX12_count 150 = .ok (.aload_n 0, 1) := by decide +kernel
theorem dX12_count_151 : decode cX12_count 151 = .ok (.invokevirtual 191, 3) := by decide +kernel
theorem dX12_count_154 : decode cX12_count 154 = .ok (.iconst 0, 1) := by decide +kernel
theorem dX12_count_155 : decode cX12_count 155 = .ok (.istore_n 3, 1) := by decide +kernel
theorem dX12_count_156 : decode cX12_count 156 = .ok (.iload_n 3, 1) := by decide +kernel
theorem dX12_count_157 : decode cX12_count 157 = .ok (.bipush 8, 2) := by decide +kernel
theorem dX12_count_159 : decode cX12_count 159 = .ok (.if_icmp .ge 49, 3) := by decide +kernel
theorem dX12_count_162 : decode cX12_count 162 = .ok (.aload_n 0, 1) := by decide +kernel
theorem dX12_count_163 : decode cX12_count 163 = .ok (.getfield 56, 3) := by decide +kernel
theorem dX12_count_166 : decode cX12_count 166 = .ok (.iconst 0, 1) := by decide +kernel
theorem dX12_count_167 : decode cX12_count 167 = .ok (.baload, 1) := by decide +kernel
theorem dX12_count_168 : decode cX12_count 168 = .ok (.ifCond .ne 40, 3) := by decide +kernel
theorem dX12_count_171 : decode cX12_count 171 = .ok (.iload_n 2, 1) := by decide +kernel
theorem dX12_count_172 : decode cX12_count 172 = .ok (.aload_n 0, 1) := by decide +kernel
theorem dX12_count_173 : decode cX12_count 173 = .ok (.getfield 46, 3) := by decide +kernel
theorem dX12_count_176 : decode cX12_count 176 = .ok (.iload_n 3, 1) := by decide +kernel
theorem dX12_count_177 : decode cX12_count 177 = .ok (.iaload, 1) := by decide +kernel
theorem dX12_count_178 : decode cX12_count 178 = .ok (.ifCond .eq 17, 3) := by decide +kernel
theorem dX12_count_181 : decode cX12_count 181 = .ok (.aload_n 0, 1) := by decide +kernel
theorem dX12_count_182 : decode cX12_count 182 = .ok (.getfield 56, 3) := by decide +kernel
theorem dX12_count_185 : decode cX12_count 185 = .ok (.aload_n 0, 1) := by decide +kernel
theorem dX12_count_186 : decode cX12_count 186 = .ok (.getfield 46, 3) := by decide +kernel
theorem dX12_count_189 : decode cX12_count 189 = .ok (.iload_n 3, 1) := by decide +kernel
theorem dX12_count_190 : decode cX12_count 190 = .ok (.iaload, 1) := by decide +kernel
theorem dX12_count_191 : decode cX12_count 191 = .ok (.baload, 1) := by decide +kernel
theorem dX12_count_192 : decode cX12_count 192 = .ok (.ifCond .eq 7, 3) := by decide +kernel
theorem dX12_count_195 : decode cX12_count 195 = .ok (.iconst 1, 1) := by decide +kernel
theorem dX12_count_196 : decode cX12_count 196 = .ok (.goto 4, 3) := by decide +kernel
theorem dX12_count_199 : decode cX12_count 199 = .ok (.iconst 0, 1) := by decide +kernel
theorem dX12_count_200 : decode cX12_count 200 = .ok (.iadd, 1) := by decide +kernel
theorem dX12_count_201 : decode cX12_count 201 = .ok (.istore_n 2, 1) := by decide +kernel
theorem dX12_count_202 : decode cX12_count 202 = .ok (.iinc 3 1, 3) := by decide +kernel
theorem dX12_count_205 : decode cX12_count 205 = .ok (.goto (-49), 3) := by decide +kernel
theorem dX12_count_208 : decode cX12_count 208 = .ok (.iload_n 2, 1) := by decide +kernel
theorem dX12_count_209 : decode cX12_count 209 = .ok (.ireturn, 1) := by decide +kernel
theorem dX12_count_210 : decode cX12_count 210 = .ok (.iconst (-1), 1) := by decide +kernel
theorem dX12_count_211 : decode cX12_count 211 = .ok (.ireturn, 1) := by decide +kernel
theorem dX12_keep_0 : decode cX12_keep 0 = .ok (.iload_n 1, 1) := by decide +kernel
theorem dX12_keep_1 : decode cX12_keep 1 = .ok (.invokestatic 127, 3) := by decide +kernel
theorem dX12_keep_4 : decode cX12_keep 4 = .ok (.ifCond .eq 26, 3) := by decide +kernel
theorem dX12_keep_7 : decode cX12_keep 7 = .ok (.iload_n 2, 1) := by decide +kernel
theorem dX12_keep_8 : decode cX12_keep 8 = .ok (.i2l, 1) := by decide +kernel
theorem dX12_keep_9 : decode cX12_keep 9 = .ok (.lconst 0, 1) := by decide +kernel
theorem dX12_keep_10 : decode cX12_keep 10 = .ok (.lconst 1, 1) := by decide +kernel
theorem dX12_keep_11 : decode cX12_keep 11 = .ok (.invokestatic 73, 3) := by decide +kernel
theorem dX12_keep_14 : decode cX12_keep 14 = .ok (.ifCond .eq 16, 3) := by decide +kernel
theorem dX12_keep_17 : decode cX12_keep 17 = .ok (.iload_n 2, 1) := by decide +kernel
theorem dX12_keep_18 : decode cX12_keep 18 = .ok (.iconst 1, 1) := by decide +kernel
theorem dX12_keep_19 : decode cX12_keep 19 = .ok (.if_icmp .ne 13, 3) := by decide +kernel
theorem dX12_keep_22 : decode cX12_keep 22 = .ok (.aload_n 0, 1) := by decide +kernel
theorem dX12_keep_23 : decode cX12_keep 23 = .ok (.iload_n 3, 1) := by decide +kernel
theorem dX12_keep_24 : decode cX12_keep 24 = .ok (.invokevirtual 121, 3) := by decide +kernel
theorem dX12_keep_27 : decode cX12_keep 27 = .ok (.ifCond .ne 5, 3) := by decide +kernel
theorem dX12_keep_30 : decode cX12_keep 30 = .ok (.iconst (-1), 1) := by decide +kernel
theorem dX12_keep_31 : decode cX12_keep 31 = .ok (.ireturn, 1) := by decide +kernel
theorem dX12_keep_32 : decode cX12_keep 32 = .ok (.aload_n 0, 1) := by decide +kernel
theorem dX12_keep_33 : decode cX12_keep 33 = .ok (.getfield 22, 3) := by decide +kernel
theorem dX12_keep_36 : decode cX12_keep 36 = .ok (.iload_n 1, 1) := by decide +kernel
theorem dX12_keep_37 : decode cX12_keep 37 = .ok (.iload_n 2, 1) := by decide +kernel
theorem dX12_keep_38 : decode cX12_keep 38 = .ok (.iastore, 1) := by decide +kernel
theorem dX12_keep_39 : decode cX12_keep 39 = .ok (.iload_n 2, 1) := by decide +kernel
theorem dX12_keep_40 : decode cX12_keep 40 = .ok (.ifCond .ne 5, 3) := by decide +kernel
theorem dX12_keep_43 : decode cX12_keep 43 = .ok (.iconst 0, 1) := by decide +kernel
theorem dX12_keep_44 : decode cX12_keep 44 = .ok (.ireturn, 1) := by decide +kernel
theorem dX12_keep_45 : decode cX12_keep 45 = .ok (.aload_n 0, 1) := by decide +kernel
theorem dX12_keep_46 : decode cX12_keep 46 = .ok (.iload_n 3, 1) := by decide +kernel
theorem dX12_keep_47 : decode cX12_keep 47 = .ok (.invokevirtual 79, 3) := by decide +kernel
theorem dX12_keep_50 : decode cX12_keep 50 = .ok (.istore 4, 2) := by decide +kernel
theorem dX12_keep_52 : decode cX12_keep 52 = .ok (.bipush 100, 2) := by decide +kernel
theorem dX12_keep_54 : decode cX12_keep 54 = .ok (.aload_n 0, 1) := by decide +kernel
theorem dX12_keep_55 : decode cX12_keep 55 = .ok (.iload_n 3, 1) := by decide +kernel
theorem dX12_keep_56 : decode cX12_keep 56 = .ok (.invokevirtual 83, 3) := by decide +kernel
theorem dX12_keep_59 : decode cX12_keep 59 = .ok (.iadd, 1) := by decide +kernel
theorem dX12_keep_60 : decode cX12_keep 60 = .ok (.aload_n 0, 1) := by decide +kernel
theorem dX12_keep_61 : decode cX12_keep 61 = .ok (.iload_n 3, 1) := by decide +kernel
theorem dX12_keep_62 : decode cX12_keep 62 = .ok (.invokevirtual 149, 3) := by decide +kernel
theorem dX12_keep_65 : decode cX12_keep 65 = .ok (.iadd, 1) := by decide +kernel
theorem dX12_keep_66 : decode cX12_keep 66 = .ok (.iload 4, 2) := by decide +kernel
theorem dX12_keep_68 : decode cX12_keep 68 = .ok (.ifCond .ne 7, 3) := by decide +kernel
theorem dX12_keep_71 : decode cX12_keep 71 = .ok (.iconst 0, 1) := by decide +kernel
theorem dX12_keep_72 : decode cX12_keep 72 = .ok (.goto 24, 3) := by decide +kernel
theorem dX12_keep_75 : decode cX12_keep 75 = .ok (.iload 4, 2) := by decide +kernel
theorem dX12_keep_77 : decode cX12_keep 77 = .ok (.iconst 4, 1) := by decide +kernel
theorem dX12_keep_78 : decode cX12_keep 78 = .ok (.if_icmp .ne 13, 3) := by decide +kernel
theorem dX12_keep_81 : decode cX12_keep 81 = .ok (.aload_n 0, 1) := by decide +kernel
theorem dX12_keep_82 : decode cX12_keep 82 = .ok (.iload_n 3, 1) := by decide +kernel
theorem dX12_keep_83 : decode cX12_keep 83 = .ok (.bipush 15, 2) := by decide +kernel
theorem dX12_keep_85 : decode cX12_keep 85 = .ok (.invokevirtual 86, 3) := by decide +kernel
theorem dX12_keep_88 : decode cX12_keep 88 = .ok (.goto 8, 3) := by decide +kernel
theorem dX12_keep_91 : decode cX12_keep 91 = .ok (.aload_n 0, 1) := by decide +kernel
theorem dX12_keep_92 : decode cX12_keep 92 = .ok (.iload_n 3, 1) := by decide +kernel
theorem dX12_keep_93 : decode cX12_keep 93 = .ok (.invokevirtual 155, 3) := by decide +kernel
theorem dX12_keep_96 : decode cX12_keep 96 = .ok (.iadd, 1) := by decide +kernel
theorem dX12_keep_97 : decode cX12_keep 97 = .ok (.istore 5, 2) := by decide +kernel
theorem dX12_keep_99 : decode cX12_keep 99 = .ok (.aload_n 0, 1) := by decide +kernel
theorem dX12_keep_100 : decode cX12_keep 100 = .ok (.getfield 34, 3) := by decide +kernel
theorem dX12_keep_103 : decode cX12_keep 103 = .ok (.iload_n 1, 1) := by decide +kernel
theorem dX12_keep_104 : decode cX12_keep 104 = .ok (.iload 4, 2) := by decide +kernel
theorem dX12_keep_106 : decode cX12_keep 106 = .ok (.iconst 3, 1) := by decide +kernel
theorem dX12_keep_107 : decode cX12_keep 107 = .ok (.if_icmp .ne 10, 3) := by decide +kernel
theorem dX12_keep_110 : decode cX12_keep 110 = .ok (.iconst 2, 1) := by decide +kernel
theorem dX12_keep_111 : decode cX12_keep 111 = .ok (.iload 5, 2) := by decide +kernel
theorem dX12_keep_113 : decode cX12_keep 113 = .ok (.imul, 1) := by decide +kernel
theorem dX12_keep_114 : decode cX12_keep 114 = .ok (.goto 5, 3) := by decide +kernel
theorem dX12_keep_117 : decode cX12_keep 117 = .ok (.iload 5, 2) := by decide +kernel
theorem dX12_keep_119 : decode cX12_keep 119 = .ok (.iastore, 1) := by decide +kernel
theorem dX12_keep_120 : decode cX12_keep 120 = .ok (.aload_n 0, 1) := by decide +kernel
theorem dX12_keep_121 : decode cX12_keep 121 = .ok (.getfield 37, 3) := by decide +kernel
theorem dX12_keep_124 : decode cX12_keep 124 = .ok (.iload_n 1, 1) := by decide +kernel
theorem dX12_keep_125 : decode cX12_keep 125 = .ok (.iload 4, 2) := by decide +kernel
theorem dX12_keep_127 : decode cX12_keep 127 = .ok (.iconst 4, 1) := by decide +kernel
theorem dX12_keep_128 : decode cX12_keep 128 = .ok (.if_icmp .eq 19, 3) := by decide +kernel
theorem dX12_keep_131 : decode cX12_keep 131 = .ok (.iload 4, 2) := by decide +kernel
theorem dX12_keep_133 : decode cX12_keep 133 = .ok (.iconst 3, 1) := by decide +kernel
theorem dX12_keep_134 : decode cX12_keep 134 = .ok (.if_icmp .ne 18, 3) := by decide +kernel
theorem dX12_keep_137 : decode cX12_keep 137 = .ok (.aload_n 0, 1) := by decide +kernel
theorem dX12_keep_138 : decode cX12_keep 138 = .ok (.iload_n 3, 1) := by decide +kernel
theorem dX12_keep_139 : decode cX12_keep 139 = .ok (.invokevirtual 155, 3) := by decide +kernel
theorem dX12_keep_142 : decode cX12_keep 142 = .ok (.bipush 31, 2) := by decide +kernel
theorem dX12_keep_144 : decode cX12_keep 144 = .ok (.if_icmp .ne 8, 3) := by decide +kernel
theorem dX12_keep_147 : decode cX12_keep 147 = .ok (.bipush (-15), 2) := by decide +kernel
theorem dX12_keep_149 : decode cX12_keep 149 = .ok (.goto 23, 3) := by decide +kernel
theorem dX12_keep_152 : decode cX12_keep 152 = .ok (.iload 4, 2) := by decide +kernel
theorem dX12_keep_154 : decode cX12_keep 154 = .ok (.iconst 2, 1) := by decide +kernel
theorem dX12_keep_155 : decode cX12_keep 155 = .ok (.if_icmp .ne 16, 3) := by decide +kernel
theorem dX12_keep_158 : decode cX12_keep 158 = .ok (.iload_n 3, 1) := by decide +kernel
theorem dX12_keep_159 : decode cX12_keep 159 = .ok (.bipush 100, 2) := by decide +kernel
theorem dX12_keep_161 : decode cX12_keep 161 = .ok (.iadd, 1) := by decide +kernel
theorem dX12_keep_162 : decode cX12_keep 162 = .ok (.aload_n 0, 1) := by decide +kernel
theorem dX12_keep_163 : decode cX12_keep 163 = .ok (.iload_n 3, 1) := by decide +kernel
theorem dX12_keep_164 : decode cX12_keep 164 = .ok (.invokevirtual 155, 3) := by decide +kernel
theorem dX12_keep_167 : decode cX12_keep 167 = .ok (.iadd, 1) := by decide +kernel
theorem dX12_keep_168 : decode cX12_keep 168 = .ok (.goto 4, 3) := by decide +kernel
theorem dX12_keep_171 : decode cX12_keep 171 = .ok (.iload_n 3, 1) := by decide +kernel
theorem dX12_keep_172 : decode cX12_keep 172 = .ok (.iastore, 1) := by decide +kernel
theorem dX12_keep_173 : decode cX12_keep 173 = .ok (.iconst 0, 1) := by decide +kernel
theorem dX12_keep_174 : decode cX12_keep 174 = .ok (.ireturn, 1) := by decide +kernel
theorem dX12_row_0 : decode cX12_row 0 = .ok (.iload_n 1, 1) := by decide +kernel
theorem dX12_row_1 : decode cX12_row 1 = .ok (.invokestatic 127, 3) := by decide +kernel
theorem dX12_row_4 : decode cX12_row 4 = .ok (.ifCond .eq 21, 3) := by decide +kernel
theorem dX12_row_7 : decode cX12_row 7 = .ok (.iload_n 2, 1) := by decide +kernel
theorem dX12_row_8 : decode cX12_row 8 = .ok (.i2l, 1) := by decide +kernel
theorem dX12_row_9 : decode cX12_row 9 = .ok (.lconst 0, 1) := by decide +kernel
theorem dX12_row_10 : decode cX12_row 10 = .ok (.ldc2_w 166, 3) := by decide +kernel
theorem dX12_row_13 : decode cX12_row 13 = .ok (.invokestatic 73, 3) := by decide +kernel
theorem dX12_row_16 : decode cX12_row 16 = .ok (.ifCond .eq 9, 3) := by decide +kernel
theorem dX12_row_19 : decode cX12_row 19 = .ok (.iload_n 3, 1) := by decide +kernel
theorem dX12_row_20 : decode cX12_row 20 = .ok (.bipush 120, 2) := by decide +kernel
theorem dX12_row_22 : decode cX12_row 22 = .ok (.if_icmp .le 5, 3) := by decide +kernel
theorem dX12_row_25 : decode cX12_row 25 = .ok (.iconst (-1), 1) := by decide +kernel
theorem dX12_row_26 : decode cX12_row 26 = .ok (.ireturn, 1) := by decide +kernel
theorem dX12_row_27 : decode cX12_row 27 = .ok (.iload_n 3, 1) := by decide +kernel
theorem dX12_row_28 : decode cX12_row 28 = .ok (.ifCond .ge 6, 3) := by decide +kernel
theorem dX12_row_31 : decode cX12_row 31 = .ok (.bipush (-14), 2) := by decide +kernel
theorem dX12_row_33 : decode cX12_row 33 = .ok (.ireturn, 1) := by decide +kernel
theorem dX12_row_34 : decode cX12_row 34 = .ok (.aload_n 0, 1) := by decide +kernel
theorem dX12_row_35 : decode cX12_row 35 = .ok (.getfield 22, 3) := by decide +kernel
theorem dX12_row_38 : decode cX12_row 38 = .ok (.iload_n 1, 1) := by decide +kernel
theorem dX12_row_39 : decode cX12_row 39 = .ok (.iconst 2, 1) := by decide +kernel
theorem dX12_row_40 : decode cX12_row 40 = .ok (.iastore, 1) := by decide +kernel
theorem dX12_row_41 : decode cX12_row 41 = .ok (.aload_n 0, 1) := by decide +kernel
theorem dX12_row_42 : decode cX12_row 42 = .ok (.getfield 25, 3) := by decide +kernel
theorem dX12_row_45 : decode cX12_row 45 = .ok (.iload_n 1, 1) := by decide +kernel
theorem dX12_row_46 : decode cX12_row 46 = .ok (.iload_n 2, 1) := by decide +kernel
theorem dX12_row_47 : decode cX12_row 47 = .ok (.iastore, 1) := by decide +kernel
theorem dX12_row_48 : decode cX12_row 48 = .ok (.aload_n 0, 1) := by decide +kernel
theorem dX12_row_49 : decode cX12_row 49 = .ok (.getfield 28, 3) := by decide +kernel
theorem dX12_row_52 : decode cX12_row 52 = .ok (.iload_n 1, 1) := by decide +kernel
theorem dX12_row_53 : decode cX12_row 53 = .ok (.iload_n 3, 1) := by decide +kernel
theorem dX12_row_54 : decode cX12_row 54 = .ok (.iastore, 1) := by decide +kernel
theorem dX12_row_55 : decode cX12_row 55 = .ok (.iconst 0, 1) := by decide +kernel
theorem dX12_row_56 : decode cX12_row 56 = .ok (.istore 4, 2) := by decide +kernel
theorem dX12_row_58 : decode cX12_row 58 = .ok (.iload 4, 2) := by decide +kernel
theorem dX12_row_60 : decode cX12_row 60 = .ok (.bipush 120, 2) := by decide +kernel
theorem dX12_row_62 : decode cX12_row 62 = .ok (.if_icmp .ge 22, 3) := by decide +kernel
theorem dX12_row_65 : decode cX12_row 65 = .ok (.aload_n 0, 1) := by decide +kernel
theorem dX12_row_66 : decode cX12_row 66 = .ok (.getfield 31, 3) := by decide +kernel
theorem dX12_row_69 : decode cX12_row 69 = .ok (.bipush 120, 2) := by decide +kernel
theorem dX12_row_71 : decode cX12_row 71 = .ok (.iload_n 1, 1) := by decide +kernel
theorem dX12_row_72 : decode cX12_row 72 = .ok (.imul, 1) := by decide +kernel
theorem dX12_row_73 : decode cX12_row 73 = .ok (.iload 4, 2) := by decide +kernel
theorem dX12_row_75 : decode cX12_row 75 = .ok (.iadd, 1) := by decide +kernel
theorem dX12_row_76 : decode cX12_row 76 = .ok (.iconst 0, 1) := by decide +kernel
theorem dX12_row_77 : decode cX12_row 77 = .ok (.iastore, 1) := by decide +kernel
theorem dX12_row_78 : decode cX12_row 78 = .ok (.iinc 4 1, 3) := by decide +kernel
theorem dX12_row_81 : decode cX12_row 81 = .ok (.goto (-23), 3) := by decide +kernel
theorem dX12_row_84 : decode cX12_row 84 = .ok (.iconst 0, 1) := by decide +kernel
theorem dX12_row_85 : decode cX12_row 85 = .ok (.ireturn, 1) := by decide +kernel
theorem dX12_put_0 : decode cX12_put 0 = .ok (.aload_n 0, 1) := by decide +kernel
theorem dX12_put_1 : decode cX12_put 1 = .ok (.iload_n 1, 1) := by decide +kernel
theorem dX12_put_2 : decode cX12_put 2 = .ok (.iconst (-1), 1) := by decide +kernel
theorem dX12_put_3 : decode cX12_put 3 = .ok (.invokevirtual 130, 3) := by decide +kernel
theorem dX12_put_6 : decode cX12_put 6 = .ok (.istore 4, 2) := by decide +kernel
theorem dX12_put_8 : decode cX12_put 8 = .ok (.iload 4, 2) := by decide +kernel
theorem dX12_put_10 : decode cX12_put 10 = .ok (.ifCond .eq 6, 3) := by decide +kernel
theorem dX12_put_13 : decode cX12_put 13 = .ok (.iload 4, 2) := by decide +kernel
theorem dX12_put_15 : decode cX12_put 15 = .ok (.ireturn, 1) := by decide +kernel
theorem dX12_put_16 : decode cX12_put 16 = .ok (.iload_n 2, 1) := by decide +kernel
theorem dX12_put_17 : decode cX12_put 17 = .ok (.i2l, 1) := by decide +kernel
theorem dX12_put_18 : decode cX12_put 18 = .ok (.lconst 0, 1) := by decide +kernel
theorem dX12_put_19 : decode cX12_put 19 = .ok (.aload_n 0, 1) := by decide +kernel
theorem dX12_put_20 : decode cX12_put 20 = .ok (.getfield 28, 3) := by decide +kernel
theorem dX12_put_23 : decode cX12_put 23 = .ok (.iload_n 1, 1) := by decide +kernel
theorem dX12_put_24 : decode cX12_put 24 = .ok (.iaload, 1) := by decide +kernel
theorem dX12_put_25 : decode cX12_put 25 = .ok (.iconst 1, 1) := by decide +kernel
theorem dX12_put_26 : decode cX12_put 26 = .ok (.isub, 1) := by decide +kernel
theorem dX12_put_27 : decode cX12_put 27 = .ok (.i2l, 1) := by decide +kernel
theorem dX12_put_28 : decode cX12_put 28 = .ok (.invokestatic 73, 3) := by decide +kernel
theorem dX12_put_31 : decode cX12_put 31 = .ok (.ifCond .ne 6, 3) := by decide +kernel
theorem dX12_put_34 : decode cX12_put 34 = .ok (.bipush (-13), 2) := by decide +kernel
theorem dX12_put_36 : decode cX12_put 36 = .ok (.ireturn, 1) := by decide +kernel
theorem dX12_put_37 : decode cX12_put 37 = .ok (.aload_n 0, 1) := by decide +kernel
theorem dX12_put_38 : decode cX12_put 38 = .ok (.getfield 31, 3) := by decide +kernel
theorem dX12_put_41 : decode cX12_put 41 = .ok (.bipush 120, 2) := by decide +kernel
theorem dX12_put_43 : decode cX12_put 43 = .ok (.iload_n 1, 1) := by decide +kernel
theorem dX12_put_44 : decode cX12_put 44 = .ok (.imul, 1) := by decide +kernel
theorem dX12_put_45 : decode cX12_put 45 = .ok (.iload_n 2, 1) := by decide +kernel
theorem dX12_put_46 : decode cX12_put 46 = .ok (.iadd, 1) := by decide +kernel
theorem dX12_put_47 : decode cX12_put 47 = .ok (.aload_n 0, 1) := by decide +kernel
theorem dX12_put_48 : decode cX12_put 48 = .ok (.getfield 25, 3) := by decide +kernel
theorem dX12_put_51 : decode cX12_put 51 = .ok (.iload_n 1, 1) := by decide +kernel
theorem dX12_put_52 : decode cX12_put 52 = .ok (.iaload, 1) := by decide +kernel
theorem dX12_put_53 : decode cX12_put 53 = .ok (.ifCond .ne 8, 3) := by decide +kernel
theorem dX12_put_56 : decode cX12_put 56 = .ok (.iload_n 3, 1) := by decide +kernel
theorem dX12_put_57 : decode cX12_put 57 = .ok (.i2b, 1) := by decide +kernel
theorem dX12_put_58 : decode cX12_put 58 = .ok (.goto 19, 3) := by decide +kernel
theorem dX12_put_61 : decode cX12_put 61 = .ok (.aload_n 0, 1) := by decide +kernel
theorem dX12_put_62 : decode cX12_put 62 = .ok (.getfield 25, 3) := by decide +kernel
theorem dX12_put_65 : decode cX12_put 65 = .ok (.iload_n 1, 1) := by decide +kernel
theorem dX12_put_66 : decode cX12_put 66 = .ok (.iaload, 1) := by decide +kernel
theorem dX12_put_67 : decode cX12_put 67 = .ok (.iconst 1, 1) := by decide +kernel
theorem dX12_put_68 : decode cX12_put 68 = .ok (.if_icmp .ne 8, 3) := by decide +kernel
theorem dX12_put_71 : decode cX12_put 71 = .ok (.iload_n 3, 1) := by decide +kernel
theorem dX12_put_72 : decode cX12_put 72 = .ok (.i2s, 1) := by decide +kernel
theorem dX12_put_73 : decode cX12_put 73 = .ok (.goto 4, 3) := by decide +kernel
theorem dX12_put_76 : decode cX12_put 76 = .ok (.iload_n 3, 1) := by decide +kernel
theorem dX12_put_77 : decode cX12_put 77 = .ok (.iastore, 1) := by decide +kernel
theorem dX12_put_78 : decode cX12_put 78 = .ok (.iconst 0, 1) := by decide +kernel
theorem dX12_put_79 : decode cX12_put 79 = .ok (.ireturn, 1) := by decide +kernel
theorem dX12_element_0 : decode cX12_element 0 = .ok (.aload_n 0, 1) := by decide +kernel
theorem dX12_element_1 : decode cX12_element 1 = .ok (.iload_n 1, 1) := by decide +kernel
theorem dX12_element_2 : decode cX12_element 2 = .ok (.invokestatic 127, 3) := by decide +kernel
theorem dX12_element_5 : decode cX12_element 5 = .ok (.ifCond .ne 7, 3) := by decide +kernel
theorem dX12_element_8 : decode cX12_element 8 = .ok (.iconst 1, 1) := by decide +kernel
theorem dX12_element_9 : decode cX12_element 9 = .ok (.goto 36, 3) := by decide +kernel
theorem dX12_element_12 : decode cX12_element 12 = .ok (.aload_n 0, 1) := by decide +kernel
theorem dX12_element_13 : decode cX12_element 13 = .ok (.getfield 22, 3) := by decide +kernel
theorem dX12_element_16 : decode cX12_element 16 = .ok (.iload_n 1, 1) := by decide +kernel
theorem dX12_element_17 : decode cX12_element 17 = .ok (.iaload, 1) := by decide +kernel
theorem dX12_element_18 : decode cX12_element 18 = .ok (.iconst 2, 1) := by decide +kernel
theorem dX12_element_19 : decode cX12_element 19 = .ok (.if_icmp .ne 21, 3) := by decide +kernel
theorem dX12_element_22 : decode cX12_element 22 = .ok (.iload_n 2, 1) := by decide +kernel
theorem dX12_element_23 : decode cX12_element 23 = .ok (.i2l, 1) := by decide +kernel
theorem dX12_element_24 : decode cX12_element 24 = .ok (.lconst 0, 1) := by decide +kernel
theorem dX12_element_25 : decode cX12_element 25 = .ok (.aload_n 0, 1) := by decide +kernel
theorem dX12_element_26 : decode cX12_element 26 = .ok (.getfield 28, 3) := by decide +kernel
theorem dX12_element_29 : decode cX12_element 29 = .ok (.iload_n 1, 1) := by decide +kernel
theorem dX12_element_30 : decode cX12_element 30 = .ok (.iaload, 1) := by decide +kernel
theorem dX12_element_31 : decode cX12_element 31 = .ok (.iconst 1, 1) := by decide +kernel
theorem dX12_element_32 : decode cX12_element 32 = .ok (.isub, 1) := by decide +kernel
theorem dX12_element_33 : decode cX12_element 33 = .ok (.i2l, 1) := by decide +kernel
theorem dX12_element_34 : decode cX12_element 34 = .ok (.invokestatic 73, 3) := by decide +kernel
theorem dX12_element_37 : decode cX12_element 37 = .ok (.ifCond .ne 7, 3) := by decide +kernel
theorem dX12_element_40 : decode cX12_element 40 = .ok (.iconst 2, 1) := by decide +kernel
theorem dX12_element_41 : decode cX12_element 41 = .ok (.goto 4, 3) := by decide +kernel
theorem dX12_element_44 : decode cX12_element 44 = .ok (.iconst 0, 1) := by decide +kernel
theorem dX12_element_45 : decode cX12_element 45 = .ok (.putfield 69, 3) := by decide +kernel
theorem dX12_element_48 : decode cX12_element 48 = .ok (.aload_n 0, 1) := by decide +kernel
theorem dX12_element_49 : decode cX12_element 49 = .ok (.getfield 69, 3) := by decide +kernel
theorem dX12_element_52 : decode cX12_element 52 = .ok (.ifCond .ne 18, 3) := by decide +kernel
theorem dX12_element_55 : decode cX12_element 55 = .ok (.aload_n 0, 1) := by decide +kernel
theorem dX12_element_56 : decode cX12_element 56 = .ok (.getfield 31, 3) := by decide +kernel
theorem dX12_element_59 : decode cX12_element 59 = .ok (.bipush 120, 2) := by decide +kernel
theorem dX12_element_61 : decode cX12_element 61 = .ok (.iload_n 1, 1) := by decide +kernel
theorem dX12_element_62 : decode cX12_element 62 = .ok (.imul, 1) := by decide +kernel
theorem dX12_element_63 : decode cX12_element 63 = .ok (.iload_n 2, 1) := by decide +kernel
theorem dX12_element_64 : decode cX12_element 64 = .ok (.iadd, 1) := by decide +kernel
theorem dX12_element_65 : decode cX12_element 65 = .ok (.iaload, 1) := by decide +kernel
theorem dX12_element_66 : decode cX12_element 66 = .ok (.i2l, 1) := by decide +kernel
theorem dX12_element_67 : decode cX12_element 67 = .ok (.goto 4, 3) := by decide +kernel
theorem dX12_element_70 : decode cX12_element 70 = .ok (.lconst 0, 1) := by decide +kernel
theorem dX12_element_71 : decode cX12_element 71 = .ok (.lreturn, 1) := by decide +kernel
theorem dX12_copy_0 : decode cX12_copy 0 = .ok (.iload_n 1, 1) := by decide +kernel
theorem dX12_copy_1 : decode cX12_copy 1 = .ok (.invokestatic 127, 3) := by decide +kernel
theorem dX12_copy_4 : decode cX12_copy 4 = .ok (.ifCond .eq 10, 3) := by decide +kernel
theorem dX12_copy_7 : decode cX12_copy 7 = .ok (.iload_n 3, 1) := by decide +kernel
theorem dX12_copy_8 : decode cX12_copy 8 = .ok (.invokestatic 127, 3) := by decide +kernel
theorem dX12_copy_11 : decode cX12_copy 11 = .ok (.ifCond .ne 5, 3) := by decide +kernel
theorem dX12_copy_14 : decode cX12_copy 14 = .ok (.iconst (-1), 1) := by decide +kernel
theorem dX12_copy_15 : decode cX12_copy 15 = .ok (.ireturn, 1) := by decide +kernel
theorem dX12_copy_16 : decode cX12_copy 16 = .ok (.aload_n 0, 1) := by decide +kernel
theorem dX12_copy_17 : decode cX12_copy 17 = .ok (.getfield 22, 3) := by decide +kernel
theorem dX12_copy_20 : decode cX12_copy 20 = .ok (.iload_n 1, 1) := by decide +kernel
theorem dX12_copy_21 : decode cX12_copy 21 = .ok (.iaload, 1) := by decide +kernel
theorem dX12_copy_22 : decode cX12_copy 22 = .ok (.ifCond .eq 12, 3) := by decide +kernel
theorem dX12_copy_25 : decode cX12_copy 25 = .ok (.aload_n 0, 1) := by decide +kernel
theorem dX12_copy_26 : decode cX12_copy 26 = .ok (.getfield 22, 3) := by decide +kernel
theorem dX12_copy_29 : decode cX12_copy 29 = .ok (.iload_n 3, 1) := by decide +kernel
theorem dX12_copy_30 : decode cX12_copy 30 = .ok (.iaload, 1) := by decide +kernel
theorem dX12_copy_31 : decode cX12_copy 31 = .ok (.ifCond .ne 6, 3) := by decide +kernel
theorem dX12_copy_34 : decode cX12_copy 34 = .ok (.bipush (-11), 2) := by decide +kernel
theorem dX12_copy_36 : decode cX12_copy 36 = .ok (.ireturn, 1) := by decide +kernel
theorem dX12_copy_37 : decode cX12_copy 37 = .ok (.aload_n 0, 1) := by decide +kernel
theorem dX12_copy_38 : decode cX12_copy 38 = .ok (.getfield 22, 3) := by decide +kernel
theorem dX12_copy_41 : decode cX12_copy 41 = .ok (.iload_n 1, 1) := by decide +kernel
theorem dX12_copy_42 : decode cX12_copy 42 = .ok (.iaload, 1) := by decide +kernel
theorem dX12_copy_43 : decode cX12_copy 43 = .ok (.iconst 2, 1) := by decide +kernel
theorem dX12_copy_44 : decode cX12_copy 44 = .ok (.if_icmp .ne 28, 3) := by decide +kernel
theorem dX12_copy_47 : decode cX12_copy 47 = .ok (.aload_n 0, 1) := by decide +kernel
theorem dX12_copy_48 : decode cX12_copy 48 = .ok (.getfield 22, 3) := by decide +kernel
theorem dX12_copy_51 : decode cX12_copy 51 = .ok (.iload_n 3, 1) := by decide +kernel
theorem dX12_copy_52 : decode cX12_copy 52 = .ok (.iaload, 1) := by decide +kernel
theorem dX12_copy_53 : decode cX12_copy 53 = .ok (.iconst 2, 1) := by decide +kernel
theorem dX12_copy_54 : decode cX12_copy 54 = .ok (.if_icmp .ne 18, 3) := by decide +kernel
theorem dX12_copy_57 : decode cX12_copy 57 = .ok (.aload_n 0, 1) := by decide +kernel
theorem dX12_copy_58 : decode cX12_copy 58 = .ok (.getfield 25, 3) := by decide +kernel
theorem dX12_copy_61 : decode cX12_copy 61 = .ok (.iload_n 1, 1) := by decide +kernel
theorem dX12_copy_62 : decode cX12_copy 62 = .ok (.iaload, 1) := by decide +kernel
theorem dX12_copy_63 : decode cX12_copy 63 = .ok (.aload_n 0, 1) := by decide +kernel
theorem dX12_copy_64 : decode cX12_copy 64 = .ok (.getfield 25, 3) := by decide +kernel
theorem dX12_copy_67 : decode cX12_copy 67 = .ok (.iload_n 3, 1) := by decide +kernel
theorem dX12_copy_68 : decode cX12_copy 68 = .ok (.iaload, 1) := by decide +kernel
theorem dX12_copy_69 : decode cX12_copy 69 = .ok (.if_icmp .eq 6, 3) := by decide +kernel
theorem dX12_copy_72 : decode cX12_copy 72 = .ok (.bipush (-12), 2) := by decide +kernel
theorem dX12_copy_74 : decode cX12_copy 74 = .ok (.ireturn, 1) := by decide +kernel
theorem dX12_copy_75 : decode cX12_copy 75 = .ok (.iload 5, 2) := by decide +kernel
theorem dX12_copy_77 : decode cX12_copy 77 = .ok (.ifCond .lt 39, 3) := by decide +kernel
theorem dX12_copy_80 : decode cX12_copy 80 = .ok (.iload_n 2, 1) := by decide +kernel
theorem dX12_copy_81 : decode cX12_copy 81 = .ok (.ifCond .lt 35, 3) := by decide +kernel
theorem dX12_copy_84 : decode cX12_copy 84 = .ok (.iload 4, 2) := by decide +kernel
theorem dX12_copy_86 : decode cX12_copy 86 = .ok (.ifCond .lt 30, 3) := by decide +kernel
theorem dX12_copy_89 : decode cX12_copy 89 = .ok (.iload 5, 2) := by decide +kernel
theorem dX12_copy_91 : decode cX12_copy 91 = .ok (.aload_n 0, 1) := by decide +kernel
theorem dX12_copy_92 : decode cX12_copy 92 = .ok (.getfield 28, 3) := by decide +kernel
theorem dX12_copy_95 : decode cX12_copy 95 = .ok (.iload_n 1, 1) := by decide +kernel
theorem dX12_copy_96 : decode cX12_copy 96 = .ok (.iaload, 1) := by decide +kernel
theorem dX12_copy_97 : decode cX12_copy 97 = .ok (.iload_n 2, 1) := by decide +kernel
theorem dX12_copy_98 : decode cX12_copy 98 = .ok (.isub, 1) := by decide +kernel
theorem dX12_copy_99 : decode cX12_copy 99 = .ok (.if_icmp .gt 17, 3) := by decide +kernel
theorem dX12_copy_102 : decode cX12_copy 102 = .ok (.iload 5, 2) := by decide +kernel
theorem dX12_copy_104 : decode cX12_copy 104 = .ok (.aload_n 0, 1) := by decide +kernel
theorem dX12_copy_105 : decode cX12_copy 105 = .ok (.getfield 28, 3) := by decide +kernel
theorem dX12_copy_108 : decode cX12_copy 108 = .ok (.iload_n 3, 1) := by decide +kernel
theorem dX12_copy_109 : decode cX12_copy 109 = .ok (.iaload, 1) := by decide +kernel
theorem dX12_copy_110 : decode cX12_copy 110 = .ok (.iload 4, 2) := by decide +kernel
theorem dX12_copy_112 : decode cX12_copy 112 = .ok (.isub, 1) := by decide +kernel
theorem dX12_copy_113 : decode cX12_copy 113 = .ok (.if_icmp .le 6, 3) := by decide +kernel
theorem dX12_copy_116 : decode cX12_copy 116 = .ok (.bipush (-13), 2) := by decide +kernel
theorem dX12_copy_118 : decode cX12_copy 118 = .ok (.ireturn, 1) := by decide +kernel
theorem dX12_copy_119 : decode cX12_copy 119 = .ok (.iconst 0, 1) := by decide +kernel
theorem dX12_copy_120 : decode cX12_copy 120 = .ok (.istore 6, 2) := by decide +kernel
theorem dX12_copy_122 : decode cX12_copy 122 = .ok (.iload 6, 2) := by decide +kernel
theorem dX12_copy_124 : decode cX12_copy 124 = .ok (.iload 5, 2) := by decide +kernel
theorem dX12_copy_126 : decode cX12_copy 126 = .ok (.if_icmp .ge 58, 3) := by decide +kernel
theorem dX12_copy_129 : decode cX12_copy 129 = .ok (.iload_n 2, 1) := by decide +kernel
theorem dX12_copy_130 : decode cX12_copy 130 = .ok (.iload 4, 2) := by decide +kernel
theorem dX12_copy_132 : decode cX12_copy 132 = .ok (.if_icmp .le 8, 3) := by decide +kernel
theorem dX12_copy_135 : decode cX12_copy 135 = .ok (.iload 6, 2) := by decide +kernel
theorem dX12_copy_137 : decode cX12_copy 137 = .ok (.goto 10, 3) := by decide +kernel
theorem dX12_copy_140 : decode cX12_copy 140 = .ok (.iload 5, 2) := by decide +kernel
theorem dX12_copy_142 : decode cX12_copy 142 = .ok (.iconst 1, 1) := by decide +kernel
theorem dX12_copy_143 : decode cX12_copy 143 = .ok (.isub, 1) := by decide +kernel
theorem dX12_copy_144 : decode cX12_copy 144 = .ok (.iload 6, 2) := by decide +kernel
theorem dX12_copy_146 : decode cX12_copy 146 = .ok (.isub, 1) := by decide +kernel
theorem dX12_copy_147 : decode cX12_copy 147 = .ok (.istore 7, 2) := by decide +kernel
theorem dX12_copy_149 : decode cX12_copy 149 = .ok (.aload_n 0, 1) := by decide +kernel
theorem dX12_copy_150 : decode cX12_copy 150 = .ok (.getfield 31, 3) := by decide +kernel
theorem dX12_copy_153 : decode cX12_copy 153 = .ok (.bipush 120, 2) := by decide +kernel
theorem dX12_copy_155 : decode cX12_copy 155 = .ok (.iload_n 3, 1) := by decide +kernel
theorem dX12_copy_156 : decode cX12_copy 156 = .ok (.imul, 1) := by decide +kernel
theorem dX12_copy_157 : decode cX12_copy 157 = .ok (.iload 4, 2) := by decide +kernel
theorem dX12_copy_159 : decode cX12_copy 159 = .ok (.iadd, 1) := by decide +kernel
theorem dX12_copy_160 : decode cX12_copy 160 = .ok (.iload 7, 2) := by decide +kernel
theorem dX12_copy_162 : decode cX12_copy 162 = .ok (.iadd, 1) := by decide +kernel
theorem dX12_copy_163 : decode cX12_copy 163 = .ok (.aload_n 0, 1) := by decide +kernel
theorem dX12_copy_164 : decode cX12_copy 164 = .ok (.getfield 31, 3) := by decide +kernel
theorem dX12_copy_167 : decode cX12_copy 167 = .ok (.bipush 120, 2) := by decide +kernel
theorem dX12_copy_169 : decode cX12_copy 169 = .ok (.iload_n 1, 1) := by decide +kernel
theorem dX12_copy_170 : decode cX12_copy 170 = .ok (.imul, 1) := by decide +kernel
theorem dX12_copy_171 : decode cX12_copy 171 = .ok (.iload_n 2, 1) := by decide +kernel
theorem dX12_copy_172 : decode cX12_copy 172 = .ok (.iadd, 1) := by decide +kernel
theorem dX12_copy_173 : decode cX12_copy 173 = .ok (.iload 7, 2) := by decide +kernel
theorem dX12_copy_175 : decode cX12_copy 175 = .ok (.iadd, 1) := by decide +kernel
theorem dX12_copy_176 : decode cX12_copy 176 = .ok (.iaload, 1) := by decide +kernel
theorem dX12_copy_177 : decode cX12_copy 177 = .ok (.iastore, 1) := by decide +kernel
theorem dX12_copy_178 : decode cX12_copy 178 = .ok (.iinc 6 1, 3) := by decide +kernel
theorem dX12_copy_181 : decode cX12_copy 181 = .ok (.goto (-59), 3) := by decide +kernel
theorem dX12_copy_184 : decode cX12_copy 184 = .ok (.iload 5, 2) := by decide +kernel
theorem dX12_copy_186 : decode cX12_copy 186 = .ok (.ireturn, 1) := by decide +kernel
theorem dX12_wrongKept_0 : decode cX12_wrongKept 0 = .ok (.iload_n 1, 1) := by decide +kernel
theorem dX12_wrongKept_1 : decode cX12_wrongKept 1 = .ok (.invokestatic 127, 3) := by decide +kernel
theorem dX12_wrongKept_4 : decode cX12_wrongKept 4 = .ok (.ifCond .ne 7, 3) := by decide +kernel
theorem dX12_wrongKept_7 : decode cX12_wrongKept 7 = .ok (.iconst (-1), 1) := by decide +kernel
theorem dX12_wrongKept_8 : decode cX12_wrongKept 8 = .ok (.goto 33, 3) := by decide +kernel
theorem dX12_wrongKept_11 : decode cX12_wrongKept 11 = .ok (.aload_n 0, 1) := by decide +kernel
theorem dX12_wrongKept_12 : decode cX12_wrongKept 12 = .ok (.getfield 22, 3) := by decide +kernel
theorem dX12_wrongKept_15 : decode cX12_wrongKept 15 = .ok (.iload_n 1, 1) := by decide +kernel
theorem dX12_wrongKept_16 : decode cX12_wrongKept 16 = .ok (.iaload, 1) := by decide +kernel
theorem dX12_wrongKept_17 : decode cX12_wrongKept 17 = .ok (.ifCond .ne 8, 3) := by decide +kernel
theorem dX12_wrongKept_20 : decode cX12_wrongKept 20 = .ok (.bipush (-11), 2) := by decide +kernel
theorem dX12_wrongKept_22 : decode cX12_wrongKept 22 = .ok (.goto 19, 3) := by decide +kernel
theorem dX12_wrongKept_25 : decode cX12_wrongKept 25 = .ok (.aload_n 0, 1) := by decide +kernel
theorem dX12_wrongKept_26 : decode cX12_wrongKept 26 = .ok (.getfield 22, 3) := by decide +kernel
theorem dX12_wrongKept_29 : decode cX12_wrongKept 29 = .ok (.iload_n 1, 1) := by decide +kernel
theorem dX12_wrongKept_30 : decode cX12_wrongKept 30 = .ok (.iaload, 1) := by decide +kernel
theorem dX12_wrongKept_31 : decode cX12_wrongKept 31 = .ok (.iconst 1, 1) := by decide +kernel
theorem dX12_wrongKept_32 : decode cX12_wrongKept 32 = .ok (.if_icmp .ne 7, 3) := by decide +kernel
theorem dX12_wrongKept_35 : decode cX12_wrongKept 35 = .ok (.iconst 0, 1) := by decide +kernel
theorem dX12_wrongKept_36 : decode cX12_wrongKept 36 = .ok (.goto 5, 3) := by decide +kernel
theorem dX12_wrongKept_39 : decode cX12_wrongKept 39 = .ok (.bipush (-12), 2) := by decide +kernel
theorem dX12_wrongKept_41 : decode cX12_wrongKept 41 = .ok (.ireturn, 1) := by decide +kernel
theorem dX12_weight_0 : decode cX12_weight 0 = .ok (.aload_n 0, 1) := by decide +kernel
theorem dX12_weight_1 : decode cX12_weight 1 = .ok (.iload_n 1, 1) := by decide +kernel
theorem dX12_weight_2 : decode cX12_weight 2 = .ok (.invokevirtual 349, 3) := by decide +kernel
theorem dX12_weight_5 : decode cX12_weight 5 = .ok (.istore_n 2, 1) := by decide +kernel
theorem dX12_weight_6 : decode cX12_weight 6 = .ok (.iload_n 2, 1) := by decide +kernel
theorem dX12_weight_7 : decode cX12_weight 7 = .ok (.ifCond .eq 7, 3) := by decide +kernel
theorem dX12_weight_10 : decode cX12_weight 10 = .ok (.iload_n 2, 1) := by decide +kernel
theorem dX12_weight_11 : decode cX12_weight 11 = .ok (.goto 9, 3) := by decide +kernel
theorem dX12_weight_14 : decode cX12_weight 14 = .ok (.aload_n 0, 1) := by decide +kernel
theorem dX12_weight_15 : decode cX12_weight 15 = .ok (.getfield 34, 3) := by decide +kernel
theorem dX12_weight_18 : decode cX12_weight 18 = .ok (.iload_n 1, 1) := by decide +kernel
theorem dX12_weight_19 : decode cX12_weight 19 = .ok (.iaload, 1) := by decide +kernel
theorem dX12_weight_20 : decode cX12_weight 20 = .ok (.ireturn, 1) := by decide +kernel
theorem dX12_toss_0 : decode cX12_toss 0 = .ok (.aload_n 0, 1) := by decide +kernel
theorem dX12_toss_1 : decode cX12_toss 1 = .ok (.iload_n 1, 1) := by decide +kernel
theorem dX12_toss_2 : decode cX12_toss 2 = .ok (.invokevirtual 349, 3) := by decide +kernel
theorem dX12_toss_5 : decode cX12_toss 5 = .ok (.istore_n 2, 1) := by decide +kernel
theorem dX12_toss_6 : decode cX12_toss 6 = .ok (.iload_n 2, 1) := by decide +kernel
theorem dX12_toss_7 : decode cX12_toss 7 = .ok (.ifCond .eq 7, 3) := by decide +kernel
theorem dX12_toss_10 : decode cX12_toss 10 = .ok (.iload_n 2, 1) := by decide +kernel
theorem dX12_toss_11 : decode cX12_toss 11 = .ok (.goto 9, 3) := by decide +kernel
theorem dX12_toss_14 : decode cX12_toss 14 = .ok (.aload_n 0, 1) := by decide +kernel
theorem dX12_toss_15 : decode cX12_toss 15 = .ok (.getfield 37, 3) := by decide +kernel
theorem dX12_toss_18 : decode cX12_toss 18 = .ok (.iload_n 1, 1) := by decide +kernel
theorem dX12_toss_19 : decode cX12_toss 19 = .ok (.iaload, 1) := by decide +kernel
theorem dX12_toss_20 : decode cX12_toss 20 = .ok (.ireturn, 1) := by decide +kernel
