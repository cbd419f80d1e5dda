theorem dX0_init_0 : decode cX0_init 0 = .ok (.aload_n 0, 1) := by decide +kernel
theorem dX0_init_1 : decode cX0_init 1 = .ok (.invokespecial 5, 3) := by decide +kernel
theorem dX0_init_4 : decode cX0_init 4 = .ok (.aload_n 0, 1) := by decide +kernel
theorem dX0_init_5 : decode cX0_init 5 = .ok (.iconst 4, 1) := by decide +kernel
theorem dX0_init_6 : decode cX0_init 6 = .ok (.putfield 11, 3) := by decide +kernel
theorem dX0_init_9 : decode cX0_init 9 = .ok (.aload_n 0, 1) := by decide +kernel
theorem dX0_init_10 : decode cX0_init 10 = .ok (.bipush 16, 2) := by decide +kernel
theorem dX0_init_12 : decode cX0_init 12 = .ok (.newarray .int, 2) := by decide +kernel
theorem dX0_init_14 : decode cX0_init 14 = .ok (.putfield 15, 3) := by decide +kernel
theorem dX0_init_17 : decode cX0_init 17 = .ok (.return_, 1) := by decide +kernel
theorem dX0_become_0 : decode cX0_become 0 = .ok (.aload_n 0, 1) := by decide +kernel
theorem dX0_become_1 : decode cX0_become 1 = .ok (.iload_n 1, 1) := by decide +kernel
theorem dX0_become_2 : decode cX0_become 2 = .ok (.putfield 19, 3) := by decide +kernel
theorem dX0_become_5 : decode cX0_become 5 = .ok (.aload_n 0, 1) := by decide +kernel
theorem dX0_become_6 : decode cX0_become 6 = .ok (.iload_n 2, 1) := by decide +kernel
theorem dX0_become_7 : decode cX0_become 7 = .ok (.putfield 22, 3) := by decide +kernel
theorem dX0_become_10 : decode cX0_become 10 = .ok (.aload_n 0, 1) := by decide +kernel
theorem dX0_become_11 : decode cX0_become 11 = .ok (.iload_n 3, 1) := by decide +kernel
theorem dX0_become_12 : decode cX0_become 12 = .ok (.putfield 11, 3) := by decide +kernel
theorem dX0_become_15 : decode cX0_become 15 = .ok (.aload_n 0, 1) := by decide +kernel
theorem dX0_become_16 : decode cX0_become 16 = .ok (.iload 4, 2) := by decide +kernel
theorem dX0_become_18 : decode cX0_become 18 = .ok (.putfield 25, 3) := by decide +kernel
theorem dX0_become_21 : decode cX0_become 21 = .ok (.aload_n 0, 1) := by decide +kernel
theorem dX0_become_22 : decode cX0_become 22 = .ok (.getfield 15, 3) := by decide +kernel
theorem dX0_become_25 : decode cX0_become 25 = .ok (.bipush 31, 2) := by decide +kernel
theorem dX0_become_27 : decode cX0_become 27 = .ok (.invokestatic 28, 3) := by decide +kernel
theorem dX0_become_30 : decode cX0_become 30 = .ok (.return_, 1) := by decide +kernel
theorem dX0_takeFrom_0 : decode cX0_takeFrom 0 = .ok (.aload_n 0, 1) := by decide +kernel
theorem dX0_takeFrom_1 : decode cX0_takeFrom 1 = .ok (.aload_n 1, 1) := by decide +kernel
theorem dX0_takeFrom_2 : decode cX0_takeFrom 2 = .ok (.getfield 19, 3) := by decide +kernel
theorem dX0_takeFrom_5 : decode cX0_takeFrom 5 = .ok (.putfield 19, 3) := by decide +kernel
theorem dX0_takeFrom_8 : decode cX0_takeFrom 8 = .ok (.aload_n 0, 1) := by decide +kernel
theorem dX0_takeFrom_9 : decode cX0_takeFrom 9 = .ok (.aload_n 1, 1) := by decide +kernel
theorem dX0_takeFrom_10 : decode cX0_takeFrom 10 = .ok (.getfield 22, 3) := by decide +kernel
theorem dX0_takeFrom_13 : decode cX0_takeFrom 13 = .ok (.putfield 22, 3) := by decide +kernel
theorem dX0_takeFrom_16 : decode cX0_takeFrom 16 = .ok (.aload_n 0, 1) := by decide +kernel
theorem dX0_takeFrom_17 : decode cX0_takeFrom 17 = .ok (.aload_n 1, 1) := by decide +kernel
theorem dX0_takeFrom_18 : decode cX0_takeFrom 18 = .ok (.getfield 11, 3) := by decide +kernel
theorem dX0_takeFrom_21 : decode cX0_takeFrom 21 = .ok (.putfield 11, 3) := by decide +kernel
theorem dX0_takeFrom_24 : decode cX0_takeFrom 24 = .ok (.aload_n 0, 1) := by decide +kernel
theorem dX0_takeFrom_25 : decode cX0_takeFrom 25 = .ok (.aload_n 1, 1) := by decide +kernel
theorem dX0_takeFrom_26 : decode cX0_takeFrom 26 = .ok (.getfield 25, 3) := by decide +kernel
theorem dX0_takeFrom_29 : decode cX0_takeFrom 29 = .ok (.putfield 25, 3) := by decide +kernel
theorem dX0_takeFrom_32 : decode cX0_takeFrom 32 = .ok (.aload_n 1, 1) := by decide +kernel
theorem dX0_takeFrom_33 : decode cX0_takeFrom 33 = .ok (.getfield 15, 3) := by decide +kernel
theorem dX0_takeFrom_36 : decode cX0_takeFrom 36 = .ok (.iconst 0, 1) := by decide +kernel
theorem dX0_takeFrom_37 : decode cX0_takeFrom 37 = .ok (.aload_n 0, 1) := by decide +kernel
theorem dX0_takeFrom_38 : decode cX0_takeFrom 38 = .ok (.getfield 15, 3) := by decide +kernel
theorem dX0_takeFrom_41 : decode cX0_takeFrom 41 = .ok (.iconst 0, 1) := by decide +kernel
theorem dX0_takeFrom_42 : decode cX0_takeFrom 42 = .ok (.bipush 16, 2) := by decide +kernel
theorem dX0_takeFrom_44 : decode cX0_takeFrom 44 = .ok (.invokestatic 34, 3) := by decide +kernel
theorem dX0_takeFrom_47 : decode cX0_takeFrom 47 = .ok (.return_, 1) := by decide +kernel
theorem dX0_isRing_0 : decode cX0_isRing 0 = .ok (.aload_n 0, 1) := by decide +kernel
theorem dX0_isRing_1 : decode cX0_isRing 1 = .ok (.getfield 22, 3) := by decide +kernel
theorem dX0_isRing_4 : decode cX0_isRing 4 = .ok (.iconst 4, 1) := by decide +kernel
theorem dX0_isRing_5 : decode cX0_isRing 5 = .ok (.if_icmp .ne 7, 3) := by decide +kernel
theorem dX0_isRing_8 : decode cX0_isRing 8 = .ok (.iconst 1, 1) := by decide +kernel
theorem dX0_isRing_9 : decode cX0_isRing 9 = .ok (.goto 4, 3) := by decide +kernel
theorem dX0_isRing_12 : decode cX0_isRing 12 = .ok (.iconst 0, 1) := by decide +kernel
theorem dX0_isRing_13 : decode cX0_isRing 13 = .ok (.ireturn, 1) := by decide +kernel
theorem dX0_hard_0 : decode cX0_hard 0 = .ok (.aload_n 0, 1) := by decide +kernel
theorem dX0_hard_1 : decode cX0_hard 1 = .ok (.invokevirtual 40, 3) := by decide +kernel
theorem dX0_hard_4 : decode cX0_hard 4 = .ok (.ifCond .eq 19, 3) := by decide +kernel
theorem dX0_hard_7 : decode cX0_hard 7 = .ok (.getstatic 44, 3) := by decide +kernel
theorem dX0_hard_10 : decode cX0_hard 10 = .ok (.iconst 4, 1) := by decide +kernel
theorem dX0_hard_11 : decode cX0_hard 11 = .ok (.iaload, 1) := by decide +kernel
theorem dX0_hard_12 : decode cX0_hard 12 = .ok (.aload_n 0, 1) := by decide +kernel
theorem dX0_hard_13 : decode cX0_hard 13 = .ok (.getfield 11, 3) := by decide +kernel
theorem dX0_hard_16 : decode cX0_hard 16 = .ok (.bipush 10, 2) := by decide +kernel
theorem dX0_hard_18 : decode cX0_hard 18 = .ok (.idiv, 1) := by decide +kernel
theorem dX0_hard_19 : decode cX0_hard 19 = .ok (.iadd, 1) := by decide +kernel
theorem dX0_hard_20 : decode cX0_hard 20 = .ok (.goto 11, 3) := by decide +kernel
theorem dX0_hard_23 : decode cX0_hard 23 = .ok (.getstatic 44, 3) := by decide +kernel
theorem dX0_hard_26 : decode cX0_hard 26 = .ok (.aload_n 0, 1) := by decide +kernel
theorem dX0_hard_27 : decode cX0_hard 27 = .ok (.getfield 22, 3) := by decide +kernel
theorem dX0_hard_30 : decode cX0_hard 30 = .ok (.iaload, 1) := by decide +kernel
theorem dX0_hard_31 : decode cX0_hard 31 = .ok (.ireturn, 1) := by decide +kernel
theorem dX0_stiff_0 : decode cX0_stiff 0 = .ok (.getstatic 47, 3) := by decide +kernel
theorem dX0_stiff_3 : decode cX0_stiff 3 = .ok (.aload_n 0, 1) := by decide +kernel
theorem dX0_stiff_4 : decode cX0_stiff 4 = .ok (.getfield 22, 3) := by decide +kernel
theorem dX0_stiff_7 : decode cX0_stiff 7 = .ok (.iaload, 1) := by decide +kernel
theorem dX0_stiff_8 : decode cX0_stiff 8 = .ok (.ireturn, 1) := by decide +kernel
theorem dX0_thin_0 : decode cX0_thin 0 = .ok (.aload_n 0, 1) := by decide +kernel
theorem dX0_thin_1 : decode cX0_thin 1 = .ok (.getfield 15, 3) := by decide +kernel
theorem dX0_thin_4 : decode cX0_thin 4 = .ok (.iconst 0, 1) := by decide +kernel
theorem dX0_thin_5 : decode cX0_thin 5 = .ok (.iaload, 1) := by decide +kernel
theorem dX0_thin_6 : decode cX0_thin 6 = .ok (.istore_n 1, 1) := by decide +kernel
theorem dX0_thin_7 : decode cX0_thin 7 = .ok (.iconst 1, 1) := by decide +kernel
theorem dX0_thin_8 : decode cX0_thin 8 = .ok (.istore_n 2, 1) := by decide +kernel
theorem dX0_thin_9 : decode cX0_thin 9 = .ok (.iload_n 2, 1) := by decide +kernel
theorem dX0_thin_10 : decode cX0_thin 10 = .ok (.bipush 16, 2) := by decide +kernel
theorem dX0_thin_12 : decode cX0_thin 12 = .ok (.if_icmp .ge 20, 3) := by decide +kernel
theorem dX0_thin_15 : decode cX0_thin 15 = .ok (.iload_n 1, 1) := by decide +kernel
theorem dX0_thin_16 : decode cX0_thin 16 = .ok (.aload_n 0, 1) := by decide +kernel
theorem dX0_thin_17 : decode cX0_thin 17 = .ok (.getfield 15, 3) := by decide +kernel
theorem dX0_thin_20 : decode cX0_thin 20 = .ok (.iload_n 2, 1) := by decide +kernel
theorem dX0_thin_21 : decode cX0_thin 21 = .ok (.iaload, 1) := by decide +kernel
theorem dX0_thin_22 : decode cX0_thin 22 = .ok (.invokestatic 50, 3) := by decide +kernel
theorem dX0_thin_25 : decode cX0_thin 25 = .ok (.istore_n 1, 1) := by decide +kernel
theorem dX0_thin_26 : decode cX0_thin 26 = .ok (.iinc 2 1, 3) := by decide +kernel
theorem dX0_thin_29 : decode cX0_thin 29 = .ok (.goto (-20), 3) := by decide +kernel
theorem dX0_thin_32 : decode cX0_thin 32 = .ok (.iload_n 1, 1) := by decide +kernel
theorem dX0_thin_33 : decode cX0_thin 33 = .ok (.ireturn, 1) := by decide +kernel
theorem dX0_top_0 : decode cX0_top 0 = .ok (.aload_n 0, 1) := by decide +kernel
theorem dX0_top_1 : decode cX0_top 1 = .ok (.getfield 15, 3) := by decide +kernel
theorem dX0_top_4 : decode cX0_top 4 = .ok (.bipush 15, 2) := by decide +kernel
theorem dX0_top_6 : decode cX0_top 6 = .ok (.iaload, 1) := by decide +kernel
theorem dX0_top_7 : decode cX0_top 7 = .ok (.ireturn, 1) := by decide +kernel
theorem dX0_undercut_0 : decode cX0_undercut 0 = .ok (.aload_n 0, 1) := by decide +kernel
theorem dX0_undercut_1 : decode cX0_undercut 1 = .ok (.getfield 15, 3) := by decide +kernel
theorem dX0_undercut_4 : decode cX0_undercut 4 = .ok (.iconst 0, 1) := by decide +kernel
theorem dX0_undercut_5 : decode cX0_undercut 5 = .ok (.iaload, 1) := by decide +kernel
theorem dX0_undercut_6 : decode cX0_undercut 6 = .ok (.istore_n 1, 1) := by decide +kernel
theorem dX0_undercut_7 : decode cX0_undercut 7 = .ok (.iconst 0, 1) := by decide +kernel
theorem dX0_undercut_8 : decode cX0_undercut 8 = .ok (.istore_n 2, 1) := by decide +kernel
theorem dX0_undercut_9 : decode cX0_undercut 9 = .ok (.iload_n 2, 1) := by decide +kernel
theorem dX0_undercut_10 : decode cX0_undercut 10 = .ok (.bipush 15, 2) := by decide +kernel
theorem dX0_undercut_12 : decode cX0_undercut 12 = .ok (.if_icmp .ge 49, 3) := by decide +kernel
theorem dX0_undercut_15 : decode cX0_undercut 15 = .ok (.aload_n 0, 1) := by decide +kernel
theorem dX0_undercut_16 : decode cX0_undercut 16 = .ok (.getfield 15, 3) := by decide +kernel
theorem dX0_undercut_19 : decode cX0_undercut 19 = .ok (.iload_n 2, 1) := by decide +kernel
theorem dX0_undercut_20 : decode cX0_undercut 20 = .ok (.iaload, 1) := by decide +kernel
theorem dX0_undercut_21 : decode cX0_undercut 21 = .ok (.aload_n 0, 1) := by decide +kernel
theorem dX0_undercut_22 : decode cX0_undercut 22 = .ok (.getfield 15, 3) := by decide +kernel
theorem dX0_undercut_25 : decode cX0_undercut 25 = .ok (.iload_n 2, 1) := by decide +kernel
theorem dX0_undercut_26 : decode cX0_undercut 26 = .ok (.iconst 1, 1) := by decide +kernel
theorem dX0_undercut_27 : decode cX0_undercut 27 = .ok (.iadd, 1) := by decide +kernel
theorem dX0_undercut_28 : decode cX0_undercut 28 = .ok (.iaload, 1) := by decide +kernel
theorem dX0_undercut_29 : decode cX0_undercut 29 = .ok (.if_icmp .ge 15, 3) := by decide +kernel
theorem dX0_undercut_32 : decode cX0_undercut 32 = .ok (.aload_n 0, 1) := by decide +kernel
theorem dX0_undercut_33 : decode cX0_undercut 33 = .ok (.getfield 15, 3) := by decide +kernel
theorem dX0_undercut_36 : decode cX0_undercut 36 = .ok (.iload_n 2, 1) := by decide +kernel
theorem dX0_undercut_37 : decode cX0_undercut 37 = .ok (.iaload, 1) := by decide +kernel
theorem dX0_undercut_38 : decode cX0_undercut 38 = .ok (.iload_n 1, 1) := by decide +kernel
theorem dX0_undercut_39 : decode cX0_undercut 39 = .ok (.if_icmp .ge 5, 3) := by decide +kernel
theorem dX0_undercut_42 : decode cX0_undercut 42 = .ok (.iload_n 2, 1) := by decide +kernel
theorem dX0_undercut_43 : decode cX0_undercut 43 = .ok (.ireturn, 1) := by decide +kernel
theorem dX0_undercut_44 : decode cX0_undercut 44 = .ok (.iload_n 1, 1) := by decide +kernel
theorem dX0_undercut_45 : decode cX0_undercut 45 = .ok (.aload_n 0, 1) := by decide +kernel
theorem dX0_undercut_46 : decode cX0_undercut 46 = .ok (.getfield 15, 3) := by decide +kernel
theorem dX0_undercut_49 : decode cX0_undercut 49 = .ok (.iload_n 2, 1) := by decide +kernel
theorem dX0_undercut_50 : decode cX0_undercut 50 = .ok (.iaload, 1) := by decide +kernel
theorem dX0_undercut_51 : decode cX0_undercut 51 = .ok (.invokestatic 56, 3) := by decide +kernel
theorem dX0_undercut_54 : decode cX0_undercut 54 = .ok (.istore_n 1, 1) := by decide +kernel
theorem dX0_undercut_55 : decode cX0_undercut 55 = .ok (.iinc 2 1, 3) := by decide +kernel
theorem dX0_undercut_58 : decode cX0_undercut 58 = .ok (.goto (-49), 3) := by decide +kernel
theorem dX0_undercut_61 : decode cX0_undercut 61 = .ok (.bipush (-4), 2) := by decide +kernel
theorem dX0_undercut_63 : decode cX0_undercut 63 = .ok (.ireturn, 1) := by decide +kernel
theorem dX0_sumOfWidths_0 : decode cX0_sumOfWidths 0 = .ok (.iconst 0, 1) := by decide +kernel
theorem dX0_sumOfWidths_1 : decode cX0_sumOfWidths 1 = .ok (.istore_n 1, 1) := by decide +kernel
theorem dX0_sumOfWidths_2 : decode cX0_sumOfWidths 2 = .ok (.iconst 0, 1) := by decide +kernel
theorem dX0_sumOfWidths_3 : decode cX0_sumOfWidths 3 = .ok (.istore_n 2, 1) := by decide +kernel
theorem dX0_sumOfWidths_4 : decode cX0_sumOfWidths 4 = .ok (.iload_n 2, 1) := by decide +kernel
theorem dX0_sumOfWidths_5 : decode cX0_sumOfWidths 5 = .ok (.bipush 16, 2) := by decide +kernel
theorem dX0_sumOfWidths_7 : decode cX0_sumOfWidths 7 = .ok (.if_icmp .ge 18, 3) := by decide +kernel
theorem dX0_sumOfWidths_10 : decode cX0_sumOfWidths 10 = .ok (.iload_n 1, 1) := by decide +kernel
theorem dX0_sumOfWidths_11 : decode cX0_sumOfWidths 11 = .ok (.aload_n 0, 1) := by decide +kernel
theorem dX0_sumOfWidths_12 : decode cX0_sumOfWidths 12 = .ok (.getfield 15, 3) := by decide +kernel
theorem dX0_sumOfWidths_15 : decode cX0_sumOfWidths 15 = .ok (.iload_n 2, 1) := by decide +kernel
theorem dX0_sumOfWidths_16 : decode cX0_sumOfWidths 16 = .ok (.iaload, 1) := by decide +kernel
theorem dX0_sumOfWidths_17 : decode cX0_sumOfWidths 17 = .ok (.iadd, 1) := by decide +kernel
theorem dX0_sumOfWidths_18 : decode cX0_sumOfWidths 18 = .ok (.istore_n 1, 1) := by decide +kernel
theorem dX0_sumOfWidths_19 : decode cX0_sumOfWidths 19 = .ok (.iinc 2 1, 3) := by decide +kernel
theorem dX0_sumOfWidths_22 : decode cX0_sumOfWidths 22 = .ok (.goto (-18), 3) := by decide +kernel
theorem dX0_sumOfWidths_25 : decode cX0_sumOfWidths 25 = .ok (.iload_n 1, 1) := by decide +kernel
theorem dX0_sumOfWidths_26 : decode cX0_sumOfWidths 26 = .ok (.ireturn, 1) := by decide +kernel
theorem dX0_hasFlankOf_0 : decode cX0_hasFlankOf 0 = .ok (.iconst 0, 1) := by decide +kernel
theorem dX0_hasFlankOf_1 : decode cX0_hasFlankOf 1 = .ok (.istore_n 2, 1) := by decide +kernel
theorem dX0_hasFlankOf_2 : decode cX0_hasFlankOf 2 = .ok (.iload_n 2, 1) := by decide +kernel
theorem dX0_hasFlankOf_3 : decode cX0_hasFlankOf 3 = .ok (.bipush 16, 2) := by decide +kernel
theorem dX0_hasFlankOf_5 : decode cX0_hasFlankOf 5 = .ok (.if_icmp .ge 26, 3) := by decide +kernel
theorem dX0_hasFlankOf_8 : decode cX0_hasFlankOf 8 = .ok (.aload_n 0, 1) := by decide +kernel
theorem dX0_hasFlankOf_9 : decode cX0_hasFlankOf 9 = .ok (.getfield 15, 3) := by decide +kernel
theorem dX0_hasFlankOf_12 : decode cX0_hasFlankOf 12 = .ok (.iload_n 2, 1) := by decide +kernel
theorem dX0_hasFlankOf_13 : decode cX0_hasFlankOf 13 = .ok (.iaload, 1) := by decide +kernel
theorem dX0_hasFlankOf_14 : decode cX0_hasFlankOf 14 = .ok (.aload_n 1, 1) := by decide +kernel
theorem dX0_hasFlankOf_15 : decode cX0_hasFlankOf 15 = .ok (.getfield 15, 3) := by decide +kernel
theorem dX0_hasFlankOf_18 : decode cX0_hasFlankOf 18 = .ok (.iload_n 2, 1) := by decide +kernel
theorem dX0_hasFlankOf_19 : decode cX0_hasFlankOf 19 = .ok (.iaload, 1) := by decide +kernel
theorem dX0_hasFlankOf_20 : decode cX0_hasFlankOf 20 = .ok (.if_icmp .eq 5, 3) := by decide +kernel
theorem dX0_hasFlankOf_23 : decode cX0_hasFlankOf 23 = .ok (.iconst 0, 1) := by decide +kernel
theorem dX0_hasFlankOf_24 : decode cX0_hasFlankOf 24 = .ok (.ireturn, 1) := by decide +kernel
theorem dX0_hasFlankOf_25 : decode cX0_hasFlankOf 25 = .ok (.iinc 2 1, 3) := by decide +kernel
theorem dX0_hasFlankOf_28 : decode cX0_hasFlankOf 28 = .ok (.goto (-26), 3) := by decide +kernel
theorem dX0_hasFlankOf_31 : decode cX0_hasFlankOf 31 = .ok (.iconst 1, 1) := by decide +kernel
theorem dX0_hasFlankOf_32 : decode cX0_hasFlankOf 32 = .ok (.ireturn, 1) := by decide +kernel
theorem dX0_cutBy_0 : decode cX0_cutBy 0 = .ok (.aload_n 0, 1) := by decide +kernel
theorem dX0_cutBy_1 : decode cX0_cutBy 1 = .ok (.getfield 15, 3) := by decide +kernel
theorem dX0_cutBy_4 : decode cX0_cutBy 4 = .ok (.bipush 31, 2) := by decide +kernel
theorem dX0_cutBy_6 : decode cX0_cutBy 6 = .ok (.invokestatic 28, 3) := by decide +kernel
theorem dX0_cutBy_9 : decode cX0_cutBy 9 = .ok (.iconst 0, 1) := by decide +kernel
theorem dX0_cutBy_10 : decode cX0_cutBy 10 = .ok (.istore 4, 2) := by decide +kernel
theorem dX0_cutBy_12 : decode cX0_cutBy 12 = .ok (.iload 4, 2) := by decide +kernel
theorem dX0_cutBy_14 : decode cX0_cutBy 14 = .ok (.iload_n 3, 1) := by decide +kernel
theorem dX0_cutBy_15 : decode cX0_cutBy 15 = .ok (.if_icmp .ge 25, 3) := by decide +kernel
theorem dX0_cutBy_18 : decode cX0_cutBy 18 = .ok (.aload_n 0, 1) := by decide +kernel
theorem dX0_cutBy_19 : decode cX0_cutBy 19 = .ok (.aload_n 1, 1) := by decide +kernel
theorem dX0_cutBy_20 : decode cX0_cutBy 20 = .ok (.iload_n 2, 1) := by decide +kernel
theorem dX0_cutBy_21 : decode cX0_cutBy 21 = .ok (.bipush 16, 2) := by decide +kernel
theorem dX0_cutBy_23 : decode cX0_cutBy 23 = .ok (.iload 4, 2) := by decide +kernel
theorem dX0_cutBy_25 : decode cX0_cutBy 25 = .ok (.imul, 1) := by decide +kernel
theorem dX0_cutBy_26 : decode cX0_cutBy 26 = .ok (.iload_n 3, 1) := by decide +kernel
theorem dX0_cutBy_27 : decode cX0_cutBy 27 = .ok (.idiv, 1) := by decide +kernel
theorem dX0_cutBy_28 : decode cX0_cutBy 28 = .ok (.bipush 8, 2) := by decide +kernel
theorem dX0_cutBy_30 : decode cX0_cutBy 30 = .ok (.isub, 1) := by decide +kernel
theorem dX0_cutBy_31 : decode cX0_cutBy 31 = .ok (.invokevirtual 59, 3) := by decide +kernel
theorem dX0_cutBy_34 : decode cX0_cutBy 34 = .ok (.iinc 4 1, 3) := by decide +kernel
theorem dX0_cutBy_37 : decode cX0_cutBy 37 = .ok (.goto (-25), 3) := by decide +kernel
theorem dX0_cutBy_40 : decode cX0_cutBy 40 = .ok (.return_, 1) := by decide +kernel
theorem dX0_cutOnce_0 : decode cX0_cutOnce 0 = .ok (.iconst 0, 1) := by decide +kernel
theorem dX0_cutOnce_1 : decode cX0_cutOnce 1 = .ok (.istore 4, 2) := by decide +kernel
theorem dX0_cutOnce_3 : decode cX0_cutOnce 3 = .ok (.iload 4, 2) := by decide +kernel
theorem dX0_cutOnce_5 : decode cX0_cutOnce 5 = .ok (.bipush 16, 2) := by decide +kernel
theorem dX0_cutOnce_7 : decode cX0_cutOnce 7 = .ok (.if_icmp .ge 67, 3) := by decide +kernel
theorem dX0_cutOnce_10 : decode cX0_cutOnce 10 = .ok (.iload 4, 2) := by decide +kernel
theorem dX0_cutOnce_12 : decode cX0_cutOnce 12 = .ok (.iload_n 3, 1) := by decide +kernel
theorem dX0_cutOnce_13 : decode cX0_cutOnce 13 = .ok (.isub, 1) := by decide +kernel
theorem dX0_cutOnce_14 : decode cX0_cutOnce 14 = .ok (.istore 5, 2) := by decide +kernel
theorem dX0_cutOnce_16 : decode cX0_cutOnce 16 = .ok (.iload 5, 2) := by decide +kernel
theorem dX0_cutOnce_18 : decode cX0_cutOnce 18 = .ok (.iconst 0, 1) := by decide +kernel
theorem dX0_cutOnce_19 : decode cX0_cutOnce 19 = .ok (.bipush 15, 2) := by decide +kernel
theorem dX0_cutOnce_21 : decode cX0_cutOnce 21 = .ok (.invokestatic 63, 3) := by decide +kernel
theorem dX0_cutOnce_24 : decode cX0_cutOnce 24 = .ok (.ifCond .eq 44, 3) := by decide +kernel
theorem dX0_cutOnce_27 : decode cX0_cutOnce 27 = .ok (.bipush 31, 2) := by decide +kernel
theorem dX0_cutOnce_29 : decode cX0_cutOnce 29 = .ok (.aload_n 1, 1) := by decide +kernel
theorem dX0_cutOnce_30 : decode cX0_cutOnce 30 = .ok (.iload 5, 2) := by decide +kernel
theorem dX0_cutOnce_32 : decode cX0_cutOnce 32 = .ok (.iaload, 1) := by decide +kernel
theorem dX0_cutOnce_33 : decode cX0_cutOnce 33 = .ok (.iload_n 2, 1) := by decide +kernel
theorem dX0_cutOnce_34 : decode cX0_cutOnce 34 = .ok (.iadd, 1) := by decide +kernel
theorem dX0_cutOnce_35 : decode cX0_cutOnce 35 = .ok (.iload_n 3, 1) := by decide +kernel
theorem dX0_cutOnce_36 : decode cX0_cutOnce 36 = .ok (.iload_n 3, 1) := by decide +kernel
theorem dX0_cutOnce_37 : decode cX0_cutOnce 37 = .ok (.imul, 1) := by decide +kernel
theorem dX0_cutOnce_38 : decode cX0_cutOnce 38 = .ok (.bipush 8, 2) := by decide +kernel
theorem dX0_cutOnce_40 : decode cX0_cutOnce 40 = .ok (.idiv, 1) := by decide +kernel
theorem dX0_cutOnce_41 : decode cX0_cutOnce 41 = .ok (.isub, 1) := by decide +kernel
theorem dX0_cutOnce_42 : decode cX0_cutOnce 42 = .ok (.isub, 1) := by decide +kernel
theorem dX0_cutOnce_43 : decode cX0_cutOnce 43 = .ok (.istore 6, 2) := by decide +kernel
theorem dX0_cutOnce_45 : decode cX0_cutOnce 45 = .ok (.aload_n 0, 1) := by decide +kernel
theorem dX0_cutOnce_46 : decode cX0_cutOnce 46 = .ok (.getfield 15, 3) := by decide +kernel
theorem dX0_cutOnce_49 : decode cX0_cutOnce 49 = .ok (.iload 4, 2) := by decide +kernel
theorem dX0_cutOnce_51 : decode cX0_cutOnce 51 = .ok (.aload_n 0, 1) := by decide +kernel
theorem dX0_cutOnce_52 : decode cX0_cutOnce 52 = .ok (.getfield 15, 3) := by decide +kernel
theorem dX0_cutOnce_55 : decode cX0_cutOnce 55 = .ok (.iload 4, 2) := by decide +kernel
theorem dX0_cutOnce_57 : decode cX0_cutOnce 57 = .ok (.iaload, 1) := by decide +kernel
theorem dX0_cutOnce_58 : decode cX0_cutOnce 58 = .ok (.iload 6, 2) := by decide +kernel
theorem dX0_cutOnce_60 : decode cX0_cutOnce 60 = .ok (.iconst 0, 1) := by decide +kernel
theorem dX0_cutOnce_61 : decode cX0_cutOnce 61 = .ok (.invokestatic 56, 3) := by decide +kernel
theorem dX0_cutOnce_64 : decode cX0_cutOnce 64 = .ok (.invokestatic 50, 3) := by decide +kernel
theorem dX0_cutOnce_67 : decode cX0_cutOnce 67 = .ok (.iastore, 1) := by decide +kernel
theorem dX0_cutOnce_68 : decode cX0_cutOnce 68 = .ok (.iinc 4 1, 3) := by decide +kernel
theorem dX0_cutOnce_71 : decode cX0_cutOnce 71 = .ok (.goto (-68), 3) := by decide +kernel
theorem dX0_cutOnce_74 : decode cX0_cutOnce 74 = .ok (.return_, 1) := by decide +kernel
theorem dX0_wearAt_0 : decode cX0_wearAt 0 = .ok (.aload_n 0, 1) := by decide +kernel
theorem dX0_wearAt_1 : decode cX0_wearAt 1 = .ok (.getfield 15, 3) := by decide +kernel
theorem dX0_wearAt_4 : decode cX0_wearAt 4 = .ok (.iload_n 1, 1) := by decide +kernel
theorem dX0_wearAt_5 : decode cX0_wearAt 5 = .ok (.aload_n 0, 1) := by decide +kernel
theorem dX0_wearAt_6 : decode cX0_wearAt 6 = .ok (.getfield 15, 3) := by decide +kernel
theorem dX0_wearAt_9 : decode cX0_wearAt 9 = .ok (.iload_n 1, 1) := by decide +kernel
theorem dX0_wearAt_10 : decode cX0_wearAt 10 = .ok (.iaload, 1) := by decide +kernel
theorem dX0_wearAt_11 : decode cX0_wearAt 11 = .ok (.iconst 1, 1) := by decide +kernel
theorem dX0_wearAt_12 : decode cX0_wearAt 12 = .ok (.isub, 1) := by decide +kernel
theorem dX0_wearAt_13 : decode cX0_wearAt 13 = .ok (.iconst 0, 1) := by decide +kernel
theorem dX0_wearAt_14 : decode cX0_wearAt 14 = .ok (.invokestatic 56, 3) := by decide +kernel
theorem dX0_wearAt_17 : decode cX0_wearAt 17 = .ok (.iastore, 1) := by decide +kernel
theorem dX0_wearAt_18 : decode cX0_wearAt 18 = .ok (.return_, 1) := by decide +kernel
theorem dX0_heaviness_0 : decode cX0_heaviness 0 = .ok (.bipush 100, 2) := by decide +kernel
theorem dX0_heaviness_2 : decode cX0_heaviness 2 = .ok (.aload_n 0, 1) := by decide +kernel
theorem dX0_heaviness_3 : decode cX0_heaviness 3 = .ok (.getfield 11, 3) := by decide +kernel
theorem dX0_heaviness_6 : decode cX0_heaviness 6 = .ok (.iadd, 1) := by decide +kernel
theorem dX0_heaviness_7 : decode cX0_heaviness 7 = .ok (.aload_n 0, 1) := by decide +kernel
theorem dX0_heaviness_8 : decode cX0_heaviness 8 = .ok (.invokevirtual 67, 3) := by decide +kernel
theorem dX0_heaviness_11 : decode cX0_heaviness 11 = .ok (.iadd, 1) := by decide +kernel
theorem dX0_heaviness_12 : decode cX0_heaviness 12 = .ok (.istore_n 1, 1) := by decide +kernel
theorem dX0_heaviness_13 : decode cX0_heaviness 13 = .ok (.aload_n 0, 1) := by decide +kernel
theorem dX0_heaviness_14 : decode cX0_heaviness 14 = .ok (.getfield 22, 3) := by decide +kernel
theorem dX0_heaviness_17 : decode cX0_heaviness 17 = .ok (.tableswitch 61 1 4 #[31, 38, 45, 54], 31) := by decide +kernel
theorem dX0_heaviness_48 : decode cX0_heaviness 48 = .ok (.iload_n 1, 1) := by decide +kernel
theorem dX0_heaviness_49 : decode cX0_heaviness 49 = .ok (.aload_n 0, 1) := by decide +kernel
theorem dX0_heaviness_50 : decode cX0_heaviness 50 = .ok (.invokevirtual 71, 3) := by decide +kernel
theorem dX0_heaviness_53 : decode cX0_heaviness 53 = .ok (.iadd, 1) := by decide +kernel
theorem dX0_heaviness_54 : decode cX0_heaviness 54 = .ok (.ireturn, 1) := by decide +kernel
theorem dX0_heaviness_55 : decode cX0_heaviness 55 = .ok (.iload_n 1, 1) := by decide +kernel
theorem dX0_heaviness_56 : decode cX0_heaviness 56 = .ok (.aload_n 0, 1) := by decide +kernel
theorem dX0_heaviness_57 : decode cX0_heaviness 57 = .ok (.invokevirtual 71, 3) := by decide +kernel
theorem dX0_heaviness_60 : decode cX0_heaviness 60 = .ok (.iadd, 1) := by decide +kernel
theorem dX0_heaviness_61 : decode cX0_heaviness 61 = .ok (.ireturn, 1) := by decide +kernel
theorem dX0_heaviness_62 : decode cX0_heaviness 62 = .ok (.iconst 2, 1) := by decide +kernel
theorem dX0_heaviness_63 : decode cX0_heaviness 63 = .ok (.iload_n 1, 1) := by decide +kernel
theorem dX0_heaviness_64 : decode cX0_heaviness 64 = .ok (.aload_n 0, 1) := by decide +kernel
theorem dX0_heaviness_65 : decode cX0_heaviness 65 = .ok (.invokevirtual 71, 3) := by decide +kernel
theorem dX0_heaviness_68 : decode cX0_heaviness 68 = .ok (.iadd, 1) := by decide +kernel
theorem dX0_heaviness_69 : decode cX0_heaviness 69 = .ok (.imul, 1) := by decide +kernel
theorem dX0_heaviness_70 : decode cX0_heaviness 70 = .ok (.ireturn, 1) := by decide +kernel
theorem dX0_heaviness_71 : decode cX0_heaviness 71 = .ok (.iload_n 1, 1) := by decide +kernel
theorem dX0_heaviness_72 : decode cX0_heaviness 72 = .ok (.aload_n 0, 1) := by decide +kernel
theorem dX0_heaviness_73 : decode cX0_heaviness 73 = .ok (.invokevirtual 74, 3) := by decide +kernel
theorem dX0_heaviness_76 : decode cX0_heaviness 76 = .ok (.iadd, 1) := by decide +kernel
theorem dX0_heaviness_77 : decode cX0_heaviness 77 = .ok (.ireturn, 1) := by decide +kernel
theorem dX0_heaviness_78 : decode cX0_heaviness 78 = .ok (.iload_n 1, 1) := by decide +kernel
theorem dX0_heaviness_79 : decode cX0_heaviness 79 = .ok (.ireturn, 1) := by decide +kernel
theorem dX0_fail_0 : decode cX0_fail 0 = .ok (.aload_n 0, 1) := by decide +kernel
theorem dX0_fail_1 : decode cX0_fail 1 = .ok (.invokevirtual 40, 3) := by decide +kernel
theorem dX0_fail_4 : decode cX0_fail 4 = .ok (.ifCond .ne 30, 3) := by decide +kernel
theorem dX0_fail_7 : decode cX0_fail 7 = .ok (.aload_n 0, 1) := by decide +kernel
theorem dX0_fail_8 : decode cX0_fail 8 = .ok (.getfield 22, 3) := by decide +kernel
theorem dX0_fail_11 : decode cX0_fail 11 = .ok (.iconst 3, 1) := by decide +kernel
theorem dX0_fail_12 : decode cX0_fail 12 = .ok (.if_icmp .ne 12, 3) := by decide +kernel
theorem dX0_fail_15 : decode cX0_fail 15 = .ok (.aload_n 0, 1) := by decide +kernel
theorem dX0_fail_16 : decode cX0_fail 16 = .ok (.invokevirtual 71, 3) := by decide +kernel
theorem dX0_fail_19 : decode cX0_fail 19 = .ok (.bipush 31, 2) := by decide +kernel
theorem dX0_fail_21 : decode cX0_fail 21 = .ok (.if_icmp .eq 13, 3) := by decide +kernel
theorem dX0_fail_24 : decode cX0_fail 24 = .ok (.new 77, 3) := by decide +kernel
theorem dX0_fail_27 : decode cX0_fail 27 = .ok (.dup, 1) := by decide +kernel
theorem dX0_fail_28 : decode cX0_fail 28 = .ok (.ldc 79, 2) := by decide +kernel
theorem dX0_fail_30 : decode cX0_fail 30 = .ok (.invokespecial 81, 3) := by decide +kernel
theorem dX0_fail_33 : decode cX0_fail 33 = .ok (.athrow, 1) := by decide +kernel
theorem dX0_fail_34 : decode cX0_fail 34 = .ok (.return_, 1) := by decide +kernel
theorem dX0_failureNumber_0 : decode cX0_failureNumber 0 = .ok (.aload_n 0, 1) := by decide +kernel
theorem dX0_failureNumber_1 : decode cX0_failureNumber 1 = .ok (.getfield 22, 3) := by decide +kernel
theorem dX0_failureNumber_4 : decode cX0_failureNumber 4 = .ok (.iconst 2, 1) := by decide +kernel
theorem dX0_failureNumber_5 : decode cX0_failureNumber 5 = .ok (.if_icmp .ne 18, 3) := by decide +kernel
theorem dX0_failureNumber_8 : decode cX0_failureNumber 8 = .ok (.aload_n 0, 1) := by decide +kernel
theorem dX0_failureNumber_9 : decode cX0_failureNumber 9 = .ok (.getfield 19, 3) := by decide +kernel
theorem dX0_failureNumber_12 : decode cX0_failureNumber 12 = .ok (.bipush 100, 2) := by decide +kernel
theorem dX0_failureNumber_14 : decode cX0_failureNumber 14 = .ok (.iadd, 1) := by decide +kernel
theorem dX0_failureNumber_15 : decode cX0_failureNumber 15 = .ok (.aload_n 0, 1) := by decide +kernel
theorem dX0_failureNumber_16 : decode cX0_failureNumber 16 = .ok (.invokevirtual 71, 3) := by decide +kernel
theorem dX0_failureNumber_19 : decode cX0_failureNumber 19 = .ok (.iadd, 1) := by decide +kernel
theorem dX0_failureNumber_20 : decode cX0_failureNumber 20 = .ok (.goto 7, 3) := by decide +kernel
theorem dX0_failureNumber_23 : decode cX0_failureNumber 23 = .ok (.aload_n 0, 1) := by decide +kernel
theorem dX0_failureNumber_24 : decode cX0_failureNumber 24 = .ok (.getfield 19, 3) := by decide +kernel
theorem dX0_failureNumber_27 : decode cX0_failureNumber 27 = .ok (.ireturn, 1) := by decide +kernel
theorem dX1_init_0 : decode cX1_init 0 = .ok (.aload_n 0, 1) := by decide +kernel
theorem dX1_init_1 : decode cX1_init 1 = .ok (.invokespecial 3, 3) := by decide +kernel
theorem dX1_init_4 : decode cX1_init 4 = .ok (.aload_n 0, 1) := by decide +kernel
theorem dX1_init_5 : decode cX1_init 5 = .ok (.bipush 12, 2) := by decide +kernel
theorem dX1_init_7 : decode cX1_init 7 = .ok (.anewarray 9, 3) := by decide +kernel
theorem dX1_init_10 : decode cX1_init 10 = .ok (.putfield 11, 3) := by decide +kernel
theorem dX1_init_13 : decode cX1_init 13 = .ok (.aload_n 0, 1) := by decide +kernel
theorem dX1_init_14 : decode cX1_init 14 = .ok (.bipush 12, 2) := by decide +kernel
theorem dX1_init_16 : decode cX1_init 16 = .ok (.newarray .long, 2) := by decide +kernel
theorem dX1_init_18 : decode cX1_init 18 = .ok (.putfield 17, 3) := by decide +kernel
theorem dX1_init_21 : decode cX1_init 21 = .ok (.aload_n 0, 1) := by decide +kernel
theorem dX1_init_22 : decode cX1_init 22 = .ok (.bipush 12, 2) := by decide +kernel
theorem dX1_init_24 : decode cX1_init 24 = .ok (.newarray .int, 2) := by decide +kernel
theorem dX1_init_26 : decode cX1_init 26 = .ok (.putfield 21, 3) := by decide +kernel
theorem dX1_init_29 : decode cX1_init 29 = .ok (.aload_n 0, 1) := by decide +kernel
theorem dX1_init_30 : decode cX1_init 30 = .ok (.bipush 12, 2) := by decide +kernel
theorem dX1_init_32 : decode cX1_init 32 = .ok (.newarray .int, 2) := by decide +kernel
theorem dX1_init_34 : decode cX1_init 34 = .ok (.putfield 25, 3) := by decide +kernel
theorem dX1_init_37 : decode cX1_init 37 = .ok (.return_, 1) := by decide +kernel
theorem dX1_listen_0 : decode cX1_listen 0 = .ok (.aload_n 0, 1) := by decide +kernel
theorem dX1_listen_1 : decode cX1_listen 1 = .ok (.aload_n 2, 1) := by decide +kernel
theorem dX1_listen_2 : decode cX1_listen 2 = .ok (.iload_n 3, 1) := by decide +kernel
theorem dX1_listen_3 : decode cX1_listen 3 = .ok (.invokevirtual 28, 3) := by decide +kernel
theorem dX1_listen_6 : decode cX1_listen 6 = .ok (.aload_n 0, 1) := by decide +kernel
theorem dX1_listen_7 : decode cX1_listen 7 = .ok (.aload_n 1, 1) := by decide +kernel
theorem dX1_listen_8 : decode cX1_listen 8 = .ok (.getfield 32, 3) := by decide +kernel
theorem dX1_listen_11 : decode cX1_listen 11 = .ok (.putfield 38, 3) := by decide +kernel
theorem dX1_listen_14 : decode cX1_listen 14 = .ok (.iconst 0, 1) := by decide +kernel
theorem dX1_listen_15 : decode cX1_listen 15 = .ok (.istore 4, 2) := by decide +kernel
theorem dX1_listen_17 : decode cX1_listen 17 = .ok (.iload 4, 2) := by decide +kernel
theorem dX1_listen_19 : decode cX1_listen 19 = .ok (.aload_n 0, 1) := by decide +kernel
theorem dX1_listen_20 : decode cX1_listen 20 = .ok (.getfield 38, 3) := by decide +kernel
theorem dX1_listen_23 : decode cX1_listen 23 = .ok (.if_icmp .ge 61, 3) := by decide +kernel
theorem dX1_listen_26 : decode cX1_listen 26 = .ok (.aload_n 0, 1) := by decide +kernel
theorem dX1_listen_27 : decode cX1_listen 27 = .ok (.getfield 11, 3) := by decide +kernel
theorem dX1_listen_30 : decode cX1_listen 30 = .ok (.iload 4, 2) := by decide +kernel
theorem dX1_listen_32 : decode cX1_listen 32 = .ok (.aload_n 1, 1) := by decide +kernel
theorem dX1_listen_33 : decode cX1_listen 33 = .ok (.getfield 39, 3) := by decide +kernel
theorem dX1_listen_36 : decode cX1_listen 36 = .ok (.iload 4, 2) := by decide +kernel
theorem dX1_listen_38 : decode cX1_listen 38 = .ok (.aaload, 1) := by decide +kernel
theorem dX1_listen_39 : decode cX1_listen 39 = .ok (.aastore, 1) := by decide +kernel
theorem dX1_listen_40 : decode cX1_listen 40 = .ok (.aload_n 0, 1) := by decide +kernel
theorem dX1_listen_41 : decode cX1_listen 41 = .ok (.getfield 17, 3) := by decide +kernel
theorem dX1_listen_44 : decode cX1_listen 44 = .ok (.iload 4, 2) := by decide +kernel
theorem dX1_listen_46 : decode cX1_listen 46 = .ok (.aload_n 0, 1) := by decide +kernel
theorem dX1_listen_47 : decode cX1_listen 47 = .ok (.iload 4, 2) := by decide +kernel
theorem dX1_listen_49 : decode cX1_listen 49 = .ok (.aload_n 0, 1) := by decide +kernel
theorem dX1_listen_50 : decode cX1_listen 50 = .ok (.getfield 40, 3) := by decide +kernel
theorem dX1_listen_53 : decode cX1_listen 53 = .ok (.invokevirtual 43, 3) := by decide +kernel
theorem dX1_listen_56 : decode cX1_listen 56 = .ok (.lastore, 1) := by decide +kernel
theorem dX1_listen_57 : decode cX1_listen 57 = .ok (.aload_n 0, 1) := by decide +kernel
theorem dX1_listen_58 : decode cX1_listen 58 = .ok (.getfield 21, 3) := by decide +kernel
theorem dX1_listen_61 : decode cX1_listen 61 = .ok (.iload 4, 2) := by decide +kernel
theorem dX1_listen_63 : decode cX1_listen 63 = .ok (.aload_n 0, 1) := by decide +kernel
theorem dX1_listen_64 : decode cX1_listen 64 = .ok (.iload 4, 2) := by decide +kernel
theorem dX1_listen_66 : decode cX1_listen 66 = .ok (.invokevirtual 47, 3) := by decide +kernel
theorem dX1_listen_69 : decode cX1_listen 69 = .ok (.iastore, 1) := by decide +kernel
theorem dX1_listen_70 : decode cX1_listen 70 = .ok (.aload_n 0, 1) := by decide +kernel
theorem dX1_listen_71 : decode cX1_listen 71 = .ok (.getfield 25, 3) := by decide +kernel
theorem dX1_listen_74 : decode cX1_listen 74 = .ok (.iload 4, 2) := by decide +kernel
theorem dX1_listen_76 : decode cX1_listen 76 = .ok (.iconst 0, 1) := by decide +kernel
theorem dX1_listen_77 : decode cX1_listen 77 = .ok (.iastore, 1) := by decide +kernel
theorem dX1_listen_78 : decode cX1_listen 78 = .ok (.iinc 4 1, 3) := by decide +kernel
theorem dX1_listen_81 : decode cX1_listen 81 = .ok (.goto (-64), 3) := by decide +kernel
theorem dX1_listen_84 : decode cX1_listen 84 = .ok (.aload_n 0, 1) := by decide +kernel
theorem dX1_listen_85 : decode cX1_listen 85 = .ok (.aload_n 0, 1) := by decide +kernel
theorem dX1_listen_86 : decode cX1_listen 86 = .ok (.getfield 51, 3) := by decide +kernel
theorem dX1_listen_89 : decode cX1_listen 89 = .ok (.lconst 0, 1) := by decide +kernel
theorem dX1_listen_90 : decode cX1_listen 90 = .ok (.lcmp, 1) := by decide +kernel
theorem dX1_listen_91 : decode cX1_listen 91 = .ok (.ifCond .ne 7, 3) := by decide +kernel
theorem dX1_listen_94 : decode cX1_listen 94 = .ok (.iconst 1, 1) := by decide +kernel
theorem dX1_listen_95 : decode cX1_listen 95 = .ok (.goto 4, 3) := by decide +kernel
theorem dX1_listen_98 : decode cX1_listen 98 = .ok (.iconst 0, 1) := by decide +kernel
theorem dX1_listen_99 : decode cX1_listen 99 = .ok (.putfield 55, 3) := by decide +kernel
theorem dX1_listen_102 : decode cX1_listen 102 = .ok (.iconst 0, 1) := by decide +kernel
theorem dX1_listen_103 : decode cX1_listen 103 = .ok (.istore 4, 2) := by decide +kernel
theorem dX1_listen_105 : decode cX1_listen 105 = .ok (.iload 4, 2) := by decide +kernel
theorem dX1_listen_107 : decode cX1_listen 107 = .ok (.aload_n 0, 1) := by decide +kernel
theorem dX1_listen_108 : decode cX1_listen 108 = .ok (.getfield 38, 3) := by decide +kernel
theorem dX1_listen_111 : decode cX1_listen 111 = .ok (.if_icmp .ge 60, 3) := by decide +kernel
theorem dX1_listen_114 : decode cX1_listen 114 = .ok (.aload_n 0, 1) := by decide +kernel
theorem dX1_listen_115 : decode cX1_listen 115 = .ok (.aload_n 0, 1) := by decide +kernel
theorem dX1_listen_116 : decode cX1_listen 116 = .ok (.iload 4, 2) := by decide +kernel
theorem dX1_listen_118 : decode cX1_listen 118 = .ok (.invokevirtual 58, 3) := by decide +kernel
theorem dX1_listen_121 : decode cX1_listen 121 = .ok (.iload 4, 2) := by decide +kernel
theorem dX1_listen_123 : decode cX1_listen 123 = .ok (.iload 4, 2) := by decide +kernel
theorem dX1_listen_125 : decode cX1_listen 125 = .ok (.invokevirtual 61, 3) := by decide +kernel
theorem dX1_listen_128 : decode cX1_listen 128 = .ok (.iload 4, 2) := by decide +kernel
theorem dX1_listen_130 : decode cX1_listen 130 = .ok (.iconst 1, 1) := by decide +kernel
theorem dX1_listen_131 : decode cX1_listen 131 = .ok (.iadd, 1) := by decide +kernel
theorem dX1_listen_132 : decode cX1_listen 132 = .ok (.istore 5, 2) := by decide +kernel
theorem dX1_listen_134 : decode cX1_listen 134 = .ok (.iload 5, 2) := by decide +kernel
theorem dX1_listen_136 : decode cX1_listen 136 = .ok (.aload_n 0, 1) := by decide +kernel
theorem dX1_listen_137 : decode cX1_listen 137 = .ok (.getfield 38, 3) := by decide +kernel
theorem dX1_listen_140 : decode cX1_listen 140 = .ok (.if_icmp .ge 25, 3) := by decide +kernel
theorem dX1_listen_143 : decode cX1_listen 143 = .ok (.aload_n 0, 1) := by decide +kernel
theorem dX1_listen_144 : decode cX1_listen 144 = .ok (.aload_n 0, 1) := by decide +kernel
theorem dX1_listen_145 : decode cX1_listen 145 = .ok (.iload 4, 2) := by decide +kernel
theorem dX1_listen_147 : decode cX1_listen 147 = .ok (.iload 5, 2) := by decide +kernel
theorem dX1_listen_149 : decode cX1_listen 149 = .ok (.invokevirtual 65, 3) := by decide +kernel
theorem dX1_listen_152 : decode cX1_listen 152 = .ok (.iload 4, 2) := by decide +kernel
theorem dX1_listen_154 : decode cX1_listen 154 = .ok (.iload 5, 2) := by decide +kernel
theorem dX1_listen_156 : decode cX1_listen 156 = .ok (.invokevirtual 61, 3) := by decide +kernel
theorem dX1_listen_159 : decode cX1_listen 159 = .ok (.iinc 5 1, 3) := by decide +kernel
theorem dX1_listen_162 : decode cX1_listen 162 = .ok (.goto (-28), 3) := by decide +kernel
theorem dX1_listen_165 : decode cX1_listen 165 = .ok (.iinc 4 1, 3) := by decide +kernel
theorem dX1_listen_168 : decode cX1_listen 168 = .ok (.goto (-63), 3) := by decide +kernel
theorem dX1_listen_171 : decode cX1_listen 171 = .ok (.return_, 1) := by decide +kernel
theorem dX1_hear_0 : decode cX1_hear 0 = .ok (.aload_n 0, 1) := by decide +kernel
theorem dX1_hear_1 : decode cX1_hear 1 = .ok (.iload_n 2, 1) := by decide +kernel
theorem dX1_hear_2 : decode cX1_hear 2 = .ok (.bipush 60, 2) := by decide +kernel
theorem dX1_hear_4 : decode cX1_hear 4 = .ok (.invokestatic 69, 3) := by decide +kernel
theorem dX1_hear_7 : decode cX1_hear 7 = .ok (.putfield 74, 3) := by decide +kernel
theorem dX1_hear_10 : decode cX1_hear 10 = .ok (.aload_n 0, 1) := by decide +kernel
theorem dX1_hear_11 : decode cX1_hear 11 = .ok (.lconst 0, 1) := by decide +kernel
theorem dX1_hear_12 : decode cX1_hear 12 = .ok (.putfield 51, 3) := by decide +kernel
theorem dX1_hear_15 : decode cX1_hear 15 = .ok (.iconst 0, 1) := by decide +kernel
theorem dX1_hear_16 : decode cX1_hear 16 = .ok (.istore_n 3, 1) := by decide +kernel
theorem dX1_hear_17 : decode cX1_hear 17 = .ok (.iload_n 3, 1) := by decide +kernel
theorem dX1_hear_18 : decode cX1_hear 18 = .ok (.aload_n 0, 1) := by decide +kernel
theorem dX1_hear_19 : decode cX1_hear 19 = .ok (.getfield 74, 3) := by decide +kernel
theorem dX1_hear_22 : decode cX1_hear 22 = .ok (.if_icmp .ge 28, 3) := by decide +kernel
theorem dX1_hear_25 : decode cX1_hear 25 = .ok (.aload_n 1, 1) := by decide +kernel
theorem dX1_hear_26 : decode cX1_hear 26 = .ok (.iload_n 3, 1) := by decide +kernel
theorem dX1_hear_27 : decode cX1_hear 27 = .ok (.iaload, 1) := by decide +kernel
theorem dX1_hear_28 : decode cX1_hear 28 = .ok (.iconst 1, 1) := by decide +kernel
theorem dX1_hear_29 : decode cX1_hear 29 = .ok (.if_icmp .ne 15, 3) := by decide +kernel
theorem dX1_hear_32 : decode cX1_hear 32 = .ok (.aload_n 0, 1) := by decide +kernel
theorem dX1_hear_33 : decode cX1_hear 33 = .ok (.dup, 1) := by decide +kernel
theorem dX1_hear_34 : decode cX1_hear 34 = .ok (.getfield 51, 3) := by decide +kernel
theorem dX1_hear_37 : decode cX1_hear 37 = .ok (.lconst 1, 1) := by decide +kernel
theorem dX1_hear_38 : decode cX1_hear 38 = .ok (.iload_n 3, 1) := by decide +kernel
theorem dX1_hear_39 : decode cX1_hear 39 = .ok (.lshl, 1) := by decide +kernel
theorem dX1_hear_40 : decode cX1_hear 40 = .ok (.lor, 1) := by decide +kernel
theorem dX1_hear_41 : decode cX1_hear 41 = .ok (.putfield 51, 3) := by decide +kernel
theorem dX1_hear_44 : decode cX1_hear 44 = .ok (.iinc 3 1, 3) := by decide +kernel
theorem dX1_hear_47 : decode cX1_hear 47 = .ok (.goto (-30), 3) := by decide +kernel
theorem dX1_hear_50 : decode cX1_hear 50 = .ok (.aload_n 0, 1) := by decide +kernel
theorem dX1_hear_51 : decode cX1_hear 51 = .ok (.aload_n 0, 1) := by decide +kernel
theorem dX1_hear_52 : decode cX1_hear 52 = .ok (.getfield 51, 3) := by decide +kernel
theorem dX1_hear_55 : decode cX1_hear 55 = .ok (.invokestatic 77, 3) := by decide +kernel
theorem dX1_hear_58 : decode cX1_hear 58 = .ok (.putfield 40, 3) := by decide +kernel
theorem dX1_hear_61 : decode cX1_hear 61 = .ok (.return_, 1) := by decide +kernel
theorem dX1_firstTick_0 : decode cX1_firstTick 0 = .ok (.iconst 0, 1) := by decide +kernel
theorem dX1_firstTick_1 : decode cX1_firstTick 1 = .ok (.istore_n 2, 1) := by decide +kernel
theorem dX1_firstTick_2 : decode cX1_firstTick 2 = .ok (.iload_n 2, 1) := by decide +kernel
theorem dX1_firstTick_3 : decode cX1_firstTick 3 = .ok (.bipush 60, 2) := by decide +kernel
theorem dX1_firstTick_5 : decode cX1_firstTick 5 = .ok (.if_icmp .ge 21, 3) := by decide +kernel
theorem dX1_firstTick_8 : decode cX1_firstTick 8 = .ok (.lload_n 0, 1) := by decide +kernel
theorem dX1_firstTick_9 : decode cX1_firstTick 9 = .ok (.iload_n 2, 1) := by decide +kernel
theorem dX1_firstTick_10 : decode cX1_firstTick 10 = .ok (.lshr, 1) := by decide +kernel
theorem dX1_firstTick_11 : decode cX1_firstTick 11 = .ok (.lconst 1, 1) := by decide +kernel
theorem dX1_firstTick_12 : decode cX1_firstTick 12 = .ok (.land, 1) := by decide +kernel
theorem dX1_firstTick_13 : decode cX1_firstTick 13 = .ok (.lconst 0, 1) := by decide +kernel
theorem dX1_firstTick_14 : decode cX1_firstTick 14 = .ok (.lcmp, 1) := by decide +kernel
theorem dX1_firstTick_15 : decode cX1_firstTick 15 = .ok (.ifCond .eq 5, 3) := by decide +kernel
theorem dX1_firstTick_18 : decode cX1_firstTick 18 = .ok (.iload_n 2, 1) := by decide +kernel
theorem dX1_firstTick_19 : decode cX1_firstTick 19 = .ok (.ireturn, 1) := by decide +kernel
theorem dX1_firstTick_20 : decode cX1_firstTick 20 = .ok (.iinc 2 1, 3) := by decide +kernel
theorem dX1_firstTick_23 : decode cX1_firstTick 23 = .ok (.goto (-21), 3) := by decide +kernel
theorem dX1_firstTick_26 : decode cX1_firstTick 26 = .ok (.iconst 0, 1) := by decide +kernel
theorem dX1_firstTick_27 : decode cX1_firstTick 27 = .ok (.ireturn, 1) := by decide +kernel
theorem dX1_soundAt_0 : decode cX1_soundAt 0 = .ok (.aload_n 0, 1) := by decide +kernel
theorem dX1_soundAt_1 : decode cX1_soundAt 1 = .ok (.getfield 11, 3) := by decide +kernel
theorem dX1_soundAt_4 : decode cX1_soundAt 4 = .ok (.iload_n 1, 1) := by decide +kernel
theorem dX1_soundAt_5 : decode cX1_soundAt 5 = .ok (.aaload, 1) := by decide +kernel
theorem dX1_soundAt_6 : decode cX1_soundAt 6 = .ok (.getfield 81, 3) := by decide +kernel
theorem dX1_soundAt_9 : decode cX1_soundAt 9 = .ok (.iconst 1, 1) := by decide +kernel
theorem dX1_soundAt_10 : decode cX1_soundAt 10 = .ok (.invokestatic 84, 3) := by decide +kernel
theorem dX1_soundAt_13 : decode cX1_soundAt 13 = .ok (.istore_n 3, 1) := by decide +kernel
theorem dX1_soundAt_14 : decode cX1_soundAt 14 = .ok (.lconst 0, 1) := by decide +kernel
theorem dX1_soundAt_15 : decode cX1_soundAt 15 = .ok (.lstore 4, 2) := by decide +kernel
theorem dX1_soundAt_17 : decode cX1_soundAt 17 = .ok (.iload_n 2, 1) := by decide +kernel
theorem dX1_soundAt_18 : decode cX1_soundAt 18 = .ok (.iload_n 3, 1) := by decide +kernel
theorem dX1_soundAt_19 : decode cX1_soundAt 19 = .ok (.irem, 1) := by decide +kernel
theorem dX1_soundAt_20 : decode cX1_soundAt 20 = .ok (.istore 6, 2) := by decide +kernel
theorem dX1_soundAt_22 : decode cX1_soundAt 22 = .ok (.iload 6, 2) := by decide +kernel
theorem dX1_soundAt_24 : decode cX1_soundAt 24 = .ok (.aload_n 0, 1) := by decide +kernel
theorem dX1_soundAt_25 : decode cX1_soundAt 25 = .ok (.getfield 74, 3) := by decide +kernel
theorem dX1_soundAt_28 : decode cX1_soundAt 28 = .ok (.if_icmp .ge 21, 3) := by decide +kernel
theorem dX1_soundAt_31 : decode cX1_soundAt 31 = .ok (.lload 4, 2) := by decide +kernel
theorem dX1_soundAt_33 : decode cX1_soundAt 33 = .ok (.lconst 1, 1) := by decide +kernel
theorem dX1_soundAt_34 : decode cX1_soundAt 34 = .ok (.iload 6, 2) := by decide +kernel
theorem dX1_soundAt_36 : decode cX1_soundAt 36 = .ok (.lshl, 1) := by decide +kernel
theorem dX1_soundAt_37 : decode cX1_soundAt 37 = .ok (.lor, 1) := by decide +kernel
theorem dX1_soundAt_38 : decode cX1_soundAt 38 = .ok (.lstore 4, 2) := by decide +kernel
theorem dX1_soundAt_40 : decode cX1_soundAt 40 = .ok (.iload 6, 2) := by decide +kernel
theorem dX1_soundAt_42 : decode cX1_soundAt 42 = .ok (.iload_n 3, 1) := by decide +kernel
theorem dX1_soundAt_43 : decode cX1_soundAt 43 = .ok (.iadd, 1) := by decide +kernel
theorem dX1_soundAt_44 : decode cX1_soundAt 44 = .ok (.istore 6, 2) := by decide +kernel
theorem dX1_soundAt_46 : decode cX1_soundAt 46 = .ok (.goto (-24), 3) := by decide +kernel
theorem dX1_soundAt_49 : decode cX1_soundAt 49 = .ok (.lload 4, 2) := by decide +kernel
theorem dX1_soundAt_51 : decode cX1_soundAt 51 = .ok (.lreturn, 1) := by decide +kernel
theorem dX1_isInside_0 : decode cX1_isInside 0 = .ok (.lload_n 1, 1) := by decide +kernel
theorem dX1_isInside_1 : decode cX1_isInside 1 = .ok (.aload_n 0, 1) := by decide +kernel
theorem dX1_isInside_2 : decode cX1_isInside 2 = .ok (.getfield 51, 3) := by decide +kernel
theorem dX1_isInside_5 : decode cX1_isInside 5 = .ok (.ldc2_w 87, 3) := by decide +kernel
theorem dX1_isInside_8 : decode cX1_isInside 8 = .ok (.lxor, 1) := by decide +kernel
theorem dX1_isInside_9 : decode cX1_isInside 9 = .ok (.land, 1) := by decide +kernel
theorem dX1_isInside_10 : decode cX1_isInside 10 = .ok (.lconst 0, 1) := by decide +kernel
theorem dX1_isInside_11 : decode cX1_isInside 11 = .ok (.lcmp, 1) := by decide +kernel
theorem dX1_isInside_12 : decode cX1_isInside 12 = .ok (.ifCond .ne 7, 3) := by decide +kernel
theorem dX1_isInside_15 : decode cX1_isInside 15 = .ok (.iconst 1, 1) := by decide +kernel
theorem dX1_isInside_16 : decode cX1_isInside 16 = .ok (.goto 4, 3) := by decide +kernel
theorem dX1_isInside_19 : decode cX1_isInside 19 = .ok (.iconst 0, 1) := by decide +kernel
theorem dX1_isInside_20 : decode cX1_isInside 20 = .ok (.ireturn, 1) := by decide +kernel
theorem dX1_countInside_0 : decode cX1_countInside 0 = .ok (.aload_n 0, 1) := by decide +kernel
theorem dX1_countInside_1 : decode cX1_countInside 1 = .ok (.getfield 11, 3) := by decide +kernel
theorem dX1_countInside_4 : decode cX1_countInside 4 = .ok (.iload_n 1, 1) := by decide +kernel
theorem dX1_countInside_5 : decode cX1_countInside 5 = .ok (.aaload, 1) := by decide +kernel
theorem dX1_countInside_6 : decode cX1_countInside 6 = .ok (.getfield 81, 3) := by decide +kernel
theorem dX1_countInside_9 : decode cX1_countInside 9 = .ok (.istore_n 2, 1) := by decide +kernel
theorem dX1_countInside_10 : decode cX1_countInside 10 = .ok (.iload_n 2, 1) := by decide +kernel
theorem dX1_countInside_11 : decode cX1_countInside 11 = .ok (.aload_n 0, 1) := by decide +kernel
theorem dX1_countInside_12 : decode cX1_countInside 12 = .ok (.getfield 74, 3) := by decide +kernel
theorem dX1_countInside_15 : decode cX1_countInside 15 = .ok (.isub, 1) := by decide +kernel
theorem dX1_countInside_16 : decode cX1_countInside 16 = .ok (.iconst 0, 1) := by decide +kernel
theorem dX1_countInside_17 : decode cX1_countInside 17 = .ok (.invokestatic 84, 3) := by decide +kernel
theorem dX1_countInside_20 : decode cX1_countInside 20 = .ok (.istore_n 3, 1) := by decide +kernel
theorem dX1_countInside_21 : decode cX1_countInside 21 = .ok (.iconst 0, 1) := by decide +kernel
theorem dX1_countInside_22 : decode cX1_countInside 22 = .ok (.istore 4, 2) := by decide +kernel
theorem dX1_countInside_24 : decode cX1_countInside 24 = .ok (.iload 4, 2) := by decide +kernel
theorem dX1_countInside_26 : decode cX1_countInside 26 = .ok (.iload_n 2, 1) := by decide +kernel
theorem dX1_countInside_27 : decode cX1_countInside 27 = .ok (.aload_n 0, 1) := by decide +kernel
theorem dX1_countInside_28 : decode cX1_countInside 28 = .ok (.getfield 74, 3) := by decide +kernel
theorem dX1_countInside_31 : decode cX1_countInside 31 = .ok (.invokestatic 69, 3) := by decide +kernel
theorem dX1_countInside_34 : decode cX1_countInside 34 = .ok (.if_icmp .ge 31, 3) := by decide +kernel
theorem dX1_countInside_37 : decode cX1_countInside 37 = .ok (.iload_n 3, 1) := by decide +kernel
theorem dX1_countInside_38 : decode cX1_countInside 38 = .ok (.aload_n 0, 1) := by decide +kernel
theorem dX1_countInside_39 : decode cX1_countInside 39 = .ok (.aload_n 0, 1) := by decide +kernel
theorem dX1_countInside_40 : decode cX1_countInside 40 = .ok (.iload_n 1, 1) := by decide +kernel
theorem dX1_countInside_41 : decode cX1_countInside 41 = .ok (.iload 4, 2) := by decide +kernel
theorem dX1_countInside_43 : decode cX1_countInside 43 = .ok (.invokevirtual 43, 3) := by decide +kernel
theorem dX1_countInside_46 : decode cX1_countInside 46 = .ok (.invokevirtual 89, 3) := by decide +kernel
theorem dX1_countInside_49 : decode cX1_countInside 49 = .ok (.ifCond .eq 7, 3) := by decide +kernel
theorem dX1_countInside_52 : decode cX1_countInside 52 = .ok (.iconst 1, 1) := by decide +kernel
theorem dX1_countInside_53 : decode cX1_countInside 53 = .ok (.goto 4, 3) := by decide +kernel
theorem dX1_countInside_56 : decode cX1_countInside 56 = .ok (.iconst 0, 1) := by decide +kernel
theorem dX1_countInside_57 : decode cX1_countInside 57 = .ok (.iadd, 1) := by decide +kernel
theorem dX1_countInside_58 : decode cX1_countInside 58 = .ok (.istore_n 3, 1) := by decide +kernel
theorem dX1_countInside_59 : decode cX1_countInside 59 = .ok (.iinc 4 1, 3) := by decide +kernel
theorem dX1_countInside_62 : decode cX1_countInside 62 = .ok (.goto (-38), 3) := by decide +kernel
theorem dX1_countInside_65 : decode cX1_countInside 65 = .ok (.iload_n 3, 1) := by decide +kernel
theorem dX1_countInside_66 : decode cX1_countInside 66 = .ok (.ireturn, 1) := by decide +kernel
theorem dX1_addSets_0 : decode cX1_addSets 0 = .ok (.aload_n 0, 1) := by decide +kernel
theorem dX1_addSets_1 : decode cX1_addSets 1 = .ok (.dup, 1) := by decide +kernel
theorem dX1_addSets_2 : decode cX1_addSets 2 = .ok (.getfield 55, 3) := by decide +kernel
theorem dX1_addSets_5 : decode cX1_addSets 5 = .ok (.iload_n 1, 1) := by decide +kernel
theorem dX1_addSets_6 : decode cX1_addSets 6 = .ok (.iadd, 1) := by decide +kernel
theorem dX1_addSets_7 : decode cX1_addSets 7 = .ok (.putfield 55, 3) := by decide +kernel
theorem dX1_addSets_10 : decode cX1_addSets 10 = .ok (.aload_n 0, 1) := by decide +kernel
theorem dX1_addSets_11 : decode cX1_addSets 11 = .ok (.getfield 25, 3) := by decide +kernel
theorem dX1_addSets_14 : decode cX1_addSets 14 = .ok (.iload_n 2, 1) := by decide +kernel
theorem dX1_addSets_15 : decode cX1_addSets 15 = .ok (.dup2, 1) := by decide +kernel
theorem dX1_addSets_16 : decode cX1_addSets 16 = .ok (.iaload, 1) := by decide +kernel
theorem dX1_addSets_17 : decode cX1_addSets 17 = .ok (.iload_n 1, 1) := by decide +kernel
theorem dX1_addSets_18 : decode cX1_addSets 18 = .ok (.iadd, 1) := by decide +kernel
theorem dX1_addSets_19 : decode cX1_addSets 19 = .ok (.iastore, 1) := by decide +kernel
theorem dX1_addSets_20 : decode cX1_addSets 20 = .ok (.iload_n 3, 1) := by decide +kernel
theorem dX1_addSets_21 : decode cX1_addSets 21 = .ok (.iload_n 2, 1) := by decide +kernel
theorem dX1_addSets_22 : decode cX1_addSets 22 = .ok (.if_icmp .eq 13, 3) := by decide +kernel
theorem dX1_addSets_25 : decode cX1_addSets 25 = .ok (.aload_n 0, 1) := by decide +kernel
theorem dX1_addSets_26 : decode cX1_addSets 26 = .ok (.getfield 25, 3) := by decide +kernel
theorem dX1_addSets_29 : decode cX1_addSets 29 = .ok (.iload_n 3, 1) := by decide +kernel
theorem dX1_addSets_30 : decode cX1_addSets 30 = .ok (.dup2, 1) := by decide +kernel
theorem dX1_addSets_31 : decode cX1_addSets 31 = .ok (.iaload, 1) := by decide +kernel
theorem dX1_addSets_32 : decode cX1_addSets 32 = .ok (.iload_n 1, 1) := by decide +kernel
theorem dX1_addSets_33 : decode cX1_addSets 33 = .ok (.iadd, 1) := by decide +kernel
theorem dX1_addSets_34 : decode cX1_addSets 34 = .ok (.iastore, 1) := by decide +kernel
theorem dX1_addSets_35 : decode cX1_addSets 35 = .ok (.return_, 1) := by decide +kernel
theorem dX1_countSingles_0 : decode cX1_countSingles 0 = .ok (.aload_n 0, 1) := by decide +kernel
theorem dX1_countSingles_1 : decode cX1_countSingles 1 = .ok (.getfield 51, 3) := by decide +kernel
theorem dX1_countSingles_4 : decode cX1_countSingles 4 = .ok (.lconst 0, 1) := by decide +kernel
theorem dX1_countSingles_5 : decode cX1_countSingles 5 = .ok (.lcmp, 1) := by decide +kernel
theorem dX1_countSingles_6 : decode cX1_countSingles 6 = .ok (.ifCond .ne 10, 3) := by decide +kernel
theorem dX1_countSingles_9 : decode cX1_countSingles 9 = .ok (.aload_n 0, 1) := by decide +kernel
theorem dX1_countSingles_10 : decode cX1_countSingles 10 = .ok (.getfield 21, 3) := by decide +kernel
theorem dX1_countSingles_13 : decode cX1_countSingles 13 = .ok (.iload_n 1, 1) := by decide +kernel
theorem dX1_countSingles_14 : decode cX1_countSingles 14 = .ok (.iaload, 1) := by decide +kernel
theorem dX1_countSingles_15 : decode cX1_countSingles 15 = .ok (.ireturn, 1) := by decide +kernel
theorem dX1_countSingles_16 : decode cX1_countSingles 16 = .ok (.aload_n 0, 1) := by decide +kernel
theorem dX1_countSingles_17 : decode cX1_countSingles 17 = .ok (.getfield 17, 3) := by decide +kernel
theorem dX1_countSingles_20 : decode cX1_countSingles 20 = .ok (.iload_n 1, 1) := by decide +kernel
theorem dX1_countSingles_21 : decode cX1_countSingles 21 = .ok (.laload, 1) := by decide +kernel
theorem dX1_countSingles_22 : decode cX1_countSingles 22 = .ok (.aload_n 0, 1) := by decide +kernel
theorem dX1_countSingles_23 : decode cX1_countSingles 23 = .ok (.getfield 51, 3) := by decide +kernel
theorem dX1_countSingles_26 : decode cX1_countSingles 26 = .ok (.lcmp, 1) := by decide +kernel
theorem dX1_countSingles_27 : decode cX1_countSingles 27 = .ok (.ifCond .ne 7, 3) := by decide +kernel
theorem dX1_countSingles_30 : decode cX1_countSingles 30 = .ok (.iconst 1, 1) := by decide +kernel
theorem dX1_countSingles_31 : decode cX1_countSingles 31 = .ok (.goto 4, 3) := by decide +kernel
theorem dX1_countSingles_34 : decode cX1_countSingles 34 = .ok (.iconst 0, 1) := by decide +kernel
theorem dX1_countSingles_35 : decode cX1_countSingles 35 = .ok (.ireturn, 1) := by decide +kernel
theorem dX1_countPairs_0 : decode cX1_countPairs 0 = .ok (.aload_n 0, 1) := by decide +kernel
theorem dX1_countPairs_1 : decode cX1_countPairs 1 = .ok (.getfield 51, 3) := by decide +kernel
theorem dX1_countPairs_4 : decode cX1_countPairs 4 = .ok (.lconst 0, 1) := by decide +kernel
theorem dX1_countPairs_5 : decode cX1_countPairs 5 = .ok (.lcmp, 1) := by decide +kernel
theorem dX1_countPairs_6 : decode cX1_countPairs 6 = .ok (.ifCond .ne 17, 3) := by decide +kernel
theorem dX1_countPairs_9 : decode cX1_countPairs 9 = .ok (.aload_n 0, 1) := by decide +kernel
theorem dX1_countPairs_10 : decode cX1_countPairs 10 = .ok (.getfield 21, 3) := by decide +kernel
theorem dX1_countPairs_13 : decode cX1_countPairs 13 = .ok (.iload_n 1, 1) := by decide +kernel
theorem dX1_countPairs_14 : decode cX1_countPairs 14 = .ok (.iaload, 1) := by decide +kernel
theorem dX1_countPairs_15 : decode cX1_countPairs 15 = .ok (.aload_n 0, 1) := by decide +kernel
theorem dX1_countPairs_16 : decode cX1_countPairs 16 = .ok (.getfield 21, 3) := by decide +kernel
theorem dX1_countPairs_19 : decode cX1_countPairs 19 = .ok (.iload_n 2, 1) := by decide +kernel
theorem dX1_countPairs_20 : decode cX1_countPairs 20 = .ok (.iaload, 1) := by decide +kernel
theorem dX1_countPairs_21 : decode cX1_countPairs 21 = .ok (.imul, 1) := by decide +kernel
theorem dX1_countPairs_22 : decode cX1_countPairs 22 = .ok (.ireturn, 1) := by decide +kernel
theorem dX1_countPairs_23 : decode cX1_countPairs 23 = .ok (.aload_n 0, 1) := by decide +kernel
theorem dX1_countPairs_24 : decode cX1_countPairs 24 = .ok (.getfield 17, 3) := by decide +kernel
theorem dX1_countPairs_27 : decode cX1_countPairs 27 = .ok (.iload_n 1, 1) := by decide +kernel
theorem dX1_countPairs_28 : decode cX1_countPairs 28 = .ok (.laload, 1) := by decide +kernel
theorem dX1_countPairs_29 : decode cX1_countPairs 29 = .ok (.aload_n 0, 1) := by decide +kernel
theorem dX1_countPairs_30 : decode cX1_countPairs 30 = .ok (.getfield 17, 3) := by decide +kernel
theorem dX1_countPairs_33 : decode cX1_countPairs 33 = .ok (.iload_n 2, 1) := by decide +kernel
theorem dX1_countPairs_34 : decode cX1_countPairs 34 = .ok (.laload, 1) := by decide +kernel
theorem dX1_countPairs_35 : decode cX1_countPairs 35 = .ok (.lor, 1) := by decide +kernel
theorem dX1_countPairs_36 : decode cX1_countPairs 36 = .ok (.aload_n 0, 1) := by decide +kernel
theorem dX1_countPairs_37 : decode cX1_countPairs 37 = .ok (.getfield 51, 3) := by decide +kernel
theorem dX1_countPairs_40 : decode cX1_countPairs 40 = .ok (.lcmp, 1) := by decide +kernel
theorem dX1_countPairs_41 : decode cX1_countPairs 41 = .ok (.ifCond .ne 7, 3) := by decide +kernel
theorem dX1_countPairs_44 : decode cX1_countPairs 44 = .ok (.iconst 1, 1) := by decide +kernel
theorem dX1_countPairs_45 : decode cX1_countPairs 45 = .ok (.goto 4, 3) := by decide +kernel
theorem dX1_countPairs_48 : decode cX1_countPairs 48 = .ok (.iconst 0, 1) := by decide +kernel
theorem dX1_countPairs_49 : decode cX1_countPairs 49 = .ok (.istore_n 3, 1) := by decide +kernel
theorem dX1_countPairs_50 : decode cX1_countPairs 50 = .ok (.iload_n 3, 1) := by decide +kernel
theorem dX1_countPairs_51 : decode cX1_countPairs 51 = .ok (.aload_n 0, 1) := by decide +kernel
theorem dX1_countPairs_52 : decode cX1_countPairs 52 = .ok (.iload_n 1, 1) := by decide +kernel
theorem dX1_countPairs_53 : decode cX1_countPairs 53 = .ok (.iload_n 2, 1) := by decide +kernel
theorem dX1_countPairs_54 : decode cX1_countPairs 54 = .ok (.invokevirtual 93, 3) := by decide +kernel
theorem dX1_countPairs_57 : decode cX1_countPairs 57 = .ok (.iadd, 1) := by decide +kernel
theorem dX1_countPairs_58 : decode cX1_countPairs 58 = .ok (.aload_n 0, 1) := by decide +kernel
theorem dX1_countPairs_59 : decode cX1_countPairs 59 = .ok (.iload_n 2, 1) := by decide +kernel
theorem dX1_countPairs_60 : decode cX1_countPairs 60 = .ok (.iload_n 1, 1) := by decide +kernel
theorem dX1_countPairs_61 : decode cX1_countPairs 61 = .ok (.invokevirtual 93, 3) := by decide +kernel
theorem dX1_countPairs_64 : decode cX1_countPairs 64 = .ok (.iadd, 1) := by decide +kernel
theorem dX1_countPairs_65 : decode cX1_countPairs 65 = .ok (.ireturn, 1) := by decide +kernel
theorem dX1_countBeside_0 : decode cX1_countBeside 0 = .ok (.aload_n 0, 1) := by decide +kernel
theorem dX1_countBeside_1 : decode cX1_countBeside 1 = .ok (.aload_n 0, 1) := by decide +kernel
theorem dX1_countBeside_2 : decode cX1_countBeside 2 = .ok (.getfield 17, 3) := by decide +kernel
theorem dX1_countBeside_5 : decode cX1_countBeside 5 = .ok (.iload_n 1, 1) := by decide +kernel
theorem dX1_countBeside_6 : decode cX1_countBeside 6 = .ok (.laload, 1) := by decide +kernel
theorem dX1_countBeside_7 : decode cX1_countBeside 7 = .ok (.invokevirtual 89, 3) := by decide +kernel
theorem dX1_countBeside_10 : decode cX1_countBeside 10 = .ok (.ifCond .ne 5, 3) := by decide +kernel
theorem dX1_countBeside_13 : decode cX1_countBeside 13 = .ok (.iconst 0, 1) := by decide +kernel
theorem dX1_countBeside_14 : decode cX1_countBeside 14 = .ok (.ireturn, 1) := by decide +kernel
theorem dX1_countBeside_15 : decode cX1_countBeside 15 = .ok (.aload_n 0, 1) := by decide +kernel
theorem dX1_countBeside_16 : decode cX1_countBeside 16 = .ok (.getfield 51, 3) := by decide +kernel
theorem dX1_countBeside_19 : decode cX1_countBeside 19 = .ok (.aload_n 0, 1) := by decide +kernel
theorem dX1_countBeside_20 : decode cX1_countBeside 20 = .ok (.getfield 17, 3) := by decide +kernel
theorem dX1_countBeside_23 : decode cX1_countBeside 23 = .ok (.iload_n 1, 1) := by decide +kernel
theorem dX1_countBeside_24 : decode cX1_countBeside 24 = .ok (.laload, 1) := by decide +kernel
theorem dX1_countBeside_25 : decode cX1_countBeside 25 = .ok (.ldc2_w 87, 3) := by decide +kernel
theorem dX1_countBeside_28 : decode cX1_countBeside 28 = .ok (.lxor, 1) := by decide +kernel
theorem dX1_countBeside_29 : decode cX1_countBeside 29 = .ok (.land, 1) := by decide +kernel
theorem dX1_countBeside_30 : decode cX1_countBeside 30 = .ok (.lstore_n 3, 1) := by decide +kernel
theorem dX1_countBeside_31 : decode cX1_countBeside 31 = .ok (.lload_n 3, 1) := by decide +kernel
theorem dX1_countBeside_32 : decode cX1_countBeside 32 = .ok (.lconst 0, 1) := by decide +kernel
theorem dX1_countBeside_33 : decode cX1_countBeside 33 = .ok (.lcmp, 1) := by decide +kernel
theorem dX1_countBeside_34 : decode cX1_countBeside 34 = .ok (.ifCond .ne 29, 3) := by decide +kernel
theorem dX1_countBeside_37 : decode cX1_countBeside 37 = .ok (.aload_n 0, 1) := by decide +kernel
theorem dX1_countBeside_38 : decode cX1_countBeside 38 = .ok (.getfield 21, 3) := by decide +kernel
theorem dX1_countBeside_41 : decode cX1_countBeside 41 = .ok (.iload_n 2, 1) := by decide +kernel
theorem dX1_countBeside_42 : decode cX1_countBeside 42 = .ok (.iaload, 1) := by decide +kernel
theorem dX1_countBeside_43 : decode cX1_countBeside 43 = .ok (.aload_n 0, 1) := by decide +kernel
theorem dX1_countBeside_44 : decode cX1_countBeside 44 = .ok (.aload_n 0, 1) := by decide +kernel
theorem dX1_countBeside_45 : decode cX1_countBeside 45 = .ok (.getfield 17, 3) := by decide +kernel
theorem dX1_countBeside_48 : decode cX1_countBeside 48 = .ok (.iload_n 2, 1) := by decide +kernel
theorem dX1_countBeside_49 : decode cX1_countBeside 49 = .ok (.laload, 1) := by decide +kernel
theorem dX1_countBeside_50 : decode cX1_countBeside 50 = .ok (.invokevirtual 89, 3) := by decide +kernel
theorem dX1_countBeside_53 : decode cX1_countBeside 53 = .ok (.ifCond .eq 7, 3) := by decide +kernel
theorem dX1_countBeside_56 : decode cX1_countBeside 56 = .ok (.iconst 1, 1) := by decide +kernel
theorem dX1_countBeside_57 : decode cX1_countBeside 57 = .ok (.goto 4, 3) := by decide +kernel
theorem dX1_countBeside_60 : decode cX1_countBeside 60 = .ok (.iconst 0, 1) := by decide +kernel
theorem dX1_countBeside_61 : decode cX1_countBeside 61 = .ok (.isub, 1) := by decide +kernel
theorem dX1_countBeside_62 : decode cX1_countBeside 62 = .ok (.ireturn, 1) := by decide +kernel
theorem dX1_countBeside_63 : decode cX1_countBeside 63 = .ok (.aload_n 0, 1) := by decide +kernel
theorem dX1_countBeside_64 : decode cX1_countBeside 64 = .ok (.iload_n 2, 1) := by decide +kernel
theorem dX1_countBeside_65 : decode cX1_countBeside 65 = .ok (.lload_n 3, 1) := by decide +kernel
theorem dX1_countBeside_66 : decode cX1_countBeside 66 = .ok (.invokestatic 77, 3) := by decide +kernel
theorem dX1_countBeside_69 : decode cX1_countBeside 69 = .ok (.invokevirtual 43, 3) := by decide +kernel
theorem dX1_countBeside_72 : decode cX1_countBeside 72 = .ok (.lstore 5, 2) := by decide +kernel
theorem dX1_countBeside_74 : decode cX1_countBeside 74 = .ok (.lload 5, 2) := by decide +kernel
theorem dX1_countBeside_76 : decode cX1_countBeside 76 = .ok (.aload_n 0, 1) := by decide +kernel
theorem dX1_countBeside_77 : decode cX1_countBeside 77 = .ok (.getfield 17, 3) := by decide +kernel
theorem dX1_countBeside_80 : decode cX1_countBeside 80 = .ok (.iload_n 2, 1) := by decide +kernel
theorem dX1_countBeside_81 : decode cX1_countBeside 81 = .ok (.laload, 1) := by decide +kernel
theorem dX1_countBeside_82 : decode cX1_countBeside 82 = .ok (.lcmp, 1) := by decide +kernel
theorem dX1_countBeside_83 : decode cX1_countBeside 83 = .ok (.ifCond .eq 24, 3) := by decide +kernel
theorem dX1_countBeside_86 : decode cX1_countBeside 86 = .ok (.lload 5, 2) := by decide +kernel
theorem dX1_countBeside_88 : decode cX1_countBeside 88 = .ok (.aload_n 0, 1) := by decide +kernel
theorem dX1_countBeside_89 : decode cX1_countBeside 89 = .ok (.getfield 17, 3) := by decide +kernel
theorem dX1_countBeside_92 : decode cX1_countBeside 92 = .ok (.iload_n 1, 1) := by decide +kernel
theorem dX1_countBeside_93 : decode cX1_countBeside 93 = .ok (.laload, 1) := by decide +kernel
theorem dX1_countBeside_94 : decode cX1_countBeside 94 = .ok (.lor, 1) := by decide +kernel
theorem dX1_countBeside_95 : decode cX1_countBeside 95 = .ok (.aload_n 0, 1) := by decide +kernel
theorem dX1_countBeside_96 : decode cX1_countBeside 96 = .ok (.getfield 51, 3) := by decide +kernel
theorem dX1_countBeside_99 : decode cX1_countBeside 99 = .ok (.lcmp, 1) := by decide +kernel
theorem dX1_countBeside_100 : decode cX1_countBeside 100 = .ok (.ifCond .ne 7, 3) := by decide +kernel
theorem dX1_countBeside_103 : decode cX1_countBeside 103 = .ok (.iconst 1, 1) := by decide +kernel
theorem dX1_countBeside_104 : decode cX1_countBeside 104 = .ok (.goto 4, 3) := by decide +kernel
theorem dX1_countBeside_107 : decode cX1_countBeside 107 = .ok (.iconst 0, 1) := by decide +kernel
theorem dX1_countBeside_108 : decode cX1_countBeside 108 = .ok (.istore 7, 2) := by decide +kernel
theorem dX1_countBeside_110 : decode cX1_countBeside 110 = .ok (.iload 7, 2) := by decide +kernel
theorem dX1_countBeside_112 : decode cX1_countBeside 112 = .ok (.ifCond .eq 7, 3) := by decide +kernel
theorem dX1_countBeside_115 : decode cX1_countBeside 115 = .ok (.iconst 1, 1) := by decide +kernel
theorem dX1_countBeside_116 : decode cX1_countBeside 116 = .ok (.goto 4, 3) := by decide +kernel
theorem dX1_countBeside_119 : decode cX1_countBeside 119 = .ok (.iconst 0, 1) := by decide +kernel
theorem dX1_countBeside_120 : decode cX1_countBeside 120 = .ok (.ireturn, 1) := by decide +kernel
theorem dX1_blamed_0 : decode cX1_blamed 0 = .ok (.iconst 0, 1) := by decide +kernel
theorem dX1_blamed_1 : decode cX1_blamed 1 = .ok (.istore_n 1, 1) := by decide +kernel
theorem dX1_blamed_2 : decode cX1_blamed 2 = .ok (.iconst 0, 1) := by decide +kernel
theorem dX1_blamed_3 : decode cX1_blamed 3 = .ok (.istore_n 2, 1) := by decide +kernel
theorem dX1_blamed_4 : decode cX1_blamed 4 = .ok (.iload_n 2, 1) := by decide +kernel
theorem dX1_blamed_5 : decode cX1_blamed 5 = .ok (.aload_n 0, 1) := by decide +kernel
theorem dX1_blamed_6 : decode cX1_blamed 6 = .ok (.getfield 38, 3) := by decide +kernel
theorem dX1_blamed_9 : decode cX1_blamed 9 = .ok (.if_icmp .ge 35, 3) := by decide +kernel
theorem dX1_blamed_12 : decode cX1_blamed 12 = .ok (.aload_n 0, 1) := by decide +kernel
theorem dX1_blamed_13 : decode cX1_blamed 13 = .ok (.getfield 55, 3) := by decide +kernel
theorem dX1_blamed_16 : decode cX1_blamed 16 = .ok (.ifCond .le 22, 3) := by decide +kernel
theorem dX1_blamed_19 : decode cX1_blamed 19 = .ok (.aload_n 0, 1) := by decide +kernel
theorem dX1_blamed_20 : decode cX1_blamed 20 = .ok (.getfield 25, 3) := by decide +kernel
theorem dX1_blamed_23 : decode cX1_blamed 23 = .ok (.iload_n 2, 1) := by decide +kernel
theorem dX1_blamed_24 : decode cX1_blamed 24 = .ok (.iaload, 1) := by decide +kernel
theorem dX1_blamed_25 : decode cX1_blamed 25 = .ok (.aload_n 0, 1) := by decide +kernel
theorem dX1_blamed_26 : decode cX1_blamed 26 = .ok (.getfield 55, 3) := by decide +kernel
theorem dX1_blamed_29 : decode cX1_blamed 29 = .ok (.if_icmp .ne 9, 3) := by decide +kernel
theorem dX1_blamed_32 : decode cX1_blamed 32 = .ok (.iload_n 1, 1) := by decide +kernel
theorem dX1_blamed_33 : decode cX1_blamed 33 = .ok (.iconst 1, 1) := by decide +kernel
theorem dX1_blamed_34 : decode cX1_blamed 34 = .ok (.iload_n 2, 1) := by decide +kernel
theorem dX1_blamed_35 : decode cX1_blamed 35 = .ok (.ishl, 1) := by decide +kernel
theorem dX1_blamed_36 : decode cX1_blamed 36 = .ok (.ior, 1) := by decide +kernel
theorem dX1_blamed_37 : decode cX1_blamed 37 = .ok (.istore_n 1, 1) := by decide +kernel
theorem dX1_blamed_38 : decode cX1_blamed 38 = .ok (.iinc 2 1, 3) := by decide +kernel
theorem dX1_blamed_41 : decode cX1_blamed 41 = .ok (.goto (-37), 3) := by decide +kernel
theorem dX1_blamed_44 : decode cX1_blamed 44 = .ok (.iload_n 1, 1) := by decide +kernel
theorem dX1_blamed_45 : decode cX1_blamed 45 = .ok (.ireturn, 1) := by decide +kernel
theorem dX1_maybe_0 : decode cX1_maybe 0 = .ok (.iconst 0, 1) := by decide +kernel
theorem dX1_maybe_1 : decode cX1_maybe 1 = .ok (.istore_n 1, 1) := by decide +kernel
theorem dX1_maybe_2 : decode cX1_maybe 2 = .ok (.iconst 0, 1) := by decide +kernel
theorem dX1_maybe_3 : decode cX1_maybe 3 = .ok (.istore_n 2, 1) := by decide +kernel
theorem dX1_maybe_4 : decode cX1_maybe 4 = .ok (.iload_n 2, 1) := by decide +kernel
theorem dX1_maybe_5 : decode cX1_maybe 5 = .ok (.aload_n 0, 1) := by decide +kernel
theorem dX1_maybe_6 : decode cX1_maybe 6 = .ok (.getfield 38, 3) := by decide +kernel
theorem dX1_maybe_9 : decode cX1_maybe 9 = .ok (.if_icmp .ge 24, 3) := by decide +kernel
theorem dX1_maybe_12 : decode cX1_maybe 12 = .ok (.aload_n 0, 1) := by decide +kernel
theorem dX1_maybe_13 : decode cX1_maybe 13 = .ok (.getfield 25, 3) := by decide +kernel
theorem dX1_maybe_16 : decode cX1_maybe 16 = .ok (.iload_n 2, 1) := by decide +kernel
theorem dX1_maybe_17 : decode cX1_maybe 17 = .ok (.iaload, 1) := by decide +kernel
theorem dX1_maybe_18 : decode cX1_maybe 18 = .ok (.ifCond .le 9, 3) := by decide +kernel
theorem dX1_maybe_21 : decode cX1_maybe 21 = .ok (.iload_n 1, 1) := by decide +kernel
theorem dX1_maybe_22 : decode cX1_maybe 22 = .ok (.iconst 1, 1) := by decide +kernel
theorem dX1_maybe_23 : decode cX1_maybe 23 = .ok (.iload_n 2, 1) := by decide +kernel
theorem dX1_maybe_24 : decode cX1_maybe 24 = .ok (.ishl, 1) := by decide +kernel
theorem dX1_maybe_25 : decode cX1_maybe 25 = .ok (.ior, 1) := by decide +kernel
theorem dX1_maybe_26 : decode cX1_maybe 26 = .ok (.istore_n 1, 1) := by decide +kernel
theorem dX1_maybe_27 : decode cX1_maybe 27 = .ok (.iinc 2 1, 3) := by decide +kernel
theorem dX1_maybe_30 : decode cX1_maybe 30 = .ok (.goto (-26), 3) := by decide +kernel
theorem dX1_maybe_33 : decode cX1_maybe 33 = .ok (.iload_n 1, 1) := by decide +kernel
theorem dX1_maybe_34 : decode cX1_maybe 34 = .ok (.ireturn, 1) := by decide +kernel
theorem dX2_init_0 : decode cX2_init 0 = .ok (.aload_n 0, 1) := by decide +kernel
theorem dX2_init_1 : decode cX2_init 1 = .ok (.invokespecial 3, 3) := by decide +kernel
theorem dX2_init_4 : decode cX2_init 4 = .ok (.aload_n 0, 1) := by decide +kernel
theorem dX2_init_5 : decode cX2_init 5 = .ok (.bipush 6, 2) := by decide +kernel
theorem dX2_init_7 : decode cX2_init 7 = .ok (.newarray .int, 2) := by decide +kernel
theorem dX2_init_9 : decode cX2_init 9 = .ok (.putfield 9, 3) := by decide +kernel
theorem dX2_init_12 : decode cX2_init 12 = .ok (.aload_n 0, 1) := by decide +kernel
theorem dX2_init_13 : decode cX2_init 13 = .ok (.bipush 6, 2) := by decide +kernel
theorem dX2_init_15 : decode cX2_init 15 = .ok (.newarray .int, 2) := by decide +kernel
theorem dX2_init_17 : decode cX2_init 17 = .ok (.putfield 15, 3) := by decide +kernel
theorem dX2_init_20 : decode cX2_init 20 = .ok (.return_, 1) := by decide +kernel
theorem dX2_takeFrom_0 : decode cX2_takeFrom 0 = .ok (.aload_n 0, 1) := by decide +kernel
theorem dX2_takeFrom_1 : decode cX2_takeFrom 1 = .ok (.aload_n 1, 1) := by decide +kernel
theorem dX2_takeFrom_2 : decode cX2_takeFrom 2 = .ok (.getfield 18, 3) := by decide +kernel
theorem dX2_takeFrom_5 : decode cX2_takeFrom 5 = .ok (.putfield 18, 3) := by decide +kernel
theorem dX2_takeFrom_8 : decode cX2_takeFrom 8 = .ok (.aload_n 1, 1) := by decide +kernel
theorem dX2_takeFrom_9 : decode cX2_takeFrom 9 = .ok (.getfield 9, 3) := by decide +kernel
theorem dX2_takeFrom_12 : decode cX2_takeFrom 12 = .ok (.iconst 0, 1) := by decide +kernel
theorem dX2_takeFrom_13 : decode cX2_takeFrom 13 = .ok (.aload_n 0, 1) := by decide +kernel
theorem dX2_takeFrom_14 : decode cX2_takeFrom 14 = .ok (.getfield 9, 3) := by decide +kernel
theorem dX2_takeFrom_17 : decode cX2_takeFrom 17 = .ok (.iconst 0, 1) := by decide +kernel
theorem dX2_takeFrom_18 : decode cX2_takeFrom 18 = .ok (.bipush 6, 2) := by decide +kernel
theorem dX2_takeFrom_20 : decode cX2_takeFrom 20 = .ok (.invokestatic 22, 3) := by decide +kernel
theorem dX2_takeFrom_23 : decode cX2_takeFrom 23 = .ok (.aload_n 1, 1) := by decide +kernel
theorem dX2_takeFrom_24 : decode cX2_takeFrom 24 = .ok (.getfield 15, 3) := by decide +kernel
theorem dX2_takeFrom_27 : decode cX2_takeFrom 27 = .ok (.iconst 0, 1) := by decide +kernel
theorem dX2_takeFrom_28 : decode cX2_takeFrom 28 = .ok (.aload_n 0, 1) := by decide +kernel
theorem dX2_takeFrom_29 : decode cX2_takeFrom 29 = .ok (.getfield 15, 3) := by decide +kernel
theorem dX2_takeFrom_32 : decode cX2_takeFrom 32 = .ok (.iconst 0, 1) := by decide +kernel
theorem dX2_takeFrom_33 : decode cX2_takeFrom 33 = .ok (.bipush 6, 2) := by decide +kernel
theorem dX2_takeFrom_35 : decode cX2_takeFrom 35 = .ok (.invokestatic 22, 3) := by decide +kernel
theorem dX2_takeFrom_38 : decode cX2_takeFrom 38 = .ok (.return_, 1) := by decide +kernel
theorem dX2_addPair_0 : decode cX2_addPair 0 = .ok (.aload_n 0, 1) := by decide +kernel
theorem dX2_addPair_1 : decode cX2_addPair 1 = .ok (.getfield 9, 3) := by decide +kernel
theorem dX2_addPair_4 : decode cX2_addPair 4 = .ok (.aload_n 0, 1) := by decide +kernel
theorem dX2_addPair_5 : decode cX2_addPair 5 = .ok (.getfield 18, 3) := by decide +kernel
theorem dX2_addPair_8 : decode cX2_addPair 8 = .ok (.iload_n 1, 1) := by decide +kernel
theorem dX2_addPair_9 : decode cX2_addPair 9 = .ok (.iastore, 1) := by decide +kernel
theorem dX2_addPair_10 : decode cX2_addPair 10 = .ok (.aload_n 0, 1) := by decide +kernel
theorem dX2_addPair_11 : decode cX2_addPair 11 = .ok (.getfield 15, 3) := by decide +kernel
theorem dX2_addPair_14 : decode cX2_addPair 14 = .ok (.aload_n 0, 1) := by decide +kernel
theorem dX2_addPair_15 : decode cX2_addPair 15 = .ok (.getfield 18, 3) := by decide +kernel
theorem dX2_addPair_18 : decode cX2_addPair 18 = .ok (.iload_n 2, 1) := by decide +kernel
theorem dX2_addPair_19 : decode cX2_addPair 19 = .ok (.iastore, 1) := by decide +kernel
theorem dX2_addPair_20 : decode cX2_addPair 20 = .ok (.aload_n 0, 1) := by decide +kernel
theorem dX2_addPair_21 : decode cX2_addPair 21 = .ok (.dup, 1) := by decide +kernel
theorem dX2_addPair_22 : decode cX2_addPair 22 = .ok (.getfield 18, 3) := by decide +kernel
theorem dX2_addPair_25 : decode cX2_addPair 25 = .ok (.iconst 1, 1) := by decide +kernel
theorem dX2_addPair_26 : decode cX2_addPair 26 = .ok (.iadd, 1) := by decide +kernel
theorem dX2_addPair_27 : decode cX2_addPair 27 = .ok (.putfield 18, 3) := by decide +kernel
theorem dX2_addPair_30 : decode cX2_addPair 30 = .ok (.return_, 1) := by decide +kernel
theorem dX2_shareAt_0 : decode cX2_shareAt 0 = .ok (.aload_n 0, 1) := by decide +kernel
theorem dX2_shareAt_1 : decode cX2_shareAt 1 = .ok (.getfield 15, 3) := by decide +kernel
theorem dX2_shareAt_4 : decode cX2_shareAt 4 = .ok (.iload_n 1, 1) := by decide +kernel
theorem dX2_shareAt_5 : decode cX2_shareAt 5 = .ok (.iaload, 1) := by decide +kernel
theorem dX2_shareAt_6 : decode cX2_shareAt 6 = .ok (.iload_n 2, 1) := by decide +kernel
theorem dX2_shareAt_7 : decode cX2_shareAt 7 = .ok (.aload_n 0, 1) := by decide +kernel
theorem dX2_shareAt_8 : decode cX2_shareAt 8 = .ok (.getfield 9, 3) := by decide +kernel
theorem dX2_shareAt_11 : decode cX2_shareAt 11 = .ok (.iload_n 1, 1) := by decide +kernel
theorem dX2_shareAt_12 : decode cX2_shareAt 12 = .ok (.iaload, 1) := by decide +kernel
theorem dX2_shareAt_13 : decode cX2_shareAt 13 = .ok (.isub, 1) := by decide +kernel
theorem dX2_shareAt_14 : decode cX2_shareAt 14 = .ok (.iconst 0, 1) := by decide +kernel
theorem dX2_shareAt_15 : decode cX2_shareAt 15 = .ok (.invokestatic 28, 3) := by decide +kernel
theorem dX2_shareAt_18 : decode cX2_shareAt 18 = .ok (.imul, 1) := by decide +kernel
theorem dX2_shareAt_19 : decode cX2_shareAt 19 = .ok (.ireturn, 1) := by decide +kernel
theorem dX2_sumAt_0 : decode cX2_sumAt 0 = .ok (.iconst 0, 1) := by decide +kernel
theorem dX2_sumAt_1 : decode cX2_sumAt 1 = .ok (.istore_n 2, 1) := by decide +kernel
theorem dX2_sumAt_2 : decode cX2_sumAt 2 = .ok (.iconst 0, 1) := by decide +kernel
theorem dX2_sumAt_3 : decode cX2_sumAt 3 = .ok (.istore_n 3, 1) := by decide +kernel
theorem dX2_sumAt_4 : decode cX2_sumAt 4 = .ok (.iload_n 3, 1) := by decide +kernel
theorem dX2_sumAt_5 : decode cX2_sumAt 5 = .ok (.aload_n 0, 1) := by decide +kernel
theorem dX2_sumAt_6 : decode cX2_sumAt 6 = .ok (.getfield 18, 3) := by decide +kernel
theorem dX2_sumAt_9 : decode cX2_sumAt 9 = .ok (.if_icmp .ge 18, 3) := by decide +kernel
theorem dX2_sumAt_12 : decode cX2_sumAt 12 = .ok (.iload_n 2, 1) := by decide +kernel
theorem dX2_sumAt_13 : decode cX2_sumAt 13 = .ok (.aload_n 0, 1) := by decide +kernel
theorem dX2_sumAt_14 : decode cX2_sumAt 14 = .ok (.iload_n 3, 1) := by decide +kernel
theorem dX2_sumAt_15 : decode cX2_sumAt 15 = .ok (.iload_n 1, 1) := by decide +kernel
theorem dX2_sumAt_16 : decode cX2_sumAt 16 = .ok (.invokevirtual 34, 3) := by decide +kernel
theorem dX2_sumAt_19 : decode cX2_sumAt 19 = .ok (.iadd, 1) := by decide +kernel
theorem dX2_sumAt_20 : decode cX2_sumAt 20 = .ok (.istore_n 2, 1) := by decide +kernel
theorem dX2_sumAt_21 : decode cX2_sumAt 21 = .ok (.iinc 3 1, 3) := by decide +kernel
theorem dX2_sumAt_24 : decode cX2_sumAt 24 = .ok (.goto (-20), 3) := by decide +kernel
theorem dX2_sumAt_27 : decode cX2_sumAt 27 = .ok (.iload_n 2, 1) := by decide +kernel
theorem dX2_sumAt_28 : decode cX2_sumAt 28 = .ok (.ireturn, 1) := by decide +kernel
theorem dX2_leastPush_0 : decode cX2_leastPush 0 = .ok (.aload_n 0, 1) := by decide +kernel
theorem dX2_leastPush_1 : decode cX2_leastPush 1 = .ok (.sipush 9999, 3) := by decide +kernel
theorem dX2_leastPush_4 : decode cX2_leastPush 4 = .ok (.invokevirtual 37, 3) := by decide +kernel
theorem dX2_leastPush_7 : decode cX2_leastPush 7 = .ok (.iload_n 1, 1) := by decide +kernel
theorem dX2_leastPush_8 : decode cX2_leastPush 8 = .ok (.if_icmp .ge 6, 3) := by decide +kernel
theorem dX2_leastPush_11 : decode cX2_leastPush 11 = .ok (.bipush (-4), 2) := by decide +kernel
theorem dX2_leastPush_13 : decode cX2_leastPush 13 = .ok (.ireturn, 1) := by decide +kernel
theorem dX2_leastPush_14 : decode cX2_leastPush 14 = .ok (.iconst 0, 1) := by decide +kernel
theorem dX2_leastPush_15 : decode cX2_leastPush 15 = .ok (.istore_n 2, 1) := by decide +kernel
theorem dX2_leastPush_16 : decode cX2_leastPush 16 = .ok (.sipush 9999, 3) := by decide +kernel
theorem dX2_leastPush_19 : decode cX2_leastPush 19 = .ok (.istore_n 3, 1) := by decide +kernel
theorem dX2_leastPush_20 : decode cX2_leastPush 20 = .ok (.iconst 0, 1) := by decide +kernel
theorem dX2_leastPush_21 : decode cX2_leastPush 21 = .ok (.istore 4, 2) := by decide +kernel
theorem dX2_leastPush_23 : decode cX2_leastPush 23 = .ok (.iload 4, 2) := by decide +kernel
theorem dX2_leastPush_25 : decode cX2_leastPush 25 = .ok (.bipush 32, 2) := by decide +kernel
theorem dX2_leastPush_27 : decode cX2_leastPush 27 = .ok (.if_icmp .ge 42, 3) := by decide +kernel
theorem dX2_leastPush_30 : decode cX2_leastPush 30 = .ok (.iload_n 2, 1) := by decide +kernel
theorem dX2_leastPush_31 : decode cX2_leastPush 31 = .ok (.iload_n 3, 1) := by decide +kernel
theorem dX2_leastPush_32 : decode cX2_leastPush 32 = .ok (.if_icmp .ge 37, 3) := by decide +kernel
theorem dX2_leastPush_35 : decode cX2_leastPush 35 = .ok (.iload_n 2, 1) := by decide +kernel
theorem dX2_leastPush_36 : decode cX2_leastPush 36 = .ok (.iload_n 3, 1) := by decide +kernel
theorem dX2_leastPush_37 : decode cX2_leastPush 37 = .ok (.iadd, 1) := by decide +kernel
theorem dX2_leastPush_38 : decode cX2_leastPush 38 = .ok (.iconst 2, 1) := by decide +kernel
theorem dX2_leastPush_39 : decode cX2_leastPush 39 = .ok (.idiv, 1) := by decide +kernel
theorem dX2_leastPush_40 : decode cX2_leastPush 40 = .ok (.istore 5, 2) := by decide +kernel
theorem dX2_leastPush_42 : decode cX2_leastPush 42 = .ok (.aload_n 0, 1) := by decide +kernel
theorem dX2_leastPush_43 : decode cX2_leastPush 43 = .ok (.iload 5, 2) := by decide +kernel
theorem dX2_leastPush_45 : decode cX2_leastPush 45 = .ok (.invokevirtual 37, 3) := by decide +kernel
theorem dX2_leastPush_48 : decode cX2_leastPush 48 = .ok (.iload_n 1, 1) := by decide +kernel
theorem dX2_leastPush_49 : decode cX2_leastPush 49 = .ok (.if_icmp .lt 9, 3) := by decide +kernel
theorem dX2_leastPush_52 : decode cX2_leastPush 52 = .ok (.iload 5, 2) := by decide +kernel
theorem dX2_leastPush_54 : decode cX2_leastPush 54 = .ok (.istore_n 3, 1) := by decide +kernel
theorem dX2_leastPush_55 : decode cX2_leastPush 55 = .ok (.goto 8, 3) := by decide +kernel
theorem dX2_leastPush_58 : decode cX2_leastPush 58 = .ok (.iload 5, 2) := by decide +kernel
theorem dX2_leastPush_60 : decode cX2_leastPush 60 = .ok (.iconst 1, 1) := by decide +kernel
theorem dX2_leastPush_61 : decode cX2_leastPush 61 = .ok (.iadd, 1) := by decide +kernel
theorem dX2_leastPush_62 : decode cX2_leastPush 62 = .ok (.istore_n 2, 1) := by decide +kernel
theorem dX2_leastPush_63 : decode cX2_leastPush 63 = .ok (.iinc 4 1, 3) := by decide +kernel
theorem dX2_leastPush_66 : decode cX2_leastPush 66 = .ok (.goto (-43), 3) := by decide +kernel
theorem dX2_leastPush_69 : decode cX2_leastPush 69 = .ok (.iload_n 2, 1) := by decide +kernel
theorem dX2_leastPush_70 : decode cX2_leastPush 70 = .ok (.ireturn, 1) := by decide +kernel
theorem dX2_bearersAt_0 : decode cX2_bearersAt 0 = .ok (.iconst 0, 1) := by decide +kernel
theorem dX2_bearersAt_1 : decode cX2_bearersAt 1 = .ok (.istore_n 2, 1) := by decide +kernel
theorem dX2_bearersAt_2 : decode cX2_bearersAt 2 = .ok (.iconst 0, 1) := by decide +kernel
theorem dX2_bearersAt_3 : decode cX2_bearersAt 3 = .ok (.istore_n 3, 1) := by decide +kernel
theorem dX2_bearersAt_4 : decode cX2_bearersAt 4 = .ok (.iload_n 3, 1) := by decide +kernel
theorem dX2_bearersAt_5 : decode cX2_bearersAt 5 = .ok (.aload_n 0, 1) := by decide +kernel
theorem dX2_bearersAt_6 : decode cX2_bearersAt 6 = .ok (.getfield 18, 3) := by decide +kernel
theorem dX2_bearersAt_9 : decode cX2_bearersAt 9 = .ok (.if_icmp .ge 24, 3) := by decide +kernel
theorem dX2_bearersAt_12 : decode cX2_bearersAt 12 = .ok (.aload_n 0, 1) := by decide +kernel
theorem dX2_bearersAt_13 : decode cX2_bearersAt 13 = .ok (.iload_n 3, 1) := by decide +kernel
theorem dX2_bearersAt_14 : decode cX2_bearersAt 14 = .ok (.iload_n 1, 1) := by decide +kernel
theorem dX2_bearersAt_15 : decode cX2_bearersAt 15 = .ok (.invokevirtual 34, 3) := by decide +kernel
theorem dX2_bearersAt_18 : decode cX2_bearersAt 18 = .ok (.ifCond .le 9, 3) := by decide +kernel
theorem dX2_bearersAt_21 : decode cX2_bearersAt 21 = .ok (.iload_n 2, 1) := by decide +kernel
theorem dX2_bearersAt_22 : decode cX2_bearersAt 22 = .ok (.iconst 1, 1) := by decide +kernel
theorem dX2_bearersAt_23 : decode cX2_bearersAt 23 = .ok (.iload_n 3, 1) := by decide +kernel
theorem dX2_bearersAt_24 : decode cX2_bearersAt 24 = .ok (.ishl, 1) := by decide +kernel
theorem dX2_bearersAt_25 : decode cX2_bearersAt 25 = .ok (.ior, 1) := by decide +kernel
theorem dX2_bearersAt_26 : decode cX2_bearersAt 26 = .ok (.istore_n 2, 1) := by decide +kernel
theorem dX2_bearersAt_27 : decode cX2_bearersAt 27 = .ok (.iinc 3 1, 3) := by decide +kernel
theorem dX2_bearersAt_30 : decode cX2_bearersAt 30 = .ok (.goto (-26), 3) := by decide +kernel
theorem dX2_bearersAt_33 : decode cX2_bearersAt 33 = .ok (.iload_n 2, 1) := by decide +kernel
theorem dX2_bearersAt_34 : decode cX2_bearersAt 34 = .ok (.ireturn, 1) := by decide +kernel
theorem dX3_init_0 : decode cX3_init 0 = .ok (.aload_n 0, 1) := by decide +kernel
theorem dX3_init_1 : decode cX3_init 1 = .ok (.invokespecial 3, 3) := by decide +kernel
theorem dX3_init_4 : decode cX3_init 4 = .ok (.aload_n 0, 1) := by decide +kernel
theorem dX3_init_5 : decode cX3_init 5 = .ok (.bipush 12, 2) := by decide +kernel
theorem dX3_init_7 : decode cX3_init 7 = .ok (.anewarray 9, 3) := by decide +kernel
theorem dX3_init_10 : decode cX3_init 10 = .ok (.putfield 11, 3) := by decide +kernel
theorem dX3_init_13 : decode cX3_init 13 = .ok (.aload_n 0, 1) := by decide +kernel
theorem dX3_init_14 : decode cX3_init 14 = .ok (.bipush 16, 2) := by decide +kernel
theorem dX3_init_16 : decode cX3_init 16 = .ok (.newarray .int, 2) := by decide +kernel
theorem dX3_init_18 : decode cX3_init 18 = .ok (.putfield 17, 3) := by decide +kernel
theorem dX3_init_21 : decode cX3_init 21 = .ok (.aload_n 0, 1) := by decide +kernel
theorem dX3_init_22 : decode cX3_init 22 = .ok (.bipush 16, 2) := by decide +kernel
theorem dX3_init_24 : decode cX3_init 24 = .ok (.newarray .int, 2) := by decide +kernel
theorem dX3_init_26 : decode cX3_init 26 = .ok (.putfield 21, 3) := by decide +kernel
theorem dX3_init_29 : decode cX3_init 29 = .ok (.aload_n 0, 1) := by decide +kernel
theorem dX3_init_30 : decode cX3_init 30 = .ok (.bipush 16, 2) := by decide +kernel
theorem dX3_init_32 : decode cX3_init 32 = .ok (.newarray .int, 2) := by decide +kernel
theorem dX3_init_34 : decode cX3_init 34 = .ok (.putfield 24, 3) := by decide +kernel
theorem dX3_init_37 : decode cX3_init 37 = .ok (.iconst 0, 1) := by decide +kernel
theorem dX3_init_38 : decode cX3_init 38 = .ok (.istore_n 1, 1) := by decide +kernel
theorem dX3_init_39 : decode cX3_init 39 = .ok (.iload_n 1, 1) := by decide +kernel
theorem dX3_init_40 : decode cX3_init 40 = .ok (.bipush 12, 2) := by decide +kernel
theorem dX3_init_42 : decode cX3_init 42 = .ok (.if_icmp .ge 22, 3) := by decide +kernel
theorem dX3_init_45 : decode cX3_init 45 = .ok (.aload_n 0, 1) := by decide +kernel
theorem dX3_init_46 : decode cX3_init 46 = .ok (.getfield 11, 3) := by decide +kernel
theorem dX3_init_49 : decode cX3_init 49 = .ok (.iload_n 1, 1) := by decide +kernel
theorem dX3_init_50 : decode cX3_init 50 = .ok (.new 9, 3) := by decide +kernel
theorem dX3_init_53 : decode cX3_init 53 = .ok (.dup, 1) := by decide +kernel
theorem dX3_init_54 : decode cX3_init 54 = .ok (.invokespecial 27, 3) := by decide +kernel
theorem dX3_init_57 : decode cX3_init 57 = .ok (.aastore, 1) := by decide +kernel
theorem dX3_init_58 : decode cX3_init 58 = .ok (.iinc 1 1, 3) := by decide +kernel
theorem dX3_init_61 : decode cX3_init 61 = .ok (.goto (-22), 3) := by decide +kernel
theorem dX3_init_64 : decode cX3_init 64 = .ok (.return_, 1) := by decide +kernel
theorem dX3_takeFrom_0 : decode cX3_takeFrom 0 = .ok (.aload_n 0, 1) := by decide +kernel
theorem dX3_takeFrom_1 : decode cX3_takeFrom 1 = .ok (.aload_n 1, 1) := by decide +kernel
theorem dX3_takeFrom_2 : decode cX3_takeFrom 2 = .ok (.getfield 28, 3) := by decide +kernel
theorem dX3_takeFrom_5 : decode cX3_takeFrom 5 = .ok (.putfield 28, 3) := by decide +kernel
theorem dX3_takeFrom_8 : decode cX3_takeFrom 8 = .ok (.iconst 0, 1) := by decide +kernel
theorem dX3_takeFrom_9 : decode cX3_takeFrom 9 = .ok (.istore_n 2, 1) := by decide +kernel
theorem dX3_takeFrom_10 : decode cX3_takeFrom 10 = .ok (.iload_n 2, 1) := by decide +kernel
theorem dX3_takeFrom_11 : decode cX3_takeFrom 11 = .ok (.aload_n 0, 1) := by decide +kernel
theorem dX3_takeFrom_12 : decode cX3_takeFrom 12 = .ok (.getfield 28, 3) := by decide +kernel
theorem dX3_takeFrom_15 : decode cX3_takeFrom 15 = .ok (.if_icmp .ge 24, 3) := by decide +kernel
theorem dX3_takeFrom_18 : decode cX3_takeFrom 18 = .ok (.aload_n 0, 1) := by decide +kernel
theorem dX3_takeFrom_19 : decode cX3_takeFrom 19 = .ok (.getfield 11, 3) := by decide +kernel
theorem dX3_takeFrom_22 : decode cX3_takeFrom 22 = .ok (.iload_n 2, 1) := by decide +kernel
theorem dX3_takeFrom_23 : decode cX3_takeFrom 23 = .ok (.aaload, 1) := by decide +kernel
theorem dX3_takeFrom_24 : decode cX3_takeFrom 24 = .ok (.aload_n 1, 1) := by decide +kernel
theorem dX3_takeFrom_25 : decode cX3_takeFrom 25 = .ok (.getfield 11, 3) := by decide +kernel
theorem dX3_takeFrom_28 : decode cX3_takeFrom 28 = .ok (.iload_n 2, 1) := by decide +kernel
theorem dX3_takeFrom_29 : decode cX3_takeFrom 29 = .ok (.aaload, 1) := by decide +kernel
theorem dX3_takeFrom_30 : decode cX3_takeFrom 30 = .ok (.invokevirtual 32, 3) := by decide +kernel
theorem dX3_takeFrom_33 : decode cX3_takeFrom 33 = .ok (.iinc 2 1, 3) := by decide +kernel
theorem dX3_takeFrom_36 : decode cX3_takeFrom 36 = .ok (.goto (-26), 3) := by decide +kernel
theorem dX3_takeFrom_39 : decode cX3_takeFrom 39 = .ok (.aload_n 0, 1) := by decide +kernel
theorem dX3_takeFrom_40 : decode cX3_takeFrom 40 = .ok (.aload_n 1, 1) := by decide +kernel
theorem dX3_takeFrom_41 : decode cX3_takeFrom 41 = .ok (.getfield 36, 3) := by decide +kernel
theorem dX3_takeFrom_44 : decode cX3_takeFrom 44 = .ok (.putfield 36, 3) := by decide +kernel
theorem dX3_takeFrom_47 : decode cX3_takeFrom 47 = .ok (.aload_n 1, 1) := by decide +kernel
theorem dX3_takeFrom_48 : decode cX3_takeFrom 48 = .ok (.getfield 17, 3) := by decide +kernel
theorem dX3_takeFrom_51 : decode cX3_takeFrom 51 = .ok (.iconst 0, 1) := by decide +kernel
theorem dX3_takeFrom_52 : decode cX3_takeFrom 52 = .ok (.aload_n 0, 1) := by decide +kernel
theorem dX3_takeFrom_53 : decode cX3_takeFrom 53 = .ok (.getfield 17, 3) := by decide +kernel
theorem dX3_takeFrom_56 : decode cX3_takeFrom 56 = .ok (.iconst 0, 1) := by decide +kernel
theorem dX3_takeFrom_57 : decode cX3_takeFrom 57 = .ok (.bipush 16, 2) := by decide +kernel
theorem dX3_takeFrom_59 : decode cX3_takeFrom 59 = .ok (.invokestatic 39, 3) := by decide +kernel
theorem dX3_takeFrom_62 : decode cX3_takeFrom 62 = .ok (.aload_n 1, 1) := by decide +kernel
theorem dX3_takeFrom_63 : decode cX3_takeFrom 63 = .ok (.getfield 21, 3) := by decide +kernel
theorem dX3_takeFrom_66 : decode cX3_takeFrom 66 = .ok (.iconst 0, 1) := by decide +kernel
theorem dX3_takeFrom_67 : decode cX3_takeFrom 67 = .ok (.aload_n 0, 1) := by decide +kernel
theorem dX3_takeFrom_68 : decode cX3_takeFrom 68 = .ok (.getfield 21, 3) := by decide +kernel
theorem dX3_takeFrom_71 : decode cX3_takeFrom 71 = .ok (.iconst 0, 1) := by decide +kernel
theorem dX3_takeFrom_72 : decode cX3_takeFrom 72 = .ok (.bipush 16, 2) := by decide +kernel
theorem dX3_takeFrom_74 : decode cX3_takeFrom 74 = .ok (.invokestatic 39, 3) := by decide +kernel
theorem dX3_takeFrom_77 : decode cX3_takeFrom 77 = .ok (.aload_n 1, 1) := by decide +kernel
theorem dX3_takeFrom_78 : decode cX3_takeFrom 78 = .ok (.getfield 24, 3) := by decide +kernel
theorem dX3_takeFrom_81 : decode cX3_takeFrom 81 = .ok (.iconst 0, 1) := by decide +kernel
theorem dX3_takeFrom_82 : decode cX3_takeFrom 82 = .ok (.aload_n 0, 1) := by decide +kernel
theorem dX3_takeFrom_83 : decode cX3_takeFrom 83 = .ok (.getfield 24, 3) := by decide +kernel
theorem dX3_takeFrom_86 : decode cX3_takeFrom 86 = .ok (.iconst 0, 1) := by decide +kernel
theorem dX3_takeFrom_87 : decode cX3_takeFrom 87 = .ok (.bipush 16, 2) := by decide +kernel
theorem dX3_takeFrom_89 : decode cX3_takeFrom 89 = .ok (.invokestatic 39, 3) := by decide +kernel
theorem dX3_takeFrom_92 : decode cX3_takeFrom 92 = .ok (.return_, 1) := by decide +kernel
theorem dX3_does_0 : decode cX3_does 0 = .ok (.aload_n 1, 1) := by decide +kernel
theorem dX3_does_1 : decode cX3_does 1 = .ok (.getfield 45, 3) := by decide +kernel
theorem dX3_does_4 : decode cX3_does 4 = .ok (.lookupswitch 68 #[(103, 28), (109, 51)], 28) := by decide +kernel
theorem dX3_does_32 : decode cX3_does 32 = .ok (.aload_n 0, 1) := by decide +kernel
theorem dX3_does_33 : decode cX3_does 33 = .ok (.aload_n 1, 1) := by decide +kernel
theorem dX3_does_34 : decode cX3_does 34 = .ok (.getfield 50, 3) := by decide +kernel
theorem dX3_does_37 : decode cX3_does 37 = .ok (.iconst 0, 1) := by decide +kernel
theorem dX3_does_38 : decode cX3_does 38 = .ok (.iaload, 1) := by decide +kernel
theorem dX3_does_39 : decode cX3_does 39 = .ok (.aload_n 1, 1) := by decide +kernel
theorem dX3_does_40 : decode cX3_does 40 = .ok (.getfield 50, 3) := by decide +kernel
theorem dX3_does_43 : decode cX3_does 43 = .ok (.iconst 1, 1) := by decide +kernel
theorem dX3_does_44 : decode cX3_does 44 = .ok (.iaload, 1) := by decide +kernel
theorem dX3_does_45 : decode cX3_does 45 = .ok (.aload_n 1, 1) := by decide +kernel
theorem dX3_does_46 : decode cX3_does 46 = .ok (.getfield 50, 3) := by decide +kernel
theorem dX3_does_49 : decode cX3_does 49 = .ok (.iconst 2, 1) := by decide +kernel
theorem dX3_does_50 : decode cX3_does 50 = .ok (.iaload, 1) := by decide +kernel
theorem dX3_does_51 : decode cX3_does 51 = .ok (.invokevirtual 53, 3) := by decide +kernel
theorem dX3_does_54 : decode cX3_does 54 = .ok (.ireturn, 1) := by decide +kernel
theorem dX3_does_55 : decode cX3_does 55 = .ok (.aload_n 0, 1) := by decide +kernel
theorem dX3_does_56 : decode cX3_does 56 = .ok (.aload_n 1, 1) := by decide +kernel
theorem dX3_does_57 : decode cX3_does 57 = .ok (.getfield 50, 3) := by decide +kernel
theorem dX3_does_60 : decode cX3_does 60 = .ok (.iconst 0, 1) := by decide +kernel
theorem dX3_does_61 : decode cX3_does 61 = .ok (.iaload, 1) := by decide +kernel
theorem dX3_does_62 : decode cX3_does 62 = .ok (.aload_n 1, 1) := by decide +kernel
theorem dX3_does_63 : decode cX3_does 63 = .ok (.getfield 50, 3) := by decide +kernel
theorem dX3_does_66 : decode cX3_does 66 = .ok (.iconst 1, 1) := by decide +kernel
theorem dX3_does_67 : decode cX3_does 67 = .ok (.iaload, 1) := by decide +kernel
theorem dX3_does_68 : decode cX3_does 68 = .ok (.invokevirtual 57, 3) := by decide +kernel
theorem dX3_does_71 : decode cX3_does 71 = .ok (.ireturn, 1) := by decide +kernel
theorem dX3_does_72 : decode cX3_does 72 = .ok (.aload_n 0, 1) := by decide +kernel
theorem dX3_does_73 : decode cX3_does 73 = .ok (.aload_n 1, 1) := by decide +kernel
theorem dX3_does_74 : decode cX3_does 74 = .ok (.getfield 50, 3) := by decide +kernel
theorem dX3_does_77 : decode cX3_does 77 = .ok (.iconst 0, 1) := by decide +kernel
theorem dX3_does_78 : decode cX3_does 78 = .ok (.iaload, 1) := by decide +kernel
theorem dX3_does_79 : decode cX3_does 79 = .ok (.aload_n 1, 1) := by decide +kernel
theorem dX3_does_80 : decode cX3_does 80 = .ok (.getfield 50, 3) := by decide +kernel
theorem dX3_does_83 : decode cX3_does 83 = .ok (.iconst 1, 1) := by decide +kernel
theorem dX3_does_84 : decode cX3_does 84 = .ok (.iaload, 1) := by decide +kernel
theorem dX3_does_85 : decode cX3_does 85 = .ok (.aload_n 1, 1) := by decide +kernel
theorem dX3_does_86 : decode cX3_does 86 = .ok (.getfield 50, 3) := by decide +kernel
theorem dX3_does_89 : decode cX3_does 89 = .ok (.iconst 2, 1) := by decide +kernel
theorem dX3_does_90 : decode cX3_does 90 = .ok (.iaload, 1) := by decide +kernel
theorem dX3_does_91 : decode cX3_does 91 = .ok (.invokevirtual 61, 3) := by decide +kernel
theorem dX3_does_94 : decode cX3_does 94 = .ok (.ireturn, 1) := by decide +kernel
theorem dX3_addGear_0 : decode cX3_addGear 0 = .ok (.iload_n 1, 1) := by decide +kernel
theorem dX3_addGear_1 : decode cX3_addGear 1 = .ok (.iconst 0, 1) := by decide +kernel
theorem dX3_addGear_2 : decode cX3_addGear 2 = .ok (.iconst 4, 1) := by decide +kernel
theorem dX3_addGear_3 : decode cX3_addGear 3 = .ok (.invokestatic 64, 3) := by decide +kernel
theorem dX3_addGear_6 : decode cX3_addGear 6 = .ok (.ifCond .eq 32, 3) := by decide +kernel
theorem dX3_addGear_9 : decode cX3_addGear 9 = .ok (.iload_n 2, 1) := by decide +kernel
theorem dX3_addGear_10 : decode cX3_addGear 10 = .ok (.iconst 4, 1) := by decide +kernel
theorem dX3_addGear_11 : decode cX3_addGear 11 = .ok (.bipush 99, 2) := by decide +kernel
theorem dX3_addGear_13 : decode cX3_addGear 13 = .ok (.invokestatic 64, 3) := by decide +kernel
theorem dX3_addGear_16 : decode cX3_addGear 16 = .ok (.ifCond .eq 22, 3) := by decide +kernel
theorem dX3_addGear_19 : decode cX3_addGear 19 = .ok (.iload_n 3, 1) := by decide +kernel
theorem dX3_addGear_20 : decode cX3_addGear 20 = .ok (.iconst 0, 1) := by decide +kernel
theorem dX3_addGear_21 : decode cX3_addGear 21 = .ok (.bipush 7, 2) := by decide +kernel
theorem dX3_addGear_23 : decode cX3_addGear 23 = .ok (.invokestatic 64, 3) := by decide +kernel
theorem dX3_addGear_26 : decode cX3_addGear 26 = .ok (.ifCond .eq 12, 3) := by decide +kernel
theorem dX3_addGear_29 : decode cX3_addGear 29 = .ok (.aload_n 0, 1) := by decide +kernel
theorem dX3_addGear_30 : decode cX3_addGear 30 = .ok (.getfield 28, 3) := by decide +kernel
theorem dX3_addGear_33 : decode cX3_addGear 33 = .ok (.bipush 12, 2) := by decide +kernel
theorem dX3_addGear_35 : decode cX3_addGear 35 = .ok (.if_icmp .lt 5, 3) := by decide +kernel
theorem dX3_addGear_38 : decode cX3_addGear 38 = .ok (.iconst 0, 1) := by decide +kernel
theorem dX3_addGear_39 : decode cX3_addGear 39 = .ok (.ireturn, 1) := by decide +kernel
theorem dX3_addGear_40 : decode cX3_addGear 40 = .ok (.aload_n 0, 1) := by decide +kernel
theorem dX3_addGear_41 : decode cX3_addGear 41 = .ok (.getfield 11, 3) := by decide +kernel
theorem dX3_addGear_44 : decode cX3_addGear 44 = .ok (.aload_n 0, 1) := by decide +kernel
theorem dX3_addGear_45 : decode cX3_addGear 45 = .ok (.getfield 28, 3) := by decide +kernel
theorem dX3_addGear_48 : decode cX3_addGear 48 = .ok (.aaload, 1) := by decide +kernel
theorem dX3_addGear_49 : decode cX3_addGear 49 = .ok (.aload_n 0, 1) := by decide +kernel
theorem dX3_addGear_50 : decode cX3_addGear 50 = .ok (.getfield 28, 3) := by decide +kernel
theorem dX3_addGear_53 : decode cX3_addGear 53 = .ok (.iload_n 1, 1) := by decide +kernel
theorem dX3_addGear_54 : decode cX3_addGear 54 = .ok (.iload_n 2, 1) := by decide +kernel
theorem dX3_addGear_55 : decode cX3_addGear 55 = .ok (.iload_n 3, 1) := by decide +kernel
theorem dX3_addGear_56 : decode cX3_addGear 56 = .ok (.invokevirtual 67, 3) := by decide +kernel
theorem dX3_addGear_59 : decode cX3_addGear 59 = .ok (.aload_n 0, 1) := by decide +kernel
theorem dX3_addGear_60 : decode cX3_addGear 60 = .ok (.dup, 1) := by decide +kernel
theorem dX3_addGear_61 : decode cX3_addGear 61 = .ok (.getfield 28, 3) := by decide +kernel
theorem dX3_addGear_64 : decode cX3_addGear 64 = .ok (.iconst 1, 1) := by decide +kernel
theorem dX3_addGear_65 : decode cX3_addGear 65 = .ok (.iadd, 1) := by decide +kernel
theorem dX3_addGear_66 : decode cX3_addGear 66 = .ok (.putfield 28, 3) := by decide +kernel
theorem dX3_addGear_69 : decode cX3_addGear 69 = .ok (.iconst 1, 1) := by decide +kernel
theorem dX3_addGear_70 : decode cX3_addGear 70 = .ok (.ireturn, 1) := by decide +kernel
theorem dX3_addMesh_0 : decode cX3_addMesh 0 = .ok (.iload_n 1, 1) := by decide +kernel
theorem dX3_addMesh_1 : decode cX3_addMesh 1 = .ok (.iconst 0, 1) := by decide +kernel
theorem dX3_addMesh_2 : decode cX3_addMesh 2 = .ok (.aload_n 0, 1) := by decide +kernel
theorem dX3_addMesh_3 : decode cX3_addMesh 3 = .ok (.getfield 28, 3) := by decide +kernel
theorem dX3_addMesh_6 : decode cX3_addMesh 6 = .ok (.iconst 1, 1) := by decide +kernel
theorem dX3_addMesh_7 : decode cX3_addMesh 7 = .ok (.isub, 1) := by decide +kernel
theorem dX3_addMesh_8 : decode cX3_addMesh 8 = .ok (.invokestatic 64, 3) := by decide +kernel
theorem dX3_addMesh_11 : decode cX3_addMesh 11 = .ok (.ifCond .eq 66, 3) := by decide +kernel
theorem dX3_addMesh_14 : decode cX3_addMesh 14 = .ok (.iload_n 2, 1) := by decide +kernel
theorem dX3_addMesh_15 : decode cX3_addMesh 15 = .ok (.iconst 0, 1) := by decide +kernel
theorem dX3_addMesh_16 : decode cX3_addMesh 16 = .ok (.aload_n 0, 1) := by decide +kernel
theorem dX3_addMesh_17 : decode cX3_addMesh 17 = .ok (.getfield 28, 3) := by decide +kernel
theorem dX3_addMesh_20 : decode cX3_addMesh 20 = .ok (.iconst 1, 1) := by decide +kernel
theorem dX3_addMesh_21 : decode cX3_addMesh 21 = .ok (.isub, 1) := by decide +kernel
theorem dX3_addMesh_22 : decode cX3_addMesh 22 = .ok (.invokestatic 64, 3) := by decide +kernel
theorem dX3_addMesh_25 : decode cX3_addMesh 25 = .ok (.ifCond .eq 52, 3) := by decide +kernel
theorem dX3_addMesh_28 : decode cX3_addMesh 28 = .ok (.iload_n 1, 1) := by decide +kernel
theorem dX3_addMesh_29 : decode cX3_addMesh 29 = .ok (.iload_n 2, 1) := by decide +kernel
theorem dX3_addMesh_30 : decode cX3_addMesh 30 = .ok (.if_icmp .eq 47, 3) := by decide +kernel
theorem dX3_addMesh_33 : decode cX3_addMesh 33 = .ok (.aload_n 0, 1) := by decide +kernel
theorem dX3_addMesh_34 : decode cX3_addMesh 34 = .ok (.getfield 11, 3) := by decide +kernel
theorem dX3_addMesh_37 : decode cX3_addMesh 37 = .ok (.iload_n 1, 1) := by decide +kernel
theorem dX3_addMesh_38 : decode cX3_addMesh 38 = .ok (.aaload, 1) := by decide +kernel
theorem dX3_addMesh_39 : decode cX3_addMesh 39 = .ok (.invokevirtual 71, 3) := by decide +kernel
theorem dX3_addMesh_42 : decode cX3_addMesh 42 = .ok (.ifCond .eq 15, 3) := by decide +kernel
theorem dX3_addMesh_45 : decode cX3_addMesh 45 = .ok (.aload_n 0, 1) := by decide +kernel
theorem dX3_addMesh_46 : decode cX3_addMesh 46 = .ok (.getfield 11, 3) := by decide +kernel
theorem dX3_addMesh_49 : decode cX3_addMesh 49 = .ok (.iload_n 2, 1) := by decide +kernel
theorem dX3_addMesh_50 : decode cX3_addMesh 50 = .ok (.aaload, 1) := by decide +kernel
theorem dX3_addMesh_51 : decode cX3_addMesh 51 = .ok (.invokevirtual 71, 3) := by decide +kernel
theorem dX3_addMesh_54 : decode cX3_addMesh 54 = .ok (.ifCond .ne 23, 3) := by decide +kernel
theorem dX3_addMesh_57 : decode cX3_addMesh 57 = .ok (.aload_n 0, 1) := by decide +kernel
theorem dX3_addMesh_58 : decode cX3_addMesh 58 = .ok (.iload_n 1, 1) := by decide +kernel
theorem dX3_addMesh_59 : decode cX3_addMesh 59 = .ok (.iload_n 2, 1) := by decide +kernel
theorem dX3_addMesh_60 : decode cX3_addMesh 60 = .ok (.invokevirtual 75, 3) := by decide +kernel
theorem dX3_addMesh_63 : decode cX3_addMesh 63 = .ok (.bipush (-4), 2) := by decide +kernel
theorem dX3_addMesh_65 : decode cX3_addMesh 65 = .ok (.if_icmp .ne 12, 3) := by decide +kernel
theorem dX3_addMesh_68 : decode cX3_addMesh 68 = .ok (.aload_n 0, 1) := by decide +kernel
theorem dX3_addMesh_69 : decode cX3_addMesh 69 = .ok (.getfield 36, 3) := by decide +kernel
theorem dX3_addMesh_72 : decode cX3_addMesh 72 = .ok (.bipush 16, 2) := by decide +kernel
theorem dX3_addMesh_74 : decode cX3_addMesh 74 = .ok (.if_icmp .lt 5, 3) := by decide +kernel
theorem dX3_addMesh_77 : decode cX3_addMesh 77 = .ok (.iconst 0, 1) := by decide +kernel
theorem dX3_addMesh_78 : decode cX3_addMesh 78 = .ok (.ireturn, 1) := by decide +kernel
theorem dX3_addMesh_79 : decode cX3_addMesh 79 = .ok (.aload_n 0, 1) := by decide +kernel
theorem dX3_addMesh_80 : decode cX3_addMesh 80 = .ok (.getfield 17, 3) := by decide +kernel
theorem dX3_addMesh_83 : decode cX3_addMesh 83 = .ok (.aload_n 0, 1) := by decide +kernel
theorem dX3_addMesh_84 : decode cX3_addMesh 84 = .ok (.getfield 36, 3) := by decide +kernel
theorem dX3_addMesh_87 : decode cX3_addMesh 87 = .ok (.iload_n 1, 1) := by decide +kernel
theorem dX3_addMesh_88 : decode cX3_addMesh 88 = .ok (.iastore, 1) := by decide +kernel
theorem dX3_addMesh_89 : decode cX3_addMesh 89 = .ok (.aload_n 0, 1) := by decide +kernel
theorem dX3_addMesh_90 : decode cX3_addMesh 90 = .ok (.getfield 21, 3) := by decide +kernel
theorem dX3_addMesh_93 : decode cX3_addMesh 93 = .ok (.aload_n 0, 1) := by decide +kernel
theorem dX3_addMesh_94 : decode cX3_addMesh 94 = .ok (.getfield 36, 3) := by decide +kernel
theorem dX3_addMesh_97 : decode cX3_addMesh 97 = .ok (.iload_n 2, 1) := by decide +kernel
theorem dX3_addMesh_98 : decode cX3_addMesh 98 = .ok (.iastore, 1) := by decide +kernel
theorem dX3_addMesh_99 : decode cX3_addMesh 99 = .ok (.aload_n 0, 1) := by decide +kernel
theorem dX3_addMesh_100 : decode cX3_addMesh 100 = .ok (.getfield 24, 3) := by decide +kernel
theorem dX3_addMesh_103 : decode cX3_addMesh 103 = .ok (.aload_n 0, 1) := by decide +kernel
theorem dX3_addMesh_104 : decode cX3_addMesh 104 = .ok (.getfield 36, 3) := by decide +kernel
theorem dX3_addMesh_107 : decode cX3_addMesh 107 = .ok (.bipush 62, 2) := by decide +kernel
theorem dX3_addMesh_109 : decode cX3_addMesh 109 = .ok (.iastore, 1) := by decide +kernel
theorem dX3_addMesh_110 : decode cX3_addMesh 110 = .ok (.aload_n 0, 1) := by decide +kernel
theorem dX3_addMesh_111 : decode cX3_addMesh 111 = .ok (.dup, 1) := by decide +kernel
theorem dX3_addMesh_112 : decode cX3_addMesh 112 = .ok (.getfield 36, 3) := by decide +kernel
theorem dX3_addMesh_115 : decode cX3_addMesh 115 = .ok (.iconst 1, 1) := by decide +kernel
theorem dX3_addMesh_116 : decode cX3_addMesh 116 = .ok (.iadd, 1) := by decide +kernel
theorem dX3_addMesh_117 : decode cX3_addMesh 117 = .ok (.putfield 36, 3) := by decide +kernel
theorem dX3_addMesh_120 : decode cX3_addMesh 120 = .ok (.iconst 1, 1) := by decide +kernel
theorem dX3_addMesh_121 : decode cX3_addMesh 121 = .ok (.ireturn, 1) := by decide +kernel
theorem dX3_setRoom_0 : decode cX3_setRoom 0 = .ok (.aload_n 0, 1) := by decide +kernel
theorem dX3_setRoom_1 : decode cX3_setRoom 1 = .ok (.iload_n 1, 1) := by decide +kernel
theorem dX3_setRoom_2 : decode cX3_setRoom 2 = .ok (.iload_n 2, 1) := by decide +kernel
theorem dX3_setRoom_3 : decode cX3_setRoom 3 = .ok (.invokevirtual 75, 3) := by decide +kernel
theorem dX3_setRoom_6 : decode cX3_setRoom 6 = .ok (.istore 4, 2) := by decide +kernel
theorem dX3_setRoom_8 : decode cX3_setRoom 8 = .ok (.iload 4, 2) := by decide +kernel
theorem dX3_setRoom_10 : decode cX3_setRoom 10 = .ok (.bipush (-4), 2) := by decide +kernel
theorem dX3_setRoom_12 : decode cX3_setRoom 12 = .ok (.if_icmp .eq 13, 3) := by decide +kernel
theorem dX3_setRoom_15 : decode cX3_setRoom 15 = .ok (.iload_n 3, 1) := by decide +kernel
theorem dX3_setRoom_16 : decode cX3_setRoom 16 = .ok (.iconst 0, 1) := by decide +kernel
theorem dX3_setRoom_17 : decode cX3_setRoom 17 = .ok (.bipush 62, 2) := by decide +kernel
theorem dX3_setRoom_19 : decode cX3_setRoom 19 = .ok (.invokestatic 64, 3) := by decide +kernel
theorem dX3_setRoom_22 : decode cX3_setRoom 22 = .ok (.ifCond .ne 5, 3) := by decide +kernel
theorem dX3_setRoom_25 : decode cX3_setRoom 25 = .ok (.iconst 0, 1) := by decide +kernel
theorem dX3_setRoom_26 : decode cX3_setRoom 26 = .ok (.ireturn, 1) := by decide +kernel
theorem dX3_setRoom_27 : decode cX3_setRoom 27 = .ok (.aload_n 0, 1) := by decide +kernel
theorem dX3_setRoom_28 : decode cX3_setRoom 28 = .ok (.getfield 24, 3) := by decide +kernel
theorem dX3_setRoom_31 : decode cX3_setRoom 31 = .ok (.iload 4, 2) := by decide +kernel
theorem dX3_setRoom_33 : decode cX3_setRoom 33 = .ok (.iload_n 3, 1) := by decide +kernel
theorem dX3_setRoom_34 : decode cX3_setRoom 34 = .ok (.iastore, 1) := by decide +kernel
theorem dX3_setRoom_35 : decode cX3_setRoom 35 = .ok (.iconst 1, 1) := by decide +kernel
theorem dX3_setRoom_36 : decode cX3_setRoom 36 = .ok (.ireturn, 1) := by decide +kernel
theorem dX3_meshOf_0 : decode cX3_meshOf 0 = .ok (.iconst 0, 1) := by decide +kernel
theorem dX3_meshOf_1 : decode cX3_meshOf 1 = .ok (.istore_n 3, 1) := by decide +kernel
theorem dX3_meshOf_2 : decode cX3_meshOf 2 = .ok (.iload_n 3, 1) := by decide +kernel
theorem dX3_meshOf_3 : decode cX3_meshOf 3 = .ok (.aload_n 0, 1) := by decide +kernel
theorem dX3_meshOf_4 : decode cX3_meshOf 4 = .ok (.getfield 36, 3) := by decide +kernel
theorem dX3_meshOf_7 : decode cX3_meshOf 7 = .ok (.if_icmp .ge 51, 3) := by decide +kernel
theorem dX3_meshOf_10 : decode cX3_meshOf 10 = .ok (.aload_n 0, 1) := by decide +kernel
theorem dX3_meshOf_11 : decode cX3_meshOf 11 = .ok (.getfield 17, 3) := by decide +kernel
theorem dX3_meshOf_14 : decode cX3_meshOf 14 = .ok (.iload_n 3, 1) := by decide +kernel
theorem dX3_meshOf_15 : decode cX3_meshOf 15 = .ok (.iaload, 1) := by decide +kernel
theorem dX3_meshOf_16 : decode cX3_meshOf 16 = .ok (.iload_n 1, 1) := by decide +kernel
theorem dX3_meshOf_17 : decode cX3_meshOf 17 = .ok (.if_icmp .ne 13, 3) := by decide +kernel
theorem dX3_meshOf_20 : decode cX3_meshOf 20 = .ok (.aload_n 0, 1) := by decide +kernel
theorem dX3_meshOf_21 : decode cX3_meshOf 21 = .ok (.getfield 21, 3) := by decide +kernel
theorem dX3_meshOf_24 : decode cX3_meshOf 24 = .ok (.iload_n 3, 1) := by decide +kernel
theorem dX3_meshOf_25 : decode cX3_meshOf 25 = .ok (.iaload, 1) := by decide +kernel
theorem dX3_meshOf_26 : decode cX3_meshOf 26 = .ok (.iload_n 2, 1) := by decide +kernel
theorem dX3_meshOf_27 : decode cX3_meshOf 27 = .ok (.if_icmp .eq 23, 3) := by decide +kernel
theorem dX3_meshOf_30 : decode cX3_meshOf 30 = .ok (.aload_n 0, 1) := by decide +kernel
theorem dX3_meshOf_31 : decode cX3_meshOf 31 = .ok (.getfield 17, 3) := by decide +kernel
theorem dX3_meshOf_34 : decode cX3_meshOf 34 = .ok (.iload_n 3, 1) := by decide +kernel
theorem dX3_meshOf_35 : decode cX3_meshOf 35 = .ok (.iaload, 1) := by decide +kernel
theorem dX3_meshOf_36 : decode cX3_meshOf 36 = .ok (.iload_n 2, 1) := by decide +kernel
theorem dX3_meshOf_37 : decode cX3_meshOf 37 = .ok (.if_icmp .ne 15, 3) := by decide +kernel
theorem dX3_meshOf_40 : decode cX3_meshOf 40 = .ok (.aload_n 0, 1) := by decide +kernel
theorem dX3_meshOf_41 : decode cX3_meshOf 41 = .ok (.getfield 21, 3) := by decide +kernel
theorem dX3_meshOf_44 : decode cX3_meshOf 44 = .ok (.iload_n 3, 1) := by decide +kernel
theorem dX3_meshOf_45 : decode cX3_meshOf 45 = .ok (.iaload, 1) := by decide +kernel
theorem dX3_meshOf_46 : decode cX3_meshOf 46 = .ok (.iload_n 1, 1) := by decide +kernel
theorem dX3_meshOf_47 : decode cX3_meshOf 47 = .ok (.if_icmp .ne 5, 3) := by decide +kernel
theorem dX3_meshOf_50 : decode cX3_meshOf 50 = .ok (.iload_n 3, 1) := by decide +kernel
theorem dX3_meshOf_51 : decode cX3_meshOf 51 = .ok (.ireturn, 1) := by decide +kernel
theorem dX3_meshOf_52 : decode cX3_meshOf 52 = .ok (.iinc 3 1, 3) := by decide +kernel
theorem dX3_meshOf_55 : decode cX3_meshOf 55 = .ok (.goto (-53), 3) := by decide +kernel
theorem dX3_meshOf_58 : decode cX3_meshOf 58 = .ok (.bipush (-4), 2) := by decide +kernel
theorem dX3_meshOf_60 : decode cX3_meshOf 60 = .ok (.ireturn, 1) := by decide +kernel
theorem dX3_allTeeth_0 : decode cX3_allTeeth 0 = .ok (.iconst 0, 1) := by decide +kernel
theorem dX3_allTeeth_1 : decode cX3_allTeeth 1 = .ok (.istore_n 1, 1) := by decide +kernel
theorem dX3_allTeeth_2 : decode cX3_allTeeth 2 = .ok (.iconst 0, 1) := by decide +kernel
theorem dX3_allTeeth_3 : decode cX3_allTeeth 3 = .ok (.istore_n 2, 1) := by decide +kernel
theorem dX3_allTeeth_4 : decode cX3_allTeeth 4 = .ok (.iload_n 2, 1) := by decide +kernel
theorem dX3_allTeeth_5 : decode cX3_allTeeth 5 = .ok (.aload_n 0, 1) := by decide +kernel
theorem dX3_allTeeth_6 : decode cX3_allTeeth 6 = .ok (.getfield 28, 3) := by decide +kernel
theorem dX3_allTeeth_9 : decode cX3_allTeeth 9 = .ok (.if_icmp .ge 21, 3) := by decide +kernel
theorem dX3_allTeeth_12 : decode cX3_allTeeth 12 = .ok (.iload_n 1, 1) := by decide +kernel
theorem dX3_allTeeth_13 : decode cX3_allTeeth 13 = .ok (.aload_n 0, 1) := by decide +kernel
theorem dX3_allTeeth_14 : decode cX3_allTeeth 14 = .ok (.getfield 11, 3) := by decide +kernel
theorem dX3_allTeeth_17 : decode cX3_allTeeth 17 = .ok (.iload_n 2, 1) := by decide +kernel
theorem dX3_allTeeth_18 : decode cX3_allTeeth 18 = .ok (.aaload, 1) := by decide +kernel
theorem dX3_allTeeth_19 : decode cX3_allTeeth 19 = .ok (.getfield 79, 3) := by decide +kernel
theorem dX3_allTeeth_22 : decode cX3_allTeeth 22 = .ok (.iadd, 1) := by decide +kernel
theorem dX3_allTeeth_23 : decode cX3_allTeeth 23 = .ok (.istore_n 1, 1) := by decide +kernel
theorem dX3_allTeeth_24 : decode cX3_allTeeth 24 = .ok (.iinc 2 1, 3) := by decide +kernel
theorem dX3_allTeeth_27 : decode cX3_allTeeth 27 = .ok (.goto (-23), 3) := by decide +kernel
theorem dX3_allTeeth_30 : decode cX3_allTeeth 30 = .ok (.iload_n 1, 1) := by decide +kernel
theorem dX3_allTeeth_31 : decode cX3_allTeeth 31 = .ok (.ireturn, 1) := by decide +kernel
theorem dX3_allWidths_0 : decode cX3_allWidths 0 = .ok (.iconst 0, 1) := by decide +kernel
theorem dX3_allWidths_1 : decode cX3_allWidths 1 = .ok (.istore_n 1, 1) := by decide +kernel
theorem dX3_allWidths_2 : decode cX3_allWidths 2 = .ok (.iconst 0, 1) := by decide +kernel
theorem dX3_allWidths_3 : decode cX3_allWidths 3 = .ok (.istore_n 2, 1) := by decide +kernel
theorem dX3_allWidths_4 : decode cX3_allWidths 4 = .ok (.iload_n 2, 1) := by decide +kernel
theorem dX3_allWidths_5 : decode cX3_allWidths 5 = .ok (.aload_n 0, 1) := by decide +kernel
theorem dX3_allWidths_6 : decode cX3_allWidths 6 = .ok (.getfield 28, 3) := by decide +kernel
theorem dX3_allWidths_9 : decode cX3_allWidths 9 = .ok (.if_icmp .ge 21, 3) := by decide +kernel
theorem dX3_allWidths_12 : decode cX3_allWidths 12 = .ok (.iload_n 1, 1) := by decide +kernel
theorem dX3_allWidths_13 : decode cX3_allWidths 13 = .ok (.aload_n 0, 1) := by decide +kernel
theorem dX3_allWidths_14 : decode cX3_allWidths 14 = .ok (.getfield 11, 3) := by decide +kernel
theorem dX3_allWidths_17 : decode cX3_allWidths 17 = .ok (.iload_n 2, 1) := by decide +kernel
theorem dX3_allWidths_18 : decode cX3_allWidths 18 = .ok (.aaload, 1) := by decide +kernel
theorem dX3_allWidths_19 : decode cX3_allWidths 19 = .ok (.invokevirtual 82, 3) := by decide +kernel
theorem dX3_allWidths_22 : decode cX3_allWidths 22 = .ok (.iadd, 1) := by decide +kernel
theorem dX3_allWidths_23 : decode cX3_allWidths 23 = .ok (.istore_n 1, 1) := by decide +kernel
theorem dX3_allWidths_24 : decode cX3_allWidths 24 = .ok (.iinc 2 1, 3) := by decide +kernel
theorem dX3_allWidths_27 : decode cX3_allWidths 27 = .ok (.goto (-23), 3) := by decide +kernel
theorem dX3_allWidths_30 : decode cX3_allWidths 30 = .ok (.iload_n 1, 1) := by decide +kernel
theorem dX3_allWidths_31 : decode cX3_allWidths 31 = .ok (.ireturn, 1) := by decide +kernel
theorem dX4_init_0 : decode cX4_init 0 = .ok (.aload_n 0, 1) := by decide +kernel
theorem dX4_init_1 : decode cX4_init 1 = .ok (.invokespecial 1, 3) := by decide +kernel
theorem dX4_init_4 : decode cX4_init 4 = .ok (.aload_n 0, 1) := by decide +kernel
theorem dX4_init_5 : decode cX4_init 5 = .ok (.iconst 0, 1) := by decide +kernel
theorem dX4_init_6 : decode cX4_init 6 = .ok (.newarray .int, 2) := by decide +kernel
theorem dX4_init_8 : decode cX4_init 8 = .ok (.putfield 7, 3) := by decide +kernel
theorem dX4_init_11 : decode cX4_init 11 = .ok (.return_, 1) := by decide +kernel
theorem dX4_startOn_0 : decode cX4_startOn 0 = .ok (.aload_n 0, 1) := by decide +kernel
theorem dX4_startOn_1 : decode cX4_startOn 1 = .ok (.aload_n 1, 1) := by decide +kernel
theorem dX4_startOn_2 : decode cX4_startOn 2 = .ok (.putfield 7, 3) := by decide +kernel
theorem dX4_startOn_5 : decode cX4_startOn 5 = .ok (.aload_n 0, 1) := by decide +kernel
theorem dX4_startOn_6 : decode cX4_startOn 6 = .ok (.iload_n 2, 1) := by decide +kernel
theorem dX4_startOn_7 : decode cX4_startOn 7 = .ok (.aload_n 1, 1) := by decide +kernel
theorem dX4_startOn_8 : decode cX4_startOn 8 = .ok (.arraylength, 1) := by decide +kernel
theorem dX4_startOn_9 : decode cX4_startOn 9 = .ok (.invokestatic 13, 3) := by decide +kernel
theorem dX4_startOn_12 : decode cX4_startOn 12 = .ok (.putfield 19, 3) := by decide +kernel
theorem dX4_startOn_15 : decode cX4_startOn 15 = .ok (.aload_n 0, 1) := by decide +kernel
theorem dX4_startOn_16 : decode cX4_startOn 16 = .ok (.iconst 0, 1) := by decide +kernel
theorem dX4_startOn_17 : decode cX4_startOn 17 = .ok (.putfield 23, 3) := by decide +kernel
theorem dX4_startOn_20 : decode cX4_startOn 20 = .ok (.aload_n 0, 1) := by decide +kernel
theorem dX4_startOn_21 : decode cX4_startOn 21 = .ok (.iconst 0, 1) := by decide +kernel
theorem dX4_startOn_22 : decode cX4_startOn 22 = .ok (.putfield 26, 3) := by decide +kernel
theorem dX4_startOn_25 : decode cX4_startOn 25 = .ok (.return_, 1) := by decide +kernel
theorem dX4_isAtEnd_0 : decode cX4_isAtEnd 0 = .ok (.aload_n 0, 1) := by decide +kernel
theorem dX4_isAtEnd_1 : decode cX4_isAtEnd 1 = .ok (.getfield 23, 3) := by decide +kernel
theorem dX4_isAtEnd_4 : decode cX4_isAtEnd 4 = .ok (.aload_n 0, 1) := by decide +kernel
theorem dX4_isAtEnd_5 : decode cX4_isAtEnd 5 = .ok (.getfield 19, 3) := by decide +kernel
theorem dX4_isAtEnd_8 : decode cX4_isAtEnd 8 = .ok (.if_icmp .lt 7, 3) := by decide +kernel
theorem dX4_isAtEnd_11 : decode cX4_isAtEnd 11 = .ok (.iconst 1, 1) := by decide +kernel
theorem dX4_isAtEnd_12 : decode cX4_isAtEnd 12 = .ok (.goto 4, 3) := by decide +kernel
theorem dX4_isAtEnd_15 : decode cX4_isAtEnd 15 = .ok (.iconst 0, 1) := by decide +kernel
theorem dX4_isAtEnd_16 : decode cX4_isAtEnd 16 = .ok (.ireturn, 1) := by decide +kernel
theorem dX4_coming_0 : decode cX4_coming 0 = .ok (.aload_n 0, 1) := by decide +kernel
theorem dX4_coming_1 : decode cX4_coming 1 = .ok (.getfield 26, 3) := by decide +kernel
theorem dX4_coming_4 : decode cX4_coming 4 = .ok (.ifCond .ne 14, 3) := by decide +kernel
theorem dX4_coming_7 : decode cX4_coming 7 = .ok (.aload_n 0, 1) := by decide +kernel
theorem dX4_coming_8 : decode cX4_coming 8 = .ok (.getfield 23, 3) := by decide +kernel
theorem dX4_coming_11 : decode cX4_coming 11 = .ok (.aload_n 0, 1) := by decide +kernel
theorem dX4_coming_12 : decode cX4_coming 12 = .ok (.getfield 19, 3) := by decide +kernel
theorem dX4_coming_15 : decode cX4_coming 15 = .ok (.if_icmp .lt 7, 3) := by decide +kernel
theorem dX4_coming_18 : decode cX4_coming 18 = .ok (.iconst (-1), 1) := by decide +kernel
theorem dX4_coming_19 : decode cX4_coming 19 = .ok (.goto 12, 3) := by decide +kernel
theorem dX4_coming_22 : decode cX4_coming 22 = .ok (.aload_n 0, 1) := by decide +kernel
theorem dX4_coming_23 : decode cX4_coming 23 = .ok (.getfield 7, 3) := by decide +kernel
theorem dX4_coming_26 : decode cX4_coming 26 = .ok (.aload_n 0, 1) := by decide +kernel
theorem dX4_coming_27 : decode cX4_coming 27 = .ok (.getfield 23, 3) := by decide +kernel
theorem dX4_coming_30 : decode cX4_coming 30 = .ok (.iaload, 1) := by decide +kernel
theorem dX4_coming_31 : decode cX4_coming 31 = .ok (.ireturn, 1) := by decide +kernel
theorem dX4_takes_0 : decode cX4_takes 0 = .ok (.aload_n 0, 1) := by decide +kernel
theorem dX4_takes_1 : decode cX4_takes 1 = .ok (.invokevirtual 30, 3) := by decide +kernel
theorem dX4_takes_4 : decode cX4_takes 4 = .ok (.iload_n 1, 1) := by decide +kernel
theorem dX4_takes_5 : decode cX4_takes 5 = .ok (.if_icmp .eq 5, 3) := by decide +kernel
theorem dX4_takes_8 : decode cX4_takes 8 = .ok (.iconst 0, 1) := by decide +kernel
theorem dX4_takes_9 : decode cX4_takes 9 = .ok (.ireturn, 1) := by decide +kernel
theorem dX4_takes_10 : decode cX4_takes 10 = .ok (.aload_n 0, 1) := by decide +kernel
theorem dX4_takes_11 : decode cX4_takes 11 = .ok (.dup, 1) := by decide +kernel
theorem dX4_takes_12 : decode cX4_takes 12 = .ok (.getfield 23, 3) := by decide +kernel
theorem dX4_takes_15 : decode cX4_takes 15 = .ok (.iconst 1, 1) := by decide +kernel
theorem dX4_takes_16 : decode cX4_takes 16 = .ok (.iadd, 1) := by decide +kernel
theorem dX4_takes_17 : decode cX4_takes 17 = .ok (.putfield 23, 3) := by decide +kernel
theorem dX4_takes_20 : decode cX4_takes 20 = .ok (.iconst 1, 1) := by decide +kernel
theorem dX4_takes_21 : decode cX4_takes 21 = .ok (.ireturn, 1) := by decide +kernel
theorem dX4_takeOrStop_0 : decode cX4_takeOrStop 0 = .ok (.aload_n 0, 1) := by decide +kernel
theorem dX4_takeOrStop_1 : decode cX4_takeOrStop 1 = .ok (.iload_n 1, 1) := by decide +kernel
theorem dX4_takeOrStop_2 : decode cX4_takeOrStop 2 = .ok (.invokevirtual 34, 3) := by decide +kernel
theorem dX4_takeOrStop_5 : decode cX4_takeOrStop 5 = .ok (.ifCond .ne 8, 3) := by decide +kernel
theorem dX4_takeOrStop_8 : decode cX4_takeOrStop 8 = .ok (.aload_n 0, 1) := by decide +kernel
theorem dX4_takeOrStop_9 : decode cX4_takeOrStop 9 = .ok (.iconst 1, 1) := by decide +kernel
theorem dX4_takeOrStop_10 : decode cX4_takeOrStop 10 = .ok (.putfield 26, 3) := by decide +kernel
theorem dX4_takeOrStop_13 : decode cX4_takeOrStop 13 = .ok (.return_, 1) := by decide +kernel
theorem dX4_takeNumber_0 : decode cX4_takeNumber 0 = .ok (.aload_n 0, 1) := by decide +kernel
theorem dX4_takeNumber_1 : decode cX4_takeNumber 1 = .ok (.invokevirtual 30, 3) := by decide +kernel
theorem dX4_takeNumber_4 : decode cX4_takeNumber 4 = .ok (.istore_n 2, 1) := by decide +kernel
theorem dX4_takeNumber_5 : decode cX4_takeNumber 5 = .ok (.iload_n 2, 1) := by decide +kernel
theorem dX4_takeNumber_6 : decode cX4_takeNumber 6 = .ok (.bipush 48, 2) := by decide +kernel
theorem dX4_takeNumber_8 : decode cX4_takeNumber 8 = .ok (.bipush 57, 2) := by decide +kernel
theorem dX4_takeNumber_10 : decode cX4_takeNumber 10 = .ok (.invokestatic 38, 3) := by decide +kernel
theorem dX4_takeNumber_13 : decode cX4_takeNumber 13 = .ok (.ifCond .ne 10, 3) := by decide +kernel
theorem dX4_takeNumber_16 : decode cX4_takeNumber 16 = .ok (.aload_n 0, 1) := by decide +kernel
theorem dX4_takeNumber_17 : decode cX4_takeNumber 17 = .ok (.iconst 1, 1) := by decide +kernel
theorem dX4_takeNumber_18 : decode cX4_takeNumber 18 = .ok (.putfield 26, 3) := by decide +kernel
theorem dX4_takeNumber_21 : decode cX4_takeNumber 21 = .ok (.iconst 0, 1) := by decide +kernel
theorem dX4_takeNumber_22 : decode cX4_takeNumber 22 = .ok (.ireturn, 1) := by decide +kernel
theorem dX4_takeNumber_23 : decode cX4_takeNumber 23 = .ok (.aload_n 0, 1) := by decide +kernel
theorem dX4_takeNumber_24 : decode cX4_takeNumber 24 = .ok (.dup, 1) := by decide +kernel
theorem dX4_takeNumber_25 : decode cX4_takeNumber 25 = .ok (.getfield 23, 3) := by decide +kernel
theorem dX4_takeNumber_28 : decode cX4_takeNumber 28 = .ok (.iconst 1, 1) := by decide +kernel
theorem dX4_takeNumber_29 : decode cX4_takeNumber 29 = .ok (.iadd, 1) := by decide +kernel
theorem dX4_takeNumber_30 : decode cX4_takeNumber 30 = .ok (.putfield 23, 3) := by decide +kernel
theorem dX4_takeNumber_33 : decode cX4_takeNumber 33 = .ok (.iload_n 2, 1) := by decide +kernel
theorem dX4_takeNumber_34 : decode cX4_takeNumber 34 = .ok (.bipush 48, 2) := by decide +kernel
theorem dX4_takeNumber_36 : decode cX4_takeNumber 36 = .ok (.isub, 1) := by decide +kernel
theorem dX4_takeNumber_37 : decode cX4_takeNumber 37 = .ok (.istore_n 3, 1) := by decide +kernel
theorem dX4_takeNumber_38 : decode cX4_takeNumber 38 = .ok (.iconst 1, 1) := by decide +kernel
theorem dX4_takeNumber_39 : decode cX4_takeNumber 39 = .ok (.istore 4, 2) := by decide +kernel
theorem dX4_takeNumber_41 : decode cX4_takeNumber 41 = .ok (.iload 4, 2) := by decide +kernel
theorem dX4_takeNumber_43 : decode cX4_takeNumber 43 = .ok (.iload_n 1, 1) := by decide +kernel
theorem dX4_takeNumber_44 : decode cX4_takeNumber 44 = .ok (.if_icmp .ge 50, 3) := by decide +kernel
theorem dX4_takeNumber_47 : decode cX4_takeNumber 47 = .ok (.iload_n 3, 1) := by decide +kernel
theorem dX4_takeNumber_48 : decode cX4_takeNumber 48 = .ok (.ifCond .eq 46, 3) := by decide +kernel
theorem dX4_takeNumber_51 : decode cX4_takeNumber 51 = .ok (.aload_n 0, 1) := by decide +kernel
theorem dX4_takeNumber_52 : decode cX4_takeNumber 52 = .ok (.invokevirtual 30, 3) := by decide +kernel
theorem dX4_takeNumber_55 : decode cX4_takeNumber 55 = .ok (.bipush 48, 2) := by decide +kernel
theorem dX4_takeNumber_57 : decode cX4_takeNumber 57 = .ok (.bipush 57, 2) := by decide +kernel
theorem dX4_takeNumber_59 : decode cX4_takeNumber 59 = .ok (.invokestatic 38, 3) := by decide +kernel
theorem dX4_takeNumber_62 : decode cX4_takeNumber 62 = .ok (.ifCond .eq 32, 3) := by decide +kernel
theorem dX4_takeNumber_65 : decode cX4_takeNumber 65 = .ok (.bipush 10, 2) := by decide +kernel
theorem dX4_takeNumber_67 : decode cX4_takeNumber 67 = .ok (.iload_n 3, 1) := by decide +kernel
theorem dX4_takeNumber_68 : decode cX4_takeNumber 68 = .ok (.imul, 1) := by decide +kernel
theorem dX4_takeNumber_69 : decode cX4_takeNumber 69 = .ok (.aload_n 0, 1) := by decide +kernel
theorem dX4_takeNumber_70 : decode cX4_takeNumber 70 = .ok (.invokevirtual 30, 3) := by decide +kernel
theorem dX4_takeNumber_73 : decode cX4_takeNumber 73 = .ok (.iadd, 1) := by decide +kernel
theorem dX4_takeNumber_74 : decode cX4_takeNumber 74 = .ok (.bipush 48, 2) := by decide +kernel
theorem dX4_takeNumber_76 : decode cX4_takeNumber 76 = .ok (.isub, 1) := by decide +kernel
theorem dX4_takeNumber_77 : decode cX4_takeNumber 77 = .ok (.istore_n 3, 1) := by decide +kernel
theorem dX4_takeNumber_78 : decode cX4_takeNumber 78 = .ok (.aload_n 0, 1) := by decide +kernel
theorem dX4_takeNumber_79 : decode cX4_takeNumber 79 = .ok (.dup, 1) := by decide +kernel
theorem dX4_takeNumber_80 : decode cX4_takeNumber 80 = .ok (.getfield 23, 3) := by decide +kernel
theorem dX4_takeNumber_83 : decode cX4_takeNumber 83 = .ok (.iconst 1, 1) := by decide +kernel
theorem dX4_takeNumber_84 : decode cX4_takeNumber 84 = .ok (.iadd, 1) := by decide +kernel
theorem dX4_takeNumber_85 : decode cX4_takeNumber 85 = .ok (.putfield 23, 3) := by decide +kernel
theorem dX4_takeNumber_88 : decode cX4_takeNumber 88 = .ok (.iinc 4 1, 3) := by decide +kernel
theorem dX4_takeNumber_91 : decode cX4_takeNumber 91 = .ok (.goto (-50), 3) := by decide +kernel
theorem dX4_takeNumber_94 : decode cX4_takeNumber 94 = .ok (.iload_n 3, 1) := by decide +kernel
theorem dX4_takeNumber_95 : decode cX4_takeNumber 95 = .ok (.ireturn, 1) := by decide +kernel
theorem dX5_init_0 : decode cX5_init 0 = .ok (.aload_n 0, 1) := by decide +kernel
theorem dX5_init_1 : decode cX5_init 1 = .ok (.invokespecial 3, 3) := by decide +kernel
theorem dX5_init_4 : decode cX5_init 4 = .ok (.aload_n 0, 1) := by decide +kernel
theorem dX5_init_5 : decode cX5_init 5 = .ok (.new 9, 3) := by decide +kernel
theorem dX5_init_8 : decode cX5_init 8 = .ok (.dup, 1) := by decide +kernel
theorem dX5_init_9 : decode cX5_init 9 = .ok (.invokespecial 11, 3) := by decide +kernel
theorem dX5_init_12 : decode cX5_init 12 = .ok (.putfield 12, 3) := by decide +kernel
theorem dX5_init_15 : decode cX5_init 15 = .ok (.aload_n 0, 1) := by decide +kernel
theorem dX5_init_16 : decode cX5_init 16 = .ok (.new 9, 3) := by decide +kernel
theorem dX5_init_19 : decode cX5_init 19 = .ok (.dup, 1) := by decide +kernel
theorem dX5_init_20 : decode cX5_init 20 = .ok (.invokespecial 11, 3) := by decide +kernel
theorem dX5_init_23 : decode cX5_init 23 = .ok (.putfield 18, 3) := by decide +kernel
theorem dX5_init_26 : decode cX5_init 26 = .ok (.aload_n 0, 1) := by decide +kernel
theorem dX5_init_27 : decode cX5_init 27 = .ok (.bipush 16, 2) := by decide +kernel
theorem dX5_init_29 : decode cX5_init 29 = .ok (.newarray .int, 2) := by decide +kernel
theorem dX5_init_31 : decode cX5_init 31 = .ok (.putfield 21, 3) := by decide +kernel
theorem dX5_init_34 : decode cX5_init 34 = .ok (.return_, 1) := by decide +kernel
theorem dX5_roll_0 : decode cX5_roll 0 = .ok (.aload_n 0, 1) := by decide +kernel
theorem dX5_roll_1 : decode cX5_roll 1 = .ok (.aload_n 1, 1) := by decide +kernel
theorem dX5_roll_2 : decode cX5_roll 2 = .ok (.putfield 12, 3) := by decide +kernel
theorem dX5_roll_5 : decode cX5_roll 5 = .ok (.aload_n 0, 1) := by decide +kernel
theorem dX5_roll_6 : decode cX5_roll 6 = .ok (.aload_n 2, 1) := by decide +kernel
theorem dX5_roll_7 : decode cX5_roll 7 = .ok (.putfield 18, 3) := by decide +kernel
theorem dX5_roll_10 : decode cX5_roll 10 = .ok (.aload_n 0, 1) := by decide +kernel
theorem dX5_roll_11 : decode cX5_roll 11 = .ok (.iload_n 3, 1) := by decide +kernel
theorem dX5_roll_12 : decode cX5_roll 12 = .ok (.putfield 25, 3) := by decide +kernel
theorem dX5_roll_15 : decode cX5_roll 15 = .ok (.aload_n 0, 1) := by decide +kernel
theorem dX5_roll_16 : decode cX5_roll 16 = .ok (.invokevirtual 29, 3) := by decide +kernel
theorem dX5_roll_19 : decode cX5_roll 19 = .ok (.return_, 1) := by decide +kernel
theorem dX5_measure_0 : decode cX5_measure 0 = .ok (.iconst 0, 1) := by decide +kernel
theorem dX5_measure_1 : decode cX5_measure 1 = .ok (.istore_n 1, 1) := by decide +kernel
theorem dX5_measure_2 : decode cX5_measure 2 = .ok (.iload_n 1, 1) := by decide +kernel
theorem dX5_measure_3 : decode cX5_measure 3 = .ok (.bipush 16, 2) := by decide +kernel
theorem dX5_measure_5 : decode cX5_measure 5 = .ok (.if_icmp .ge 30, 3) := by decide +kernel
theorem dX5_measure_8 : decode cX5_measure 8 = .ok (.aload_n 0, 1) := by decide +kernel
theorem dX5_measure_9 : decode cX5_measure 9 = .ok (.getfield 21, 3) := by decide +kernel
theorem dX5_measure_12 : decode cX5_measure 12 = .ok (.iload_n 1, 1) := by decide +kernel
theorem dX5_measure_13 : decode cX5_measure 13 = .ok (.aload_n 0, 1) := by decide +kernel
theorem dX5_measure_14 : decode cX5_measure 14 = .ok (.getfield 25, 3) := by decide +kernel
theorem dX5_measure_17 : decode cX5_measure 17 = .ok (.aload_n 0, 1) := by decide +kernel
theorem dX5_measure_18 : decode cX5_measure 18 = .ok (.aload_n 0, 1) := by decide +kernel
theorem dX5_measure_19 : decode cX5_measure 19 = .ok (.iload_n 1, 1) := by decide +kernel
theorem dX5_measure_20 : decode cX5_measure 20 = .ok (.invokevirtual 32, 3) := by decide +kernel
theorem dX5_measure_23 : decode cX5_measure 23 = .ok (.iload_n 1, 1) := by decide +kernel
theorem dX5_measure_24 : decode cX5_measure 24 = .ok (.invokevirtual 36, 3) := by decide +kernel
theorem dX5_measure_27 : decode cX5_measure 27 = .ok (.isub, 1) := by decide +kernel
theorem dX5_measure_28 : decode cX5_measure 28 = .ok (.iastore, 1) := by decide +kernel
theorem dX5_measure_29 : decode cX5_measure 29 = .ok (.iinc 1 1, 3) := by decide +kernel
theorem dX5_measure_32 : decode cX5_measure 32 = .ok (.goto (-30), 3) := by decide +kernel
theorem dX5_measure_35 : decode cX5_measure 35 = .ok (.return_, 1) := by decide +kernel
theorem dX5_facing_0 : decode cX5_facing 0 = .ok (.bipush 15, 2) := by decide +kernel
theorem dX5_facing_2 : decode cX5_facing 2 = .ok (.iload_n 0, 1) := by decide +kernel
theorem dX5_facing_3 : decode cX5_facing 3 = .ok (.isub, 1) := by decide +kernel
theorem dX5_facing_4 : decode cX5_facing 4 = .ok (.iload_n 1, 1) := by decide +kernel
theorem dX5_facing_5 : decode cX5_facing 5 = .ok (.iadd, 1) := by decide +kernel
theorem dX5_facing_6 : decode cX5_facing 6 = .ok (.bipush 16, 2) := by decide +kernel
theorem dX5_facing_8 : decode cX5_facing 8 = .ok (.irem, 1) := by decide +kernel
theorem dX5_facing_9 : decode cX5_facing 9 = .ok (.ireturn, 1) := by decide +kernel
theorem dX5_bothAt_0 : decode cX5_bothAt 0 = .ok (.aload_n 0, 1) := by decide +kernel
theorem dX5_bothAt_1 : decode cX5_bothAt 1 = .ok (.getfield 12, 3) := by decide +kernel
theorem dX5_bothAt_4 : decode cX5_bothAt 4 = .ok (.getfield 40, 3) := by decide +kernel
theorem dX5_bothAt_7 : decode cX5_bothAt 7 = .ok (.iload_n 1, 1) := by decide +kernel
theorem dX5_bothAt_8 : decode cX5_bothAt 8 = .ok (.iaload, 1) := by decide +kernel
theorem dX5_bothAt_9 : decode cX5_bothAt 9 = .ok (.aload_n 0, 1) := by decide +kernel
theorem dX5_bothAt_10 : decode cX5_bothAt 10 = .ok (.getfield 18, 3) := by decide +kernel
theorem dX5_bothAt_13 : decode cX5_bothAt 13 = .ok (.getfield 40, 3) := by decide +kernel
theorem dX5_bothAt_16 : decode cX5_bothAt 16 = .ok (.iload_n 1, 1) := by decide +kernel
theorem dX5_bothAt_17 : decode cX5_bothAt 17 = .ok (.iload_n 2, 1) := by decide +kernel
theorem dX5_bothAt_18 : decode cX5_bothAt 18 = .ok (.invokestatic 43, 3) := by decide +kernel
theorem dX5_bothAt_21 : decode cX5_bothAt 21 = .ok (.iaload, 1) := by decide +kernel
theorem dX5_bothAt_22 : decode cX5_bothAt 22 = .ok (.iadd, 1) := by decide +kernel
theorem dX5_bothAt_23 : decode cX5_bothAt 23 = .ok (.ireturn, 1) := by decide +kernel
theorem dX5_touchAt_0 : decode cX5_touchAt 0 = .ok (.iconst 0, 1) := by decide +kernel
theorem dX5_touchAt_1 : decode cX5_touchAt 1 = .ok (.istore_n 2, 1) := by decide +kernel
theorem dX5_touchAt_2 : decode cX5_touchAt 2 = .ok (.aload_n 0, 1) := by decide +kernel
theorem dX5_touchAt_3 : decode cX5_touchAt 3 = .ok (.iconst 0, 1) := by decide +kernel
theorem dX5_touchAt_4 : decode cX5_touchAt 4 = .ok (.iload_n 1, 1) := by decide +kernel
theorem dX5_touchAt_5 : decode cX5_touchAt 5 = .ok (.invokevirtual 36, 3) := by decide +kernel
theorem dX5_touchAt_8 : decode cX5_touchAt 8 = .ok (.istore_n 3, 1) := by decide +kernel
theorem dX5_touchAt_9 : decode cX5_touchAt 9 = .ok (.iconst 1, 1) := by decide +kernel
theorem dX5_touchAt_10 : decode cX5_touchAt 10 = .ok (.istore 4, 2) := by decide +kernel
theorem dX5_touchAt_12 : decode cX5_touchAt 12 = .ok (.iload 4, 2) := by decide +kernel
theorem dX5_touchAt_14 : decode cX5_touchAt 14 = .ok (.bipush 16, 2) := by decide +kernel
theorem dX5_touchAt_16 : decode cX5_touchAt 16 = .ok (.if_icmp .ge 30, 3) := by decide +kernel
theorem dX5_touchAt_19 : decode cX5_touchAt 19 = .ok (.aload_n 0, 1) := by decide +kernel
theorem dX5_touchAt_20 : decode cX5_touchAt 20 = .ok (.iload 4, 2) := by decide +kernel
theorem dX5_touchAt_22 : decode cX5_touchAt 22 = .ok (.iload_n 1, 1) := by decide +kernel
theorem dX5_touchAt_23 : decode cX5_touchAt 23 = .ok (.invokevirtual 36, 3) := by decide +kernel
theorem dX5_touchAt_26 : decode cX5_touchAt 26 = .ok (.istore 5, 2) := by decide +kernel
theorem dX5_touchAt_28 : decode cX5_touchAt 28 = .ok (.iload 5, 2) := by decide +kernel
theorem dX5_touchAt_30 : decode cX5_touchAt 30 = .ok (.iload_n 3, 1) := by decide +kernel
theorem dX5_touchAt_31 : decode cX5_touchAt 31 = .ok (.if_icmp .le 9, 3) := by decide +kernel
theorem dX5_touchAt_34 : decode cX5_touchAt 34 = .ok (.iload 5, 2) := by decide +kernel
theorem dX5_touchAt_36 : decode cX5_touchAt 36 = .ok (.istore_n 3, 1) := by decide +kernel
theorem dX5_touchAt_37 : decode cX5_touchAt 37 = .ok (.iload 4, 2) := by decide +kernel
theorem dX5_touchAt_39 : decode cX5_touchAt 39 = .ok (.istore_n 2, 1) := by decide +kernel
theorem dX5_touchAt_40 : decode cX5_touchAt 40 = .ok (.iinc 4 1, 3) := by decide +kernel
theorem dX5_touchAt_43 : decode cX5_touchAt 43 = .ok (.goto (-31), 3) := by decide +kernel
theorem dX5_touchAt_46 : decode cX5_touchAt 46 = .ok (.iload_n 2, 1) := by decide +kernel
theorem dX5_touchAt_47 : decode cX5_touchAt 47 = .ok (.ireturn, 1) := by decide +kernel
theorem dX5_firstJam_0 : decode cX5_firstJam 0 = .ok (.iconst 0, 1) := by decide +kernel
theorem dX5_firstJam_1 : decode cX5_firstJam 1 = .ok (.istore_n 1, 1) := by decide +kernel
theorem dX5_firstJam_2 : decode cX5_firstJam 2 = .ok (.iload_n 1, 1) := by decide +kernel
theorem dX5_firstJam_3 : decode cX5_firstJam 3 = .ok (.bipush 16, 2) := by decide +kernel
theorem dX5_firstJam_5 : decode cX5_firstJam 5 = .ok (.if_icmp .ge 20, 3) := by decide +kernel
theorem dX5_firstJam_8 : decode cX5_firstJam 8 = .ok (.aload_n 0, 1) := by decide +kernel
theorem dX5_firstJam_9 : decode cX5_firstJam 9 = .ok (.getfield 21, 3) := by decide +kernel
theorem dX5_firstJam_12 : decode cX5_firstJam 12 = .ok (.iload_n 1, 1) := by decide +kernel
theorem dX5_firstJam_13 : decode cX5_firstJam 13 = .ok (.iaload, 1) := by decide +kernel
theorem dX5_firstJam_14 : decode cX5_firstJam 14 = .ok (.ifCond .ge 5, 3) := by decide +kernel
theorem dX5_firstJam_17 : decode cX5_firstJam 17 = .ok (.iload_n 1, 1) := by decide +kernel
theorem dX5_firstJam_18 : decode cX5_firstJam 18 = .ok (.ireturn, 1) := by decide +kernel
theorem dX5_firstJam_19 : decode cX5_firstJam 19 = .ok (.iinc 1 1, 3) := by decide +kernel
theorem dX5_firstJam_22 : decode cX5_firstJam 22 = .ok (.goto (-20), 3) := by decide +kernel
theorem dX5_firstJam_25 : decode cX5_firstJam 25 = .ok (.bipush (-4), 2) := by decide +kernel
theorem dX5_firstJam_27 : decode cX5_firstJam 27 = .ok (.ireturn, 1) := by decide +kernel
theorem dX5_leastOff_0 : decode cX5_leastOff 0 = .ok (.aload_n 0, 1) := by decide +kernel
theorem dX5_leastOff_1 : decode cX5_leastOff 1 = .ok (.getfield 21, 3) := by decide +kernel
theorem dX5_leastOff_4 : decode cX5_leastOff 4 = .ok (.iconst 0, 1) := by decide +kernel
theorem dX5_leastOff_5 : decode cX5_leastOff 5 = .ok (.iaload, 1) := by decide +kernel
theorem dX5_leastOff_6 : decode cX5_leastOff 6 = .ok (.istore_n 1, 1) := by decide +kernel
theorem dX5_leastOff_7 : decode cX5_leastOff 7 = .ok (.iconst 1, 1) := by decide +kernel
theorem dX5_leastOff_8 : decode cX5_leastOff 8 = .ok (.istore_n 2, 1) := by decide +kernel
theorem dX5_leastOff_9 : decode cX5_leastOff 9 = .ok (.iload_n 2, 1) := by decide +kernel
theorem dX5_leastOff_10 : decode cX5_leastOff 10 = .ok (.bipush 16, 2) := by decide +kernel
theorem dX5_leastOff_12 : decode cX5_leastOff 12 = .ok (.if_icmp .ge 20, 3) := by decide +kernel
theorem dX5_leastOff_15 : decode cX5_leastOff 15 = .ok (.iload_n 1, 1) := by decide +kernel
theorem dX5_leastOff_16 : decode cX5_leastOff 16 = .ok (.aload_n 0, 1) := by decide +kernel
theorem dX5_leastOff_17 : decode cX5_leastOff 17 = .ok (.getfield 21, 3) := by decide +kernel
theorem dX5_leastOff_20 : decode cX5_leastOff 20 = .ok (.iload_n 2, 1) := by decide +kernel
theorem dX5_leastOff_21 : decode cX5_leastOff 21 = .ok (.iaload, 1) := by decide +kernel
theorem dX5_leastOff_22 : decode cX5_leastOff 22 = .ok (.invokestatic 46, 3) := by decide +kernel
theorem dX5_leastOff_25 : decode cX5_leastOff 25 = .ok (.istore_n 1, 1) := by decide +kernel
theorem dX5_leastOff_26 : decode cX5_leastOff 26 = .ok (.iinc 2 1, 3) := by decide +kernel
theorem dX5_leastOff_29 : decode cX5_leastOff 29 = .ok (.goto (-20), 3) := by decide +kernel
theorem dX5_leastOff_32 : decode cX5_leastOff 32 = .ok (.iload_n 1, 1) := by decide +kernel
theorem dX5_leastOff_33 : decode cX5_leastOff 33 = .ok (.ireturn, 1) := by decide +kernel
theorem dX5_spread_0 : decode cX5_spread 0 = .ok (.aload_n 0, 1) := by decide +kernel
theorem dX5_spread_1 : decode cX5_spread 1 = .ok (.getfield 21, 3) := by decide +kernel
theorem dX5_spread_4 : decode cX5_spread 4 = .ok (.iconst 0, 1) := by decide +kernel
theorem dX5_spread_5 : decode cX5_spread 5 = .ok (.iaload, 1) := by decide +kernel
theorem dX5_spread_6 : decode cX5_spread 6 = .ok (.istore_n 1, 1) := by decide +kernel
theorem dX5_spread_7 : decode cX5_spread 7 = .ok (.iconst 1, 1) := by decide +kernel
theorem dX5_spread_8 : decode cX5_spread 8 = .ok (.istore_n 2, 1) := by decide +kernel
theorem dX5_spread_9 : decode cX5_spread 9 = .ok (.iload_n 2, 1) := by decide +kernel
theorem dX5_spread_10 : decode cX5_spread 10 = .ok (.bipush 16, 2) := by decide +kernel
theorem dX5_spread_12 : decode cX5_spread 12 = .ok (.if_icmp .ge 20, 3) := by decide +kernel
theorem dX5_spread_15 : decode cX5_spread 15 = .ok (.iload_n 1, 1) := by decide +kernel
theorem dX5_spread_16 : decode cX5_spread 16 = .ok (.aload_n 0, 1) := by decide +kernel
theorem dX5_spread_17 : decode cX5_spread 17 = .ok (.getfield 21, 3) := by decide +kernel
theorem dX5_spread_20 : decode cX5_spread 20 = .ok (.iload_n 2, 1) := by decide +kernel
theorem dX5_spread_21 : decode cX5_spread 21 = .ok (.iaload, 1) := by decide +kernel
theorem dX5_spread_22 : decode cX5_spread 22 = .ok (.invokestatic 51, 3) := by decide +kernel
theorem dX5_spread_25 : decode cX5_spread 25 = .ok (.istore_n 1, 1) := by decide +kernel
theorem dX5_spread_26 : decode cX5_spread 26 = .ok (.iinc 2 1, 3) := by decide +kernel
theorem dX5_spread_29 : decode cX5_spread 29 = .ok (.goto (-20), 3) := by decide +kernel
theorem dX5_spread_32 : decode cX5_spread 32 = .ok (.iload_n 1, 1) := by decide +kernel
theorem dX5_spread_33 : decode cX5_spread 33 = .ok (.aload_n 0, 1) := by decide +kernel
theorem dX5_spread_34 : decode cX5_spread 34 = .ok (.invokevirtual 54, 3) := by decide +kernel
theorem dX5_spread_37 : decode cX5_spread 37 = .ok (.isub, 1) := by decide +kernel
theorem dX5_spread_38 : decode cX5_spread 38 = .ok (.ireturn, 1) := by decide +kernel
theorem dX5_loudness_0 : decode cX5_loudness 0 = .ok (.lconst 0, 1) := by decide +kernel
theorem dX5_loudness_1 : decode cX5_loudness 1 = .ok (.lstore_n 2, 1) := by decide +kernel
theorem dX5_loudness_2 : decode cX5_loudness 2 = .ok (.lconst 0, 1) := by decide +kernel
theorem dX5_loudness_3 : decode cX5_loudness 3 = .ok (.lstore 4, 2) := by decide +kernel
theorem dX5_loudness_5 : decode cX5_loudness 5 = .ok (.iconst 0, 1) := by decide +kernel
theorem dX5_loudness_6 : decode cX5_loudness 6 = .ok (.istore 6, 2) := by decide +kernel
theorem dX5_loudness_8 : decode cX5_loudness 8 = .ok (.iload 6, 2) := by decide +kernel
theorem dX5_loudness_10 : decode cX5_loudness 10 = .ok (.bipush 16, 2) := by decide +kernel
theorem dX5_loudness_12 : decode cX5_loudness 12 = .ok (.if_icmp .ge 62, 3) := by decide +kernel
theorem dX5_loudness_15 : decode cX5_loudness 15 = .ok (.iload_n 1, 1) := by decide +kernel
theorem dX5_loudness_16 : decode cX5_loudness 16 = .ok (.iload 6, 2) := by decide +kernel
theorem dX5_loudness_18 : decode cX5_loudness 18 = .ok (.imul, 1) := by decide +kernel
theorem dX5_loudness_19 : decode cX5_loudness 19 = .ok (.bipush 16, 2) := by decide +kernel
theorem dX5_loudness_21 : decode cX5_loudness 21 = .ok (.irem, 1) := by decide +kernel
theorem dX5_loudness_22 : decode cX5_loudness 22 = .ok (.istore 7, 2) := by decide +kernel
theorem dX5_loudness_24 : decode cX5_loudness 24 = .ok (.lload_n 2, 1) := by decide +kernel
theorem dX5_loudness_25 : decode cX5_loudness 25 = .ok (.aload_n 0, 1) := by decide +kernel
theorem dX5_loudness_26 : decode cX5_loudness 26 = .ok (.getfield 21, 3) := by decide +kernel
theorem dX5_loudness_29 : decode cX5_loudness 29 = .ok (.iload 6, 2) := by decide +kernel
theorem dX5_loudness_31 : decode cX5_loudness 31 = .ok (.iaload, 1) := by decide +kernel
theorem dX5_loudness_32 : decode cX5_loudness 32 = .ok (.getstatic 58, 3) := by decide +kernel
theorem dX5_loudness_35 : decode cX5_loudness 35 = .ok (.iload 7, 2) := by decide +kernel
theorem dX5_loudness_37 : decode cX5_loudness 37 = .ok (.iaload, 1) := by decide +kernel
theorem dX5_loudness_38 : decode cX5_loudness 38 = .ok (.imul, 1) := by decide +kernel
theorem dX5_loudness_39 : decode cX5_loudness 39 = .ok (.i2l, 1) := by decide +kernel
theorem dX5_loudness_40 : decode cX5_loudness 40 = .ok (.ladd, 1) := by decide +kernel
theorem dX5_loudness_41 : decode cX5_loudness 41 = .ok (.lstore_n 2, 1) := by decide +kernel
theorem dX5_loudness_42 : decode cX5_loudness 42 = .ok (.lload 4, 2) := by decide +kernel
theorem dX5_loudness_44 : decode cX5_loudness 44 = .ok (.aload_n 0, 1) := by decide +kernel
theorem dX5_loudness_45 : decode cX5_loudness 45 = .ok (.getfield 21, 3) := by decide +kernel
theorem dX5_loudness_48 : decode cX5_loudness 48 = .ok (.iload 6, 2) := by decide +kernel
theorem dX5_loudness_50 : decode cX5_loudness 50 = .ok (.iaload, 1) := by decide +kernel
theorem dX5_loudness_51 : decode cX5_loudness 51 = .ok (.getstatic 58, 3) := by decide +kernel
theorem dX5_loudness_54 : decode cX5_loudness 54 = .ok (.iload 7, 2) := by decide +kernel
theorem dX5_loudness_56 : decode cX5_loudness 56 = .ok (.bipush 12, 2) := by decide +kernel
theorem dX5_loudness_58 : decode cX5_loudness 58 = .ok (.iadd, 1) := by decide +kernel
theorem dX5_loudness_59 : decode cX5_loudness 59 = .ok (.bipush 16, 2) := by decide +kernel
theorem dX5_loudness_61 : decode cX5_loudness 61 = .ok (.irem, 1) := by decide +kernel
theorem dX5_loudness_62 : decode cX5_loudness 62 = .ok (.iaload, 1) := by decide +kernel
theorem dX5_loudness_63 : decode cX5_loudness 63 = .ok (.imul, 1) := by decide +kernel
theorem dX5_loudness_64 : decode cX5_loudness 64 = .ok (.i2l, 1) := by decide +kernel
theorem dX5_loudness_65 : decode cX5_loudness 65 = .ok (.ladd, 1) := by decide +kernel
theorem dX5_loudness_66 : decode cX5_loudness 66 = .ok (.lstore 4, 2) := by decide +kernel
theorem dX5_loudness_68 : decode cX5_loudness 68 = .ok (.iinc 6 1, 3) := by decide +kernel
theorem dX5_loudness_71 : decode cX5_loudness 71 = .ok (.goto (-63), 3) := by decide +kernel
theorem dX5_loudness_74 : decode cX5_loudness 74 = .ok (.lload_n 2, 1) := by decide +kernel
theorem dX5_loudness_75 : decode cX5_loudness 75 = .ok (.lload_n 2, 1) := by decide +kernel
theorem dX5_loudness_76 : decode cX5_loudness 76 = .ok (.lmul, 1) := by decide +kernel
theorem dX5_loudness_77 : decode cX5_loudness 77 = .ok (.lload 4, 2) := by decide +kernel
theorem dX5_loudness_79 : decode cX5_loudness 79 = .ok (.lload 4, 2) := by decide +kernel
theorem dX5_loudness_81 : decode cX5_loudness 81 = .ok (.lmul, 1) := by decide +kernel
theorem dX5_loudness_82 : decode cX5_loudness 82 = .ok (.ladd, 1) := by decide +kernel
theorem dX5_loudness_83 : decode cX5_loudness 83 = .ok (.ldc2_w 61, 3) := by decide +kernel
theorem dX5_loudness_86 : decode cX5_loudness 86 = .ok (.ldiv, 1) := by decide +kernel
theorem dX5_loudness_87 : decode cX5_loudness 87 = .ok (.lreturn, 1) := by decide +kernel
theorem dX5_loudestTone_0 : decode cX5_loudestTone 0 = .ok (.iconst 1, 1) := by decide +kernel
theorem dX5_loudestTone_1 : decode cX5_loudestTone 1 = .ok (.istore_n 1, 1) := by decide +kernel
theorem dX5_loudestTone_2 : decode cX5_loudestTone 2 = .ok (.iconst 2, 1) := by decide +kernel
theorem dX5_loudestTone_3 : decode cX5_loudestTone 3 = .ok (.istore_n 2, 1) := by decide +kernel
theorem dX5_loudestTone_4 : decode cX5_loudestTone 4 = .ok (.iload_n 2, 1) := by decide +kernel
theorem dX5_loudestTone_5 : decode cX5_loudestTone 5 = .ok (.bipush 8, 2) := by decide +kernel
theorem dX5_loudestTone_7 : decode cX5_loudestTone 7 = .ok (.if_icmp .gt 25, 3) := by decide +kernel
theorem dX5_loudestTone_10 : decode cX5_loudestTone 10 = .ok (.aload_n 0, 1) := by decide +kernel
theorem dX5_loudestTone_11 : decode cX5_loudestTone 11 = .ok (.iload_n 2, 1) := by decide +kernel
theorem dX5_loudestTone_12 : decode cX5_loudestTone 12 = .ok (.invokevirtual 63, 3) := by decide +kernel
theorem dX5_loudestTone_15 : decode cX5_loudestTone 15 = .ok (.aload_n 0, 1) := by decide +kernel
theorem dX5_loudestTone_16 : decode cX5_loudestTone 16 = .ok (.iload_n 1, 1) := by decide +kernel
theorem dX5_loudestTone_17 : decode cX5_loudestTone 17 = .ok (.invokevirtual 63, 3) := by decide +kernel
theorem dX5_loudestTone_20 : decode cX5_loudestTone 20 = .ok (.lcmp, 1) := by decide +kernel
theorem dX5_loudestTone_21 : decode cX5_loudestTone 21 = .ok (.ifCond .le 5, 3) := by decide +kernel
theorem dX5_loudestTone_24 : decode cX5_loudestTone 24 = .ok (.iload_n 2, 1) := by decide +kernel
theorem dX5_loudestTone_25 : decode cX5_loudestTone 25 = .ok (.istore_n 1, 1) := by decide +kernel
theorem dX5_loudestTone_26 : decode cX5_loudestTone 26 = .ok (.iinc 2 1, 3) := by decide +kernel
theorem dX5_loudestTone_29 : decode cX5_loudestTone 29 = .ok (.goto (-25), 3) := by decide +kernel
theorem dX5_loudestTone_32 : decode cX5_loudestTone 32 = .ok (.iload_n 1, 1) := by decide +kernel
theorem dX5_loudestTone_33 : decode cX5_loudestTone 33 = .ok (.ireturn, 1) := by decide +kernel
theorem dX5_wearRound_0 : decode cX5_wearRound 0 = .ok (.aload_n 0, 1) := by decide +kernel
theorem dX5_wearRound_1 : decode cX5_wearRound 1 = .ok (.getfield 12, 3) := by decide +kernel
theorem dX5_wearRound_4 : decode cX5_wearRound 4 = .ok (.invokevirtual 67, 3) := by decide +kernel
theorem dX5_wearRound_7 : decode cX5_wearRound 7 = .ok (.iload_n 1, 1) := by decide +kernel
theorem dX5_wearRound_8 : decode cX5_wearRound 8 = .ok (.bipush 10, 2) := by decide +kernel
theorem dX5_wearRound_10 : decode cX5_wearRound 10 = .ok (.idiv, 1) := by decide +kernel
theorem dX5_wearRound_11 : decode cX5_wearRound 11 = .ok (.if_icmp .ge 7, 3) := by decide +kernel
theorem dX5_wearRound_14 : decode cX5_wearRound 14 = .ok (.iconst 1, 1) := by decide +kernel
theorem dX5_wearRound_15 : decode cX5_wearRound 15 = .ok (.goto 4, 3) := by decide +kernel
theorem dX5_wearRound_18 : decode cX5_wearRound 18 = .ok (.iconst 0, 1) := by decide +kernel
theorem dX5_wearRound_19 : decode cX5_wearRound 19 = .ok (.istore_n 2, 1) := by decide +kernel
theorem dX5_wearRound_20 : decode cX5_wearRound 20 = .ok (.aload_n 0, 1) := by decide +kernel
theorem dX5_wearRound_21 : decode cX5_wearRound 21 = .ok (.getfield 18, 3) := by decide +kernel
theorem dX5_wearRound_24 : decode cX5_wearRound 24 = .ok (.invokevirtual 67, 3) := by decide +kernel
theorem dX5_wearRound_27 : decode cX5_wearRound 27 = .ok (.iload_n 1, 1) := by decide +kernel
theorem dX5_wearRound_28 : decode cX5_wearRound 28 = .ok (.bipush 10, 2) := by decide +kernel
theorem dX5_wearRound_30 : decode cX5_wearRound 30 = .ok (.idiv, 1) := by decide +kernel
theorem dX5_wearRound_31 : decode cX5_wearRound 31 = .ok (.if_icmp .ge 7, 3) := by decide +kernel
theorem dX5_wearRound_34 : decode cX5_wearRound 34 = .ok (.iconst 1, 1) := by decide +kernel
theorem dX5_wearRound_35 : decode cX5_wearRound 35 = .ok (.goto 4, 3) := by decide +kernel
theorem dX5_wearRound_38 : decode cX5_wearRound 38 = .ok (.iconst 0, 1) := by decide +kernel
theorem dX5_wearRound_39 : decode cX5_wearRound 39 = .ok (.istore_n 3, 1) := by decide +kernel
theorem dX5_wearRound_40 : decode cX5_wearRound 40 = .ok (.iconst 0, 1) := by decide +kernel
theorem dX5_wearRound_41 : decode cX5_wearRound 41 = .ok (.istore 4, 2) := by decide +kernel
theorem dX5_wearRound_43 : decode cX5_wearRound 43 = .ok (.iload 4, 2) := by decide +kernel
theorem dX5_wearRound_45 : decode cX5_wearRound 45 = .ok (.bipush 16, 2) := by decide +kernel
theorem dX5_wearRound_47 : decode cX5_wearRound 47 = .ok (.if_icmp .ge 48, 3) := by decide +kernel
theorem dX5_wearRound_50 : decode cX5_wearRound 50 = .ok (.aload_n 0, 1) := by decide +kernel
theorem dX5_wearRound_51 : decode cX5_wearRound 51 = .ok (.iload 4, 2) := by decide +kernel
theorem dX5_wearRound_53 : decode cX5_wearRound 53 = .ok (.invokevirtual 32, 3) := by decide +kernel
theorem dX5_wearRound_56 : decode cX5_wearRound 56 = .ok (.istore 5, 2) := by decide +kernel
theorem dX5_wearRound_58 : decode cX5_wearRound 58 = .ok (.iload_n 2, 1) := by decide +kernel
theorem dX5_wearRound_59 : decode cX5_wearRound 59 = .ok (.ifCond .eq 12, 3) := by decide +kernel
theorem dX5_wearRound_62 : decode cX5_wearRound 62 = .ok (.aload_n 0, 1) := by decide +kernel
theorem dX5_wearRound_63 : decode cX5_wearRound 63 = .ok (.getfield 12, 3) := by decide +kernel
theorem dX5_wearRound_66 : decode cX5_wearRound 66 = .ok (.iload 5, 2) := by decide +kernel
theorem dX5_wearRound_68 : decode cX5_wearRound 68 = .ok (.invokevirtual 70, 3) := by decide +kernel
theorem dX5_wearRound_71 : decode cX5_wearRound 71 = .ok (.iload_n 3, 1) := by decide +kernel
theorem dX5_wearRound_72 : decode cX5_wearRound 72 = .ok (.ifCond .eq 17, 3) := by decide +kernel
theorem dX5_wearRound_75 : decode cX5_wearRound 75 = .ok (.aload_n 0, 1) := by decide +kernel
theorem dX5_wearRound_76 : decode cX5_wearRound 76 = .ok (.getfield 18, 3) := by decide +kernel
theorem dX5_wearRound_79 : decode cX5_wearRound 79 = .ok (.iload 5, 2) := by decide +kernel
theorem dX5_wearRound_81 : decode cX5_wearRound 81 = .ok (.iload 4, 2) := by decide +kernel
theorem dX5_wearRound_83 : decode cX5_wearRound 83 = .ok (.invokestatic 43, 3) := by decide +kernel
theorem dX5_wearRound_86 : decode cX5_wearRound 86 = .ok (.invokevirtual 70, 3) := by decide +kernel
theorem dX5_wearRound_89 : decode cX5_wearRound 89 = .ok (.iinc 4 1, 3) := by decide +kernel
theorem dX5_wearRound_92 : decode cX5_wearRound 92 = .ok (.goto (-49), 3) := by decide +kernel
theorem dX5_wearRound_95 : decode cX5_wearRound 95 = .ok (.return_, 1) := by decide +kernel
theorem dX5_tellFields_0 : decode cX5_tellFields 0 = .ok (.aload_n 0, 1) := by decide +kernel
theorem dX5_tellFields_1 : decode cX5_tellFields 1 = .ok (.invokevirtual 74, 3) := by decide +kernel
theorem dX5_tellFields_4 : decode cX5_tellFields 4 = .ok (.istore_n 3, 1) := by decide +kernel
theorem dX5_tellFields_5 : decode cX5_tellFields 5 = .ok (.aload_n 1, 1) := by decide +kernel
theorem dX5_tellFields_6 : decode cX5_tellFields 6 = .ok (.iconst 0, 1) := by decide +kernel
theorem dX5_tellFields_7 : decode cX5_tellFields 7 = .ok (.aload_n 0, 1) := by decide +kernel
theorem dX5_tellFields_8 : decode cX5_tellFields 8 = .ok (.invokevirtual 77, 3) := by decide +kernel
theorem dX5_tellFields_11 : decode cX5_tellFields 11 = .ok (.iastore, 1) := by decide +kernel
theorem dX5_tellFields_12 : decode cX5_tellFields 12 = .ok (.aload_n 1, 1) := by decide +kernel
theorem dX5_tellFields_13 : decode cX5_tellFields 13 = .ok (.iconst 1, 1) := by decide +kernel
theorem dX5_tellFields_14 : decode cX5_tellFields 14 = .ok (.aload_n 0, 1) := by decide +kernel
theorem dX5_tellFields_15 : decode cX5_tellFields 15 = .ok (.invokevirtual 54, 3) := by decide +kernel
theorem dX5_tellFields_18 : decode cX5_tellFields 18 = .ok (.iastore, 1) := by decide +kernel
theorem dX5_tellFields_19 : decode cX5_tellFields 19 = .ok (.aload_n 1, 1) := by decide +kernel
theorem dX5_tellFields_20 : decode cX5_tellFields 20 = .ok (.iconst 2, 1) := by decide +kernel
theorem dX5_tellFields_21 : decode cX5_tellFields 21 = .ok (.iload_n 3, 1) := by decide +kernel
theorem dX5_tellFields_22 : decode cX5_tellFields 22 = .ok (.iastore, 1) := by decide +kernel
theorem dX5_tellFields_23 : decode cX5_tellFields 23 = .ok (.aload_n 1, 1) := by decide +kernel
theorem dX5_tellFields_24 : decode cX5_tellFields 24 = .ok (.iconst 3, 1) := by decide +kernel
theorem dX5_tellFields_25 : decode cX5_tellFields 25 = .ok (.aload_n 0, 1) := by decide +kernel
theorem dX5_tellFields_26 : decode cX5_tellFields 26 = .ok (.iload_n 3, 1) := by decide +kernel
theorem dX5_tellFields_27 : decode cX5_tellFields 27 = .ok (.invokevirtual 63, 3) := by decide +kernel
theorem dX5_tellFields_30 : decode cX5_tellFields 30 = .ok (.ldc2_w 80, 3) := by decide +kernel
theorem dX5_tellFields_33 : decode cX5_tellFields 33 = .ok (.invokestatic 82, 3) := by decide +kernel
theorem dX5_tellFields_36 : decode cX5_tellFields 36 = .ok (.l2i, 1) := by decide +kernel
theorem dX5_tellFields_37 : decode cX5_tellFields 37 = .ok (.iastore, 1) := by decide +kernel
theorem dX5_tellFields_38 : decode cX5_tellFields 38 = .ok (.aload_n 1, 1) := by decide +kernel
theorem dX5_tellFields_39 : decode cX5_tellFields 39 = .ok (.iconst 4, 1) := by decide +kernel
theorem dX5_tellFields_40 : decode cX5_tellFields 40 = .ok (.iload_n 2, 1) := by decide +kernel
theorem dX5_tellFields_41 : decode cX5_tellFields 41 = .ok (.iastore, 1) := by decide +kernel
theorem dX5_tellFields_42 : decode cX5_tellFields 42 = .ok (.aload_n 1, 1) := by decide +kernel
theorem dX5_tellFields_43 : decode cX5_tellFields 43 = .ok (.iconst 5, 1) := by decide +kernel
theorem dX5_tellFields_44 : decode cX5_tellFields 44 = .ok (.aload_n 0, 1) := by decide +kernel
theorem dX5_tellFields_45 : decode cX5_tellFields 45 = .ok (.getfield 12, 3) := by decide +kernel
theorem dX5_tellFields_48 : decode cX5_tellFields 48 = .ok (.invokevirtual 85, 3) := by decide +kernel
theorem dX5_tellFields_51 : decode cX5_tellFields 51 = .ok (.iastore, 1) := by decide +kernel
theorem dX5_tellFields_52 : decode cX5_tellFields 52 = .ok (.aload_n 1, 1) := by decide +kernel
theorem dX5_tellFields_53 : decode cX5_tellFields 53 = .ok (.bipush 6, 2) := by decide +kernel
theorem dX5_tellFields_55 : decode cX5_tellFields 55 = .ok (.aload_n 0, 1) := by decide +kernel
theorem dX5_tellFields_56 : decode cX5_tellFields 56 = .ok (.getfield 18, 3) := by decide +kernel
theorem dX5_tellFields_59 : decode cX5_tellFields 59 = .ok (.invokevirtual 85, 3) := by decide +kernel
theorem dX5_tellFields_62 : decode cX5_tellFields 62 = .ok (.iastore, 1) := by decide +kernel
theorem dX5_tellFields_63 : decode cX5_tellFields 63 = .ok (.return_, 1) := by decide +kernel
theorem dX6_init_0 : decode cX6_init 0 = .ok (.aload_n 0, 1) := by decide +kernel
theorem dX6_init_1 : decode cX6_init 1 = .ok (.invokespecial 3, 3) := by decide +kernel
theorem dX6_init_4 : decode cX6_init 4 = .ok (.aload_n 0, 1) := by decide +kernel
theorem dX6_init_5 : decode cX6_init 5 = .ok (.bipush 12, 2) := by decide +kernel
theorem dX6_init_7 : decode cX6_init 7 = .ok (.bipush 120, 2) := by decide +kernel
theorem dX6_init_9 : decode cX6_init 9 = .ok (.multianewarray 9 2, 4) := by decide +kernel
theorem dX6_init_13 : decode cX6_init 13 = .ok (.putfield 11, 3) := by decide +kernel
theorem dX6_init_16 : decode cX6_init 16 = .ok (.aload_n 0, 1) := by decide +kernel
theorem dX6_init_17 : decode cX6_init 17 = .ok (.bipush 12, 2) := by decide +kernel
theorem dX6_init_19 : decode cX6_init 19 = .ok (.newarray .int, 2) := by decide +kernel
theorem dX6_init_21 : decode cX6_init 21 = .ok (.putfield 16, 3) := by decide +kernel
theorem dX6_init_24 : decode cX6_init 24 = .ok (.return_, 1) := by decide +kernel
theorem dX6_takeFrom_0 : decode cX6_takeFrom 0 = .ok (.aload_n 0, 1) := by decide +kernel
theorem dX6_takeFrom_1 : decode cX6_takeFrom 1 = .ok (.iconst 0, 1) := by decide +kernel
theorem dX6_takeFrom_2 : decode cX6_takeFrom 2 = .ok (.putfield 20, 3) := by decide +kernel
theorem dX6_takeFrom_5 : decode cX6_takeFrom 5 = .ok (.iconst 0, 1) := by decide +kernel
theorem dX6_takeFrom_6 : decode cX6_takeFrom 6 = .ok (.istore_n 2, 1) := by decide +kernel
theorem dX6_takeFrom_7 : decode cX6_takeFrom 7 = .ok (.iload_n 2, 1) := by decide +kernel
theorem dX6_takeFrom_8 : decode cX6_takeFrom 8 = .ok (.aload_n 1, 1) := by decide +kernel
theorem dX6_takeFrom_9 : decode cX6_takeFrom 9 = .ok (.getfield 20, 3) := by decide +kernel
theorem dX6_takeFrom_12 : decode cX6_takeFrom 12 = .ok (.if_icmp .ge 25, 3) := by decide +kernel
theorem dX6_takeFrom_15 : decode cX6_takeFrom 15 = .ok (.aload_n 0, 1) := by decide +kernel
theorem dX6_takeFrom_16 : decode cX6_takeFrom 16 = .ok (.aload_n 1, 1) := by decide +kernel
theorem dX6_takeFrom_17 : decode cX6_takeFrom 17 = .ok (.getfield 11, 3) := by decide +kernel
theorem dX6_takeFrom_20 : decode cX6_takeFrom 20 = .ok (.iload_n 2, 1) := by decide +kernel
theorem dX6_takeFrom_21 : decode cX6_takeFrom 21 = .ok (.aaload, 1) := by decide +kernel
theorem dX6_takeFrom_22 : decode cX6_takeFrom 22 = .ok (.aload_n 1, 1) := by decide +kernel
theorem dX6_takeFrom_23 : decode cX6_takeFrom 23 = .ok (.getfield 16, 3) := by decide +kernel
theorem dX6_takeFrom_26 : decode cX6_takeFrom 26 = .ok (.iload_n 2, 1) := by decide +kernel
theorem dX6_takeFrom_27 : decode cX6_takeFrom 27 = .ok (.iaload, 1) := by decide +kernel
theorem dX6_takeFrom_28 : decode cX6_takeFrom 28 = .ok (.invokevirtual 24, 3) := by decide +kernel
theorem dX6_takeFrom_31 : decode cX6_takeFrom 31 = .ok (.iinc 2 1, 3) := by decide +kernel
theorem dX6_takeFrom_34 : decode cX6_takeFrom 34 = .ok (.goto (-27), 3) := by decide +kernel
theorem dX6_takeFrom_37 : decode cX6_takeFrom 37 = .ok (.return_, 1) := by decide +kernel
theorem dX6_addRule_0 : decode cX6_addRule 0 = .ok (.aload_n 1, 1) := by decide +kernel
theorem dX6_addRule_1 : decode cX6_addRule 1 = .ok (.iconst 0, 1) := by decide +kernel
theorem dX6_addRule_2 : decode cX6_addRule 2 = .ok (.aload_n 0, 1) := by decide +kernel
theorem dX6_addRule_3 : decode cX6_addRule 3 = .ok (.getfield 11, 3) := by decide +kernel
theorem dX6_addRule_6 : decode cX6_addRule 6 = .ok (.aload_n 0, 1) := by decide +kernel
theorem dX6_addRule_7 : decode cX6_addRule 7 = .ok (.getfield 20, 3) := by decide +kernel
theorem dX6_addRule_10 : decode cX6_addRule 10 = .ok (.aaload, 1) := by decide +kernel
theorem dX6_addRule_11 : decode cX6_addRule 11 = .ok (.iconst 0, 1) := by decide +kernel
theorem dX6_addRule_12 : decode cX6_addRule 12 = .ok (.iload_n 2, 1) := by decide +kernel
theorem dX6_addRule_13 : decode cX6_addRule 13 = .ok (.invokestatic 28, 3) := by decide +kernel
theorem dX6_addRule_16 : decode cX6_addRule 16 = .ok (.aload_n 0, 1) := by decide +kernel
theorem dX6_addRule_17 : decode cX6_addRule 17 = .ok (.getfield 16, 3) := by decide +kernel
theorem dX6_addRule_20 : decode cX6_addRule 20 = .ok (.aload_n 0, 1) := by decide +kernel
theorem dX6_addRule_21 : decode cX6_addRule 21 = .ok (.getfield 20, 3) := by decide +kernel
theorem dX6_addRule_24 : decode cX6_addRule 24 = .ok (.iload_n 2, 1) := by decide +kernel
theorem dX6_addRule_25 : decode cX6_addRule 25 = .ok (.iastore, 1) := by decide +kernel
theorem dX6_addRule_26 : decode cX6_addRule 26 = .ok (.aload_n 0, 1) := by decide +kernel
theorem dX6_addRule_27 : decode cX6_addRule 27 = .ok (.dup, 1) := by decide +kernel
theorem dX6_addRule_28 : decode cX6_addRule 28 = .ok (.getfield 20, 3) := by decide +kernel
theorem dX6_addRule_31 : decode cX6_addRule 31 = .ok (.iconst 1, 1) := by decide +kernel
theorem dX6_addRule_32 : decode cX6_addRule 32 = .ok (.iadd, 1) := by decide +kernel
theorem dX6_addRule_33 : decode cX6_addRule 33 = .ok (.putfield 20, 3) := by decide +kernel
theorem dX6_addRule_36 : decode cX6_addRule 36 = .ok (.return_, 1) := by decide +kernel
theorem dX7_init_0 : decode cX7_init 0 = .ok (.aload_n 0, 1) := by decide +kernel
theorem dX7_init_1 : decode cX7_init 1 = .ok (.invokespecial 3, 3) := by decide +kernel
theorem dX7_init_4 : decode cX7_init 4 = .ok (.aload_n 0, 1) := by decide +kernel
theorem dX7_init_5 : decode cX7_init 5 = .ok (.bipush 7, 2) := by decide +kernel
theorem dX7_init_7 : decode cX7_init 7 = .ok (.newarray .int, 2) := by decide +kernel
theorem dX7_init_9 : decode cX7_init 9 = .ok (.putfield 9, 3) := by decide +kernel
theorem dX7_init_12 : decode cX7_init 12 = .ok (.return_, 1) := by decide +kernel
theorem dX7_readAll_0 : decode cX7_readAll 0 = .ok (.aload_n 0, 1) := by decide +kernel
theorem dX7_readAll_1 : decode cX7_readAll 1 = .ok (.aload_n 1, 1) := by decide +kernel
theorem dX7_readAll_2 : decode cX7_readAll 2 = .ok (.iload_n 2, 1) := by decide +kernel
theorem dX7_readAll_3 : decode cX7_readAll 3 = .ok (.invokevirtual 15, 3) := by decide +kernel
theorem dX7_readAll_6 : decode cX7_readAll 6 = .ok (.aload_n 0, 1) := by decide +kernel
theorem dX7_readAll_7 : decode cX7_readAll 7 = .ok (.iconst 0, 1) := by decide +kernel
theorem dX7_readAll_8 : decode cX7_readAll 8 = .ok (.invokevirtual 19, 3) := by decide +kernel
theorem dX7_readAll_11 : decode cX7_readAll 11 = .ok (.istore_n 3, 1) := by decide +kernel
theorem dX7_readAll_12 : decode cX7_readAll 12 = .ok (.aload_n 0, 1) := by decide +kernel
theorem dX7_readAll_13 : decode cX7_readAll 13 = .ok (.aload_n 0, 1) := by decide +kernel
theorem dX7_readAll_14 : decode cX7_readAll 14 = .ok (.getfield 23, 3) := by decide +kernel
theorem dX7_readAll_17 : decode cX7_readAll 17 = .ok (.ifCond .ne 10, 3) := by decide +kernel
theorem dX7_readAll_20 : decode cX7_readAll 20 = .ok (.aload_n 0, 1) := by decide +kernel
theorem dX7_readAll_21 : decode cX7_readAll 21 = .ok (.invokevirtual 27, 3) := by decide +kernel
theorem dX7_readAll_24 : decode cX7_readAll 24 = .ok (.ifCond .ne 7, 3) := by decide +kernel
theorem dX7_readAll_27 : decode cX7_readAll 27 = .ok (.iconst 1, 1) := by decide +kernel
theorem dX7_readAll_28 : decode cX7_readAll 28 = .ok (.goto 4, 3) := by decide +kernel
theorem dX7_readAll_31 : decode cX7_readAll 31 = .ok (.iconst 0, 1) := by decide +kernel
theorem dX7_readAll_32 : decode cX7_readAll 32 = .ok (.putfield 23, 3) := by decide +kernel
theorem dX7_readAll_35 : decode cX7_readAll 35 = .ok (.iload_n 3, 1) := by decide +kernel
theorem dX7_readAll_36 : decode cX7_readAll 36 = .ok (.ireturn, 1) := by decide +kernel
theorem dX7_faultPlace_0 : decode cX7_faultPlace 0 = .ok (.aload_n 0, 1) := by decide +kernel
theorem dX7_faultPlace_1 : decode cX7_faultPlace 1 = .ok (.getfield 23, 3) := by decide +kernel
theorem dX7_faultPlace_4 : decode cX7_faultPlace 4 = .ok (.ifCond .eq 10, 3) := by decide +kernel
theorem dX7_faultPlace_7 : decode cX7_faultPlace 7 = .ok (.aload_n 0, 1) := by decide +kernel
theorem dX7_faultPlace_8 : decode cX7_faultPlace 8 = .ok (.getfield 31, 3) := by decide +kernel
theorem dX7_faultPlace_11 : decode cX7_faultPlace 11 = .ok (.goto 5, 3) := by decide +kernel
theorem dX7_faultPlace_14 : decode cX7_faultPlace 14 = .ok (.bipush (-4), 2) := by decide +kernel
theorem dX7_faultPlace_16 : decode cX7_faultPlace 16 = .ok (.ireturn, 1) := by decide +kernel
theorem dX7_readOr_0 : decode cX7_readOr 0 = .ok (.iconst 0, 1) := by decide +kernel
theorem dX7_readOr_1 : decode cX7_readOr 1 = .ok (.istore_n 2, 1) := by decide +kernel
theorem dX7_readOr_2 : decode cX7_readOr 2 = .ok (.iconst 1, 1) := by decide +kernel
theorem dX7_readOr_3 : decode cX7_readOr 3 = .ok (.istore_n 3, 1) := by decide +kernel
theorem dX7_readOr_4 : decode cX7_readOr 4 = .ok (.iconst 0, 1) := by decide +kernel
theorem dX7_readOr_5 : decode cX7_readOr 5 = .ok (.istore 4, 2) := by decide +kernel
theorem dX7_readOr_7 : decode cX7_readOr 7 = .ok (.iload 4, 2) := by decide +kernel
theorem dX7_readOr_9 : decode cX7_readOr 9 = .ok (.bipush 120, 2) := by decide +kernel
theorem dX7_readOr_11 : decode cX7_readOr 11 = .ok (.if_icmp .ge 64, 3) := by decide +kernel
theorem dX7_readOr_14 : decode cX7_readOr 14 = .ok (.aload_n 0, 1) := by decide +kernel
theorem dX7_readOr_15 : decode cX7_readOr 15 = .ok (.iload_n 1, 1) := by decide +kernel
theorem dX7_readOr_16 : decode cX7_readOr 16 = .ok (.invokevirtual 35, 3) := by decide +kernel
theorem dX7_readOr_19 : decode cX7_readOr 19 = .ok (.ifCond .eq 11, 3) := by decide +kernel
theorem dX7_readOr_22 : decode cX7_readOr 22 = .ok (.iload_n 3, 1) := by decide +kernel
theorem dX7_readOr_23 : decode cX7_readOr 23 = .ok (.ifCond .eq 7, 3) := by decide +kernel
theorem dX7_readOr_26 : decode cX7_readOr 26 = .ok (.iconst 1, 1) := by decide +kernel
theorem dX7_readOr_27 : decode cX7_readOr 27 = .ok (.goto 4, 3) := by decide +kernel
theorem dX7_readOr_30 : decode cX7_readOr 30 = .ok (.iconst 0, 1) := by decide +kernel
theorem dX7_readOr_31 : decode cX7_readOr 31 = .ok (.istore_n 3, 1) := by decide +kernel
theorem dX7_readOr_32 : decode cX7_readOr 32 = .ok (.aload_n 0, 1) := by decide +kernel
theorem dX7_readOr_33 : decode cX7_readOr 33 = .ok (.bipush 38, 2) := by decide +kernel
theorem dX7_readOr_35 : decode cX7_readOr 35 = .ok (.invokevirtual 38, 3) := by decide +kernel
theorem dX7_readOr_38 : decode cX7_readOr 38 = .ok (.ifCond .ne 31, 3) := by decide +kernel
theorem dX7_readOr_41 : decode cX7_readOr 41 = .ok (.iload_n 2, 1) := by decide +kernel
theorem dX7_readOr_42 : decode cX7_readOr 42 = .ok (.ifCond .ne 7, 3) := by decide +kernel
theorem dX7_readOr_45 : decode cX7_readOr 45 = .ok (.iload_n 3, 1) := by decide +kernel
theorem dX7_readOr_46 : decode cX7_readOr 46 = .ok (.ifCond .eq 7, 3) := by decide +kernel
theorem dX7_readOr_49 : decode cX7_readOr 49 = .ok (.iconst 1, 1) := by decide +kernel
theorem dX7_readOr_50 : decode cX7_readOr 50 = .ok (.goto 4, 3) := by decide +kernel
theorem dX7_readOr_53 : decode cX7_readOr 53 = .ok (.iconst 0, 1) := by decide +kernel
theorem dX7_readOr_54 : decode cX7_readOr 54 = .ok (.istore_n 2, 1) := by decide +kernel
theorem dX7_readOr_55 : decode cX7_readOr 55 = .ok (.iconst 1, 1) := by decide +kernel
theorem dX7_readOr_56 : decode cX7_readOr 56 = .ok (.istore_n 3, 1) := by decide +kernel
theorem dX7_readOr_57 : decode cX7_readOr 57 = .ok (.aload_n 0, 1) := by decide +kernel
theorem dX7_readOr_58 : decode cX7_readOr 58 = .ok (.bipush 124, 2) := by decide +kernel
theorem dX7_readOr_60 : decode cX7_readOr 60 = .ok (.invokevirtual 38, 3) := by decide +kernel
theorem dX7_readOr_63 : decode cX7_readOr 63 = .ok (.ifCond .ne 6, 3) := by decide +kernel
theorem dX7_readOr_66 : decode cX7_readOr 66 = .ok (.goto 9, 3) := by decide +kernel
theorem dX7_readOr_69 : decode cX7_readOr 69 = .ok (.iinc 4 1, 3) := by decide +kernel
theorem dX7_readOr_72 : decode cX7_readOr 72 = .ok (.goto (-65), 3) := by decide +kernel
theorem dX7_readOr_75 : decode cX7_readOr 75 = .ok (.iload_n 2, 1) := by decide +kernel
theorem dX7_readOr_76 : decode cX7_readOr 76 = .ok (.ireturn, 1) := by decide +kernel
theorem dX7_readTest_0 : decode cX7_readTest 0 = .ok (.iconst 1, 1) := by decide +kernel
theorem dX7_readTest_1 : decode cX7_readTest 1 = .ok (.istore_n 2, 1) := by decide +kernel
theorem dX7_readTest_2 : decode cX7_readTest 2 = .ok (.iconst 0, 1) := by decide +kernel
theorem dX7_readTest_3 : decode cX7_readTest 3 = .ok (.istore_n 3, 1) := by decide +kernel
theorem dX7_readTest_4 : decode cX7_readTest 4 = .ok (.iload_n 3, 1) := by decide +kernel
theorem dX7_readTest_5 : decode cX7_readTest 5 = .ok (.bipush 120, 2) := by decide +kernel
theorem dX7_readTest_7 : decode cX7_readTest 7 = .ok (.if_icmp .ge 28, 3) := by decide +kernel
theorem dX7_readTest_10 : decode cX7_readTest 10 = .ok (.aload_n 0, 1) := by decide +kernel
theorem dX7_readTest_11 : decode cX7_readTest 11 = .ok (.bipush 33, 2) := by decide +kernel
theorem dX7_readTest_13 : decode cX7_readTest 13 = .ok (.invokevirtual 38, 3) := by decide +kernel
theorem dX7_readTest_16 : decode cX7_readTest 16 = .ok (.ifCond .eq 19, 3) := by decide +kernel
theorem dX7_readTest_19 : decode cX7_readTest 19 = .ok (.iload_n 2, 1) := by decide +kernel
theorem dX7_readTest_20 : decode cX7_readTest 20 = .ok (.ifCond .ne 7, 3) := by decide +kernel
theorem dX7_readTest_23 : decode cX7_readTest 23 = .ok (.iconst 1, 1) := by decide +kernel
theorem dX7_readTest_24 : decode cX7_readTest 24 = .ok (.goto 4, 3) := by decide +kernel
theorem dX7_readTest_27 : decode cX7_readTest 27 = .ok (.iconst 0, 1) := by decide +kernel
theorem dX7_readTest_28 : decode cX7_readTest 28 = .ok (.istore_n 2, 1) := by decide +kernel
theorem dX7_readTest_29 : decode cX7_readTest 29 = .ok (.iinc 3 1, 3) := by decide +kernel
theorem dX7_readTest_32 : decode cX7_readTest 32 = .ok (.goto (-28), 3) := by decide +kernel
theorem dX7_readTest_35 : decode cX7_readTest 35 = .ok (.iload_n 1, 1) := by decide +kernel
theorem dX7_readTest_36 : decode cX7_readTest 36 = .ok (.bipush 8, 2) := by decide +kernel
theorem dX7_readTest_38 : decode cX7_readTest 38 = .ok (.if_icmp .ge 29, 3) := by decide +kernel
theorem dX7_readTest_41 : decode cX7_readTest 41 = .ok (.aload_n 0, 1) := by decide +kernel
theorem dX7_readTest_42 : decode cX7_readTest 42 = .ok (.bipush 40, 2) := by decide +kernel
theorem dX7_readTest_44 : decode cX7_readTest 44 = .ok (.invokevirtual 38, 3) := by decide +kernel
theorem dX7_readTest_47 : decode cX7_readTest 47 = .ok (.ifCond .eq 20, 3) := by decide +kernel
theorem dX7_readTest_50 : decode cX7_readTest 50 = .ok (.aload_n 0, 1) := by decide +kernel
theorem dX7_readTest_51 : decode cX7_readTest 51 = .ok (.iload_n 1, 1) := by decide +kernel
theorem dX7_readTest_52 : decode cX7_readTest 52 = .ok (.iconst 1, 1) := by decide +kernel
theorem dX7_readTest_53 : decode cX7_readTest 53 = .ok (.iadd, 1) := by decide +kernel
theorem dX7_readTest_54 : decode cX7_readTest 54 = .ok (.invokevirtual 19, 3) := by decide +kernel
theorem dX7_readTest_57 : decode cX7_readTest 57 = .ok (.istore_n 3, 1) := by decide +kernel
theorem dX7_readTest_58 : decode cX7_readTest 58 = .ok (.aload_n 0, 1) := by decide +kernel
theorem dX7_readTest_59 : decode cX7_readTest 59 = .ok (.bipush 41, 2) := by decide +kernel
theorem dX7_readTest_61 : decode cX7_readTest 61 = .ok (.invokevirtual 42, 3) := by decide +kernel
theorem dX7_readTest_64 : decode cX7_readTest 64 = .ok (.goto 104, 3) := by decide +kernel
theorem dX7_readTest_67 : decode cX7_readTest 67 = .ok (.aload_n 0, 1) := by decide +kernel
theorem dX7_readTest_68 : decode cX7_readTest 68 = .ok (.invokevirtual 46, 3) := by decide +kernel
theorem dX7_readTest_71 : decode cX7_readTest 71 = .ok (.istore 4, 2) := by decide +kernel
theorem dX7_readTest_73 : decode cX7_readTest 73 = .ok (.aload_n 0, 1) := by decide +kernel
theorem dX7_readTest_74 : decode cX7_readTest 74 = .ok (.invokevirtual 50, 3) := by decide +kernel
theorem dX7_readTest_77 : decode cX7_readTest 77 = .ok (.istore 5, 2) := by decide +kernel
theorem dX7_readTest_79 : decode cX7_readTest 79 = .ok (.aload_n 0, 1) := by decide +kernel
theorem dX7_readTest_80 : decode cX7_readTest 80 = .ok (.iload 5, 2) := by decide +kernel
theorem dX7_readTest_82 : decode cX7_readTest 82 = .ok (.bipush 60, 2) := by decide +kernel
theorem dX7_readTest_84 : decode cX7_readTest 84 = .ok (.if_icmp .eq 10, 3) := by decide +kernel
theorem dX7_readTest_87 : decode cX7_readTest 87 = .ok (.iload 5, 2) := by decide +kernel
theorem dX7_readTest_89 : decode cX7_readTest 89 = .ok (.bipush 62, 2) := by decide +kernel
theorem dX7_readTest_91 : decode cX7_readTest 91 = .ok (.if_icmp .ne 9, 3) := by decide +kernel
theorem dX7_readTest_94 : decode cX7_readTest 94 = .ok (.iload 5, 2) := by decide +kernel
theorem dX7_readTest_96 : decode cX7_readTest 96 = .ok (.i2c, 1) := by decide +kernel
theorem dX7_readTest_97 : decode cX7_readTest 97 = .ok (.goto 5, 3) := by decide +kernel
theorem dX7_readTest_100 : decode cX7_readTest 100 = .ok (.bipush 61, 2) := by decide +kernel
theorem dX7_readTest_102 : decode cX7_readTest 102 = .ok (.invokevirtual 42, 3) := by decide +kernel
theorem dX7_readTest_105 : decode cX7_readTest 105 = .ok (.aload_n 0, 1) := by decide +kernel
theorem dX7_readTest_106 : decode cX7_readTest 106 = .ok (.invokevirtual 46, 3) := by decide +kernel
theorem dX7_readTest_109 : decode cX7_readTest 109 = .ok (.istore 6, 2) := by decide +kernel
theorem dX7_readTest_111 : decode cX7_readTest 111 = .ok (.iload 5, 2) := by decide +kernel
theorem dX7_readTest_113 : decode cX7_readTest 113 = .ok (.bipush 60, 2) := by decide +kernel
theorem dX7_readTest_115 : decode cX7_readTest 115 = .ok (.if_icmp .ne 18, 3) := by decide +kernel
theorem dX7_readTest_118 : decode cX7_readTest 118 = .ok (.iload 4, 2) := by decide +kernel
theorem dX7_readTest_120 : decode cX7_readTest 120 = .ok (.iload 6, 2) := by decide +kernel
theorem dX7_readTest_122 : decode cX7_readTest 122 = .ok (.if_icmp .ge 7, 3) := by decide +kernel
theorem dX7_readTest_125 : decode cX7_readTest 125 = .ok (.iconst 1, 1) := by decide +kernel
theorem dX7_readTest_126 : decode cX7_readTest 126 = .ok (.goto 41, 3) := by decide +kernel
theorem dX7_readTest_129 : decode cX7_readTest 129 = .ok (.iconst 0, 1) := by decide +kernel
theorem dX7_readTest_130 : decode cX7_readTest 130 = .ok (.goto 37, 3) := by decide +kernel
theorem dX7_readTest_133 : decode cX7_readTest 133 = .ok (.iload 5, 2) := by decide +kernel
theorem dX7_readTest_135 : decode cX7_readTest 135 = .ok (.bipush 62, 2) := by decide +kernel
theorem dX7_readTest_137 : decode cX7_readTest 137 = .ok (.if_icmp .ne 18, 3) := by decide +kernel
theorem dX7_readTest_140 : decode cX7_readTest 140 = .ok (.iload 4, 2) := by decide +kernel
theorem dX7_readTest_142 : decode cX7_readTest 142 = .ok (.iload 6, 2) := by decide +kernel
theorem dX7_readTest_144 : decode cX7_readTest 144 = .ok (.if_icmp .le 7, 3) := by decide +kernel
theorem dX7_readTest_147 : decode cX7_readTest 147 = .ok (.iconst 1, 1) := by decide +kernel
theorem dX7_readTest_148 : decode cX7_readTest 148 = .ok (.goto 19, 3) := by decide +kernel
theorem dX7_readTest_151 : decode cX7_readTest 151 = .ok (.iconst 0, 1) := by decide +kernel
theorem dX7_readTest_152 : decode cX7_readTest 152 = .ok (.goto 15, 3) := by decide +kernel
theorem dX7_readTest_155 : decode cX7_readTest 155 = .ok (.iload 4, 2) := by decide +kernel
theorem dX7_readTest_157 : decode cX7_readTest 157 = .ok (.iload 6, 2) := by decide +kernel
theorem dX7_readTest_159 : decode cX7_readTest 159 = .ok (.if_icmp .ne 7, 3) := by decide +kernel
theorem dX7_readTest_162 : decode cX7_readTest 162 = .ok (.iconst 1, 1) := by decide +kernel
theorem dX7_readTest_163 : decode cX7_readTest 163 = .ok (.goto 4, 3) := by decide +kernel
theorem dX7_readTest_166 : decode cX7_readTest 166 = .ok (.iconst 0, 1) := by decide +kernel
theorem dX7_readTest_167 : decode cX7_readTest 167 = .ok (.istore_n 3, 1) := by decide +kernel
theorem dX7_readTest_168 : decode cX7_readTest 168 = .ok (.iload_n 3, 1) := by decide +kernel
theorem dX7_readTest_169 : decode cX7_readTest 169 = .ok (.iload_n 2, 1) := by decide +kernel
theorem dX7_readTest_170 : decode cX7_readTest 170 = .ok (.if_icmp .ne 7, 3) := by decide +kernel
theorem dX7_readTest_173 : decode cX7_readTest 173 = .ok (.iconst 1, 1) := by decide +kernel
theorem dX7_readTest_174 : decode cX7_readTest 174 = .ok (.goto 4, 3) := by decide +kernel
theorem dX7_readTest_177 : decode cX7_readTest 177 = .ok (.iconst 0, 1) := by decide +kernel
theorem dX7_readTest_178 : decode cX7_readTest 178 = .ok (.ireturn, 1) := by decide +kernel
theorem dX7_readSum_0 : decode cX7_readSum 0 = .ok (.aload_n 0, 1) := by decide +kernel
theorem dX7_readSum_1 : decode cX7_readSum 1 = .ok (.invokevirtual 53, 3) := by decide +kernel
theorem dX7_readSum_4 : decode cX7_readSum 4 = .ok (.istore_n 1, 1) := by decide +kernel
theorem dX7_readSum_5 : decode cX7_readSum 5 = .ok (.iconst 0, 1) := by decide +kernel
theorem dX7_readSum_6 : decode cX7_readSum 6 = .ok (.istore_n 2, 1) := by decide +kernel
theorem dX7_readSum_7 : decode cX7_readSum 7 = .ok (.iload_n 2, 1) := by decide +kernel
theorem dX7_readSum_8 : decode cX7_readSum 8 = .ok (.bipush 120, 2) := by decide +kernel
theorem dX7_readSum_10 : decode cX7_readSum 10 = .ok (.if_icmp .ge 44, 3) := by decide +kernel
theorem dX7_readSum_13 : decode cX7_readSum 13 = .ok (.aload_n 0, 1) := by decide +kernel
theorem dX7_readSum_14 : decode cX7_readSum 14 = .ok (.bipush 43, 2) := by decide +kernel
theorem dX7_readSum_16 : decode cX7_readSum 16 = .ok (.invokevirtual 38, 3) := by decide +kernel
theorem dX7_readSum_19 : decode cX7_readSum 19 = .ok (.ifCond .eq 13, 3) := by decide +kernel
theorem dX7_readSum_22 : decode cX7_readSum 22 = .ok (.iload_n 1, 1) := by decide +kernel
theorem dX7_readSum_23 : decode cX7_readSum 23 = .ok (.aload_n 0, 1) := by decide +kernel
theorem dX7_readSum_24 : decode cX7_readSum 24 = .ok (.invokevirtual 53, 3) := by decide +kernel
theorem dX7_readSum_27 : decode cX7_readSum 27 = .ok (.iadd, 1) := by decide +kernel
theorem dX7_readSum_28 : decode cX7_readSum 28 = .ok (.istore_n 1, 1) := by decide +kernel
theorem dX7_readSum_29 : decode cX7_readSum 29 = .ok (.goto 19, 3) := by decide +kernel
theorem dX7_readSum_32 : decode cX7_readSum 32 = .ok (.aload_n 0, 1) := by decide +kernel
theorem dX7_readSum_33 : decode cX7_readSum 33 = .ok (.bipush 45, 2) := by decide +kernel
theorem dX7_readSum_35 : decode cX7_readSum 35 = .ok (.invokevirtual 38, 3) := by decide +kernel
theorem dX7_readSum_38 : decode cX7_readSum 38 = .ok (.ifCond .eq 16, 3) := by decide +kernel
theorem dX7_readSum_41 : decode cX7_readSum 41 = .ok (.iload_n 1, 1) := by decide +kernel
theorem dX7_readSum_42 : decode cX7_readSum 42 = .ok (.aload_n 0, 1) := by decide +kernel
theorem dX7_readSum_43 : decode cX7_readSum 43 = .ok (.invokevirtual 53, 3) := by decide +kernel
theorem dX7_readSum_46 : decode cX7_readSum 46 = .ok (.isub, 1) := by decide +kernel
theorem dX7_readSum_47 : decode cX7_readSum 47 = .ok (.istore_n 1, 1) := by decide +kernel
theorem dX7_readSum_48 : decode cX7_readSum 48 = .ok (.iinc 2 1, 3) := by decide +kernel
theorem dX7_readSum_51 : decode cX7_readSum 51 = .ok (.goto (-44), 3) := by decide +kernel
theorem dX7_readSum_54 : decode cX7_readSum 54 = .ok (.iload_n 1, 1) := by decide +kernel
theorem dX7_readSum_55 : decode cX7_readSum 55 = .ok (.ireturn, 1) := by decide +kernel
theorem dX7_readAtom_0 : decode cX7_readAtom 0 = .ok (.aload_n 0, 1) := by decide +kernel
theorem dX7_readAtom_1 : decode cX7_readAtom 1 = .ok (.invokevirtual 50, 3) := by decide +kernel
theorem dX7_readAtom_4 : decode cX7_readAtom 4 = .ok (.istore_n 1, 1) := by decide +kernel
theorem dX7_readAtom_5 : decode cX7_readAtom 5 = .ok (.iconst 0, 1) := by decide +kernel
theorem dX7_readAtom_6 : decode cX7_readAtom 6 = .ok (.istore_n 2, 1) := by decide +kernel
theorem dX7_readAtom_7 : decode cX7_readAtom 7 = .ok (.iload_n 2, 1) := by decide +kernel
theorem dX7_readAtom_8 : decode cX7_readAtom 8 = .ok (.getstatic 56, 3) := by decide +kernel
theorem dX7_readAtom_11 : decode cX7_readAtom 11 = .ok (.arraylength, 1) := by decide +kernel
theorem dX7_readAtom_12 : decode cX7_readAtom 12 = .ok (.if_icmp .ge 35, 3) := by decide +kernel
theorem dX7_readAtom_15 : decode cX7_readAtom 15 = .ok (.iload_n 1, 1) := by decide +kernel
theorem dX7_readAtom_16 : decode cX7_readAtom 16 = .ok (.getstatic 56, 3) := by decide +kernel
theorem dX7_readAtom_19 : decode cX7_readAtom 19 = .ok (.iload_n 2, 1) := by decide +kernel
theorem dX7_readAtom_20 : decode cX7_readAtom 20 = .ok (.iaload, 1) := by decide +kernel
theorem dX7_readAtom_21 : decode cX7_readAtom 21 = .ok (.if_icmp .ne 20, 3) := by decide +kernel
theorem dX7_readAtom_24 : decode cX7_readAtom 24 = .ok (.aload_n 0, 1) := by decide +kernel
theorem dX7_readAtom_25 : decode cX7_readAtom 25 = .ok (.dup, 1) := by decide +kernel
theorem dX7_readAtom_26 : decode cX7_readAtom 26 = .ok (.getfield 31, 3) := by decide +kernel
theorem dX7_readAtom_29 : decode cX7_readAtom 29 = .ok (.iconst 1, 1) := by decide +kernel
theorem dX7_readAtom_30 : decode cX7_readAtom 30 = .ok (.iadd, 1) := by decide +kernel
theorem dX7_readAtom_31 : decode cX7_readAtom 31 = .ok (.putfield 31, 3) := by decide +kernel
theorem dX7_readAtom_34 : decode cX7_readAtom 34 = .ok (.aload_n 0, 1) := by decide +kernel
theorem dX7_readAtom_35 : decode cX7_readAtom 35 = .ok (.getfield 9, 3) := by decide +kernel
theorem dX7_readAtom_38 : decode cX7_readAtom 38 = .ok (.iload_n 2, 1) := by decide +kernel
theorem dX7_readAtom_39 : decode cX7_readAtom 39 = .ok (.iaload, 1) := by decide +kernel
theorem dX7_readAtom_40 : decode cX7_readAtom 40 = .ok (.ireturn, 1) := by decide +kernel
theorem dX7_readAtom_41 : decode cX7_readAtom 41 = .ok (.iinc 2 1, 3) := by decide +kernel
theorem dX7_readAtom_44 : decode cX7_readAtom 44 = .ok (.goto (-37), 3) := by decide +kernel
theorem dX7_readAtom_47 : decode cX7_readAtom 47 = .ok (.aload_n 0, 1) := by decide +kernel
theorem dX7_readAtom_48 : decode cX7_readAtom 48 = .ok (.iconst 4, 1) := by decide +kernel
theorem dX7_readAtom_49 : decode cX7_readAtom 49 = .ok (.invokevirtual 59, 3) := by decide +kernel
theorem dX7_readAtom_52 : decode cX7_readAtom 52 = .ok (.ireturn, 1) := by decide +kernel
theorem dX8_init_0 : decode cX8_init 0 = .ok (.aload_n 0, 1) := by decide +kernel
theorem dX8_init_1 : decode cX8_init 1 = .ok (.invokespecial 3, 3) := by decide +kernel
theorem dX8_init_4 : decode cX8_init 4 = .ok (.aload_n 0, 1) := by decide +kernel
theorem dX8_init_5 : decode cX8_init 5 = .ok (.iconst 0, 1) := by decide +kernel
theorem dX8_init_6 : decode cX8_init 6 = .ok (.putfield 11, 3) := by decide +kernel
theorem dX8_init_9 : decode cX8_init 9 = .ok (.aload_n 0, 1) := by decide +kernel
theorem dX8_init_10 : decode cX8_init 10 = .ok (.new 15, 3) := by decide +kernel
theorem dX8_init_13 : decode cX8_init 13 = .ok (.dup, 1) := by decide +kernel
theorem dX8_init_14 : decode cX8_init 14 = .ok (.invokespecial 17, 3) := by decide +kernel
theorem dX8_init_17 : decode cX8_init 17 = .ok (.putfield 18, 3) := by decide +kernel
theorem dX8_init_20 : decode cX8_init 20 = .ok (.aload_n 0, 1) := by decide +kernel
theorem dX8_init_21 : decode cX8_init 21 = .ok (.bipush 120, 2) := by decide +kernel
theorem dX8_init_23 : decode cX8_init 23 = .ok (.newarray .int, 2) := by decide +kernel
theorem dX8_init_25 : decode cX8_init 25 = .ok (.putfield 22, 3) := by decide +kernel
theorem dX8_init_28 : decode cX8_init 28 = .ok (.return_, 1) := by decide +kernel
theorem dX8_holdNothing_0 : decode cX8_holdNothing 0 = .ok (.aload_n 0, 1) := by decide +kernel
theorem dX8_holdNothing_1 : decode cX8_holdNothing 1 = .ok (.iconst 0, 1) := by decide +kernel
theorem dX8_holdNothing_2 : decode cX8_holdNothing 2 = .ok (.putfield 11, 3) := by decide +kernel
theorem dX8_holdNothing_5 : decode cX8_holdNothing 5 = .ok (.return_, 1) := by decide +kernel
theorem dX8_holdGear_0 : decode cX8_holdGear 0 = .ok (.aload_n 0, 1) := by decide +kernel
theorem dX8_holdGear_1 : decode cX8_holdGear 1 = .ok (.iconst 1, 1) := by decide +kernel
theorem dX8_holdGear_2 : decode cX8_holdGear 2 = .ok (.putfield 11, 3) := by decide +kernel
theorem dX8_holdGear_5 : decode cX8_holdGear 5 = .ok (.aload_n 0, 1) := by decide +kernel
theorem dX8_holdGear_6 : decode cX8_holdGear 6 = .ok (.getfield 18, 3) := by decide +kernel
theorem dX8_holdGear_9 : decode cX8_holdGear 9 = .ok (.aload_n 1, 1) := by decide +kernel
theorem dX8_holdGear_10 : decode cX8_holdGear 10 = .ok (.invokevirtual 26, 3) := by decide +kernel
theorem dX8_holdGear_13 : decode cX8_holdGear 13 = .ok (.return_, 1) := by decide +kernel
theorem dX8_holdRow_0 : decode cX8_holdRow 0 = .ok (.aload_n 0, 1) := by decide +kernel
theorem dX8_holdRow_1 : decode cX8_holdRow 1 = .ok (.iconst 2, 1) := by decide +kernel
theorem dX8_holdRow_2 : decode cX8_holdRow 2 = .ok (.putfield 11, 3) := by decide +kernel
theorem dX8_holdRow_5 : decode cX8_holdRow 5 = .ok (.aload_n 0, 1) := by decide +kernel
theorem dX8_holdRow_6 : decode cX8_holdRow 6 = .ok (.iload_n 1, 1) := by decide +kernel
theorem dX8_holdRow_7 : decode cX8_holdRow 7 = .ok (.putfield 30, 3) := by decide +kernel
theorem dX8_holdRow_10 : decode cX8_holdRow 10 = .ok (.aload_n 0, 1) := by decide +kernel
theorem dX8_holdRow_11 : decode cX8_holdRow 11 = .ok (.iload_n 2, 1) := by decide +kernel
theorem dX8_holdRow_12 : decode cX8_holdRow 12 = .ok (.putfield 33, 3) := by decide +kernel
theorem dX8_holdRow_15 : decode cX8_holdRow 15 = .ok (.aload_n 0, 1) := by decide +kernel
theorem dX8_holdRow_16 : decode cX8_holdRow 16 = .ok (.getfield 22, 3) := by decide +kernel
theorem dX8_holdRow_19 : decode cX8_holdRow 19 = .ok (.iconst 0, 1) := by decide +kernel
theorem dX8_holdRow_20 : decode cX8_holdRow 20 = .ok (.invokestatic 36, 3) := by decide +kernel
theorem dX8_holdRow_23 : decode cX8_holdRow 23 = .ok (.return_, 1) := by decide +kernel
theorem dX8_holdsNothing_0 : decode cX8_holdsNothing 0 = .ok (.aload_n 0, 1) := by decide +kernel
theorem dX8_holdsNothing_1 : decode cX8_holdsNothing 1 = .ok (.getfield 11, 3) := by decide +kernel
theorem dX8_holdsNothing_4 : decode cX8_holdsNothing 4 = .ok (.ifCond .ne 7, 3) := by decide +kernel
theorem dX8_holdsNothing_7 : decode cX8_holdsNothing 7 = .ok (.iconst 1, 1) := by decide +kernel
theorem dX8_holdsNothing_8 : decode cX8_holdsNothing 8 = .ok (.goto 4, 3) := by decide +kernel
theorem dX8_holdsNothing_11 : decode cX8_holdsNothing 11 = .ok (.iconst 0, 1) := by decide +kernel
theorem dX8_holdsNothing_12 : decode cX8_holdsNothing 12 = .ok (.ireturn, 1) := by decide +kernel
theorem dX8_holdsRow_0 : decode cX8_holdsRow 0 = .ok (.aload_n 0, 1) := by decide +kernel
theorem dX8_holdsRow_1 : decode cX8_holdsRow 1 = .ok (.getfield 11, 3) := by decide +kernel
theorem dX8_holdsRow_4 : decode cX8_holdsRow 4 = .ok (.iconst 2, 1) := by decide +kernel
theorem dX8_holdsRow_5 : decode cX8_holdsRow 5 = .ok (.if_icmp .ne 7, 3) := by decide +kernel
theorem dX8_holdsRow_8 : decode cX8_holdsRow 8 = .ok (.iconst 1, 1) := by decide +kernel
theorem dX8_holdsRow_9 : decode cX8_holdsRow 9 = .ok (.goto 4, 3) := by decide +kernel
theorem dX8_holdsRow_12 : decode cX8_holdsRow 12 = .ok (.iconst 0, 1) := by decide +kernel
theorem dX8_holdsRow_13 : decode cX8_holdsRow 13 = .ok (.ireturn, 1) := by decide +kernel
theorem dX8_hasPlace_0 : decode cX8_hasPlace 0 = .ok (.iload_n 1, 1) := by decide +kernel
theorem dX8_hasPlace_1 : decode cX8_hasPlace 1 = .ok (.iconst 0, 1) := by decide +kernel
theorem dX8_hasPlace_2 : decode cX8_hasPlace 2 = .ok (.aload_n 0, 1) := by decide +kernel
theorem dX8_hasPlace_3 : decode cX8_hasPlace 3 = .ok (.getfield 33, 3) := by decide +kernel
theorem dX8_hasPlace_6 : decode cX8_hasPlace 6 = .ok (.iconst 1, 1) := by decide +kernel
theorem dX8_hasPlace_7 : decode cX8_hasPlace 7 = .ok (.isub, 1) := by decide +kernel
theorem dX8_hasPlace_8 : decode cX8_hasPlace 8 = .ok (.invokestatic 42, 3) := by decide +kernel
theorem dX8_hasPlace_11 : decode cX8_hasPlace 11 = .ok (.ireturn, 1) := by decide +kernel
theorem dX8_hasPlaces_0 : decode cX8_hasPlaces 0 = .ok (.iload_n 2, 1) := by decide +kernel
theorem dX8_hasPlaces_1 : decode cX8_hasPlaces 1 = .ok (.ifCond .lt 29, 3) := by decide +kernel
theorem dX8_hasPlaces_4 : decode cX8_hasPlaces 4 = .ok (.iload_n 2, 1) := by decide +kernel
theorem dX8_hasPlaces_5 : decode cX8_hasPlaces 5 = .ok (.aload_n 0, 1) := by decide +kernel
theorem dX8_hasPlaces_6 : decode cX8_hasPlaces 6 = .ok (.getfield 33, 3) := by decide +kernel
theorem dX8_hasPlaces_9 : decode cX8_hasPlaces 9 = .ok (.if_icmp .gt 21, 3) := by decide +kernel
theorem dX8_hasPlaces_12 : decode cX8_hasPlaces 12 = .ok (.iload_n 1, 1) := by decide +kernel
theorem dX8_hasPlaces_13 : decode cX8_hasPlaces 13 = .ok (.iconst 0, 1) := by decide +kernel
theorem dX8_hasPlaces_14 : decode cX8_hasPlaces 14 = .ok (.aload_n 0, 1) := by decide +kernel
theorem dX8_hasPlaces_15 : decode cX8_hasPlaces 15 = .ok (.getfield 33, 3) := by decide +kernel
theorem dX8_hasPlaces_18 : decode cX8_hasPlaces 18 = .ok (.iload_n 2, 1) := by decide +kernel
theorem dX8_hasPlaces_19 : decode cX8_hasPlaces 19 = .ok (.isub, 1) := by decide +kernel
theorem dX8_hasPlaces_20 : decode cX8_hasPlaces 20 = .ok (.invokestatic 42, 3) := by decide +kernel
theorem dX8_hasPlaces_23 : decode cX8_hasPlaces 23 = .ok (.ifCond .eq 7, 3) := by decide +kernel
theorem dX8_hasPlaces_26 : decode cX8_hasPlaces 26 = .ok (.iconst 1, 1) := by decide +kernel
theorem dX8_hasPlaces_27 : decode cX8_hasPlaces 27 = .ok (.goto 4, 3) := by decide +kernel
theorem dX8_hasPlaces_30 : decode cX8_hasPlaces 30 = .ok (.iconst 0, 1) := by decide +kernel
theorem dX8_hasPlaces_31 : decode cX8_hasPlaces 31 = .ok (.ireturn, 1) := by decide +kernel
theorem dX8_setElement_0 : decode cX8_setElement 0 = .ok (.aload_n 0, 1) := by decide +kernel
theorem dX8_setElement_1 : decode cX8_setElement 1 = .ok (.getfield 30, 3) := by decide +kernel
theorem dX8_setElement_4 : decode cX8_setElement 4 = .ok (.lookupswitch 50 #[(0, 28), (1, 39)], 28) := by decide +kernel
theorem dX8_setElement_32 : decode cX8_setElement 32 = .ok (.aload_n 0, 1) := by decide +kernel
theorem dX8_setElement_33 : decode cX8_setElement 33 = .ok (.getfield 22, 3) := by decide +kernel
theorem dX8_setElement_36 : decode cX8_setElement 36 = .ok (.iload_n 1, 1) := by decide +kernel
theorem dX8_setElement_37 : decode cX8_setElement 37 = .ok (.iload_n 2, 1) := by decide +kernel
theorem dX8_setElement_38 : decode cX8_setElement 38 = .ok (.i2b, 1) := by decide +kernel
theorem dX8_setElement_39 : decode cX8_setElement 39 = .ok (.iastore, 1) := by decide +kernel
theorem dX8_setElement_40 : decode cX8_setElement 40 = .ok (.goto 21, 3) := by decide +kernel
theorem dX8_setElement_43 : decode cX8_setElement 43 = .ok (.aload_n 0, 1) := by decide +kernel
theorem dX8_setElement_44 : decode cX8_setElement 44 = .ok (.getfield 22, 3) := by decide +kernel
theorem dX8_setElement_47 : decode cX8_setElement 47 = .ok (.iload_n 1, 1) := by decide +kernel
theorem dX8_setElement_48 : decode cX8_setElement 48 = .ok (.iload_n 2, 1) := by decide +kernel
theorem dX8_setElement_49 : decode cX8_setElement 49 = .ok (.i2s, 1) := by decide +kernel
theorem dX8_setElement_50 : decode cX8_setElement 50 = .ok (.iastore, 1) := by decide +kernel
theorem dX8_setElement_51 : decode cX8_setElement 51 = .ok (.goto 10, 3) := by decide +kernel
theorem dX8_setElement_54 : decode cX8_setElement 54 = .ok (.aload_n 0, 1) := by decide +kernel
theorem dX8_setElement_55 : decode cX8_setElement 55 = .ok (.getfield 22, 3) := by decide +kernel
theorem dX8_setElement_58 : decode cX8_setElement 58 = .ok (.iload_n 1, 1) := by decide +kernel
theorem dX8_setElement_59 : decode cX8_setElement 59 = .ok (.iload_n 2, 1) := by decide +kernel
theorem dX8_setElement_60 : decode cX8_setElement 60 = .ok (.iastore, 1) := by decide +kernel
theorem dX8_setElement_61 : decode cX8_setElement 61 = .ok (.return_, 1) := by decide +kernel
theorem dX8_refusalUnless_0 : decode cX8_refusalUnless 0 = .ok (.aload_n 0, 1) := by decide +kernel
theorem dX8_refusalUnless_1 : decode cX8_refusalUnless 1 = .ok (.invokevirtual 46, 3) := by decide +kernel
theorem dX8_refusalUnless_4 : decode cX8_refusalUnless 4 = .ok (.ifCond .eq 6, 3) := by decide +kernel
theorem dX8_refusalUnless_7 : decode cX8_refusalUnless 7 = .ok (.bipush (-11), 2) := by decide +kernel
theorem dX8_refusalUnless_9 : decode cX8_refusalUnless 9 = .ok (.ireturn, 1) := by decide +kernel
theorem dX8_refusalUnless_10 : decode cX8_refusalUnless 10 = .ok (.iload_n 1, 1) := by decide +kernel
theorem dX8_refusalUnless_11 : decode cX8_refusalUnless 11 = .ok (.ifCond .eq 7, 3) := by decide +kernel
theorem dX8_refusalUnless_14 : decode cX8_refusalUnless 14 = .ok (.iconst 0, 1) := by decide +kernel
theorem dX8_refusalUnless_15 : decode cX8_refusalUnless 15 = .ok (.goto 5, 3) := by decide +kernel
theorem dX8_refusalUnless_18 : decode cX8_refusalUnless 18 = .ok (.bipush (-12), 2) := by decide +kernel
theorem dX8_refusalUnless_20 : decode cX8_refusalUnless 20 = .ok (.ireturn, 1) := by decide +kernel
theorem dX8_gearRefusal_0 : decode cX8_gearRefusal 0 = .ok (.aload_n 0, 1) := by decide +kernel
theorem dX8_gearRefusal_1 : decode cX8_gearRefusal 1 = .ok (.aload_n 0, 1) := by decide +kernel
theorem dX8_gearRefusal_2 : decode cX8_gearRefusal 2 = .ok (.getfield 11, 3) := by decide +kernel
theorem dX8_gearRefusal_5 : decode cX8_gearRefusal 5 = .ok (.iconst 1, 1) := by decide +kernel
theorem dX8_gearRefusal_6 : decode cX8_gearRefusal 6 = .ok (.if_icmp .ne 7, 3) := by decide +kernel
theorem dX8_gearRefusal_9 : decode cX8_gearRefusal 9 = .ok (.iconst 1, 1) := by decide +kernel
theorem dX8_gearRefusal_10 : decode cX8_gearRefusal 10 = .ok (.goto 4, 3) := by decide +kernel
theorem dX8_gearRefusal_13 : decode cX8_gearRefusal 13 = .ok (.iconst 0, 1) := by decide +kernel
theorem dX8_gearRefusal_14 : decode cX8_gearRefusal 14 = .ok (.invokevirtual 50, 3) := by decide +kernel
theorem dX8_gearRefusal_17 : decode cX8_gearRefusal 17 = .ok (.ireturn, 1) := by decide +kernel
theorem dX8_rowRefusal_0 : decode cX8_rowRefusal 0 = .ok (.aload_n 0, 1) := by decide +kernel
theorem dX8_rowRefusal_1 : decode cX8_rowRefusal 1 = .ok (.aload_n 0, 1) := by decide +kernel
theorem dX8_rowRefusal_2 : decode cX8_rowRefusal 2 = .ok (.invokevirtual 54, 3) := by decide +kernel
theorem dX8_rowRefusal_5 : decode cX8_rowRefusal 5 = .ok (.invokevirtual 50, 3) := by decide +kernel
theorem dX8_rowRefusal_8 : decode cX8_rowRefusal 8 = .ok (.ireturn, 1) := by decide +kernel
theorem dX8_bytesRefusal_0 : decode cX8_bytesRefusal 0 = .ok (.aload_n 0, 1) := by decide +kernel
theorem dX8_bytesRefusal_1 : decode cX8_bytesRefusal 1 = .ok (.aload_n 0, 1) := by decide +kernel
theorem dX8_bytesRefusal_2 : decode cX8_bytesRefusal 2 = .ok (.invokevirtual 54, 3) := by decide +kernel
theorem dX8_bytesRefusal_5 : decode cX8_bytesRefusal 5 = .ok (.ifCond .eq 14, 3) := by decide +kernel
theorem dX8_bytesRefusal_8 : decode cX8_bytesRefusal 8 = .ok (.aload_n 0, 1) := by decide +kernel
theorem dX8_bytesRefusal_9 : decode cX8_bytesRefusal 9 = .ok (.getfield 30, 3) := by decide +kernel
theorem dX8_bytesRefusal_12 : decode cX8_bytesRefusal 12 = .ok (.ifCond .ne 7, 3) := by decide +kernel
theorem dX8_bytesRefusal_15 : decode cX8_bytesRefusal 15 = .ok (.iconst 1, 1) := by decide +kernel
theorem dX8_bytesRefusal_16 : decode cX8_bytesRefusal 16 = .ok (.goto 4, 3) := by decide +kernel
theorem dX8_bytesRefusal_19 : decode cX8_bytesRefusal 19 = .ok (.iconst 0, 1) := by decide +kernel
theorem dX8_bytesRefusal_20 : decode cX8_bytesRefusal 20 = .ok (.invokevirtual 50, 3) := by decide +kernel
theorem dX8_bytesRefusal_23 : decode cX8_bytesRefusal 23 = .ok (.ireturn, 1) := by decide +kernel
theorem dX8_cutterRefusal_0 : decode cX8_cutterRefusal 0 = .ok (.aload_n 0, 1) := by decide +kernel
theorem dX8_cutterRefusal_1 : decode cX8_cutterRefusal 1 = .ok (.invokevirtual 57, 3) := by decide +kernel
theorem dX8_cutterRefusal_4 : decode cX8_cutterRefusal 4 = .ok (.istore_n 1, 1) := by decide +kernel
theorem dX8_cutterRefusal_5 : decode cX8_cutterRefusal 5 = .ok (.iload_n 1, 1) := by decide +kernel
theorem dX8_cutterRefusal_6 : decode cX8_cutterRefusal 6 = .ok (.ifCond .eq 5, 3) := by decide +kernel
theorem dX8_cutterRefusal_9 : decode cX8_cutterRefusal 9 = .ok (.iload_n 1, 1) := by decide +kernel
theorem dX8_cutterRefusal_10 : decode cX8_cutterRefusal 10 = .ok (.ireturn, 1) := by decide +kernel
theorem dX8_cutterRefusal_11 : decode cX8_cutterRefusal 11 = .ok (.aload_n 0, 1) := by decide +kernel
theorem dX8_cutterRefusal_12 : decode cX8_cutterRefusal 12 = .ok (.getfield 33, 3) := by decide +kernel
theorem dX8_cutterRefusal_15 : decode cX8_cutterRefusal 15 = .ok (.bipush 16, 2) := by decide +kernel
theorem dX8_cutterRefusal_17 : decode cX8_cutterRefusal 17 = .ok (.if_icmp .ne 16, 3) := by decide +kernel
theorem dX8_cutterRefusal_20 : decode cX8_cutterRefusal 20 = .ok (.aload_n 0, 1) := by decide +kernel
theorem dX8_cutterRefusal_21 : decode cX8_cutterRefusal 21 = .ok (.bipush 31, 2) := by decide +kernel
theorem dX8_cutterRefusal_23 : decode cX8_cutterRefusal 23 = .ok (.invokevirtual 61, 3) := by decide +kernel
theorem dX8_cutterRefusal_26 : decode cX8_cutterRefusal 26 = .ok (.ifCond .eq 7, 3) := by decide +kernel
theorem dX8_cutterRefusal_29 : decode cX8_cutterRefusal 29 = .ok (.iconst 0, 1) := by decide +kernel
theorem dX8_cutterRefusal_30 : decode cX8_cutterRefusal 30 = .ok (.goto 5, 3) := by decide +kernel
theorem dX8_cutterRefusal_33 : decode cX8_cutterRefusal 33 = .ok (.bipush (-13), 2) := by decide +kernel
theorem dX8_cutterRefusal_35 : decode cX8_cutterRefusal 35 = .ok (.ireturn, 1) := by decide +kernel
theorem dX8_earRefusal_0 : decode cX8_earRefusal 0 = .ok (.aload_n 0, 1) := by decide +kernel
theorem dX8_earRefusal_1 : decode cX8_earRefusal 1 = .ok (.invokevirtual 57, 3) := by decide +kernel
theorem dX8_earRefusal_4 : decode cX8_earRefusal 4 = .ok (.istore_n 1, 1) := by decide +kernel
theorem dX8_earRefusal_5 : decode cX8_earRefusal 5 = .ok (.iload_n 1, 1) := by decide +kernel
theorem dX8_earRefusal_6 : decode cX8_earRefusal 6 = .ok (.ifCond .eq 5, 3) := by decide +kernel
theorem dX8_earRefusal_9 : decode cX8_earRefusal 9 = .ok (.iload_n 1, 1) := by decide +kernel
theorem dX8_earRefusal_10 : decode cX8_earRefusal 10 = .ok (.ireturn, 1) := by decide +kernel
theorem dX8_earRefusal_11 : decode cX8_earRefusal 11 = .ok (.aload_n 0, 1) := by decide +kernel
theorem dX8_earRefusal_12 : decode cX8_earRefusal 12 = .ok (.getfield 33, 3) := by decide +kernel
theorem dX8_earRefusal_15 : decode cX8_earRefusal 15 = .ok (.bipush 60, 2) := by decide +kernel
theorem dX8_earRefusal_17 : decode cX8_earRefusal 17 = .ok (.if_icmp .gt 15, 3) := by decide +kernel
theorem dX8_earRefusal_20 : decode cX8_earRefusal 20 = .ok (.aload_n 0, 1) := by decide +kernel
theorem dX8_earRefusal_21 : decode cX8_earRefusal 21 = .ok (.iconst 1, 1) := by decide +kernel
theorem dX8_earRefusal_22 : decode cX8_earRefusal 22 = .ok (.invokevirtual 61, 3) := by decide +kernel
theorem dX8_earRefusal_25 : decode cX8_earRefusal 25 = .ok (.ifCond .eq 7, 3) := by decide +kernel
theorem dX8_earRefusal_28 : decode cX8_earRefusal 28 = .ok (.iconst 0, 1) := by decide +kernel
theorem dX8_earRefusal_29 : decode cX8_earRefusal 29 = .ok (.goto 5, 3) := by decide +kernel
theorem dX8_earRefusal_32 : decode cX8_earRefusal 32 = .ok (.bipush (-13), 2) := by decide +kernel
theorem dX8_earRefusal_34 : decode cX8_earRefusal 34 = .ok (.ireturn, 1) := by decide +kernel
theorem dX8_areAllWithin_0 : decode cX8_areAllWithin 0 = .ok (.iconst 0, 1) := by decide +kernel
theorem dX8_areAllWithin_1 : decode cX8_areAllWithin 1 = .ok (.istore_n 2, 1) := by decide +kernel
theorem dX8_areAllWithin_2 : decode cX8_areAllWithin 2 = .ok (.iload_n 2, 1) := by decide +kernel
theorem dX8_areAllWithin_3 : decode cX8_areAllWithin 3 = .ok (.aload_n 0, 1) := by decide +kernel
theorem dX8_areAllWithin_4 : decode cX8_areAllWithin 4 = .ok (.getfield 33, 3) := by decide +kernel
theorem dX8_areAllWithin_7 : decode cX8_areAllWithin 7 = .ok (.if_icmp .ge 25, 3) := by decide +kernel
theorem dX8_areAllWithin_10 : decode cX8_areAllWithin 10 = .ok (.aload_n 0, 1) := by decide +kernel
theorem dX8_areAllWithin_11 : decode cX8_areAllWithin 11 = .ok (.getfield 22, 3) := by decide +kernel
theorem dX8_areAllWithin_14 : decode cX8_areAllWithin 14 = .ok (.iload_n 2, 1) := by decide +kernel
theorem dX8_areAllWithin_15 : decode cX8_areAllWithin 15 = .ok (.iaload, 1) := by decide +kernel
theorem dX8_areAllWithin_16 : decode cX8_areAllWithin 16 = .ok (.iconst 0, 1) := by decide +kernel
theorem dX8_areAllWithin_17 : decode cX8_areAllWithin 17 = .ok (.iload_n 1, 1) := by decide +kernel
theorem dX8_areAllWithin_18 : decode cX8_areAllWithin 18 = .ok (.invokestatic 42, 3) := by decide +kernel
theorem dX8_areAllWithin_21 : decode cX8_areAllWithin 21 = .ok (.ifCond .ne 5, 3) := by decide +kernel
theorem dX8_areAllWithin_24 : decode cX8_areAllWithin 24 = .ok (.iconst 0, 1) := by decide +kernel
theorem dX8_areAllWithin_25 : decode cX8_areAllWithin 25 = .ok (.ireturn, 1) := by decide +kernel
theorem dX8_areAllWithin_26 : decode cX8_areAllWithin 26 = .ok (.iinc 2 1, 3) := by decide +kernel
theorem dX8_areAllWithin_29 : decode cX8_areAllWithin 29 = .ok (.goto (-27), 3) := by decide +kernel
theorem dX8_areAllWithin_32 : decode cX8_areAllWithin 32 = .ok (.iconst 1, 1) := by decide +kernel
theorem dX8_areAllWithin_33 : decode cX8_areAllWithin 33 = .ok (.ireturn, 1) := by decide +kernel
theorem dX9_init_0 : decode cX9_init 0 = .ok (.aload_n 0, 1) := by decide +kernel
theorem dX9_init_1 : decode cX9_init 1 = .ok (.invokespecial 1, 3) := by decide +kernel
theorem dX9_init_4 : decode cX9_init 4 = .ok (.aload_n 0, 1) := by decide +kernel
theorem dX9_init_5 : decode cX9_init 5 = .ok (.iconst 3, 1) := by decide +kernel
theorem dX9_init_6 : decode cX9_init 6 = .ok (.newarray .int, 2) := by decide +kernel
theorem dX9_init_8 : decode cX9_init 8 = .ok (.putfield 7, 3) := by decide +kernel
theorem dX9_init_11 : decode cX9_init 11 = .ok (.return_, 1) := by decide +kernel
theorem dX9_countStatements_0 : decode cX9_countStatements 0 = .ok (.aload_n 0, 1) := by decide +kernel
theorem dX9_countStatements_1 : decode cX9_countStatements 1 = .ok (.aload_n 1, 1) := by decide +kernel
theorem dX9_countStatements_2 : decode cX9_countStatements 2 = .ok (.iload_n 2, 1) := by decide +kernel
theorem dX9_countStatements_3 : decode cX9_countStatements 3 = .ok (.invokevirtual 13, 3) := by decide +kernel
theorem dX9_countStatements_6 : decode cX9_countStatements 6 = .ok (.iconst 0, 1) := by decide +kernel
theorem dX9_countStatements_7 : decode cX9_countStatements 7 = .ok (.istore_n 3, 1) := by decide +kernel
theorem dX9_countStatements_8 : decode cX9_countStatements 8 = .ok (.aload_n 0, 1) := by decide +kernel
theorem dX9_countStatements_9 : decode cX9_countStatements 9 = .ok (.invokevirtual 17, 3) := by decide +kernel
theorem dX9_countStatements_12 : decode cX9_countStatements 12 = .ok (.iinc 3 1, 3) := by decide +kernel
theorem dX9_countStatements_15 : decode cX9_countStatements 15 = .ok (.aload_n 0, 1) := by decide +kernel
theorem dX9_countStatements_16 : decode cX9_countStatements 16 = .ok (.getfield 20, 3) := by decide +kernel
theorem dX9_countStatements_19 : decode cX9_countStatements 19 = .ok (.ifCond .ne 15, 3) := by decide +kernel
theorem dX9_countStatements_22 : decode cX9_countStatements 22 = .ok (.aload_n 0, 1) := by decide +kernel
theorem dX9_countStatements_23 : decode cX9_countStatements 23 = .ok (.invokevirtual 24, 3) := by decide +kernel
theorem dX9_countStatements_26 : decode cX9_countStatements 26 = .ok (.ifCond .ne 8, 3) := by decide +kernel
theorem dX9_countStatements_29 : decode cX9_countStatements 29 = .ok (.iload_n 3, 1) := by decide +kernel
theorem dX9_countStatements_30 : decode cX9_countStatements 30 = .ok (.iload_n 2, 1) := by decide +kernel
theorem dX9_countStatements_31 : decode cX9_countStatements 31 = .ok (.if_icmp .lt (-23), 3) := by decide +kernel
theorem dX9_countStatements_34 : decode cX9_countStatements 34 = .ok (.iload_n 3, 1) := by decide +kernel
theorem dX9_countStatements_35 : decode cX9_countStatements 35 = .ok (.ireturn, 1) := by decide +kernel
theorem dX9_readStatement_0 : decode cX9_readStatement 0 = .ok (.aload_n 0, 1) := by decide +kernel
theorem dX9_readStatement_1 : decode cX9_readStatement 1 = .ok (.aload_n 0, 1) := by decide +kernel
theorem dX9_readStatement_2 : decode cX9_readStatement 2 = .ok (.getfield 28, 3) := by decide +kernel
theorem dX9_readStatement_5 : decode cX9_readStatement 5 = .ok (.putfield 32, 3) := by decide +kernel
theorem dX9_readStatement_8 : decode cX9_readStatement 8 = .ok (.aload_n 0, 1) := by decide +kernel
theorem dX9_readStatement_9 : decode cX9_readStatement 9 = .ok (.aload_n 0, 1) := by decide +kernel
theorem dX9_readStatement_10 : decode cX9_readStatement 10 = .ok (.invokevirtual 35, 3) := by decide +kernel
theorem dX9_readStatement_13 : decode cX9_readStatement 13 = .ok (.putfield 39, 3) := by decide +kernel
theorem dX9_readStatement_16 : decode cX9_readStatement 16 = .ok (.aload_n 0, 1) := by decide +kernel
theorem dX9_readStatement_17 : decode cX9_readStatement 17 = .ok (.getfield 39, 3) := by decide +kernel
theorem dX9_readStatement_20 : decode cX9_readStatement 20 = .ok (.bipush 103, 2) := by decide +kernel
theorem dX9_readStatement_22 : decode cX9_readStatement 22 = .ok (.if_icmp .eq 27, 3) := by decide +kernel
theorem dX9_readStatement_25 : decode cX9_readStatement 25 = .ok (.aload_n 0, 1) := by decide +kernel
theorem dX9_readStatement_26 : decode cX9_readStatement 26 = .ok (.getfield 39, 3) := by decide +kernel
theorem dX9_readStatement_29 : decode cX9_readStatement 29 = .ok (.bipush 109, 2) := by decide +kernel
theorem dX9_readStatement_31 : decode cX9_readStatement 31 = .ok (.if_icmp .eq 18, 3) := by decide +kernel
theorem dX9_readStatement_34 : decode cX9_readStatement 34 = .ok (.aload_n 0, 1) := by decide +kernel
theorem dX9_readStatement_35 : decode cX9_readStatement 35 = .ok (.getfield 39, 3) := by decide +kernel
theorem dX9_readStatement_38 : decode cX9_readStatement 38 = .ok (.bipush 100, 2) := by decide +kernel
theorem dX9_readStatement_40 : decode cX9_readStatement 40 = .ok (.if_icmp .eq 9, 3) := by decide +kernel
theorem dX9_readStatement_43 : decode cX9_readStatement 43 = .ok (.aload_n 0, 1) := by decide +kernel
theorem dX9_readStatement_44 : decode cX9_readStatement 44 = .ok (.iconst 1, 1) := by decide +kernel
theorem dX9_readStatement_45 : decode cX9_readStatement 45 = .ok (.putfield 20, 3) := by decide +kernel
theorem dX9_readStatement_48 : decode cX9_readStatement 48 = .ok (.return_, 1) := by decide +kernel
theorem dX9_readStatement_49 : decode cX9_readStatement 49 = .ok (.aload_n 0, 1) := by decide +kernel
theorem dX9_readStatement_50 : decode cX9_readStatement 50 = .ok (.dup, 1) := by decide +kernel
theorem dX9_readStatement_51 : decode cX9_readStatement 51 = .ok (.getfield 28, 3) := by decide +kernel
theorem dX9_readStatement_54 : decode cX9_readStatement 54 = .ok (.iconst 1, 1) := by decide +kernel
theorem dX9_readStatement_55 : decode cX9_readStatement 55 = .ok (.iadd, 1) := by decide +kernel
theorem dX9_readStatement_56 : decode cX9_readStatement 56 = .ok (.putfield 28, 3) := by decide +kernel
theorem dX9_readStatement_59 : decode cX9_readStatement 59 = .ok (.aload_n 0, 1) := by decide +kernel
theorem dX9_readStatement_60 : decode cX9_readStatement 60 = .ok (.getfield 39, 3) := by decide +kernel
theorem dX9_readStatement_63 : decode cX9_readStatement 63 = .ok (.bipush 109, 2) := by decide +kernel
theorem dX9_readStatement_65 : decode cX9_readStatement 65 = .ok (.if_icmp .ne 7, 3) := by decide +kernel
theorem dX9_readStatement_68 : decode cX9_readStatement 68 = .ok (.iconst 2, 1) := by decide +kernel
theorem dX9_readStatement_69 : decode cX9_readStatement 69 = .ok (.goto 4, 3) := by decide +kernel
theorem dX9_readStatement_72 : decode cX9_readStatement 72 = .ok (.iconst 3, 1) := by decide +kernel
theorem dX9_readStatement_73 : decode cX9_readStatement 73 = .ok (.istore_n 1, 1) := by decide +kernel
theorem dX9_readStatement_74 : decode cX9_readStatement 74 = .ok (.iconst 0, 1) := by decide +kernel
theorem dX9_readStatement_75 : decode cX9_readStatement 75 = .ok (.istore_n 2, 1) := by decide +kernel
theorem dX9_readStatement_76 : decode cX9_readStatement 76 = .ok (.iload_n 2, 1) := by decide +kernel
theorem dX9_readStatement_77 : decode cX9_readStatement 77 = .ok (.iload_n 1, 1) := by decide +kernel
theorem dX9_readStatement_78 : decode cX9_readStatement 78 = .ok (.if_icmp .ge 30, 3) := by decide +kernel
theorem dX9_readStatement_81 : decode cX9_readStatement 81 = .ok (.iload_n 2, 1) := by decide +kernel
theorem dX9_readStatement_82 : decode cX9_readStatement 82 = .ok (.ifCond .le 9, 3) := by decide +kernel
theorem dX9_readStatement_85 : decode cX9_readStatement 85 = .ok (.aload_n 0, 1) := by decide +kernel
theorem dX9_readStatement_86 : decode cX9_readStatement 86 = .ok (.bipush 32, 2) := by decide +kernel
theorem dX9_readStatement_88 : decode cX9_readStatement 88 = .ok (.invokevirtual 42, 3) := by decide +kernel
theorem dX9_readStatement_91 : decode cX9_readStatement 91 = .ok (.aload_n 0, 1) := by decide +kernel
theorem dX9_readStatement_92 : decode cX9_readStatement 92 = .ok (.getfield 7, 3) := by decide +kernel
theorem dX9_readStatement_95 : decode cX9_readStatement 95 = .ok (.iload_n 2, 1) := by decide +kernel
theorem dX9_readStatement_96 : decode cX9_readStatement 96 = .ok (.aload_n 0, 1) := by decide +kernel
theorem dX9_readStatement_97 : decode cX9_readStatement 97 = .ok (.iconst 2, 1) := by decide +kernel
theorem dX9_readStatement_98 : decode cX9_readStatement 98 = .ok (.invokevirtual 46, 3) := by decide +kernel
theorem dX9_readStatement_101 : decode cX9_readStatement 101 = .ok (.iastore, 1) := by decide +kernel
theorem dX9_readStatement_102 : decode cX9_readStatement 102 = .ok (.iinc 2 1, 3) := by decide +kernel
theorem dX9_readStatement_105 : decode cX9_readStatement 105 = .ok (.goto (-29), 3) := by decide +kernel
theorem dX9_readStatement_108 : decode cX9_readStatement 108 = .ok (.aload_n 0, 1) := by decide +kernel
theorem dX9_readStatement_109 : decode cX9_readStatement 109 = .ok (.bipush 59, 2) := by decide +kernel
theorem dX9_readStatement_111 : decode cX9_readStatement 111 = .ok (.invokevirtual 42, 3) := by decide +kernel
theorem dX9_readStatement_114 : decode cX9_readStatement 114 = .ok (.return_, 1) := by decide +kernel
theorem dX10_init_0 : decode cX10_init 0 = .ok (.aload_n 0, 1) := by decide +kernel
theorem dX10_init_1 : decode cX10_init 1 = .ok (.invokespecial 3, 3) := by decide +kernel
theorem dX10_init_4 : decode cX10_init 4 = .ok (.aload_n 0, 1) := by decide +kernel
theorem dX10_init_5 : decode cX10_init 5 = .ok (.bipush 8, 2) := by decide +kernel
theorem dX10_init_7 : decode cX10_init 7 = .ok (.newarray .int, 2) := by decide +kernel
theorem dX10_init_9 : decode cX10_init 9 = .ok (.putfield 9, 3) := by decide +kernel
theorem dX10_init_12 : decode cX10_init 12 = .ok (.aload_n 0, 1) := by decide +kernel
theorem dX10_init_13 : decode cX10_init 13 = .ok (.bipush 8, 2) := by decide +kernel
theorem dX10_init_15 : decode cX10_init 15 = .ok (.newarray .long, 2) := by decide +kernel
theorem dX10_init_17 : decode cX10_init 17 = .ok (.putfield 15, 3) := by decide +kernel
theorem dX10_init_20 : decode cX10_init 20 = .ok (.aload_n 0, 1) := by decide +kernel
theorem dX10_init_21 : decode cX10_init 21 = .ok (.bipush 8, 2) := by decide +kernel
theorem dX10_init_23 : decode cX10_init 23 = .ok (.newarray .long, 2) := by decide +kernel
theorem dX10_init_25 : decode cX10_init 25 = .ok (.putfield 19, 3) := by decide +kernel
theorem dX10_init_28 : decode cX10_init 28 = .ok (.aload_n 0, 1) := by decide +kernel
theorem dX10_init_29 : decode cX10_init 29 = .ok (.bipush 8, 2) := by decide +kernel
theorem dX10_init_31 : decode cX10_init 31 = .ok (.newarray .boolean, 2) := by decide +kernel
theorem dX10_init_33 : decode cX10_init 33 = .ok (.putfield 22, 3) := by decide +kernel
theorem dX10_init_36 : decode cX10_init 36 = .ok (.aload_n 0, 1) := by decide +kernel
theorem dX10_init_37 : decode cX10_init 37 = .ok (.lconst 1, 1) := by decide +kernel
theorem dX10_init_38 : decode cX10_init 38 = .ok (.putfield 26, 3) := by decide +kernel
theorem dX10_init_41 : decode cX10_init 41 = .ok (.return_, 1) := by decide +kernel
theorem dX10_solve_0 : decode cX10_solve 0 = .ok (.aload_n 0, 1) := by decide +kernel
theorem dX10_solve_1 : decode cX10_solve 1 = .ok (.getfield 9, 3) := by decide +kernel
theorem dX10_solve_4 : decode cX10_solve 4 = .ok (.iconst (-1), 1) := by decide +kernel
theorem dX10_solve_5 : decode cX10_solve 5 = .ok (.invokestatic 30, 3) := by decide +kernel
theorem dX10_solve_8 : decode cX10_solve 8 = .ok (.iconst 0, 1) := by decide +kernel
theorem dX10_solve_9 : decode cX10_solve 9 = .ok (.istore_n 2, 1) := by decide +kernel
theorem dX10_solve_10 : decode cX10_solve 10 = .ok (.iload_n 2, 1) := by decide +kernel
theorem dX10_solve_11 : decode cX10_solve 11 = .ok (.bipush 8, 2) := by decide +kernel
theorem dX10_solve_13 : decode cX10_solve 13 = .ok (.if_icmp .ge 31, 3) := by decide +kernel
theorem dX10_solve_16 : decode cX10_solve 16 = .ok (.aload_n 0, 1) := by decide +kernel
theorem dX10_solve_17 : decode cX10_solve 17 = .ok (.getfield 22, 3) := by decide +kernel
theorem dX10_solve_20 : decode cX10_solve 20 = .ok (.iload_n 2, 1) := by decide +kernel
theorem dX10_solve_21 : decode cX10_solve 21 = .ok (.iconst 0, 1) := by decide +kernel
theorem dX10_solve_22 : decode cX10_solve 22 = .ok (.bastore, 1) := by decide +kernel
theorem dX10_solve_23 : decode cX10_solve 23 = .ok (.aload_n 0, 1) := by decide +kernel
theorem dX10_solve_24 : decode cX10_solve 24 = .ok (.getfield 9, 3) := by decide +kernel
theorem dX10_solve_27 : decode cX10_solve 27 = .ok (.iload_n 2, 1) := by decide +kernel
theorem dX10_solve_28 : decode cX10_solve 28 = .ok (.iaload, 1) := by decide +kernel
theorem dX10_solve_29 : decode cX10_solve 29 = .ok (.ifCond .ge 9, 3) := by decide +kernel
theorem dX10_solve_32 : decode cX10_solve 32 = .ok (.aload_n 0, 1) := by decide +kernel
theorem dX10_solve_33 : decode cX10_solve 33 = .ok (.iload_n 2, 1) := by decide +kernel
theorem dX10_solve_34 : decode cX10_solve 34 = .ok (.aload_n 1, 1) := by decide +kernel
theorem dX10_solve_35 : decode cX10_solve 35 = .ok (.invokevirtual 36, 3) := by decide +kernel
theorem dX10_solve_38 : decode cX10_solve 38 = .ok (.iinc 2 1, 3) := by decide +kernel
theorem dX10_solve_41 : decode cX10_solve 41 = .ok (.goto (-31), 3) := by decide +kernel
theorem dX10_solve_44 : decode cX10_solve 44 = .ok (.iconst 0, 1) := by decide +kernel
theorem dX10_solve_45 : decode cX10_solve 45 = .ok (.istore_n 2, 1) := by decide +kernel
theorem dX10_solve_46 : decode cX10_solve 46 = .ok (.iload_n 2, 1) := by decide +kernel
theorem dX10_solve_47 : decode cX10_solve 47 = .ok (.aload_n 1, 1) := by decide +kernel
theorem dX10_solve_48 : decode cX10_solve 48 = .ok (.getfield 40, 3) := by decide +kernel
theorem dX10_solve_51 : decode cX10_solve 51 = .ok (.if_icmp .ge 35, 3) := by decide +kernel
theorem dX10_solve_54 : decode cX10_solve 54 = .ok (.aload_n 0, 1) := by decide +kernel
theorem dX10_solve_55 : decode cX10_solve 55 = .ok (.aload_n 1, 1) := by decide +kernel
theorem dX10_solve_56 : decode cX10_solve 56 = .ok (.getfield 46, 3) := by decide +kernel
theorem dX10_solve_59 : decode cX10_solve 59 = .ok (.aload_n 1, 1) := by decide +kernel
theorem dX10_solve_60 : decode cX10_solve 60 = .ok (.getfield 50, 3) := by decide +kernel
theorem dX10_solve_63 : decode cX10_solve 63 = .ok (.iload_n 2, 1) := by decide +kernel
theorem dX10_solve_64 : decode cX10_solve 64 = .ok (.iaload, 1) := by decide +kernel
theorem dX10_solve_65 : decode cX10_solve 65 = .ok (.aaload, 1) := by decide +kernel
theorem dX10_solve_66 : decode cX10_solve 66 = .ok (.aload_n 1, 1) := by decide +kernel
theorem dX10_solve_67 : decode cX10_solve 67 = .ok (.getfield 46, 3) := by decide +kernel
theorem dX10_solve_70 : decode cX10_solve 70 = .ok (.aload_n 1, 1) := by decide +kernel
theorem dX10_solve_71 : decode cX10_solve 71 = .ok (.getfield 53, 3) := by decide +kernel
theorem dX10_solve_74 : decode cX10_solve 74 = .ok (.iload_n 2, 1) := by decide +kernel
theorem dX10_solve_75 : decode cX10_solve 75 = .ok (.iaload, 1) := by decide +kernel
theorem dX10_solve_76 : decode cX10_solve 76 = .ok (.aaload, 1) := by decide +kernel
theorem dX10_solve_77 : decode cX10_solve 77 = .ok (.invokevirtual 56, 3) := by decide +kernel
theorem dX10_solve_80 : decode cX10_solve 80 = .ok (.iinc 2 1, 3) := by decide +kernel
theorem dX10_solve_83 : decode cX10_solve 83 = .ok (.goto (-37), 3) := by decide +kernel
theorem dX10_solve_86 : decode cX10_solve 86 = .ok (.return_, 1) := by decide +kernel
theorem dX10_turnAllFrom_0 : decode cX10_turnAllFrom 0 = .ok (.aload_n 0, 1) := by decide +kernel
theorem dX10_turnAllFrom_1 : decode cX10_turnAllFrom 1 = .ok (.getfield 9, 3) := by decide +kernel
theorem dX10_turnAllFrom_4 : decode cX10_turnAllFrom 4 = .ok (.iload_n 1, 1) := by decide +kernel
theorem dX10_turnAllFrom_5 : decode cX10_turnAllFrom 5 = .ok (.iload_n 1, 1) := by decide +kernel
theorem dX10_turnAllFrom_6 : decode cX10_turnAllFrom 6 = .ok (.iastore, 1) := by decide +kernel
theorem dX10_turnAllFrom_7 : decode cX10_turnAllFrom 7 = .ok (.aload_n 0, 1) := by decide +kernel
theorem dX10_turnAllFrom_8 : decode cX10_turnAllFrom 8 = .ok (.getfield 15, 3) := by decide +kernel
theorem dX10_turnAllFrom_11 : decode cX10_turnAllFrom 11 = .ok (.iload_n 1, 1) := by decide +kernel
theorem dX10_turnAllFrom_12 : decode cX10_turnAllFrom 12 = .ok (.lconst 1, 1) := by decide +kernel
theorem dX10_turnAllFrom_13 : decode cX10_turnAllFrom 13 = .ok (.lastore, 1) := by decide +kernel
theorem dX10_turnAllFrom_14 : decode cX10_turnAllFrom 14 = .ok (.aload_n 0, 1) := by decide +kernel
theorem dX10_turnAllFrom_15 : decode cX10_turnAllFrom 15 = .ok (.getfield 19, 3) := by decide +kernel
theorem dX10_turnAllFrom_18 : decode cX10_turnAllFrom 18 = .ok (.iload_n 1, 1) := by decide +kernel
theorem dX10_turnAllFrom_19 : decode cX10_turnAllFrom 19 = .ok (.lconst 1, 1) := by decide +kernel
theorem dX10_turnAllFrom_20 : decode cX10_turnAllFrom 20 = .ok (.lastore, 1) := by decide +kernel
theorem dX10_turnAllFrom_21 : decode cX10_turnAllFrom 21 = .ok (.iconst 1, 1) := by decide +kernel
theorem dX10_turnAllFrom_22 : decode cX10_turnAllFrom 22 = .ok (.istore_n 3, 1) := by decide +kernel
theorem dX10_turnAllFrom_23 : decode cX10_turnAllFrom 23 = .ok (.iload_n 3, 1) := by decide +kernel
theorem dX10_turnAllFrom_24 : decode cX10_turnAllFrom 24 = .ok (.bipush 8, 2) := by decide +kernel
theorem dX10_turnAllFrom_26 : decode cX10_turnAllFrom 26 = .ok (.if_icmp .ge 71, 3) := by decide +kernel
theorem dX10_turnAllFrom_29 : decode cX10_turnAllFrom 29 = .ok (.iconst 0, 1) := by decide +kernel
theorem dX10_turnAllFrom_30 : decode cX10_turnAllFrom 30 = .ok (.istore 4, 2) := by decide +kernel
theorem dX10_turnAllFrom_32 : decode cX10_turnAllFrom 32 = .ok (.iload 4, 2) := by decide +kernel
theorem dX10_turnAllFrom_34 : decode cX10_turnAllFrom 34 = .ok (.aload_n 2, 1) := by decide +kernel
theorem dX10_turnAllFrom_35 : decode cX10_turnAllFrom 35 = .ok (.getfield 40, 3) := by decide +kernel
theorem dX10_turnAllFrom_38 : decode cX10_turnAllFrom 38 = .ok (.if_icmp .ge 53, 3) := by decide +kernel
theorem dX10_turnAllFrom_41 : decode cX10_turnAllFrom 41 = .ok (.aload_n 2, 1) := by decide +kernel
theorem dX10_turnAllFrom_42 : decode cX10_turnAllFrom 42 = .ok (.getfield 46, 3) := by decide +kernel
theorem dX10_turnAllFrom_45 : decode cX10_turnAllFrom 45 = .ok (.aload_n 2, 1) := by decide +kernel
theorem dX10_turnAllFrom_46 : decode cX10_turnAllFrom 46 = .ok (.getfield 50, 3) := by decide +kernel
theorem dX10_turnAllFrom_49 : decode cX10_turnAllFrom 49 = .ok (.iload 4, 2) := by decide +kernel
theorem dX10_turnAllFrom_51 : decode cX10_turnAllFrom 51 = .ok (.iaload, 1) := by decide +kernel
theorem dX10_turnAllFrom_52 : decode cX10_turnAllFrom 52 = .ok (.aaload, 1) := by decide +kernel
theorem dX10_turnAllFrom_53 : decode cX10_turnAllFrom 53 = .ok (.astore 5, 2) := by decide +kernel
theorem dX10_turnAllFrom_55 : decode cX10_turnAllFrom 55 = .ok (.aload_n 2, 1) := by decide +kernel
theorem dX10_turnAllFrom_56 : decode cX10_turnAllFrom 56 = .ok (.getfield 46, 3) := by decide +kernel
theorem dX10_turnAllFrom_59 : decode cX10_turnAllFrom 59 = .ok (.aload_n 2, 1) := by decide +kernel
theorem dX10_turnAllFrom_60 : decode cX10_turnAllFrom 60 = .ok (.getfield 53, 3) := by decide +kernel
theorem dX10_turnAllFrom_63 : decode cX10_turnAllFrom 63 = .ok (.iload 4, 2) := by decide +kernel
theorem dX10_turnAllFrom_65 : decode cX10_turnAllFrom 65 = .ok (.iaload, 1) := by decide +kernel
theorem dX10_turnAllFrom_66 : decode cX10_turnAllFrom 66 = .ok (.aaload, 1) := by decide +kernel
theorem dX10_turnAllFrom_67 : decode cX10_turnAllFrom 67 = .ok (.astore 6, 2) := by decide +kernel
theorem dX10_turnAllFrom_69 : decode cX10_turnAllFrom 69 = .ok (.aload_n 0, 1) := by decide +kernel
theorem dX10_turnAllFrom_70 : decode cX10_turnAllFrom 70 = .ok (.aload 5, 2) := by decide +kernel
theorem dX10_turnAllFrom_72 : decode cX10_turnAllFrom 72 = .ok (.aload 6, 2) := by decide +kernel
theorem dX10_turnAllFrom_74 : decode cX10_turnAllFrom 74 = .ok (.invokevirtual 60, 3) := by decide +kernel
theorem dX10_turnAllFrom_77 : decode cX10_turnAllFrom 77 = .ok (.aload_n 0, 1) := by decide +kernel
theorem dX10_turnAllFrom_78 : decode cX10_turnAllFrom 78 = .ok (.aload 6, 2) := by decide +kernel
theorem dX10_turnAllFrom_80 : decode cX10_turnAllFrom 80 = .ok (.aload 5, 2) := by decide +kernel
theorem dX10_turnAllFrom_82 : decode cX10_turnAllFrom 82 = .ok (.invokevirtual 60, 3) := by decide +kernel
theorem dX10_turnAllFrom_85 : decode cX10_turnAllFrom 85 = .ok (.iinc 4 1, 3) := by decide +kernel
theorem dX10_turnAllFrom_88 : decode cX10_turnAllFrom 88 = .ok (.goto (-56), 3) := by decide +kernel
theorem dX10_turnAllFrom_91 : decode cX10_turnAllFrom 91 = .ok (.iinc 3 1, 3) := by decide +kernel
theorem dX10_turnAllFrom_94 : decode cX10_turnAllFrom 94 = .ok (.goto (-71), 3) := by decide +kernel
theorem dX10_turnAllFrom_97 : decode cX10_turnAllFrom 97 = .ok (.return_, 1) := by decide +kernel
theorem dX10_drive_0 : decode cX10_drive 0 = .ok (.aload_n 0, 1) := by decide +kernel
theorem dX10_drive_1 : decode cX10_drive 1 = .ok (.getfield 9, 3) := by decide +kernel
theorem dX10_drive_4 : decode cX10_drive 4 = .ok (.aload_n 1, 1) := by decide +kernel
theorem dX10_drive_5 : decode cX10_drive 5 = .ok (.getfield 63, 3) := by decide +kernel
theorem dX10_drive_8 : decode cX10_drive 8 = .ok (.iaload, 1) := by decide +kernel
theorem dX10_drive_9 : decode cX10_drive 9 = .ok (.ifCond .lt 15, 3) := by decide +kernel
theorem dX10_drive_12 : decode cX10_drive 12 = .ok (.aload_n 0, 1) := by decide +kernel
theorem dX10_drive_13 : decode cX10_drive 13 = .ok (.getfield 9, 3) := by decide +kernel
theorem dX10_drive_16 : decode cX10_drive 16 = .ok (.aload_n 2, 1) := by decide +kernel
theorem dX10_drive_17 : decode cX10_drive 17 = .ok (.getfield 63, 3) := by decide +kernel
theorem dX10_drive_20 : decode cX10_drive 20 = .ok (.iaload, 1) := by decide +kernel
theorem dX10_drive_21 : decode cX10_drive 21 = .ok (.ifCond .lt 4, 3) := by decide +kernel
theorem dX10_drive_24 : decode cX10_drive 24 = .ok (.return_, 1) := by decide +kernel
theorem dX10_drive_25 : decode cX10_drive 25 = .ok (.aload_n 0, 1) := by decide +kernel
theorem dX10_drive_26 : decode cX10_drive 26 = .ok (.aload_n 1, 1) := by decide +kernel
theorem dX10_drive_27 : decode cX10_drive 27 = .ok (.aload_n 2, 1) := by decide +kernel
theorem dX10_drive_28 : decode cX10_drive 28 = .ok (.invokevirtual 68, 3) := by decide +kernel
theorem dX10_drive_31 : decode cX10_drive 31 = .ok (.aload_n 0, 1) := by decide +kernel
theorem dX10_drive_32 : decode cX10_drive 32 = .ok (.getfield 9, 3) := by decide +kernel
theorem dX10_drive_35 : decode cX10_drive 35 = .ok (.aload_n 2, 1) := by decide +kernel
theorem dX10_drive_36 : decode cX10_drive 36 = .ok (.getfield 63, 3) := by decide +kernel
theorem dX10_drive_39 : decode cX10_drive 39 = .ok (.aload_n 0, 1) := by decide +kernel
theorem dX10_drive_40 : decode cX10_drive 40 = .ok (.getfield 9, 3) := by decide +kernel
theorem dX10_drive_43 : decode cX10_drive 43 = .ok (.aload_n 1, 1) := by decide +kernel
theorem dX10_drive_44 : decode cX10_drive 44 = .ok (.getfield 63, 3) := by decide +kernel
theorem dX10_drive_47 : decode cX10_drive 47 = .ok (.iaload, 1) := by decide +kernel
theorem dX10_drive_48 : decode cX10_drive 48 = .ok (.iastore, 1) := by decide +kernel
theorem dX10_drive_49 : decode cX10_drive 49 = .ok (.aload_n 0, 1) := by decide +kernel
theorem dX10_drive_50 : decode cX10_drive 50 = .ok (.getfield 15, 3) := by decide +kernel
theorem dX10_drive_53 : decode cX10_drive 53 = .ok (.aload_n 2, 1) := by decide +kernel
theorem dX10_drive_54 : decode cX10_drive 54 = .ok (.getfield 63, 3) := by decide +kernel
theorem dX10_drive_57 : decode cX10_drive 57 = .ok (.aload_n 0, 1) := by decide +kernel
theorem dX10_drive_58 : decode cX10_drive 58 = .ok (.getfield 71, 3) := by decide +kernel
theorem dX10_drive_61 : decode cX10_drive 61 = .ok (.lastore, 1) := by decide +kernel
theorem dX10_drive_62 : decode cX10_drive 62 = .ok (.aload_n 0, 1) := by decide +kernel
theorem dX10_drive_63 : decode cX10_drive 63 = .ok (.getfield 19, 3) := by decide +kernel
theorem dX10_drive_66 : decode cX10_drive 66 = .ok (.aload_n 2, 1) := by decide +kernel
theorem dX10_drive_67 : decode cX10_drive 67 = .ok (.getfield 63, 3) := by decide +kernel
theorem dX10_drive_70 : decode cX10_drive 70 = .ok (.aload_n 0, 1) := by decide +kernel
theorem dX10_drive_71 : decode cX10_drive 71 = .ok (.getfield 26, 3) := by decide +kernel
theorem dX10_drive_74 : decode cX10_drive 74 = .ok (.lastore, 1) := by decide +kernel
theorem dX10_drive_75 : decode cX10_drive 75 = .ok (.return_, 1) := by decide +kernel
theorem dX10_checkMesh_0 : decode cX10_checkMesh 0 = .ok (.aload_n 0, 1) := by decide +kernel
theorem dX10_checkMesh_1 : decode cX10_checkMesh 1 = .ok (.aload_n 1, 1) := by decide +kernel
theorem dX10_checkMesh_2 : decode cX10_checkMesh 2 = .ok (.aload_n 2, 1) := by decide +kernel
theorem dX10_checkMesh_3 : decode cX10_checkMesh 3 = .ok (.invokevirtual 68, 3) := by decide +kernel
theorem dX10_checkMesh_6 : decode cX10_checkMesh 6 = .ok (.aload_n 0, 1) := by decide +kernel
theorem dX10_checkMesh_7 : decode cX10_checkMesh 7 = .ok (.getfield 15, 3) := by decide +kernel
theorem dX10_checkMesh_10 : decode cX10_checkMesh 10 = .ok (.aload_n 2, 1) := by decide +kernel
theorem dX10_checkMesh_11 : decode cX10_checkMesh 11 = .ok (.getfield 63, 3) := by decide +kernel
theorem dX10_checkMesh_14 : decode cX10_checkMesh 14 = .ok (.laload, 1) := by decide +kernel
theorem dX10_checkMesh_15 : decode cX10_checkMesh 15 = .ok (.aload_n 0, 1) := by decide +kernel
theorem dX10_checkMesh_16 : decode cX10_checkMesh 16 = .ok (.getfield 71, 3) := by decide +kernel
theorem dX10_checkMesh_19 : decode cX10_checkMesh 19 = .ok (.lcmp, 1) := by decide +kernel
theorem dX10_checkMesh_20 : decode cX10_checkMesh 20 = .ok (.ifCond .ne 20, 3) := by decide +kernel
theorem dX10_checkMesh_23 : decode cX10_checkMesh 23 = .ok (.aload_n 0, 1) := by decide +kernel
theorem dX10_checkMesh_24 : decode cX10_checkMesh 24 = .ok (.getfield 19, 3) := by decide +kernel
theorem dX10_checkMesh_27 : decode cX10_checkMesh 27 = .ok (.aload_n 2, 1) := by decide +kernel
theorem dX10_checkMesh_28 : decode cX10_checkMesh 28 = .ok (.getfield 63, 3) := by decide +kernel
theorem dX10_checkMesh_31 : decode cX10_checkMesh 31 = .ok (.laload, 1) := by decide +kernel
theorem dX10_checkMesh_32 : decode cX10_checkMesh 32 = .ok (.aload_n 0, 1) := by decide +kernel
theorem dX10_checkMesh_33 : decode cX10_checkMesh 33 = .ok (.getfield 26, 3) := by decide +kernel
theorem dX10_checkMesh_36 : decode cX10_checkMesh 36 = .ok (.lcmp, 1) := by decide +kernel
theorem dX10_checkMesh_37 : decode cX10_checkMesh 37 = .ok (.ifCond .eq 18, 3) := by decide +kernel
theorem dX10_checkMesh_40 : decode cX10_checkMesh 40 = .ok (.aload_n 0, 1) := by decide +kernel
theorem dX10_checkMesh_41 : decode cX10_checkMesh 41 = .ok (.getfield 22, 3) := by decide +kernel
theorem dX10_checkMesh_44 : decode cX10_checkMesh 44 = .ok (.aload_n 0, 1) := by decide +kernel
theorem dX10_checkMesh_45 : decode cX10_checkMesh 45 = .ok (.getfield 9, 3) := by decide +kernel
theorem dX10_checkMesh_48 : decode cX10_checkMesh 48 = .ok (.aload_n 2, 1) := by decide +kernel
theorem dX10_checkMesh_49 : decode cX10_checkMesh 49 = .ok (.getfield 63, 3) := by decide +kernel
theorem dX10_checkMesh_52 : decode cX10_checkMesh 52 = .ok (.iaload, 1) := by decide +kernel
theorem dX10_checkMesh_53 : decode cX10_checkMesh 53 = .ok (.iconst 1, 1) := by decide +kernel
theorem dX10_checkMesh_54 : decode cX10_checkMesh 54 = .ok (.bastore, 1) := by decide +kernel
theorem dX10_checkMesh_55 : decode cX10_checkMesh 55 = .ok (.return_, 1) := by decide +kernel
theorem dX10_findNext_0 : decode cX10_findNext 0 = .ok (.aload_n 1, 1) := by decide +kernel
theorem dX10_findNext_1 : decode cX10_findNext 1 = .ok (.invokevirtual 74, 3) := by decide +kernel
theorem dX10_findNext_4 : decode cX10_findNext 4 = .ok (.ifCond .ne 10, 3) := by decide +kernel
theorem dX10_findNext_7 : decode cX10_findNext 7 = .ok (.aload_n 2, 1) := by decide +kernel
theorem dX10_findNext_8 : decode cX10_findNext 8 = .ok (.invokevirtual 74, 3) := by decide +kernel
theorem dX10_findNext_11 : decode cX10_findNext 11 = .ok (.ifCond .eq 7, 3) := by decide +kernel
theorem dX10_findNext_14 : decode cX10_findNext 14 = .ok (.iconst 1, 1) := by decide +kernel
theorem dX10_findNext_15 : decode cX10_findNext 15 = .ok (.goto 4, 3) := by decide +kernel
theorem dX10_findNext_18 : decode cX10_findNext 18 = .ok (.iconst 0, 1) := by decide +kernel
theorem dX10_findNext_19 : decode cX10_findNext 19 = .ok (.istore_n 3, 1) := by decide +kernel
theorem dX10_findNext_20 : decode cX10_findNext 20 = .ok (.aload_n 0, 1) := by decide +kernel
theorem dX10_findNext_21 : decode cX10_findNext 21 = .ok (.aload_n 0, 1) := by decide +kernel
theorem dX10_findNext_22 : decode cX10_findNext 22 = .ok (.getfield 15, 3) := by decide +kernel
theorem dX10_findNext_25 : decode cX10_findNext 25 = .ok (.aload_n 1, 1) := by decide +kernel
theorem dX10_findNext_26 : decode cX10_findNext 26 = .ok (.getfield 63, 3) := by decide +kernel
theorem dX10_findNext_29 : decode cX10_findNext 29 = .ok (.laload, 1) := by decide +kernel
theorem dX10_findNext_30 : decode cX10_findNext 30 = .ok (.aload_n 1, 1) := by decide +kernel
theorem dX10_findNext_31 : decode cX10_findNext 31 = .ok (.getfield 78, 3) := by decide +kernel
theorem dX10_findNext_34 : decode cX10_findNext 34 = .ok (.i2l, 1) := by decide +kernel
theorem dX10_findNext_35 : decode cX10_findNext 35 = .ok (.lmul, 1) := by decide +kernel
theorem dX10_findNext_36 : decode cX10_findNext 36 = .ok (.iload_n 3, 1) := by decide +kernel
theorem dX10_findNext_37 : decode cX10_findNext 37 = .ok (.ifCond .eq 7, 3) := by decide +kernel
theorem dX10_findNext_40 : decode cX10_findNext 40 = .ok (.iconst 1, 1) := by decide +kernel
theorem dX10_findNext_41 : decode cX10_findNext 41 = .ok (.goto 4, 3) := by decide +kernel
theorem dX10_findNext_44 : decode cX10_findNext 44 = .ok (.iconst (-1), 1) := by decide +kernel
theorem dX10_findNext_45 : decode cX10_findNext 45 = .ok (.i2l, 1) := by decide +kernel
theorem dX10_findNext_46 : decode cX10_findNext 46 = .ok (.lmul, 1) := by decide +kernel
theorem dX10_findNext_47 : decode cX10_findNext 47 = .ok (.putfield 71, 3) := by decide +kernel
theorem dX10_findNext_50 : decode cX10_findNext 50 = .ok (.aload_n 0, 1) := by decide +kernel
theorem dX10_findNext_51 : decode cX10_findNext 51 = .ok (.aload_n 0, 1) := by decide +kernel
theorem dX10_findNext_52 : decode cX10_findNext 52 = .ok (.getfield 19, 3) := by decide +kernel
theorem dX10_findNext_55 : decode cX10_findNext 55 = .ok (.aload_n 1, 1) := by decide +kernel
theorem dX10_findNext_56 : decode cX10_findNext 56 = .ok (.getfield 63, 3) := by decide +kernel
theorem dX10_findNext_59 : decode cX10_findNext 59 = .ok (.laload, 1) := by decide +kernel
theorem dX10_findNext_60 : decode cX10_findNext 60 = .ok (.aload_n 2, 1) := by decide +kernel
theorem dX10_findNext_61 : decode cX10_findNext 61 = .ok (.getfield 78, 3) := by decide +kernel
theorem dX10_findNext_64 : decode cX10_findNext 64 = .ok (.i2l, 1) := by decide +kernel
theorem dX10_findNext_65 : decode cX10_findNext 65 = .ok (.lmul, 1) := by decide +kernel
theorem dX10_findNext_66 : decode cX10_findNext 66 = .ok (.putfield 26, 3) := by decide +kernel
theorem dX10_findNext_69 : decode cX10_findNext 69 = .ok (.aload_n 0, 1) := by decide +kernel
theorem dX10_findNext_70 : decode cX10_findNext 70 = .ok (.getfield 71, 3) := by decide +kernel
theorem dX10_findNext_73 : decode cX10_findNext 73 = .ok (.invokestatic 81, 3) := by decide +kernel
theorem dX10_findNext_76 : decode cX10_findNext 76 = .ok (.aload_n 0, 1) := by decide +kernel
theorem dX10_findNext_77 : decode cX10_findNext 77 = .ok (.getfield 26, 3) := by decide +kernel
theorem dX10_findNext_80 : decode cX10_findNext 80 = .ok (.invokestatic 87, 3) := by decide +kernel
theorem dX10_findNext_83 : decode cX10_findNext 83 = .ok (.lstore 4, 2) := by decide +kernel
theorem dX10_findNext_85 : decode cX10_findNext 85 = .ok (.lload 4, 2) := by decide +kernel
theorem dX10_findNext_87 : decode cX10_findNext 87 = .ok (.lconst 1, 1) := by decide +kernel
theorem dX10_findNext_88 : decode cX10_findNext 88 = .ok (.lcmp, 1) := by decide +kernel
theorem dX10_findNext_89 : decode cX10_findNext 89 = .ok (.ifCond .le 25, 3) := by decide +kernel
theorem dX10_findNext_92 : decode cX10_findNext 92 = .ok (.aload_n 0, 1) := by decide +kernel
theorem dX10_findNext_93 : decode cX10_findNext 93 = .ok (.dup, 1) := by decide +kernel
theorem dX10_findNext_94 : decode cX10_findNext 94 = .ok (.getfield 71, 3) := by decide +kernel
theorem dX10_findNext_97 : decode cX10_findNext 97 = .ok (.lload 4, 2) := by decide +kernel
theorem dX10_findNext_99 : decode cX10_findNext 99 = .ok (.ldiv, 1) := by decide +kernel
theorem dX10_findNext_100 : decode cX10_findNext 100 = .ok (.putfield 71, 3) := by decide +kernel
theorem dX10_findNext_103 : decode cX10_findNext 103 = .ok (.aload_n 0, 1) := by decide +kernel
theorem dX10_findNext_104 : decode cX10_findNext 104 = .ok (.dup, 1) := by decide +kernel
theorem dX10_findNext_105 : decode cX10_findNext 105 = .ok (.getfield 26, 3) := by decide +kernel
theorem dX10_findNext_108 : decode cX10_findNext 108 = .ok (.lload 4, 2) := by decide +kernel
theorem dX10_findNext_110 : decode cX10_findNext 110 = .ok (.ldiv, 1) := by decide +kernel
theorem dX10_findNext_111 : decode cX10_findNext 111 = .ok (.putfield 26, 3) := by decide +kernel
theorem dX10_findNext_114 : decode cX10_findNext 114 = .ok (.return_, 1) := by decide +kernel
theorem dX10_isLocked_0 : decode cX10_isLocked 0 = .ok (.aload_n 0, 1) := by decide +kernel
theorem dX10_isLocked_1 : decode cX10_isLocked 1 = .ok (.getfield 22, 3) := by decide +kernel
theorem dX10_isLocked_4 : decode cX10_isLocked 4 = .ok (.iconst 0, 1) := by decide +kernel
theorem dX10_isLocked_5 : decode cX10_isLocked 5 = .ok (.baload, 1) := by decide +kernel
theorem dX10_isLocked_6 : decode cX10_isLocked 6 = .ok (.ireturn, 1) := by decide +kernel
theorem dX10_isTurned_0 : decode cX10_isTurned 0 = .ok (.aload_n 0, 1) := by decide +kernel
theorem dX10_isTurned_1 : decode cX10_isTurned 1 = .ok (.getfield 9, 3) := by decide +kernel
theorem dX10_isTurned_4 : decode cX10_isTurned 4 = .ok (.iload_n 1, 1) := by decide +kernel
theorem dX10_isTurned_5 : decode cX10_isTurned 5 = .ok (.iaload, 1) := by decide +kernel
theorem dX10_isTurned_6 : decode cX10_isTurned 6 = .ok (.ifCond .eq 17, 3) := by decide +kernel
theorem dX10_isTurned_9 : decode cX10_isTurned 9 = .ok (.aload_n 0, 1) := by decide +kernel
theorem dX10_isTurned_10 : decode cX10_isTurned 10 = .ok (.getfield 22, 3) := by decide +kernel
theorem dX10_isTurned_13 : decode cX10_isTurned 13 = .ok (.aload_n 0, 1) := by decide +kernel
theorem dX10_isTurned_14 : decode cX10_isTurned 14 = .ok (.getfield 9, 3) := by decide +kernel
theorem dX10_isTurned_17 : decode cX10_isTurned 17 = .ok (.iload_n 1, 1) := by decide +kernel
theorem dX10_isTurned_18 : decode cX10_isTurned 18 = .ok (.iaload, 1) := by decide +kernel
theorem dX10_isTurned_19 : decode cX10_isTurned 19 = .ok (.baload, 1) := by decide +kernel
theorem dX10_isTurned_20 : decode cX10_isTurned 20 = .ok (.ifCond .eq 7, 3) := by decide +kernel
theorem dX10_isTurned_23 : decode cX10_isTurned 23 = .ok (.iconst 1, 1) := by decide +kernel
theorem dX10_isTurned_24 : decode cX10_isTurned 24 = .ok (.goto 4, 3) := by decide +kernel
theorem dX10_isTurned_27 : decode cX10_isTurned 27 = .ok (.iconst 0, 1) := by decide +kernel
theorem dX10_isTurned_28 : decode cX10_isTurned 28 = .ok (.ireturn, 1) := by decide +kernel
theorem dX10_aboveLine_0 : decode cX10_aboveLine 0 = .ok (.aload_n 0, 1) := by decide +kernel
theorem dX10_aboveLine_1 : decode cX10_aboveLine 1 = .ok (.getfield 22, 3) := by decide +kernel
theorem dX10_aboveLine_4 : decode cX10_aboveLine 4 = .ok (.aload_n 0, 1) := by decide +kernel
theorem dX10_aboveLine_5 : decode cX10_aboveLine 5 = .ok (.getfield 9, 3) := by decide +kernel
theorem dX10_aboveLine_8 : decode cX10_aboveLine 8 = .ok (.iload_n 1, 1) := by decide +kernel
theorem dX10_aboveLine_9 : decode cX10_aboveLine 9 = .ok (.iaload, 1) := by decide +kernel
theorem dX10_aboveLine_10 : decode cX10_aboveLine 10 = .ok (.baload, 1) := by decide +kernel
theorem dX10_aboveLine_11 : decode cX10_aboveLine 11 = .ok (.ifCond .eq 7, 3) := by decide +kernel
theorem dX10_aboveLine_14 : decode cX10_aboveLine 14 = .ok (.lconst 0, 1) := by decide +kernel
theorem dX10_aboveLine_15 : decode cX10_aboveLine 15 = .ok (.goto 9, 3) := by decide +kernel
theorem dX10_aboveLine_18 : decode cX10_aboveLine 18 = .ok (.aload_n 0, 1) := by decide +kernel
theorem dX10_aboveLine_19 : decode cX10_aboveLine 19 = .ok (.getfield 15, 3) := by decide +kernel
theorem dX10_aboveLine_22 : decode cX10_aboveLine 22 = .ok (.iload_n 1, 1) := by decide +kernel
theorem dX10_aboveLine_23 : decode cX10_aboveLine 23 = .ok (.laload, 1) := by decide +kernel
theorem dX10_aboveLine_24 : decode cX10_aboveLine 24 = .ok (.lreturn, 1) := by decide +kernel
theorem dX10_belowLine_0 : decode cX10_belowLine 0 = .ok (.aload_n 0, 1) := by decide +kernel
theorem dX10_belowLine_1 : decode cX10_belowLine 1 = .ok (.getfield 22, 3) := by decide +kernel
theorem dX10_belowLine_4 : decode cX10_belowLine 4 = .ok (.aload_n 0, 1) := by decide +kernel
theorem dX10_belowLine_5 : decode cX10_belowLine 5 = .ok (.getfield 9, 3) := by decide +kernel
theorem dX10_belowLine_8 : decode cX10_belowLine 8 = .ok (.iload_n 1, 1) := by decide +kernel
theorem dX10_belowLine_9 : decode cX10_belowLine 9 = .ok (.iaload, 1) := by decide +kernel
theorem dX10_belowLine_10 : decode cX10_belowLine 10 = .ok (.baload, 1) := by decide +kernel
theorem dX10_belowLine_11 : decode cX10_belowLine 11 = .ok (.ifCond .eq 7, 3) := by decide +kernel
theorem dX10_belowLine_14 : decode cX10_belowLine 14 = .ok (.lconst 1, 1) := by decide +kernel
theorem dX10_belowLine_15 : decode cX10_belowLine 15 = .ok (.goto 9, 3) := by decide +kernel
theorem dX10_belowLine_18 : decode cX10_belowLine 18 = .ok (.aload_n 0, 1) := by decide +kernel
theorem dX10_belowLine_19 : decode cX10_belowLine 19 = .ok (.getfield 19, 3) := by decide +kernel
theorem dX10_belowLine_22 : decode cX10_belowLine 22 = .ok (.iload_n 1, 1) := by decide +kernel
theorem dX10_belowLine_23 : decode cX10_belowLine 23 = .ok (.laload, 1) := by decide +kernel
theorem dX10_belowLine_24 : decode cX10_belowLine 24 = .ok (.lreturn, 1) := by decide +kernel
theorem dX10_countTurned_0 : decode cX10_countTurned 0 = .ok (.iconst 0, 1) := by decide +kernel
theorem dX10_countTurned_1 : decode cX10_countTurned 1 = .ok (.istore_n 1, 1) := by decide +kernel
theorem dX10_countTurned_2 : decode cX10_countTurned 2 = .ok (.iconst 0, 1) := by decide +kernel
theorem dX10_countTurned_3 : decode cX10_countTurned 3 = .ok (.istore_n 2, 1) := by decide +kernel
theorem dX10_countTurned_4 : decode cX10_countTurned 4 = .ok (.iload_n 2, 1) := by decide +kernel
theorem dX10_countTurned_5 : decode cX10_countTurned 5 = .ok (.bipush 8, 2) := by decide +kernel
theorem dX10_countTurned_7 : decode cX10_countTurned 7 = .ok (.if_icmp .ge 32, 3) := by decide +kernel
theorem dX10_countTurned_10 : decode cX10_countTurned 10 = .ok (.aload_n 0, 1) := by decide +kernel
theorem dX10_countTurned_11 : decode cX10_countTurned 11 = .ok (.invokevirtual 91, 3) := by decide +kernel
theorem dX10_countTurned_14 : decode cX10_countTurned 14 = .ok (.ifCond .ne 25, 3) := by decide +kernel
theorem dX10_countTurned_17 : decode cX10_countTurned 17 = .ok (.iload_n 1, 1) := by decide +kernel
theorem dX10_countTurned_18 : decode cX10_countTurned 18 = .ok (.aload_n 0, 1) := by decide +kernel
theorem dX10_countTurned_19 : decode cX10_countTurned 19 = .ok (.iload_n 2, 1) := by decide +kernel
theorem dX10_countTurned_20 : decode cX10_countTurned 20 = .ok (.invokevirtual 94, 3) := by decide +kernel
theorem dX10_countTurned_23 : decode cX10_countTurned 23 = .ok (.ifCond .eq 7, 3) := by decide +kernel
theorem dX10_countTurned_26 : decode cX10_countTurned 26 = .ok (.iconst 1, 1) := by decide +kernel
theorem dX10_countTurned_27 : decode cX10_countTurned 27 = .ok (.goto 4, 3) := by decide +kernel
theorem dX10_countTurned_30 : decode cX10_countTurned 30 = .ok (.iconst 0, 1) := by decide +kernel
theorem dX10_countTurned_31 : decode cX10_countTurned 31 = .ok (.iadd, 1) := by decide +kernel
theorem dX10_countTurned_32 : decode cX10_countTurned 32 = .ok (.istore_n 1, 1) := by decide +kernel
theorem dX10_countTurned_33 : decode cX10_countTurned 33 = .ok (.iinc 2 1, 3) := by decide +kernel
theorem dX10_countTurned_36 : decode cX10_countTurned 36 = .ok (.goto (-32), 3) := by decide +kernel
theorem dX10_countTurned_39 : decode cX10_countTurned 39 = .ok (.iload_n 1, 1) := by decide +kernel
theorem dX10_countTurned_40 : decode cX10_countTurned 40 = .ok (.ireturn, 1) := by decide +kernel
theorem dJ9_abs_067f4_0 : decode cJ9_abs_067f4 0 = .ok (.lload_n 0, 1) := by decide +kernel
theorem dJ9_abs_067f4_1 : decode cJ9_abs_067f4 1 = .ok (.lconst 0, 1) := by decide +kernel
theorem dJ9_abs_067f4_2 : decode cJ9_abs_067f4 2 = .ok (.lcmp, 1) := by decide +kernel
theorem dJ9_abs_067f4_3 : decode cJ9_abs_067f4 3 = .ok (.ifCond .ge 8, 3) := by decide +kernel
theorem dJ9_abs_067f4_6 : decode cJ9_abs_067f4 6 = .ok (.lload_n 0, 1) := by decide +kernel
theorem dJ9_abs_067f4_7 : decode cJ9_abs_067f4 7 = .ok (.lneg, 1) := by decide +kernel
theorem dJ9_abs_067f4_8 : decode cJ9_abs_067f4 8 = .ok (.goto 4, 3) := by decide +kernel
theorem dJ9_abs_067f4_11 : decode cJ9_abs_067f4 11 = .ok (.lload_n 0, 1) := by decide +kernel
theorem dJ9_abs_067f4_12 : decode cJ9_abs_067f4 12 = .ok (.lreturn, 1) := by decide +kernel
theorem dJ9_max_7cf53_0 : decode cJ9_max_7cf53 0 = .ok (.iload_n 0, 1) := by decide +kernel
theorem dJ9_max_7cf53_1 : decode cJ9_max_7cf53 1 = .ok (.iload_n 1, 1) := by decide +kernel
theorem dJ9_max_7cf53_2 : decode cJ9_max_7cf53 2 = .ok (.if_icmp .lt 7, 3) := by decide +kernel
theorem dJ9_max_7cf53_5 : decode cJ9_max_7cf53 5 = .ok (.iload_n 0, 1) := by decide +kernel
theorem dJ9_max_7cf53_6 : decode cJ9_max_7cf53 6 = .ok (.goto 4, 3) := by decide +kernel
theorem dJ9_max_7cf53_9 : decode cJ9_max_7cf53 9 = .ok (.iload_n 1, 1) := by decide +kernel
theorem dJ9_max_7cf53_10 : decode cJ9_max_7cf53 10 = .ok (.ireturn, 1) := by decide +kernel
theorem dJ9_min_7cf53_0 : decode cJ9_min_7cf53 0 = .ok (.iload_n 0, 1) := by decide +kernel
theorem dJ9_min_7cf53_1 : decode cJ9_min_7cf53 1 = .ok (.iload_n 1, 1) := by decide +kernel
theorem dJ9_min_7cf53_2 : decode cJ9_min_7cf53 2 = .ok (.if_icmp .gt 7, 3) := by decide +kernel
theorem dJ9_min_7cf53_5 : decode cJ9_min_7cf53 5 = .ok (.iload_n 0, 1) := by decide +kernel
theorem dJ9_min_7cf53_6 : decode cJ9_min_7cf53 6 = .ok (.goto 4, 3) := by decide +kernel
theorem dJ9_min_7cf53_9 : decode cJ9_min_7cf53 9 = .ok (.iload_n 1, 1) := by decide +kernel
theorem dJ9_min_7cf53_10 : decode cJ9_min_7cf53 10 = .ok (.ireturn, 1) := by decide +kernel
theorem dJ9_min_f86c9_0 : decode cJ9_min_f86c9 0 = .ok (.lload_n 0, 1) := by decide +kernel
theorem dJ9_min_f86c9_1 : decode cJ9_min_f86c9 1 = .ok (.lload_n 2, 1) := by decide +kernel
theorem dJ9_min_f86c9_2 : decode cJ9_min_f86c9 2 = .ok (.lcmp, 1) := by decide +kernel
theorem dJ9_min_f86c9_3 : decode cJ9_min_f86c9 3 = .ok (.ifCond .gt 7, 3) := by decide +kernel
theorem dJ9_min_f86c9_6 : decode cJ9_min_f86c9 6 = .ok (.lload_n 0, 1) := by decide +kernel
theorem dJ9_min_f86c9_7 : decode cJ9_min_f86c9 7 = .ok (.goto 4, 3) := by decide +kernel
theorem dJ9_min_f86c9_10 : decode cJ9_min_f86c9 10 = .ok (.lload_n 2, 1) := by decide +kernel
theorem dJ9_min_f86c9_11 : decode cJ9_min_f86c9 11 = .ok (.lreturn, 1) := by decide +kernel
theorem dJ7_fill_53178_0 : decode cJ7_fill_53178 0 = .ok (.iconst 0, 1) := by decide +kernel
theorem dJ7_fill_53178_1 : decode cJ7_fill_53178 1 = .ok (.istore_n 2, 1) := by decide +kernel
theorem dJ7_fill_53178_2 : decode cJ7_fill_53178 2 = .ok (.aload_n 0, 1) := by decide +kernel
theorem dJ7_fill_53178_3 : decode cJ7_fill_53178 3 = .ok (.arraylength, 1) := by decide +kernel
theorem dJ7_fill_53178_4 : decode cJ7_fill_53178 4 = .ok (.istore_n 3, 1) := by decide +kernel
theorem dJ7_fill_53178_5 : decode cJ7_fill_53178 5 = .ok (.iload_n 2, 1) := by decide +kernel
theorem dJ7_fill_53178_6 : decode cJ7_fill_53178 6 = .ok (.iload_n 3, 1) := by decide +kernel
theorem dJ7_fill_53178_7 : decode cJ7_fill_53178 7 = .ok (.if_icmp .ge 13, 3) := by decide +kernel
theorem dJ7_fill_53178_10 : decode cJ7_fill_53178 10 = .ok (.aload_n 0, 1) := by decide +kernel
theorem dJ7_fill_53178_11 : decode cJ7_fill_53178 11 = .ok (.iload_n 2, 1) := by decide +kernel
theorem dJ7_fill_53178_12 : decode cJ7_fill_53178 12 = .ok (.iload_n 1, 1) := by decide +kernel
theorem dJ7_fill_53178_13 : decode cJ7_fill_53178 13 = .ok (.iastore, 1) := by decide +kernel
theorem dJ7_fill_53178_14 : decode cJ7_fill_53178 14 = .ok (.iinc 2 1, 3) := by decide +kernel
theorem dJ7_fill_53178_17 : decode cJ7_fill_53178 17 = .ok (.goto (-12), 3) := by decide +kernel
theorem dJ7_fill_53178_20 : decode cJ7_fill_53178 20 = .ok (.return_, 1) := by decide +kernel
