theorem dX11_init_0 : decode cX11_init 0 = .ok (.aload_n 0, 1) := by decide +kernel
theorem dX11_init_1 : decode cX11_init 1 = .ok (.invokespecial 1, 3) := by decide +kernel
theorem dX11_init_4 : decode cX11_init 4 = .ok (.aload_n 0, 1) := by decide +kernel
theorem dX11_init_5 : decode cX11_init 5 = .ok (.new 7, 3) := by decide +kernel
theorem dX11_init_8 : decode cX11_init 8 = .ok (.dup, 1) := by decide +kernel
theorem dX11_init_9 : decode cX11_init 9 = .ok (.invokespecial 9, 3) := by decide +kernel
theorem dX11_init_12 : decode cX11_init 12 = .ok (.putfield 10, 3) := by decide +kernel
theorem dX11_init_15 : decode cX11_init 15 = .ok (.aload_n 0, 1) := by decide +kernel
theorem dX11_init_16 : decode cX11_init 16 = .ok (.new 7, 3) := by decide +kernel
theorem dX11_init_19 : decode cX11_init 19 = .ok (.dup, 1) := by decide +kernel
theorem dX11_init_20 : decode cX11_init 20 = .ok (.invokespecial 9, 3) := by decide +kernel
theorem dX11_init_23 : decode cX11_init 23 = .ok (.putfield 16, 3) := by decide +kernel
theorem dX11_init_26 : decode cX11_init 26 = .ok (.aload_n 0, 1) := by decide +kernel
theorem dX11_init_27 : decode cX11_init 27 = .ok (.new 19, 3) := by decide +kernel
theorem dX11_init_30 : decode cX11_init 30 = .ok (.dup, 1) := by decide +kernel
theorem dX11_init_31 : decode cX11_init 31 = .ok (.invokespecial 21, 3) := by decide +kernel
theorem dX11_init_34 : decode cX11_init 34 = .ok (.putfield 22, 3) := by decide +kernel
theorem dX11_init_37 : decode cX11_init 37 = .ok (.aload_n 0, 1) := by decide +kernel
theorem dX11_init_38 : decode cX11_init 38 = .ok (.new 26, 3) := by decide +kernel
theorem dX11_init_41 : decode cX11_init 41 = .ok (.dup, 1) := by decide +kernel
theorem dX11_init_42 : decode cX11_init 42 = .ok (.invokespecial 28, 3) := by decide +kernel
theorem dX11_init_45 : decode cX11_init 45 = .ok (.putfield 29, 3) := by decide +kernel
theorem dX11_init_48 : decode cX11_init 48 = .ok (.aload_n 0, 1) := by decide +kernel
theorem dX11_init_49 : decode cX11_init 49 = .ok (.new 7, 3) := by decide +kernel
theorem dX11_init_52 : decode cX11_init 52 = .ok (.dup, 1) := by decide +kernel
theorem dX11_init_53 : decode cX11_init 53 = .ok (.invokespecial 9, 3) := by decide +kernel
theorem dX11_init_56 : decode cX11_init 56 = .ok (.putfield 33, 3) := by decide +kernel
theorem dX11_init_59 : decode cX11_init 59 = .ok (.aload_n 0, 1) := by decide +kernel
theorem dX11_init_60 : decode cX11_init 60 = .ok (.new 19, 3) := by decide +kernel
theorem dX11_init_63 : decode cX11_init 63 = .ok (.dup, 1) := by decide +kernel
theorem dX11_init_64 : decode cX11_init 64 = .ok (.invokespecial 21, 3) := by decide +kernel
theorem dX11_init_67 : decode cX11_init 67 = .ok (.putfield 36, 3) := by decide +kernel
theorem dX11_init_70 : decode cX11_init 70 = .ok (.aload_n 0, 1) := by decide +kernel
theorem dX11_init_71 : decode cX11_init 71 = .ok (.new 26, 3) := by decide +kernel
theorem dX11_init_74 : decode cX11_init 74 = .ok (.dup, 1) := by decide +kernel
theorem dX11_init_75 : decode cX11_init 75 = .ok (.invokespecial 28, 3) := by decide +kernel
theorem dX11_init_78 : decode cX11_init 78 = .ok (.putfield 39, 3) := by decide +kernel
theorem dX11_init_81 : decode cX11_init 81 = .ok (.aload_n 0, 1) := by decide +kernel
theorem dX11_init_82 : decode cX11_init 82 = .ok (.bipush 8, 2) := by decide +kernel
theorem dX11_init_84 : decode cX11_init 84 = .ok (.anewarray 42, 3) := by decide +kernel
theorem dX11_init_87 : decode cX11_init 87 = .ok (.putfield 44, 3) := by decide +kernel
theorem dX11_init_90 : decode cX11_init 90 = .ok (.aload_n 0, 1) := by decide +kernel
theorem dX11_init_91 : decode cX11_init 91 = .ok (.new 48, 3) := by decide +kernel
theorem dX11_init_94 : decode cX11_init 94 = .ok (.dup, 1) := by decide +kernel
theorem dX11_init_95 : decode cX11_init 95 = .ok (.invokespecial 50, 3) := by decide +kernel
theorem dX11_init_98 : decode cX11_init 98 = .ok (.putfield 51, 3) := by decide +kernel
theorem dX11_init_101 : decode cX11_init 101 = .ok (.aload_n 0, 1) := by decide +kernel
theorem dX11_init_102 : decode cX11_init 102 = .ok (.new 55, 3) := by decide +kernel
theorem dX11_init_105 : decode cX11_init 105 = .ok (.dup, 1) := by decide +kernel
theorem dX11_init_106 : decode cX11_init 106 = .ok (.invokespecial 57, 3) := by decide +kernel
theorem dX11_init_109 : decode cX11_init 109 = .ok (.putfield 58, 3) := by decide +kernel
theorem dX11_init_112 : decode cX11_init 112 = .ok (.aload_n 0, 1) := by decide +kernel
theorem dX11_init_113 : decode cX11_init 113 = .ok (.new 62, 3) := by decide +kernel
theorem dX11_init_116 : decode cX11_init 116 = .ok (.dup, 1) := by decide +kernel
theorem dX11_init_117 : decode cX11_init 117 = .ok (.invokespecial 64, 3) := by decide +kernel
theorem dX11_init_120 : decode cX11_init 120 = .ok (.putfield 65, 3) := by decide +kernel
theorem dX11_init_123 : decode cX11_init 123 = .ok (.aload_n 0, 1) := by decide +kernel
theorem dX11_init_124 : decode cX11_init 124 = .ok (.new 69, 3) := by decide +kernel
theorem dX11_init_127 : decode cX11_init 127 = .ok (.dup, 1) := by decide +kernel
theorem dX11_init_128 : decode cX11_init 128 = .ok (.invokespecial 71, 3) := by decide +kernel
theorem dX11_init_131 : decode cX11_init 131 = .ok (.putfield 72, 3) := by decide +kernel
theorem dX11_init_134 : decode cX11_init 134 = .ok (.aload_n 0, 1) := by decide +kernel
theorem dX11_init_135 : decode cX11_init 135 = .ok (.new 69, 3) := by decide +kernel
theorem dX11_init_138 : decode cX11_init 138 = .ok (.dup, 1) := by decide +kernel
theorem dX11_init_139 : decode cX11_init 139 = .ok (.invokespecial 71, 3) := by decide +kernel
theorem dX11_init_142 : decode cX11_init 142 = .ok (.putfield 76, 3) := by decide +kernel
theorem dX11_init_145 : decode cX11_init 145 = .ok (.aload_n 0, 1) := by decide +kernel
theorem dX11_init_146 : decode cX11_init 146 = .ok (.new 79, 3) := by decide +kernel
theorem dX11_init_149 : decode cX11_init 149 = .ok (.dup, 1) := by decide +kernel
theorem dX11_init_150 : decode cX11_init 150 = .ok (.invokespecial 81, 3) := by decide +kernel
theorem dX11_init_153 : decode cX11_init 153 = .ok (.putfield 82, 3) := by decide +kernel
theorem dX11_init_156 : decode cX11_init 156 = .ok (.aload_n 0, 1) := by decide +kernel
theorem dX11_init_157 : decode cX11_init 157 = .ok (.new 86, 3) := by decide +kernel
theorem dX11_init_160 : decode cX11_init 160 = .ok (.dup, 1) := by decide +kernel
theorem dX11_init_161 : decode cX11_init 161 = .ok (.invokespecial 88, 3) := by decide +kernel
theorem dX11_init_164 : decode cX11_init 164 = .ok (.putfield 89, 3) := by decide +kernel
theorem dX11_init_167 : decode cX11_init 167 = .ok (.iconst 0, 1) := by decide +kernel
theorem dX11_init_168 : decode cX11_init 168 = .ok (.istore_n 1, 1) := by decide +kernel
theorem dX11_init_169 : decode cX11_init 169 = .ok (.iload_n 1, 1) := by decide +kernel
theorem dX11_init_170 : decode cX11_init 170 = .ok (.bipush 8, 2) := by decide +kernel
theorem dX11_init_172 : decode cX11_init 172 = .ok (.if_icmp .ge 22, 3) := by decide +kernel
theorem dX11_init_175 : decode cX11_init 175 = .ok (.aload_n 0, 1) := by decide +kernel
theorem dX11_init_176 : decode cX11_init 176 = .ok (.getfield 44, 3) := by decide +kernel
theorem dX11_init_179 : decode cX11_init 179 = .ok (.iload_n 1, 1) := by decide +kernel
theorem dX11_init_180 : decode cX11_init 180 = .ok (.new 42, 3) := by decide +kernel
theorem dX11_init_183 : decode cX11_init 183 = .ok (.dup, 1) := by decide +kernel
theorem dX11_init_184 : decode cX11_init 184 = .ok (.invokespecial 93, 3) := by decide +kernel
theorem dX11_init_187 : decode cX11_init 187 = .ok (.aastore, 1) := by decide +kernel
theorem dX11_init_188 : decode cX11_init 188 = .ok (.iinc 1 1, 3) := by decide +kernel
theorem dX11_init_191 : decode cX11_init 191 = .ok (.goto (-22), 3) := by decide +kernel
theorem dX11_init_194 : decode cX11_init 194 = .ok (.return_, 1) := by decide +kernel
theorem dX11_text_0 : decode cX11_text 0 = .ok (.iload_n 1, 1) := by decide +kernel
theorem dX11_text_1 : decode cX11_text 1 = .ok (.invokestatic 94, 3) := by decide +kernel
theorem dX11_text_4 : decode cX11_text 4 = .ok (.ifCond .ne 5, 3) := by decide +kernel
theorem dX11_text_7 : decode cX11_text 7 = .ok (.iconst (-1), 1) := by decide +kernel
theorem dX11_text_8 : decode cX11_text 8 = .ok (.ireturn, 1) := by decide +kernel
theorem dX11_text_9 : decode cX11_text 9 = .ok (.aload_n 0, 1) := by decide +kernel
theorem dX11_text_10 : decode cX11_text 10 = .ok (.getfield 44, 3) := by decide +kernel
theorem dX11_text_13 : decode cX11_text 13 = .ok (.iload_n 1, 1) := by decide +kernel
theorem dX11_text_14 : decode cX11_text 14 = .ok (.aaload, 1) := by decide +kernel
theorem dX11_text_15 : decode cX11_text 15 = .ok (.astore_n 2, 1) := by decide +kernel
theorem dX11_text_16 : decode cX11_text 16 = .ok (.aload_n 2, 1) := by decide +kernel
theorem dX11_text_17 : decode cX11_text 17 = .ok (.invokevirtual 98, 3) := by decide +kernel
theorem dX11_text_20 : decode cX11_text 20 = .ok (.istore_n 3, 1) := by decide +kernel
theorem dX11_text_21 : decode cX11_text 21 = .ok (.iload_n 3, 1) := by decide +kernel
theorem dX11_text_22 : decode cX11_text 22 = .ok (.ifCond .eq 5, 3) := by decide +kernel
theorem dX11_text_25 : decode cX11_text 25 = .ok (.iload_n 3, 1) := by decide +kernel
theorem dX11_text_26 : decode cX11_text 26 = .ok (.ireturn, 1) := by decide +kernel
theorem dX11_text_27 : decode cX11_text 27 = .ok (.aload_n 0, 1) := by decide +kernel
theorem dX11_text_28 : decode cX11_text 28 = .ok (.getfield 51, 3) := by decide +kernel
theorem dX11_text_31 : decode cX11_text 31 = .ok (.aload_n 2, 1) := by decide +kernel
theorem dX11_text_32 : decode cX11_text 32 = .ok (.getfield 102, 3) := by decide +kernel
theorem dX11_text_35 : decode cX11_text 35 = .ok (.aload_n 2, 1) := by decide +kernel
theorem dX11_text_36 : decode cX11_text 36 = .ok (.getfield 106, 3) := by decide +kernel
theorem dX11_text_39 : decode cX11_text 39 = .ok (.invokevirtual 110, 3) := by decide +kernel
theorem dX11_text_42 : decode cX11_text 42 = .ok (.istore 4, 2) := by decide +kernel
theorem dX11_text_44 : decode cX11_text 44 = .ok (.aload_n 0, 1) := by decide +kernel
theorem dX11_text_45 : decode cX11_text 45 = .ok (.getfield 51, 3) := by decide +kernel
theorem dX11_text_48 : decode cX11_text 48 = .ok (.getfield 114, 3) := by decide +kernel
theorem dX11_text_51 : decode cX11_text 51 = .ok (.ifCond .eq 15, 3) := by decide +kernel
theorem dX11_text_54 : decode cX11_text 54 = .ok (.sipush (-1000), 3) := by decide +kernel
theorem dX11_text_57 : decode cX11_text 57 = .ok (.aload_n 0, 1) := by decide +kernel
theorem dX11_text_58 : decode cX11_text 58 = .ok (.getfield 51, 3) := by decide +kernel
theorem dX11_text_61 : decode cX11_text 61 = .ok (.getfield 118, 3) := by decide +kernel
theorem dX11_text_64 : decode cX11_text 64 = .ok (.isub, 1) := by decide +kernel
theorem dX11_text_65 : decode cX11_text 65 = .ok (.ireturn, 1) := by decide +kernel
theorem dX11_text_66 : decode cX11_text 66 = .ok (.aload_n 0, 1) := by decide +kernel
theorem dX11_text_67 : decode cX11_text 67 = .ok (.getfield 16, 3) := by decide +kernel
theorem dX11_text_70 : decode cX11_text 70 = .ok (.aload_n 0, 1) := by decide +kernel
theorem dX11_text_71 : decode cX11_text 71 = .ok (.getfield 10, 3) := by decide +kernel
theorem dX11_text_74 : decode cX11_text 74 = .ok (.invokevirtual 121, 3) := by decide +kernel
theorem dX11_text_77 : decode cX11_text 77 = .ok (.aload_n 0, 1) := by decide +kernel
theorem dX11_text_78 : decode cX11_text 78 = .ok (.getfield 51, 3) := by decide +kernel
theorem dX11_text_81 : decode cX11_text 81 = .ok (.aload_n 2, 1) := by decide +kernel
theorem dX11_text_82 : decode cX11_text 82 = .ok (.getfield 102, 3) := by decide +kernel
theorem dX11_text_85 : decode cX11_text 85 = .ok (.aload_n 2, 1) := by decide +kernel
theorem dX11_text_86 : decode cX11_text 86 = .ok (.getfield 106, 3) := by decide +kernel
theorem dX11_text_89 : decode cX11_text 89 = .ok (.invokevirtual 125, 3) := by decide +kernel
theorem dX11_text_92 : decode cX11_text 92 = .ok (.iconst 0, 1) := by decide +kernel
theorem dX11_text_93 : decode cX11_text 93 = .ok (.istore 5, 2) := by decide +kernel
theorem dX11_text_95 : decode cX11_text 95 = .ok (.iload 5, 2) := by decide +kernel
theorem dX11_text_97 : decode cX11_text 97 = .ok (.iload 4, 2) := by decide +kernel
theorem dX11_text_99 : decode cX11_text 99 = .ok (.if_icmp .ge 42, 3) := by decide +kernel
theorem dX11_text_102 : decode cX11_text 102 = .ok (.aload_n 0, 1) := by decide +kernel
theorem dX11_text_103 : decode cX11_text 103 = .ok (.getfield 51, 3) := by decide +kernel
theorem dX11_text_106 : decode cX11_text 106 = .ok (.invokevirtual 129, 3) := by decide +kernel
theorem dX11_text_109 : decode cX11_text 109 = .ok (.aload_n 0, 1) := by decide +kernel
theorem dX11_text_110 : decode cX11_text 110 = .ok (.getfield 16, 3) := by decide +kernel
theorem dX11_text_113 : decode cX11_text 113 = .ok (.aload_n 0, 1) := by decide +kernel
theorem dX11_text_114 : decode cX11_text 114 = .ok (.getfield 51, 3) := by decide +kernel
theorem dX11_text_117 : decode cX11_text 117 = .ok (.invokevirtual 132, 3) := by decide +kernel
theorem dX11_text_120 : decode cX11_text 120 = .ok (.ifCond .ne 15, 3) := by decide +kernel
theorem dX11_text_123 : decode cX11_text 123 = .ok (.sipush (-2000), 3) := by decide +kernel
theorem dX11_text_126 : decode cX11_text 126 = .ok (.aload_n 0, 1) := by decide +kernel
theorem dX11_text_127 : decode cX11_text 127 = .ok (.getfield 51, 3) := by decide +kernel
theorem dX11_text_130 : decode cX11_text 130 = .ok (.getfield 136, 3) := by decide +kernel
theorem dX11_text_133 : decode cX11_text 133 = .ok (.isub, 1) := by decide +kernel
theorem dX11_text_134 : decode cX11_text 134 = .ok (.ireturn, 1) := by decide +kernel
theorem dX11_text_135 : decode cX11_text 135 = .ok (.iinc 5 1, 3) := by decide +kernel
theorem dX11_text_138 : decode cX11_text 138 = .ok (.goto (-43), 3) := by decide +kernel
theorem dX11_text_141 : decode cX11_text 141 = .ok (.aload_n 0, 1) := by decide +kernel
theorem dX11_text_142 : decode cX11_text 142 = .ok (.getfield 10, 3) := by decide +kernel
theorem dX11_text_145 : decode cX11_text 145 = .ok (.aload_n 0, 1) := by decide +kernel
theorem dX11_text_146 : decode cX11_text 146 = .ok (.getfield 16, 3) := by decide +kernel
theorem dX11_text_149 : decode cX11_text 149 = .ok (.invokevirtual 121, 3) := by decide +kernel
theorem dX11_text_152 : decode cX11_text 152 = .ok (.iload 4, 2) := by decide +kernel
theorem dX11_text_154 : decode cX11_text 154 = .ok (.ireturn, 1) := by decide +kernel
theorem dX11_gear_0 : decode cX11_gear 0 = .ok (.aload_n 0, 1) := by decide +kernel
theorem dX11_gear_1 : decode cX11_gear 1 = .ok (.iload_n 1, 1) := by decide +kernel
theorem dX11_gear_2 : decode cX11_gear 2 = .ok (.invokevirtual 139, 3) := by decide +kernel
theorem dX11_gear_5 : decode cX11_gear 5 = .ok (.ifCond .ne 5, 3) := by decide +kernel
theorem dX11_gear_8 : decode cX11_gear 8 = .ok (.iconst (-1), 1) := by decide +kernel
theorem dX11_gear_9 : decode cX11_gear 9 = .ok (.ireturn, 1) := by decide +kernel
theorem dX11_gear_10 : decode cX11_gear 10 = .ok (.aload_n 0, 1) := by decide +kernel
theorem dX11_gear_11 : decode cX11_gear 11 = .ok (.getfield 10, 3) := by decide +kernel
theorem dX11_gear_14 : decode cX11_gear 14 = .ok (.getfield 142, 3) := by decide +kernel
theorem dX11_gear_17 : decode cX11_gear 17 = .ok (.iload_n 1, 1) := by decide +kernel
theorem dX11_gear_18 : decode cX11_gear 18 = .ok (.aaload, 1) := by decide +kernel
theorem dX11_gear_19 : decode cX11_gear 19 = .ok (.astore_n 3, 1) := by decide +kernel
theorem dX11_gear_20 : decode cX11_gear 20 = .ok (.iload_n 2, 1) := by decide +kernel
theorem dX11_gear_21 : decode cX11_gear 21 = .ok (.tableswitch 87 0 7 #[47, 52, 57, 62, 67, 72, 77, 82], 47) := by decide +kernel
theorem dX11_gear_68 : decode cX11_gear 68 = .ok (.aload_n 3, 1) := by decide +kernel
theorem dX11_gear_69 : decode cX11_gear 69 = .ok (.getfield 146, 3) := by decide +kernel
theorem dX11_gear_72 : decode cX11_gear 72 = .ok (.ireturn, 1) := by decide +kernel
theorem dX11_gear_73 : decode cX11_gear 73 = .ok (.aload_n 3, 1) := by decide +kernel
theorem dX11_gear_74 : decode cX11_gear 74 = .ok (.getfield 149, 3) := by decide +kernel
theorem dX11_gear_77 : decode cX11_gear 77 = .ok (.ireturn, 1) := by decide +kernel
theorem dX11_gear_78 : decode cX11_gear 78 = .ok (.aload_n 3, 1) := by decide +kernel
theorem dX11_gear_79 : decode cX11_gear 79 = .ok (.getfield 152, 3) := by decide +kernel
theorem dX11_gear_82 : decode cX11_gear 82 = .ok (.ireturn, 1) := by decide +kernel
theorem dX11_gear_83 : decode cX11_gear 83 = .ok (.aload_n 3, 1) := by decide +kernel
theorem dX11_gear_84 : decode cX11_gear 84 = .ok (.invokevirtual 155, 3) := by decide +kernel
theorem dX11_gear_87 : decode cX11_gear 87 = .ok (.ireturn, 1) := by decide +kernel
theorem dX11_gear_88 : decode cX11_gear 88 = .ok (.aload_n 3, 1) := by decide +kernel
theorem dX11_gear_89 : decode cX11_gear 89 = .ok (.invokevirtual 158, 3) := by decide +kernel
theorem dX11_gear_92 : decode cX11_gear 92 = .ok (.ireturn, 1) := by decide +kernel
theorem dX11_gear_93 : decode cX11_gear 93 = .ok (.aload_n 3, 1) := by decide +kernel
theorem dX11_gear_94 : decode cX11_gear 94 = .ok (.invokevirtual 161, 3) := by decide +kernel
theorem dX11_gear_97 : decode cX11_gear 97 = .ok (.ireturn, 1) := by decide +kernel
theorem dX11_gear_98 : decode cX11_gear 98 = .ok (.aload_n 3, 1) := by decide +kernel
theorem dX11_gear_99 : decode cX11_gear 99 = .ok (.invokevirtual 164, 3) := by decide +kernel
theorem dX11_gear_102 : decode cX11_gear 102 = .ok (.ireturn, 1) := by decide +kernel
theorem dX11_gear_103 : decode cX11_gear 103 = .ok (.aload_n 3, 1) := by decide +kernel
theorem dX11_gear_104 : decode cX11_gear 104 = .ok (.invokevirtual 167, 3) := by decide +kernel
theorem dX11_gear_107 : decode cX11_gear 107 = .ok (.ireturn, 1) := by decide +kernel
theorem dX11_gear_108 : decode cX11_gear 108 = .ok (.iconst (-1), 1) := by decide +kernel
theorem dX11_gear_109 : decode cX11_gear 109 = .ok (.ireturn, 1) := by decide +kernel
theorem dX11_width_0 : decode cX11_width 0 = .ok (.aload_n 0, 1) := by decide +kernel
theorem dX11_width_1 : decode cX11_width 1 = .ok (.iload_n 1, 1) := by decide +kernel
theorem dX11_width_2 : decode cX11_width 2 = .ok (.invokevirtual 139, 3) := by decide +kernel
theorem dX11_width_5 : decode cX11_width 5 = .ok (.ifCond .eq 13, 3) := by decide +kernel
theorem dX11_width_8 : decode cX11_width 8 = .ok (.iload_n 2, 1) := by decide +kernel
theorem dX11_width_9 : decode cX11_width 9 = .ok (.iconst 0, 1) := by decide +kernel
theorem dX11_width_10 : decode cX11_width 10 = .ok (.bipush 15, 2) := by decide +kernel
theorem dX11_width_12 : decode cX11_width 12 = .ok (.invokestatic 170, 3) := by decide +kernel
theorem dX11_width_15 : decode cX11_width 15 = .ok (.ifCond .ne 5, 3) := by decide +kernel
theorem dX11_width_18 : decode cX11_width 18 = .ok (.iconst (-1), 1) := by decide +kernel
theorem dX11_width_19 : decode cX11_width 19 = .ok (.ireturn, 1) := by decide +kernel
theorem dX11_width_20 : decode cX11_width 20 = .ok (.aload_n 0, 1) := by decide +kernel
theorem dX11_width_21 : decode cX11_width 21 = .ok (.getfield 10, 3) := by decide +kernel
theorem dX11_width_24 : decode cX11_width 24 = .ok (.getfield 142, 3) := by decide +kernel
theorem dX11_width_27 : decode cX11_width 27 = .ok (.iload_n 1, 1) := by decide +kernel
theorem dX11_width_28 : decode cX11_width 28 = .ok (.aaload, 1) := by decide +kernel
theorem dX11_width_29 : decode cX11_width 29 = .ok (.getfield 174, 3) := by decide +kernel
theorem dX11_width_32 : decode cX11_width 32 = .ok (.iload_n 2, 1) := by decide +kernel
theorem dX11_width_33 : decode cX11_width 33 = .ok (.iaload, 1) := by decide +kernel
theorem dX11_width_34 : decode cX11_width 34 = .ok (.ireturn, 1) := by decide +kernel
theorem dX11_mesh_0 : decode cX11_mesh 0 = .ok (.aload_n 0, 1) := by decide +kernel
theorem dX11_mesh_1 : decode cX11_mesh 1 = .ok (.iload_n 1, 1) := by decide +kernel
theorem dX11_mesh_2 : decode cX11_mesh 2 = .ok (.invokevirtual 177, 3) := by decide +kernel
theorem dX11_mesh_5 : decode cX11_mesh 5 = .ok (.ifCond .ne 5, 3) := by decide +kernel
theorem dX11_mesh_8 : decode cX11_mesh 8 = .ok (.iconst (-1), 1) := by decide +kernel
theorem dX11_mesh_9 : decode cX11_mesh 9 = .ok (.ireturn, 1) := by decide +kernel
theorem dX11_mesh_10 : decode cX11_mesh 10 = .ok (.iload_n 2, 1) := by decide +kernel
theorem dX11_mesh_11 : decode cX11_mesh 11 = .ok (.tableswitch 55 0 2 #[25, 35, 45], 25) := by decide +kernel
theorem dX11_mesh_36 : decode cX11_mesh 36 = .ok (.aload_n 0, 1) := by decide +kernel
theorem dX11_mesh_37 : decode cX11_mesh 37 = .ok (.getfield 10, 3) := by decide +kernel
theorem dX11_mesh_40 : decode cX11_mesh 40 = .ok (.getfield 180, 3) := by decide +kernel
theorem dX11_mesh_43 : decode cX11_mesh 43 = .ok (.iload_n 1, 1) := by decide +kernel
theorem dX11_mesh_44 : decode cX11_mesh 44 = .ok (.iaload, 1) := by decide +kernel
theorem dX11_mesh_45 : decode cX11_mesh 45 = .ok (.ireturn, 1) := by decide +kernel
theorem dX11_mesh_46 : decode cX11_mesh 46 = .ok (.aload_n 0, 1) := by decide +kernel
theorem dX11_mesh_47 : decode cX11_mesh 47 = .ok (.getfield 10, 3) := by decide +kernel
theorem dX11_mesh_50 : decode cX11_mesh 50 = .ok (.getfield 183, 3) := by decide +kernel
theorem dX11_mesh_53 : decode cX11_mesh 53 = .ok (.iload_n 1, 1) := by decide +kernel
theorem dX11_mesh_54 : decode cX11_mesh 54 = .ok (.iaload, 1) := by decide +kernel
theorem dX11_mesh_55 : decode cX11_mesh 55 = .ok (.ireturn, 1) := by decide +kernel
theorem dX11_mesh_56 : decode cX11_mesh 56 = .ok (.aload_n 0, 1) := by decide +kernel
theorem dX11_mesh_57 : decode cX11_mesh 57 = .ok (.getfield 10, 3) := by decide +kernel
theorem dX11_mesh_60 : decode cX11_mesh 60 = .ok (.getfield 186, 3) := by decide +kernel
theorem dX11_mesh_63 : decode cX11_mesh 63 = .ok (.iload_n 1, 1) := by decide +kernel
theorem dX11_mesh_64 : decode cX11_mesh 64 = .ok (.iaload, 1) := by decide +kernel
theorem dX11_mesh_65 : decode cX11_mesh 65 = .ok (.ireturn, 1) := by decide +kernel
theorem dX11_mesh_66 : decode cX11_mesh 66 = .ok (.iconst (-1), 1) := by decide +kernel
theorem dX11_mesh_67 : decode cX11_mesh 67 = .ok (.ireturn, 1) := by decide +kernel
theorem dX11_locked_0 : decode cX11_locked 0 = .ok (.aload_n 0, 1) := by decide +kernel
theorem dX11_locked_1 : decode cX11_locked 1 = .ok (.getfield 65, 3) := by decide +kernel
theorem dX11_locked_4 : decode cX11_locked 4 = .ok (.aload_n 0, 1) := by decide +kernel
theorem dX11_locked_5 : decode cX11_locked 5 = .ok (.getfield 10, 3) := by decide +kernel
theorem dX11_locked_8 : decode cX11_locked 8 = .ok (.invokevirtual 189, 3) := by decide +kernel
theorem dX11_locked_11 : decode cX11_locked 11 = .ok (.aload_n 0, 1) := by decide +kernel
theorem dX11_locked_12 : decode cX11_locked 12 = .ok (.getfield 65, 3) := by decide +kernel
theorem dX11_locked_15 : decode cX11_locked 15 = .ok (.invokevirtual 192, 3) := by decide +kernel
theorem dX11_locked_18 : decode cX11_locked 18 = .ok (.ifCond .eq 7, 3) := by decide +kernel
theorem dX11_locked_21 : decode cX11_locked 21 = .ok (.iconst 1, 1) := by decide +kernel
theorem dX11_locked_22 : decode cX11_locked 22 = .ok (.goto 4, 3) := by decide +kernel
theorem dX11_locked_25 : decode cX11_locked 25 = .ok (.iconst 0, 1) := by decide +kernel
theorem dX11_locked_26 : decode cX11_locked 26 = .ok (.ireturn, 1) := by decide +kernel
theorem dX11_speed_0 : decode cX11_speed 0 = .ok (.iload_n 1, 1) := by decide +kernel
theorem dX11_speed_1 : decode cX11_speed 1 = .ok (.iconst 0, 1) := by decide +kernel
theorem dX11_speed_2 : decode cX11_speed 2 = .ok (.bipush 7, 2) := by decide +kernel
theorem dX11_speed_4 : decode cX11_speed 4 = .ok (.invokestatic 170, 3) := by decide +kernel
theorem dX11_speed_7 : decode cX11_speed 7 = .ok (.ifCond .eq 12, 3) := by decide +kernel
theorem dX11_speed_10 : decode cX11_speed 10 = .ok (.iload_n 2, 1) := by decide +kernel
theorem dX11_speed_11 : decode cX11_speed 11 = .ok (.iconst 0, 1) := by decide +kernel
theorem dX11_speed_12 : decode cX11_speed 12 = .ok (.iconst 1, 1) := by decide +kernel
theorem dX11_speed_13 : decode cX11_speed 13 = .ok (.invokestatic 170, 3) := by decide +kernel
theorem dX11_speed_16 : decode cX11_speed 16 = .ok (.ifCond .ne 7, 3) := by decide +kernel
theorem dX11_speed_19 : decode cX11_speed 19 = .ok (.ldc2_w 196, 3) := by decide +kernel
theorem dX11_speed_22 : decode cX11_speed 22 = .ok (.lreturn, 1) := by decide +kernel
theorem dX11_speed_23 : decode cX11_speed 23 = .ok (.aload_n 0, 1) := by decide +kernel
theorem dX11_speed_24 : decode cX11_speed 24 = .ok (.getfield 65, 3) := by decide +kernel
theorem dX11_speed_27 : decode cX11_speed 27 = .ok (.aload_n 0, 1) := by decide +kernel
theorem dX11_speed_28 : decode cX11_speed 28 = .ok (.getfield 10, 3) := by decide +kernel
theorem dX11_speed_31 : decode cX11_speed 31 = .ok (.invokevirtual 189, 3) := by decide +kernel
theorem dX11_speed_34 : decode cX11_speed 34 = .ok (.aload_n 0, 1) := by decide +kernel
theorem dX11_speed_35 : decode cX11_speed 35 = .ok (.getfield 65, 3) := by decide +kernel
theorem dX11_speed_38 : decode cX11_speed 38 = .ok (.invokevirtual 192, 3) := by decide +kernel
theorem dX11_speed_41 : decode cX11_speed 41 = .ok (.ifCond .eq 7, 3) := by decide +kernel
theorem dX11_speed_44 : decode cX11_speed 44 = .ok (.ldc2_w 198, 3) := by decide +kernel
theorem dX11_speed_47 : decode cX11_speed 47 = .ok (.lreturn, 1) := by decide +kernel
theorem dX11_speed_48 : decode cX11_speed 48 = .ok (.aload_n 0, 1) := by decide +kernel
theorem dX11_speed_49 : decode cX11_speed 49 = .ok (.getfield 65, 3) := by decide +kernel
theorem dX11_speed_52 : decode cX11_speed 52 = .ok (.iload_n 1, 1) := by decide +kernel
theorem dX11_speed_53 : decode cX11_speed 53 = .ok (.invokevirtual 200, 3) := by decide +kernel
theorem dX11_speed_56 : decode cX11_speed 56 = .ok (.ifCond .ne 7, 3) := by decide +kernel
theorem dX11_speed_59 : decode cX11_speed 59 = .ok (.ldc2_w 203, 3) := by decide +kernel
theorem dX11_speed_62 : decode cX11_speed 62 = .ok (.lreturn, 1) := by decide +kernel
theorem dX11_speed_63 : decode cX11_speed 63 = .ok (.iload_n 2, 1) := by decide +kernel
theorem dX11_speed_64 : decode cX11_speed 64 = .ok (.ifCond .ne 14, 3) := by decide +kernel
theorem dX11_speed_67 : decode cX11_speed 67 = .ok (.aload_n 0, 1) := by decide +kernel
theorem dX11_speed_68 : decode cX11_speed 68 = .ok (.getfield 65, 3) := by decide +kernel
theorem dX11_speed_71 : decode cX11_speed 71 = .ok (.iload_n 1, 1) := by decide +kernel
theorem dX11_speed_72 : decode cX11_speed 72 = .ok (.invokevirtual 205, 3) := by decide +kernel
theorem dX11_speed_75 : decode cX11_speed 75 = .ok (.goto 11, 3) := by decide +kernel
theorem dX11_speed_78 : decode cX11_speed 78 = .ok (.aload_n 0, 1) := by decide +kernel
theorem dX11_speed_79 : decode cX11_speed 79 = .ok (.getfield 65, 3) := by decide +kernel
theorem dX11_speed_82 : decode cX11_speed 82 = .ok (.iload_n 1, 1) := by decide +kernel
theorem dX11_speed_83 : decode cX11_speed 83 = .ok (.invokevirtual 209, 3) := by decide +kernel
theorem dX11_speed_86 : decode cX11_speed 86 = .ok (.lreturn, 1) := by decide +kernel
theorem dX11_hunt_0 : decode cX11_hunt 0 = .ok (.aload_n 0, 1) := by decide +kernel
theorem dX11_hunt_1 : decode cX11_hunt 1 = .ok (.iload_n 1, 1) := by decide +kernel
theorem dX11_hunt_2 : decode cX11_hunt 2 = .ok (.invokevirtual 139, 3) := by decide +kernel
theorem dX11_hunt_5 : decode cX11_hunt 5 = .ok (.ifCond .eq 25, 3) := by decide +kernel
theorem dX11_hunt_8 : decode cX11_hunt 8 = .ok (.aload_n 0, 1) := by decide +kernel
theorem dX11_hunt_9 : decode cX11_hunt 9 = .ok (.iload_n 2, 1) := by decide +kernel
theorem dX11_hunt_10 : decode cX11_hunt 10 = .ok (.invokevirtual 139, 3) := by decide +kernel
theorem dX11_hunt_13 : decode cX11_hunt 13 = .ok (.ifCond .eq 17, 3) := by decide +kernel
theorem dX11_hunt_16 : decode cX11_hunt 16 = .ok (.iload_n 1, 1) := by decide +kernel
theorem dX11_hunt_17 : decode cX11_hunt 17 = .ok (.iload_n 2, 1) := by decide +kernel
theorem dX11_hunt_18 : decode cX11_hunt 18 = .ok (.if_icmp .eq 12, 3) := by decide +kernel
theorem dX11_hunt_21 : decode cX11_hunt 21 = .ok (.iload_n 3, 1) := by decide +kernel
theorem dX11_hunt_22 : decode cX11_hunt 22 = .ok (.iconst 0, 1) := by decide +kernel
theorem dX11_hunt_23 : decode cX11_hunt 23 = .ok (.iconst 1, 1) := by decide +kernel
theorem dX11_hunt_24 : decode cX11_hunt 24 = .ok (.invokestatic 170, 3) := by decide +kernel
theorem dX11_hunt_27 : decode cX11_hunt 27 = .ok (.ifCond .ne 5, 3) := by decide +kernel
theorem dX11_hunt_30 : decode cX11_hunt 30 = .ok (.iconst (-1), 1) := by decide +kernel
theorem dX11_hunt_31 : decode cX11_hunt 31 = .ok (.ireturn, 1) := by decide +kernel
theorem dX11_hunt_32 : decode cX11_hunt 32 = .ok (.aload_n 0, 1) := by decide +kernel
theorem dX11_hunt_33 : decode cX11_hunt 33 = .ok (.getfield 10, 3) := by decide +kernel
theorem dX11_hunt_36 : decode cX11_hunt 36 = .ok (.getfield 142, 3) := by decide +kernel
theorem dX11_hunt_39 : decode cX11_hunt 39 = .ok (.iload_n 2, 1) := by decide +kernel
theorem dX11_hunt_40 : decode cX11_hunt 40 = .ok (.aaload, 1) := by decide +kernel
theorem dX11_hunt_41 : decode cX11_hunt 41 = .ok (.getfield 149, 3) := by decide +kernel
theorem dX11_hunt_44 : decode cX11_hunt 44 = .ok (.istore 4, 2) := by decide +kernel
theorem dX11_hunt_46 : decode cX11_hunt 46 = .ok (.aload_n 0, 1) := by decide +kernel
theorem dX11_hunt_47 : decode cX11_hunt 47 = .ok (.getfield 10, 3) := by decide +kernel
theorem dX11_hunt_50 : decode cX11_hunt 50 = .ok (.getfield 142, 3) := by decide +kernel
theorem dX11_hunt_53 : decode cX11_hunt 53 = .ok (.iload_n 1, 1) := by decide +kernel
theorem dX11_hunt_54 : decode cX11_hunt 54 = .ok (.aaload, 1) := by decide +kernel
theorem dX11_hunt_55 : decode cX11_hunt 55 = .ok (.getfield 149, 3) := by decide +kernel
theorem dX11_hunt_58 : decode cX11_hunt 58 = .ok (.i2l, 1) := by decide +kernel
theorem dX11_hunt_59 : decode cX11_hunt 59 = .ok (.iload 4, 2) := by decide +kernel
theorem dX11_hunt_61 : decode cX11_hunt 61 = .ok (.i2l, 1) := by decide +kernel
theorem dX11_hunt_62 : decode cX11_hunt 62 = .ok (.invokestatic 212, 3) := by decide +kernel
theorem dX11_hunt_65 : decode cX11_hunt 65 = .ok (.lstore 5, 2) := by decide +kernel
theorem dX11_hunt_67 : decode cX11_hunt 67 = .ok (.lload 5, 2) := by decide +kernel
theorem dX11_hunt_69 : decode cX11_hunt 69 = .ok (.lconst 1, 1) := by decide +kernel
theorem dX11_hunt_70 : decode cX11_hunt 70 = .ok (.lcmp, 1) := by decide +kernel
theorem dX11_hunt_71 : decode cX11_hunt 71 = .ok (.ifCond .le 13, 3) := by decide +kernel
theorem dX11_hunt_74 : decode cX11_hunt 74 = .ok (.iload 4, 2) := by decide +kernel
theorem dX11_hunt_76 : decode cX11_hunt 76 = .ok (.i2l, 1) := by decide +kernel
theorem dX11_hunt_77 : decode cX11_hunt 77 = .ok (.lload 5, 2) := by decide +kernel
theorem dX11_hunt_79 : decode cX11_hunt 79 = .ok (.ldiv, 1) := by decide +kernel
theorem dX11_hunt_80 : decode cX11_hunt 80 = .ok (.l2i, 1) := by decide +kernel
theorem dX11_hunt_81 : decode cX11_hunt 81 = .ok (.goto 5, 3) := by decide +kernel
theorem dX11_hunt_84 : decode cX11_hunt 84 = .ok (.iload 4, 2) := by decide +kernel
theorem dX11_hunt_86 : decode cX11_hunt 86 = .ok (.istore 7, 2) := by decide +kernel
theorem dX11_hunt_88 : decode cX11_hunt 88 = .ok (.iload_n 3, 1) := by decide +kernel
theorem dX11_hunt_89 : decode cX11_hunt 89 = .ok (.ifCond .ne 8, 3) := by decide +kernel
theorem dX11_hunt_92 : decode cX11_hunt 92 = .ok (.iload 7, 2) := by decide +kernel
theorem dX11_hunt_94 : decode cX11_hunt 94 = .ok (.goto 8, 3) := by decide +kernel
theorem dX11_hunt_97 : decode cX11_hunt 97 = .ok (.iload 4, 2) := by decide +kernel
theorem dX11_hunt_99 : decode cX11_hunt 99 = .ok (.iload 7, 2) := by decide +kernel
theorem dX11_hunt_101 : decode cX11_hunt 101 = .ok (.isub, 1) := by decide +kernel
theorem dX11_hunt_102 : decode cX11_hunt 102 = .ok (.ireturn, 1) := by decide +kernel
theorem dX11_planets_0 : decode cX11_planets 0 = .ok (.iload_n 1, 1) := by decide +kernel
theorem dX11_planets_1 : decode cX11_planets 1 = .ok (.iload_n 2, 1) := by decide +kernel
theorem dX11_planets_2 : decode cX11_planets 2 = .ok (.invokestatic 216, 3) := by decide +kernel
theorem dX11_planets_5 : decode cX11_planets 5 = .ok (.ifCond .eq 13, 3) := by decide +kernel
theorem dX11_planets_8 : decode cX11_planets 8 = .ok (.iload_n 3, 1) := by decide +kernel
theorem dX11_planets_9 : decode cX11_planets 9 = .ok (.iconst 1, 1) := by decide +kernel
theorem dX11_planets_10 : decode cX11_planets 10 = .ok (.bipush 12, 2) := by decide +kernel
theorem dX11_planets_12 : decode cX11_planets 12 = .ok (.invokestatic 170, 3) := by decide +kernel
theorem dX11_planets_15 : decode cX11_planets 15 = .ok (.ifCond .ne 5, 3) := by decide +kernel
theorem dX11_planets_18 : decode cX11_planets 18 = .ok (.iconst (-1), 1) := by decide +kernel
theorem dX11_planets_19 : decode cX11_planets 19 = .ok (.ireturn, 1) := by decide +kernel
theorem dX11_planets_20 : decode cX11_planets 20 = .ok (.iload_n 1, 1) := by decide +kernel
theorem dX11_planets_21 : decode cX11_planets 21 = .ok (.iload_n 2, 1) := by decide +kernel
theorem dX11_planets_22 : decode cX11_planets 22 = .ok (.iload_n 3, 1) := by decide +kernel
theorem dX11_planets_23 : decode cX11_planets 23 = .ok (.invokestatic 220, 3) := by decide +kernel
theorem dX11_planets_26 : decode cX11_planets 26 = .ok (.ifCond .eq 11, 3) := by decide +kernel
theorem dX11_planets_29 : decode cX11_planets 29 = .ok (.iload_n 2, 1) := by decide +kernel
theorem dX11_planets_30 : decode cX11_planets 30 = .ok (.iload_n 1, 1) := by decide +kernel
theorem dX11_planets_31 : decode cX11_planets 31 = .ok (.isub, 1) := by decide +kernel
theorem dX11_planets_32 : decode cX11_planets 32 = .ok (.iconst 2, 1) := by decide +kernel
theorem dX11_planets_33 : decode cX11_planets 33 = .ok (.idiv, 1) := by decide +kernel
theorem dX11_planets_34 : decode cX11_planets 34 = .ok (.goto 5, 3) := by decide +kernel
theorem dX11_planets_37 : decode cX11_planets 37 = .ok (.bipush (-4), 2) := by decide +kernel
theorem dX11_planets_39 : decode cX11_planets 39 = .ok (.ireturn, 1) := by decide +kernel
theorem dX11_most_0 : decode cX11_most 0 = .ok (.iload_n 1, 1) := by decide +kernel
theorem dX11_most_1 : decode cX11_most 1 = .ok (.iload_n 2, 1) := by decide +kernel
theorem dX11_most_2 : decode cX11_most 2 = .ok (.invokestatic 216, 3) := by decide +kernel
theorem dX11_most_5 : decode cX11_most 5 = .ok (.ifCond .ne 5, 3) := by decide +kernel
theorem dX11_most_8 : decode cX11_most 8 = .ok (.iconst (-1), 1) := by decide +kernel
theorem dX11_most_9 : decode cX11_most 9 = .ok (.ireturn, 1) := by decide +kernel
theorem dX11_most_10 : decode cX11_most 10 = .ok (.bipush 12, 2) := by decide +kernel
theorem dX11_most_12 : decode cX11_most 12 = .ok (.istore_n 3, 1) := by decide +kernel
theorem dX11_most_13 : decode cX11_most 13 = .ok (.iload_n 3, 1) := by decide +kernel
theorem dX11_most_14 : decode cX11_most 14 = .ok (.iconst 1, 1) := by decide +kernel
theorem dX11_most_15 : decode cX11_most 15 = .ok (.if_icmp .lt 20, 3) := by decide +kernel
theorem dX11_most_18 : decode cX11_most 18 = .ok (.iload_n 1, 1) := by decide +kernel
theorem dX11_most_19 : decode cX11_most 19 = .ok (.iload_n 2, 1) := by decide +kernel
theorem dX11_most_20 : decode cX11_most 20 = .ok (.iload_n 3, 1) := by decide +kernel
theorem dX11_most_21 : decode cX11_most 21 = .ok (.invokestatic 220, 3) := by decide +kernel
theorem dX11_most_24 : decode cX11_most 24 = .ok (.ifCond .eq 5, 3) := by decide +kernel
theorem dX11_most_27 : decode cX11_most 27 = .ok (.iload_n 3, 1) := by decide +kernel
theorem dX11_most_28 : decode cX11_most 28 = .ok (.ireturn, 1) := by decide +kernel
theorem dX11_most_29 : decode cX11_most 29 = .ok (.iinc 3 (-1), 3) := by decide +kernel
theorem dX11_most_32 : decode cX11_most 32 = .ok (.goto (-19), 3) := by decide +kernel
theorem dX11_most_35 : decode cX11_most 35 = .ok (.bipush (-4), 2) := by decide +kernel
theorem dX11_most_37 : decode cX11_most 37 = .ok (.ireturn, 1) := by decide +kernel
theorem dX11_cut_0 : decode cX11_cut 0 = .ok (.iload_n 3, 1) := by decide +kernel
theorem dX11_cut_1 : decode cX11_cut 1 = .ok (.bipush 100, 2) := by decide +kernel
theorem dX11_cut_3 : decode cX11_cut 3 = .ok (.idiv, 1) := by decide +kernel
theorem dX11_cut_4 : decode cX11_cut 4 = .ok (.istore 4, 2) := by decide +kernel
theorem dX11_cut_6 : decode cX11_cut 6 = .ok (.iload_n 3, 1) := by decide +kernel
theorem dX11_cut_7 : decode cX11_cut 7 = .ok (.bipush 100, 2) := by decide +kernel
theorem dX11_cut_9 : decode cX11_cut 9 = .ok (.irem, 1) := by decide +kernel
theorem dX11_cut_10 : decode cX11_cut 10 = .ok (.bipush 8, 2) := by decide +kernel
theorem dX11_cut_12 : decode cX11_cut 12 = .ok (.isub, 1) := by decide +kernel
theorem dX11_cut_13 : decode cX11_cut 13 = .ok (.istore 5, 2) := by decide +kernel
theorem dX11_cut_15 : decode cX11_cut 15 = .ok (.aload_n 0, 1) := by decide +kernel
theorem dX11_cut_16 : decode cX11_cut 16 = .ok (.iload_n 1, 1) := by decide +kernel
theorem dX11_cut_17 : decode cX11_cut 17 = .ok (.invokevirtual 139, 3) := by decide +kernel
theorem dX11_cut_20 : decode cX11_cut 20 = .ok (.ifCond .eq 30, 3) := by decide +kernel
theorem dX11_cut_23 : decode cX11_cut 23 = .ok (.iload_n 2, 1) := by decide +kernel
theorem dX11_cut_24 : decode cX11_cut 24 = .ok (.invokestatic 94, 3) := by decide +kernel
theorem dX11_cut_27 : decode cX11_cut 27 = .ok (.ifCond .eq 23, 3) := by decide +kernel
theorem dX11_cut_30 : decode cX11_cut 30 = .ok (.iload 4, 2) := by decide +kernel
theorem dX11_cut_32 : decode cX11_cut 32 = .ok (.invokestatic 223, 3) := by decide +kernel
theorem dX11_cut_35 : decode cX11_cut 35 = .ok (.ifCond .eq 15, 3) := by decide +kernel
theorem dX11_cut_38 : decode cX11_cut 38 = .ok (.iload 5, 2) := by decide +kernel
theorem dX11_cut_40 : decode cX11_cut 40 = .ok (.bipush (-8), 2) := by decide +kernel
theorem dX11_cut_42 : decode cX11_cut 42 = .ok (.bipush 8, 2) := by decide +kernel
theorem dX11_cut_44 : decode cX11_cut 44 = .ok (.invokestatic 170, 3) := by decide +kernel
theorem dX11_cut_47 : decode cX11_cut 47 = .ok (.ifCond .ne 5, 3) := by decide +kernel
theorem dX11_cut_50 : decode cX11_cut 50 = .ok (.iconst (-1), 1) := by decide +kernel
theorem dX11_cut_51 : decode cX11_cut 51 = .ok (.ireturn, 1) := by decide +kernel
theorem dX11_cut_52 : decode cX11_cut 52 = .ok (.aload_n 0, 1) := by decide +kernel
theorem dX11_cut_53 : decode cX11_cut 53 = .ok (.getfield 44, 3) := by decide +kernel
theorem dX11_cut_56 : decode cX11_cut 56 = .ok (.iload_n 2, 1) := by decide +kernel
theorem dX11_cut_57 : decode cX11_cut 57 = .ok (.aaload, 1) := by decide +kernel
theorem dX11_cut_58 : decode cX11_cut 58 = .ok (.invokevirtual 226, 3) := by decide +kernel
theorem dX11_cut_61 : decode cX11_cut 61 = .ok (.istore 6, 2) := by decide +kernel
theorem dX11_cut_63 : decode cX11_cut 63 = .ok (.iload 6, 2) := by decide +kernel
theorem dX11_cut_65 : decode cX11_cut 65 = .ok (.ifCond .eq 6, 3) := by decide +kernel
theorem dX11_cut_68 : decode cX11_cut 68 = .ok (.iload 6, 2) := by decide +kernel
theorem dX11_cut_70 : decode cX11_cut 70 = .ok (.ireturn, 1) := by decide +kernel
theorem dX11_cut_71 : decode cX11_cut 71 = .ok (.aload_n 0, 1) := by decide +kernel
theorem dX11_cut_72 : decode cX11_cut 72 = .ok (.getfield 10, 3) := by decide +kernel
theorem dX11_cut_75 : decode cX11_cut 75 = .ok (.getfield 142, 3) := by decide +kernel
theorem dX11_cut_78 : decode cX11_cut 78 = .ok (.iload_n 1, 1) := by decide +kernel
theorem dX11_cut_79 : decode cX11_cut 79 = .ok (.aaload, 1) := by decide +kernel
theorem dX11_cut_80 : decode cX11_cut 80 = .ok (.aload_n 0, 1) := by decide +kernel
theorem dX11_cut_81 : decode cX11_cut 81 = .ok (.getfield 44, 3) := by decide +kernel
theorem dX11_cut_84 : decode cX11_cut 84 = .ok (.iload_n 2, 1) := by decide +kernel
theorem dX11_cut_85 : decode cX11_cut 85 = .ok (.aaload, 1) := by decide +kernel
theorem dX11_cut_86 : decode cX11_cut 86 = .ok (.getfield 102, 3) := by decide +kernel
theorem dX11_cut_89 : decode cX11_cut 89 = .ok (.iload 5, 2) := by decide +kernel
theorem dX11_cut_91 : decode cX11_cut 91 = .ok (.iload 4, 2) := by decide +kernel
theorem dX11_cut_93 : decode cX11_cut 93 = .ok (.invokevirtual 229, 3) := by decide +kernel
theorem dX11_cut_96 : decode cX11_cut 96 = .ok (.aload_n 0, 1) := by decide +kernel
theorem dX11_cut_97 : decode cX11_cut 97 = .ok (.getfield 10, 3) := by decide +kernel
theorem dX11_cut_100 : decode cX11_cut 100 = .ok (.getfield 142, 3) := by decide +kernel
theorem dX11_cut_103 : decode cX11_cut 103 = .ok (.iload_n 1, 1) := by decide +kernel
theorem dX11_cut_104 : decode cX11_cut 104 = .ok (.aaload, 1) := by decide +kernel
theorem dX11_cut_105 : decode cX11_cut 105 = .ok (.invokevirtual 161, 3) := by decide +kernel
theorem dX11_cut_108 : decode cX11_cut 108 = .ok (.ireturn, 1) := by decide +kernel
theorem dX11_off_0 : decode cX11_off 0 = .ok (.aload_n 0, 1) := by decide +kernel
theorem dX11_off_1 : decode cX11_off 1 = .ok (.iload_n 1, 1) := by decide +kernel
theorem dX11_off_2 : decode cX11_off 2 = .ok (.invokevirtual 177, 3) := by decide +kernel
theorem dX11_off_5 : decode cX11_off 5 = .ok (.ifCond .eq 13, 3) := by decide +kernel
theorem dX11_off_8 : decode cX11_off 8 = .ok (.iload_n 2, 1) := by decide +kernel
theorem dX11_off_9 : decode cX11_off 9 = .ok (.iconst 0, 1) := by decide +kernel
theorem dX11_off_10 : decode cX11_off 10 = .ok (.bipush 15, 2) := by decide +kernel
theorem dX11_off_12 : decode cX11_off 12 = .ok (.invokestatic 170, 3) := by decide +kernel
theorem dX11_off_15 : decode cX11_off 15 = .ok (.ifCond .ne 6, 3) := by decide +kernel
theorem dX11_off_18 : decode cX11_off 18 = .ok (.ldc 233, 2) := by decide +kernel
theorem dX11_off_20 : decode cX11_off 20 = .ok (.ireturn, 1) := by decide +kernel
theorem dX11_off_21 : decode cX11_off 21 = .ok (.aload_n 0, 1) := by decide +kernel
theorem dX11_off_22 : decode cX11_off 22 = .ok (.iload_n 1, 1) := by decide +kernel
theorem dX11_off_23 : decode cX11_off 23 = .ok (.invokevirtual 234, 3) := by decide +kernel
theorem dX11_off_26 : decode cX11_off 26 = .ok (.aload_n 0, 1) := by decide +kernel
theorem dX11_off_27 : decode cX11_off 27 = .ok (.getfield 82, 3) := by decide +kernel
theorem dX11_off_30 : decode cX11_off 30 = .ok (.getfield 238, 3) := by decide +kernel
theorem dX11_off_33 : decode cX11_off 33 = .ok (.iload_n 2, 1) := by decide +kernel
theorem dX11_off_34 : decode cX11_off 34 = .ok (.iaload, 1) := by decide +kernel
theorem dX11_off_35 : decode cX11_off 35 = .ok (.ireturn, 1) := by decide +kernel
theorem dX11_touch_0 : decode cX11_touch 0 = .ok (.aload_n 0, 1) := by decide +kernel
theorem dX11_touch_1 : decode cX11_touch 1 = .ok (.iload_n 1, 1) := by decide +kernel
theorem dX11_touch_2 : decode cX11_touch 2 = .ok (.invokevirtual 177, 3) := by decide +kernel
theorem dX11_touch_5 : decode cX11_touch 5 = .ok (.ifCond .eq 13, 3) := by decide +kernel
theorem dX11_touch_8 : decode cX11_touch 8 = .ok (.iload_n 2, 1) := by decide +kernel
theorem dX11_touch_9 : decode cX11_touch 9 = .ok (.iconst 0, 1) := by decide +kernel
theorem dX11_touch_10 : decode cX11_touch 10 = .ok (.bipush 15, 2) := by decide +kernel
theorem dX11_touch_12 : decode cX11_touch 12 = .ok (.invokestatic 170, 3) := by decide +kernel
theorem dX11_touch_15 : decode cX11_touch 15 = .ok (.ifCond .ne 5, 3) := by decide +kernel
theorem dX11_touch_18 : decode cX11_touch 18 = .ok (.iconst (-1), 1) := by decide +kernel
theorem dX11_touch_19 : decode cX11_touch 19 = .ok (.ireturn, 1) := by decide +kernel
theorem dX11_touch_20 : decode cX11_touch 20 = .ok (.aload_n 0, 1) := by decide +kernel
theorem dX11_touch_21 : decode cX11_touch 21 = .ok (.iload_n 1, 1) := by decide +kernel
theorem dX11_touch_22 : decode cX11_touch 22 = .ok (.invokevirtual 234, 3) := by decide +kernel
theorem dX11_touch_25 : decode cX11_touch 25 = .ok (.aload_n 0, 1) := by decide +kernel
theorem dX11_touch_26 : decode cX11_touch 26 = .ok (.getfield 82, 3) := by decide +kernel
theorem dX11_touch_29 : decode cX11_touch 29 = .ok (.iload_n 2, 1) := by decide +kernel
theorem dX11_touch_30 : decode cX11_touch 30 = .ok (.invokevirtual 241, 3) := by decide +kernel
theorem dX11_touch_33 : decode cX11_touch 33 = .ok (.ireturn, 1) := by decide +kernel
theorem dX11_jam_0 : decode cX11_jam 0 = .ok (.aload_n 0, 1) := by decide +kernel
theorem dX11_jam_1 : decode cX11_jam 1 = .ok (.iload_n 1, 1) := by decide +kernel
theorem dX11_jam_2 : decode cX11_jam 2 = .ok (.invokevirtual 177, 3) := by decide +kernel
theorem dX11_jam_5 : decode cX11_jam 5 = .ok (.ifCond .ne 5, 3) := by decide +kernel
theorem dX11_jam_8 : decode cX11_jam 8 = .ok (.iconst (-1), 1) := by decide +kernel
theorem dX11_jam_9 : decode cX11_jam 9 = .ok (.ireturn, 1) := by decide +kernel
theorem dX11_jam_10 : decode cX11_jam 10 = .ok (.aload_n 0, 1) := by decide +kernel
theorem dX11_jam_11 : decode cX11_jam 11 = .ok (.iload_n 1, 1) := by decide +kernel
theorem dX11_jam_12 : decode cX11_jam 12 = .ok (.invokevirtual 234, 3) := by decide +kernel
theorem dX11_jam_15 : decode cX11_jam 15 = .ok (.aload_n 0, 1) := by decide +kernel
theorem dX11_jam_16 : decode cX11_jam 16 = .ok (.getfield 82, 3) := by decide +kernel
theorem dX11_jam_19 : decode cX11_jam 19 = .ok (.invokevirtual 245, 3) := by decide +kernel
theorem dX11_jam_22 : decode cX11_jam 22 = .ok (.ireturn, 1) := by decide +kernel
theorem dX11_gap_0 : decode cX11_gap 0 = .ok (.aload_n 0, 1) := by decide +kernel
theorem dX11_gap_1 : decode cX11_gap 1 = .ok (.iload_n 1, 1) := by decide +kernel
theorem dX11_gap_2 : decode cX11_gap 2 = .ok (.invokevirtual 177, 3) := by decide +kernel
theorem dX11_gap_5 : decode cX11_gap 5 = .ok (.ifCond .ne 6, 3) := by decide +kernel
theorem dX11_gap_8 : decode cX11_gap 8 = .ok (.ldc 233, 2) := by decide +kernel
theorem dX11_gap_10 : decode cX11_gap 10 = .ok (.ireturn, 1) := by decide +kernel
theorem dX11_gap_11 : decode cX11_gap 11 = .ok (.aload_n 0, 1) := by decide +kernel
theorem dX11_gap_12 : decode cX11_gap 12 = .ok (.iload_n 1, 1) := by decide +kernel
theorem dX11_gap_13 : decode cX11_gap 13 = .ok (.invokevirtual 234, 3) := by decide +kernel
theorem dX11_gap_16 : decode cX11_gap 16 = .ok (.aload_n 0, 1) := by decide +kernel
theorem dX11_gap_17 : decode cX11_gap 17 = .ok (.getfield 82, 3) := by decide +kernel
theorem dX11_gap_20 : decode cX11_gap 20 = .ok (.invokevirtual 248, 3) := by decide +kernel
theorem dX11_gap_23 : decode cX11_gap 23 = .ok (.ireturn, 1) := by decide +kernel
theorem dX11_even_0 : decode cX11_even 0 = .ok (.aload_n 0, 1) := by decide +kernel
theorem dX11_even_1 : decode cX11_even 1 = .ok (.iload_n 1, 1) := by decide +kernel
theorem dX11_even_2 : decode cX11_even 2 = .ok (.invokevirtual 177, 3) := by decide +kernel
theorem dX11_even_5 : decode cX11_even 5 = .ok (.ifCond .ne 5, 3) := by decide +kernel
theorem dX11_even_8 : decode cX11_even 8 = .ok (.iconst (-1), 1) := by decide +kernel
theorem dX11_even_9 : decode cX11_even 9 = .ok (.ireturn, 1) := by decide +kernel
theorem dX11_even_10 : decode cX11_even 10 = .ok (.aload_n 0, 1) := by decide +kernel
theorem dX11_even_11 : decode cX11_even 11 = .ok (.iload_n 1, 1) := by decide +kernel
theorem dX11_even_12 : decode cX11_even 12 = .ok (.invokevirtual 234, 3) := by decide +kernel
theorem dX11_even_15 : decode cX11_even 15 = .ok (.aload_n 0, 1) := by decide +kernel
theorem dX11_even_16 : decode cX11_even 16 = .ok (.getfield 82, 3) := by decide +kernel
theorem dX11_even_19 : decode cX11_even 19 = .ok (.invokevirtual 251, 3) := by decide +kernel
theorem dX11_even_22 : decode cX11_even 22 = .ok (.ireturn, 1) := by decide +kernel
theorem dX11_room_0 : decode cX11_room 0 = .ok (.aload_n 0, 1) := by decide +kernel
theorem dX11_room_1 : decode cX11_room 1 = .ok (.iload_n 1, 1) := by decide +kernel
theorem dX11_room_2 : decode cX11_room 2 = .ok (.invokevirtual 177, 3) := by decide +kernel
theorem dX11_room_5 : decode cX11_room 5 = .ok (.ifCond .eq 13, 3) := by decide +kernel
theorem dX11_room_8 : decode cX11_room 8 = .ok (.iload_n 2, 1) := by decide +kernel
theorem dX11_room_9 : decode cX11_room 9 = .ok (.iconst 0, 1) := by decide +kernel
theorem dX11_room_10 : decode cX11_room 10 = .ok (.bipush 62, 2) := by decide +kernel
theorem dX11_room_12 : decode cX11_room 12 = .ok (.invokestatic 170, 3) := by decide +kernel
theorem dX11_room_15 : decode cX11_room 15 = .ok (.ifCond .ne 5, 3) := by decide +kernel
theorem dX11_room_18 : decode cX11_room 18 = .ok (.iconst (-1), 1) := by decide +kernel
theorem dX11_room_19 : decode cX11_room 19 = .ok (.ireturn, 1) := by decide +kernel
theorem dX11_room_20 : decode cX11_room 20 = .ok (.aload_n 0, 1) := by decide +kernel
theorem dX11_room_21 : decode cX11_room 21 = .ok (.getfield 10, 3) := by decide +kernel
theorem dX11_room_24 : decode cX11_room 24 = .ok (.getfield 186, 3) := by decide +kernel
theorem dX11_room_27 : decode cX11_room 27 = .ok (.iload_n 1, 1) := by decide +kernel
theorem dX11_room_28 : decode cX11_room 28 = .ok (.iaload, 1) := by decide +kernel
theorem dX11_room_29 : decode cX11_room 29 = .ok (.istore_n 3, 1) := by decide +kernel
theorem dX11_room_30 : decode cX11_room 30 = .ok (.aload_n 0, 1) := by decide +kernel
theorem dX11_room_31 : decode cX11_room 31 = .ok (.getfield 10, 3) := by decide +kernel
theorem dX11_room_34 : decode cX11_room 34 = .ok (.getfield 186, 3) := by decide +kernel
theorem dX11_room_37 : decode cX11_room 37 = .ok (.iload_n 1, 1) := by decide +kernel
theorem dX11_room_38 : decode cX11_room 38 = .ok (.iload_n 2, 1) := by decide +kernel
theorem dX11_room_39 : decode cX11_room 39 = .ok (.iastore, 1) := by decide +kernel
theorem dX11_room_40 : decode cX11_room 40 = .ok (.iload_n 3, 1) := by decide +kernel
theorem dX11_room_41 : decode cX11_room 41 = .ok (.ireturn, 1) := by decide +kernel
theorem dX11_wear_0 : decode cX11_wear 0 = .ok (.aload_n 0, 1) := by decide +kernel
theorem dX11_wear_1 : decode cX11_wear 1 = .ok (.iload_n 1, 1) := by decide +kernel
theorem dX11_wear_2 : decode cX11_wear 2 = .ok (.invokevirtual 177, 3) := by decide +kernel
theorem dX11_wear_5 : decode cX11_wear 5 = .ok (.ifCond .eq 20, 3) := by decide +kernel
theorem dX11_wear_8 : decode cX11_wear 8 = .ok (.iload_n 2, 1) := by decide +kernel
theorem dX11_wear_9 : decode cX11_wear 9 = .ok (.invokestatic 254, 3) := by decide +kernel
theorem dX11_wear_12 : decode cX11_wear 12 = .ok (.ifCond .eq 13, 3) := by decide +kernel
theorem dX11_wear_15 : decode cX11_wear 15 = .ok (.iload_n 3, 1) := by decide +kernel
theorem dX11_wear_16 : decode cX11_wear 16 = .ok (.iconst 1, 1) := by decide +kernel
theorem dX11_wear_17 : decode cX11_wear 17 = .ok (.bipush 100, 2) := by decide +kernel
theorem dX11_wear_19 : decode cX11_wear 19 = .ok (.invokestatic 170, 3) := by decide +kernel
theorem dX11_wear_22 : decode cX11_wear 22 = .ok (.ifCond .ne 5, 3) := by decide +kernel
theorem dX11_wear_25 : decode cX11_wear 25 = .ok (.iconst (-1), 1) := by decide +kernel
theorem dX11_wear_26 : decode cX11_wear 26 = .ok (.ireturn, 1) := by decide +kernel
theorem dX11_wear_27 : decode cX11_wear 27 = .ok (.aload_n 0, 1) := by decide +kernel
theorem dX11_wear_28 : decode cX11_wear 28 = .ok (.iload_n 1, 1) := by decide +kernel
theorem dX11_wear_29 : decode cX11_wear 29 = .ok (.invokevirtual 234, 3) := by decide +kernel
theorem dX11_wear_32 : decode cX11_wear 32 = .ok (.iconst 0, 1) := by decide +kernel
theorem dX11_wear_33 : decode cX11_wear 33 = .ok (.istore 4, 2) := by decide +kernel
theorem dX11_wear_35 : decode cX11_wear 35 = .ok (.iload 4, 2) := by decide +kernel
theorem dX11_wear_37 : decode cX11_wear 37 = .ok (.iload_n 3, 1) := by decide +kernel
theorem dX11_wear_38 : decode cX11_wear 38 = .ok (.if_icmp .ge 17, 3) := by decide +kernel
theorem dX11_wear_41 : decode cX11_wear 41 = .ok (.aload_n 0, 1) := by decide +kernel
theorem dX11_wear_42 : decode cX11_wear 42 = .ok (.getfield 82, 3) := by decide +kernel
theorem dX11_wear_45 : decode cX11_wear 45 = .ok (.iload_n 2, 1) := by decide +kernel
theorem dX11_wear_46 : decode cX11_wear 46 = .ok (.invokevirtual 257, 3) := by decide +kernel
theorem dX11_wear_49 : decode cX11_wear 49 = .ok (.iinc 4 1, 3) := by decide +kernel
theorem dX11_wear_52 : decode cX11_wear 52 = .ok (.goto (-17), 3) := by decide +kernel
theorem dX11_wear_55 : decode cX11_wear 55 = .ok (.aload_n 0, 1) := by decide +kernel
theorem dX11_wear_56 : decode cX11_wear 56 = .ok (.getfield 82, 3) := by decide +kernel
theorem dX11_wear_59 : decode cX11_wear 59 = .ok (.invokevirtual 260, 3) := by decide +kernel
theorem dX11_wear_62 : decode cX11_wear 62 = .ok (.aload_n 0, 1) := by decide +kernel
theorem dX11_wear_63 : decode cX11_wear 63 = .ok (.getfield 82, 3) := by decide +kernel
theorem dX11_wear_66 : decode cX11_wear 66 = .ok (.invokevirtual 251, 3) := by decide +kernel
theorem dX11_wear_69 : decode cX11_wear 69 = .ok (.ireturn, 1) := by decide +kernel
theorem dX11_until_0 : decode cX11_until 0 = .ok (.aload_n 0, 1) := by decide +kernel
theorem dX11_until_1 : decode cX11_until 1 = .ok (.iload_n 1, 1) := by decide +kernel
theorem dX11_until_2 : decode cX11_until 2 = .ok (.invokevirtual 177, 3) := by decide +kernel
theorem dX11_until_5 : decode cX11_until 5 = .ok (.ifCond .eq 20, 3) := by decide +kernel
theorem dX11_until_8 : decode cX11_until 8 = .ok (.iload_n 2, 1) := by decide +kernel
theorem dX11_until_9 : decode cX11_until 9 = .ok (.invokestatic 254, 3) := by decide +kernel
theorem dX11_until_12 : decode cX11_until 12 = .ok (.ifCond .eq 13, 3) := by decide +kernel
theorem dX11_until_15 : decode cX11_until 15 = .ok (.iload_n 3, 1) := by decide +kernel
theorem dX11_until_16 : decode cX11_until 16 = .ok (.iconst 1, 1) := by decide +kernel
theorem dX11_until_17 : decode cX11_until 17 = .ok (.bipush 62, 2) := by decide +kernel
theorem dX11_until_19 : decode cX11_until 19 = .ok (.invokestatic 170, 3) := by decide +kernel
theorem dX11_until_22 : decode cX11_until 22 = .ok (.ifCond .ne 5, 3) := by decide +kernel
theorem dX11_until_25 : decode cX11_until 25 = .ok (.iconst (-1), 1) := by decide +kernel
theorem dX11_until_26 : decode cX11_until 26 = .ok (.ireturn, 1) := by decide +kernel
theorem dX11_until_27 : decode cX11_until 27 = .ok (.aload_n 0, 1) := by decide +kernel
theorem dX11_until_28 : decode cX11_until 28 = .ok (.iload_n 1, 1) := by decide +kernel
theorem dX11_until_29 : decode cX11_until 29 = .ok (.invokevirtual 263, 3) := by decide +kernel
theorem dX11_until_32 : decode cX11_until 32 = .ok (.iconst 1, 1) := by decide +kernel
theorem dX11_until_33 : decode cX11_until 33 = .ok (.istore 4, 2) := by decide +kernel
theorem dX11_until_35 : decode cX11_until 35 = .ok (.iload 4, 2) := by decide +kernel
theorem dX11_until_37 : decode cX11_until 37 = .ok (.sipush 200, 3) := by decide +kernel
theorem dX11_until_40 : decode cX11_until 40 = .ok (.if_icmp .gt 38, 3) := by decide +kernel
theorem dX11_until_43 : decode cX11_until 43 = .ok (.aload_n 0, 1) := by decide +kernel
theorem dX11_until_44 : decode cX11_until 44 = .ok (.getfield 82, 3) := by decide +kernel
theorem dX11_until_47 : decode cX11_until 47 = .ok (.iload_n 2, 1) := by decide +kernel
theorem dX11_until_48 : decode cX11_until 48 = .ok (.invokevirtual 257, 3) := by decide +kernel
theorem dX11_until_51 : decode cX11_until 51 = .ok (.aload_n 0, 1) := by decide +kernel
theorem dX11_until_52 : decode cX11_until 52 = .ok (.getfield 82, 3) := by decide +kernel
theorem dX11_until_55 : decode cX11_until 55 = .ok (.invokevirtual 260, 3) := by decide +kernel
theorem dX11_until_58 : decode cX11_until 58 = .ok (.aload_n 0, 1) := by decide +kernel
theorem dX11_until_59 : decode cX11_until 59 = .ok (.getfield 82, 3) := by decide +kernel
theorem dX11_until_62 : decode cX11_until 62 = .ok (.invokevirtual 251, 3) := by decide +kernel
theorem dX11_until_65 : decode cX11_until 65 = .ok (.iload_n 3, 1) := by decide +kernel
theorem dX11_until_66 : decode cX11_until 66 = .ok (.if_icmp .lt 6, 3) := by decide +kernel
theorem dX11_until_69 : decode cX11_until 69 = .ok (.iload 4, 2) := by decide +kernel
theorem dX11_until_71 : decode cX11_until 71 = .ok (.ireturn, 1) := by decide +kernel
theorem dX11_until_72 : decode cX11_until 72 = .ok (.iinc 4 1, 3) := by decide +kernel
theorem dX11_until_75 : decode cX11_until 75 = .ok (.goto (-40), 3) := by decide +kernel
theorem dX11_until_78 : decode cX11_until 78 = .ok (.bipush (-4), 2) := by decide +kernel
theorem dX11_until_80 : decode cX11_until 80 = .ok (.ireturn, 1) := by decide +kernel
theorem dX11_loud_0 : decode cX11_loud 0 = .ok (.aload_n 0, 1) := by decide +kernel
theorem dX11_loud_1 : decode cX11_loud 1 = .ok (.iload_n 1, 1) := by decide +kernel
theorem dX11_loud_2 : decode cX11_loud 2 = .ok (.invokevirtual 177, 3) := by decide +kernel
theorem dX11_loud_5 : decode cX11_loud 5 = .ok (.ifCond .eq 13, 3) := by decide +kernel
theorem dX11_loud_8 : decode cX11_loud 8 = .ok (.iload_n 2, 1) := by decide +kernel
theorem dX11_loud_9 : decode cX11_loud 9 = .ok (.iconst 0, 1) := by decide +kernel
theorem dX11_loud_10 : decode cX11_loud 10 = .ok (.bipush 8, 2) := by decide +kernel
theorem dX11_loud_12 : decode cX11_loud 12 = .ok (.invokestatic 170, 3) := by decide +kernel
theorem dX11_loud_15 : decode cX11_loud 15 = .ok (.ifCond .ne 7, 3) := by decide +kernel
theorem dX11_loud_18 : decode cX11_loud 18 = .ok (.ldc2_w 266, 3) := by decide +kernel
theorem dX11_loud_21 : decode cX11_loud 21 = .ok (.lreturn, 1) := by decide +kernel
theorem dX11_loud_22 : decode cX11_loud 22 = .ok (.aload_n 0, 1) := by decide +kernel
theorem dX11_loud_23 : decode cX11_loud 23 = .ok (.iload_n 1, 1) := by decide +kernel
theorem dX11_loud_24 : decode cX11_loud 24 = .ok (.invokevirtual 234, 3) := by decide +kernel
theorem dX11_loud_27 : decode cX11_loud 27 = .ok (.aload_n 0, 1) := by decide +kernel
theorem dX11_loud_28 : decode cX11_loud 28 = .ok (.getfield 82, 3) := by decide +kernel
theorem dX11_loud_31 : decode cX11_loud 31 = .ok (.iload_n 2, 1) := by decide +kernel
theorem dX11_loud_32 : decode cX11_loud 32 = .ok (.invokevirtual 268, 3) := by decide +kernel
theorem dX11_loud_35 : decode cX11_loud 35 = .ok (.lreturn, 1) := by decide +kernel
theorem dX11_whine_0 : decode cX11_whine 0 = .ok (.aload_n 0, 1) := by decide +kernel
theorem dX11_whine_1 : decode cX11_whine 1 = .ok (.iload_n 1, 1) := by decide +kernel
theorem dX11_whine_2 : decode cX11_whine 2 = .ok (.invokevirtual 177, 3) := by decide +kernel
theorem dX11_whine_5 : decode cX11_whine 5 = .ok (.ifCond .ne 5, 3) := by decide +kernel
theorem dX11_whine_8 : decode cX11_whine 8 = .ok (.iconst (-1), 1) := by decide +kernel
theorem dX11_whine_9 : decode cX11_whine 9 = .ok (.ireturn, 1) := by decide +kernel
theorem dX11_whine_10 : decode cX11_whine 10 = .ok (.aload_n 0, 1) := by decide +kernel
theorem dX11_whine_11 : decode cX11_whine 11 = .ok (.iload_n 1, 1) := by decide +kernel
theorem dX11_whine_12 : decode cX11_whine 12 = .ok (.invokevirtual 234, 3) := by decide +kernel
theorem dX11_whine_15 : decode cX11_whine 15 = .ok (.aload_n 0, 1) := by decide +kernel
theorem dX11_whine_16 : decode cX11_whine 16 = .ok (.getfield 82, 3) := by decide +kernel
theorem dX11_whine_19 : decode cX11_whine 19 = .ok (.invokevirtual 271, 3) := by decide +kernel
theorem dX11_whine_22 : decode cX11_whine 22 = .ok (.ireturn, 1) := by decide +kernel
theorem dX11_pair_0 : decode cX11_pair 0 = .ok (.iload_n 1, 1) := by decide +kernel
theorem dX11_pair_1 : decode cX11_pair 1 = .ok (.iconst 0, 1) := by decide +kernel
theorem dX11_pair_2 : decode cX11_pair 2 = .ok (.bipush 99, 2) := by decide +kernel
theorem dX11_pair_4 : decode cX11_pair 4 = .ok (.invokestatic 170, 3) := by decide +kernel
theorem dX11_pair_7 : decode cX11_pair 7 = .ok (.ifCond .eq 13, 3) := by decide +kernel
theorem dX11_pair_10 : decode cX11_pair 10 = .ok (.iload_n 2, 1) := by decide +kernel
theorem dX11_pair_11 : decode cX11_pair 11 = .ok (.iconst 1, 1) := by decide +kernel
theorem dX11_pair_12 : decode cX11_pair 12 = .ok (.bipush 99, 2) := by decide +kernel
theorem dX11_pair_14 : decode cX11_pair 14 = .ok (.invokestatic 170, 3) := by decide +kernel
theorem dX11_pair_17 : decode cX11_pair 17 = .ok (.ifCond .ne 5, 3) := by decide +kernel
theorem dX11_pair_20 : decode cX11_pair 20 = .ok (.iconst (-1), 1) := by decide +kernel
theorem dX11_pair_21 : decode cX11_pair 21 = .ok (.ireturn, 1) := by decide +kernel
theorem dX11_pair_22 : decode cX11_pair 22 = .ok (.aload_n 0, 1) := by decide +kernel
theorem dX11_pair_23 : decode cX11_pair 23 = .ok (.getfield 22, 3) := by decide +kernel
theorem dX11_pair_26 : decode cX11_pair 26 = .ok (.getfield 274, 3) := by decide +kernel
theorem dX11_pair_29 : decode cX11_pair 29 = .ok (.bipush 6, 2) := by decide +kernel
theorem dX11_pair_31 : decode cX11_pair 31 = .ok (.if_icmp .lt 6, 3) := by decide +kernel
theorem dX11_pair_34 : decode cX11_pair 34 = .ok (.bipush (-2), 2) := by decide +kernel
theorem dX11_pair_36 : decode cX11_pair 36 = .ok (.ireturn, 1) := by decide +kernel
theorem dX11_pair_37 : decode cX11_pair 37 = .ok (.aload_n 0, 1) := by decide +kernel
theorem dX11_pair_38 : decode cX11_pair 38 = .ok (.getfield 22, 3) := by decide +kernel
theorem dX11_pair_41 : decode cX11_pair 41 = .ok (.iload_n 1, 1) := by decide +kernel
theorem dX11_pair_42 : decode cX11_pair 42 = .ok (.iload_n 2, 1) := by decide +kernel
theorem dX11_pair_43 : decode cX11_pair 43 = .ok (.invokevirtual 275, 3) := by decide +kernel
theorem dX11_pair_46 : decode cX11_pair 46 = .ok (.aload_n 0, 1) := by decide +kernel
theorem dX11_pair_47 : decode cX11_pair 47 = .ok (.getfield 22, 3) := by decide +kernel
theorem dX11_pair_50 : decode cX11_pair 50 = .ok (.getfield 274, 3) := by decide +kernel
theorem dX11_pair_53 : decode cX11_pair 53 = .ok (.ireturn, 1) := by decide +kernel
theorem dX11_clear_0 : decode cX11_clear 0 = .ok (.aload_n 0, 1) := by decide +kernel
theorem dX11_clear_1 : decode cX11_clear 1 = .ok (.getfield 22, 3) := by decide +kernel
theorem dX11_clear_4 : decode cX11_clear 4 = .ok (.getfield 274, 3) := by decide +kernel
theorem dX11_clear_7 : decode cX11_clear 7 = .ok (.istore_n 1, 1) := by decide +kernel
theorem dX11_clear_8 : decode cX11_clear 8 = .ok (.aload_n 0, 1) := by decide +kernel
theorem dX11_clear_9 : decode cX11_clear 9 = .ok (.getfield 22, 3) := by decide +kernel
theorem dX11_clear_12 : decode cX11_clear 12 = .ok (.iconst 0, 1) := by decide +kernel
theorem dX11_clear_13 : decode cX11_clear 13 = .ok (.putfield 274, 3) := by decide +kernel
theorem dX11_clear_16 : decode cX11_clear 16 = .ok (.iload_n 1, 1) := by decide +kernel
theorem dX11_clear_17 : decode cX11_clear 17 = .ok (.ireturn, 1) := by decide +kernel
theorem dX11_pushed_0 : decode cX11_pushed 0 = .ok (.iload_n 1, 1) := by decide +kernel
theorem dX11_pushed_1 : decode cX11_pushed 1 = .ok (.invokestatic 279, 3) := by decide +kernel
theorem dX11_pushed_4 : decode cX11_pushed 4 = .ok (.ifCond .ne 5, 3) := by decide +kernel
theorem dX11_pushed_7 : decode cX11_pushed 7 = .ok (.iconst (-1), 1) := by decide +kernel
theorem dX11_pushed_8 : decode cX11_pushed 8 = .ok (.ireturn, 1) := by decide +kernel
theorem dX11_pushed_9 : decode cX11_pushed 9 = .ok (.aload_n 0, 1) := by decide +kernel
theorem dX11_pushed_10 : decode cX11_pushed 10 = .ok (.getfield 22, 3) := by decide +kernel
theorem dX11_pushed_13 : decode cX11_pushed 13 = .ok (.iload_n 1, 1) := by decide +kernel
theorem dX11_pushed_14 : decode cX11_pushed 14 = .ok (.invokevirtual 282, 3) := by decide +kernel
theorem dX11_pushed_17 : decode cX11_pushed 17 = .ok (.ireturn, 1) := by decide +kernel
theorem dX11_share_0 : decode cX11_share 0 = .ok (.iload_n 1, 1) := by decide +kernel
theorem dX11_share_1 : decode cX11_share 1 = .ok (.iconst 0, 1) := by decide +kernel
theorem dX11_share_2 : decode cX11_share 2 = .ok (.aload_n 0, 1) := by decide +kernel
theorem dX11_share_3 : decode cX11_share 3 = .ok (.getfield 22, 3) := by decide +kernel
theorem dX11_share_6 : decode cX11_share 6 = .ok (.getfield 274, 3) := by decide +kernel
theorem dX11_share_9 : decode cX11_share 9 = .ok (.iconst 1, 1) := by decide +kernel
theorem dX11_share_10 : decode cX11_share 10 = .ok (.isub, 1) := by decide +kernel
theorem dX11_share_11 : decode cX11_share 11 = .ok (.invokestatic 170, 3) := by decide +kernel
theorem dX11_share_14 : decode cX11_share 14 = .ok (.ifCond .eq 10, 3) := by decide +kernel
theorem dX11_share_17 : decode cX11_share 17 = .ok (.iload_n 2, 1) := by decide +kernel
theorem dX11_share_18 : decode cX11_share 18 = .ok (.invokestatic 279, 3) := by decide +kernel
theorem dX11_share_21 : decode cX11_share 21 = .ok (.ifCond .ne 5, 3) := by decide +kernel
theorem dX11_share_24 : decode cX11_share 24 = .ok (.iconst (-1), 1) := by decide +kernel
theorem dX11_share_25 : decode cX11_share 25 = .ok (.ireturn, 1) := by decide +kernel
theorem dX11_share_26 : decode cX11_share 26 = .ok (.aload_n 0, 1) := by decide +kernel
theorem dX11_share_27 : decode cX11_share 27 = .ok (.getfield 22, 3) := by decide +kernel
theorem dX11_share_30 : decode cX11_share 30 = .ok (.iload_n 2, 1) := by decide +kernel
theorem dX11_share_31 : decode cX11_share 31 = .ok (.invokevirtual 282, 3) := by decide +kernel
theorem dX11_share_34 : decode cX11_share 34 = .ok (.istore_n 3, 1) := by decide +kernel
theorem dX11_share_35 : decode cX11_share 35 = .ok (.iload_n 3, 1) := by decide +kernel
theorem dX11_share_36 : decode cX11_share 36 = .ok (.bipush (-4), 2) := by decide +kernel
theorem dX11_share_38 : decode cX11_share 38 = .ok (.if_icmp .ne 8, 3) := by decide +kernel
theorem dX11_share_41 : decode cX11_share 41 = .ok (.bipush (-3), 2) := by decide +kernel
theorem dX11_share_43 : decode cX11_share 43 = .ok (.goto 12, 3) := by decide +kernel
theorem dX11_share_46 : decode cX11_share 46 = .ok (.aload_n 0, 1) := by decide +kernel
theorem dX11_share_47 : decode cX11_share 47 = .ok (.getfield 22, 3) := by decide +kernel
theorem dX11_share_50 : decode cX11_share 50 = .ok (.iload_n 1, 1) := by decide +kernel
theorem dX11_share_51 : decode cX11_share 51 = .ok (.iload_n 3, 1) := by decide +kernel
theorem dX11_share_52 : decode cX11_share 52 = .ok (.invokevirtual 285, 3) := by decide +kernel
theorem dX11_share_55 : decode cX11_share 55 = .ok (.ireturn, 1) := by decide +kernel
theorem dX11_bearing_0 : decode cX11_bearing 0 = .ok (.iload_n 1, 1) := by decide +kernel
theorem dX11_bearing_1 : decode cX11_bearing 1 = .ok (.invokestatic 279, 3) := by decide +kernel
theorem dX11_bearing_4 : decode cX11_bearing 4 = .ok (.ifCond .ne 5, 3) := by decide +kernel
theorem dX11_bearing_7 : decode cX11_bearing 7 = .ok (.iconst (-1), 1) := by decide +kernel
theorem dX11_bearing_8 : decode cX11_bearing 8 = .ok (.ireturn, 1) := by decide +kernel
theorem dX11_bearing_9 : decode cX11_bearing 9 = .ok (.aload_n 0, 1) := by decide +kernel
theorem dX11_bearing_10 : decode cX11_bearing 10 = .ok (.getfield 22, 3) := by decide +kernel
theorem dX11_bearing_13 : decode cX11_bearing 13 = .ok (.iload_n 1, 1) := by decide +kernel
theorem dX11_bearing_14 : decode cX11_bearing 14 = .ok (.invokevirtual 282, 3) := by decide +kernel
theorem dX11_bearing_17 : decode cX11_bearing 17 = .ok (.istore_n 2, 1) := by decide +kernel
theorem dX11_bearing_18 : decode cX11_bearing 18 = .ok (.iload_n 2, 1) := by decide +kernel
theorem dX11_bearing_19 : decode cX11_bearing 19 = .ok (.bipush (-4), 2) := by decide +kernel
theorem dX11_bearing_21 : decode cX11_bearing 21 = .ok (.if_icmp .ne 8, 3) := by decide +kernel
theorem dX11_bearing_24 : decode cX11_bearing 24 = .ok (.bipush (-3), 2) := by decide +kernel
theorem dX11_bearing_26 : decode cX11_bearing 26 = .ok (.goto 11, 3) := by decide +kernel
theorem dX11_bearing_29 : decode cX11_bearing 29 = .ok (.aload_n 0, 1) := by decide +kernel
theorem dX11_bearing_30 : decode cX11_bearing 30 = .ok (.getfield 22, 3) := by decide +kernel
theorem dX11_bearing_33 : decode cX11_bearing 33 = .ok (.iload_n 2, 1) := by decide +kernel
theorem dX11_bearing_34 : decode cX11_bearing 34 = .ok (.invokevirtual 289, 3) := by decide +kernel
theorem dX11_bearing_37 : decode cX11_bearing 37 = .ok (.ireturn, 1) := by decide +kernel
theorem dX11_fault_0 : decode cX11_fault 0 = .ok (.iload_n 1, 1) := by decide +kernel
theorem dX11_fault_1 : decode cX11_fault 1 = .ok (.invokestatic 94, 3) := by decide +kernel
theorem dX11_fault_4 : decode cX11_fault 4 = .ok (.ifCond .ne 5, 3) := by decide +kernel
theorem dX11_fault_7 : decode cX11_fault 7 = .ok (.iconst (-1), 1) := by decide +kernel
theorem dX11_fault_8 : decode cX11_fault 8 = .ok (.ireturn, 1) := by decide +kernel
theorem dX11_fault_9 : decode cX11_fault 9 = .ok (.aload_n 0, 1) := by decide +kernel
theorem dX11_fault_10 : decode cX11_fault 10 = .ok (.getfield 44, 3) := by decide +kernel
theorem dX11_fault_13 : decode cX11_fault 13 = .ok (.iload_n 1, 1) := by decide +kernel
theorem dX11_fault_14 : decode cX11_fault 14 = .ok (.aaload, 1) := by decide +kernel
theorem dX11_fault_15 : decode cX11_fault 15 = .ok (.invokevirtual 98, 3) := by decide +kernel
theorem dX11_fault_18 : decode cX11_fault 18 = .ok (.istore_n 2, 1) := by decide +kernel
theorem dX11_fault_19 : decode cX11_fault 19 = .ok (.iload_n 2, 1) := by decide +kernel
theorem dX11_fault_20 : decode cX11_fault 20 = .ok (.ifCond .eq 5, 3) := by decide +kernel
theorem dX11_fault_23 : decode cX11_fault 23 = .ok (.iload_n 2, 1) := by decide +kernel
theorem dX11_fault_24 : decode cX11_fault 24 = .ok (.ireturn, 1) := by decide +kernel
theorem dX11_fault_25 : decode cX11_fault 25 = .ok (.aload_n 0, 1) := by decide +kernel
theorem dX11_fault_26 : decode cX11_fault 26 = .ok (.getfield 58, 3) := by decide +kernel
theorem dX11_fault_29 : decode cX11_fault 29 = .ok (.aload_n 0, 1) := by decide +kernel
theorem dX11_fault_30 : decode cX11_fault 30 = .ok (.getfield 44, 3) := by decide +kernel
theorem dX11_fault_33 : decode cX11_fault 33 = .ok (.iload_n 1, 1) := by decide +kernel
theorem dX11_fault_34 : decode cX11_fault 34 = .ok (.aaload, 1) := by decide +kernel
theorem dX11_fault_35 : decode cX11_fault 35 = .ok (.getfield 102, 3) := by decide +kernel
theorem dX11_fault_38 : decode cX11_fault 38 = .ok (.aload_n 0, 1) := by decide +kernel
theorem dX11_fault_39 : decode cX11_fault 39 = .ok (.getfield 44, 3) := by decide +kernel
theorem dX11_fault_42 : decode cX11_fault 42 = .ok (.iload_n 1, 1) := by decide +kernel
theorem dX11_fault_43 : decode cX11_fault 43 = .ok (.aaload, 1) := by decide +kernel
theorem dX11_fault_44 : decode cX11_fault 44 = .ok (.getfield 106, 3) := by decide +kernel
theorem dX11_fault_47 : decode cX11_fault 47 = .ok (.invokevirtual 292, 3) := by decide +kernel
theorem dX11_fault_50 : decode cX11_fault 50 = .ok (.pop, 1) := by decide +kernel
theorem dX11_fault_51 : decode cX11_fault 51 = .ok (.aload_n 0, 1) := by decide +kernel
theorem dX11_fault_52 : decode cX11_fault 52 = .ok (.getfield 58, 3) := by decide +kernel
theorem dX11_fault_55 : decode cX11_fault 55 = .ok (.invokevirtual 296, 3) := by decide +kernel
theorem dX11_fault_58 : decode cX11_fault 58 = .ok (.ireturn, 1) := by decide +kernel
theorem dX11_rule_0 : decode cX11_rule 0 = .ok (.iload_n 1, 1) := by decide +kernel
theorem dX11_rule_1 : decode cX11_rule 1 = .ok (.invokestatic 94, 3) := by decide +kernel
theorem dX11_rule_4 : decode cX11_rule 4 = .ok (.ifCond .ne 5, 3) := by decide +kernel
theorem dX11_rule_7 : decode cX11_rule 7 = .ok (.iconst (-1), 1) := by decide +kernel
theorem dX11_rule_8 : decode cX11_rule 8 = .ok (.ireturn, 1) := by decide +kernel
theorem dX11_rule_9 : decode cX11_rule 9 = .ok (.aload_n 0, 1) := by decide +kernel
theorem dX11_rule_10 : decode cX11_rule 10 = .ok (.getfield 29, 3) := by decide +kernel
theorem dX11_rule_13 : decode cX11_rule 13 = .ok (.getfield 299, 3) := by decide +kernel
theorem dX11_rule_16 : decode cX11_rule 16 = .ok (.bipush 12, 2) := by decide +kernel
theorem dX11_rule_18 : decode cX11_rule 18 = .ok (.if_icmp .lt 6, 3) := by decide +kernel
theorem dX11_rule_21 : decode cX11_rule 21 = .ok (.bipush (-2), 2) := by decide +kernel
theorem dX11_rule_23 : decode cX11_rule 23 = .ok (.ireturn, 1) := by decide +kernel
theorem dX11_rule_24 : decode cX11_rule 24 = .ok (.aload_n 0, 1) := by decide +kernel
theorem dX11_rule_25 : decode cX11_rule 25 = .ok (.getfield 44, 3) := by decide +kernel
theorem dX11_rule_28 : decode cX11_rule 28 = .ok (.iload_n 1, 1) := by decide +kernel
theorem dX11_rule_29 : decode cX11_rule 29 = .ok (.aaload, 1) := by decide +kernel
theorem dX11_rule_30 : decode cX11_rule 30 = .ok (.astore_n 2, 1) := by decide +kernel
theorem dX11_rule_31 : decode cX11_rule 31 = .ok (.aload_n 2, 1) := by decide +kernel
theorem dX11_rule_32 : decode cX11_rule 32 = .ok (.invokevirtual 98, 3) := by decide +kernel
theorem dX11_rule_35 : decode cX11_rule 35 = .ok (.istore_n 3, 1) := by decide +kernel
theorem dX11_rule_36 : decode cX11_rule 36 = .ok (.iload_n 3, 1) := by decide +kernel
theorem dX11_rule_37 : decode cX11_rule 37 = .ok (.ifCond .eq 5, 3) := by decide +kernel
theorem dX11_rule_40 : decode cX11_rule 40 = .ok (.iload_n 3, 1) := by decide +kernel
theorem dX11_rule_41 : decode cX11_rule 41 = .ok (.ireturn, 1) := by decide +kernel
theorem dX11_rule_42 : decode cX11_rule 42 = .ok (.aload_n 0, 1) := by decide +kernel
theorem dX11_rule_43 : decode cX11_rule 43 = .ok (.getfield 58, 3) := by decide +kernel
theorem dX11_rule_46 : decode cX11_rule 46 = .ok (.aload_n 2, 1) := by decide +kernel
theorem dX11_rule_47 : decode cX11_rule 47 = .ok (.getfield 102, 3) := by decide +kernel
theorem dX11_rule_50 : decode cX11_rule 50 = .ok (.aload_n 2, 1) := by decide +kernel
theorem dX11_rule_51 : decode cX11_rule 51 = .ok (.getfield 106, 3) := by decide +kernel
theorem dX11_rule_54 : decode cX11_rule 54 = .ok (.invokevirtual 292, 3) := by decide +kernel
theorem dX11_rule_57 : decode cX11_rule 57 = .ok (.pop, 1) := by decide +kernel
theorem dX11_rule_58 : decode cX11_rule 58 = .ok (.aload_n 0, 1) := by decide +kernel
theorem dX11_rule_59 : decode cX11_rule 59 = .ok (.getfield 58, 3) := by decide +kernel
theorem dX11_rule_62 : decode cX11_rule 62 = .ok (.invokevirtual 296, 3) := by decide +kernel
theorem dX11_rule_65 : decode cX11_rule 65 = .ok (.bipush (-4), 2) := by decide +kernel
theorem dX11_rule_67 : decode cX11_rule 67 = .ok (.if_icmp .eq 14, 3) := by decide +kernel
theorem dX11_rule_70 : decode cX11_rule 70 = .ok (.bipush (-100), 2) := by decide +kernel
theorem dX11_rule_72 : decode cX11_rule 72 = .ok (.aload_n 0, 1) := by decide +kernel
theorem dX11_rule_73 : decode cX11_rule 73 = .ok (.getfield 58, 3) := by decide +kernel
theorem dX11_rule_76 : decode cX11_rule 76 = .ok (.invokevirtual 296, 3) := by decide +kernel
theorem dX11_rule_79 : decode cX11_rule 79 = .ok (.isub, 1) := by decide +kernel
theorem dX11_rule_80 : decode cX11_rule 80 = .ok (.ireturn, 1) := by decide +kernel
theorem dX11_rule_81 : decode cX11_rule 81 = .ok (.aload_n 0, 1) := by decide +kernel
theorem dX11_rule_82 : decode cX11_rule 82 = .ok (.getfield 29, 3) := by decide +kernel
theorem dX11_rule_85 : decode cX11_rule 85 = .ok (.aload_n 2, 1) := by decide +kernel
theorem dX11_rule_86 : decode cX11_rule 86 = .ok (.getfield 102, 3) := by decide +kernel
theorem dX11_rule_89 : decode cX11_rule 89 = .ok (.aload_n 2, 1) := by decide +kernel
theorem dX11_rule_90 : decode cX11_rule 90 = .ok (.getfield 106, 3) := by decide +kernel
theorem dX11_rule_93 : decode cX11_rule 93 = .ok (.invokevirtual 300, 3) := by decide +kernel
theorem dX11_rule_96 : decode cX11_rule 96 = .ok (.aload_n 0, 1) := by decide +kernel
theorem dX11_rule_97 : decode cX11_rule 97 = .ok (.getfield 29, 3) := by decide +kernel
theorem dX11_rule_100 : decode cX11_rule 100 = .ok (.getfield 299, 3) := by decide +kernel
theorem dX11_rule_103 : decode cX11_rule 103 = .ok (.iconst 1, 1) := by decide +kernel
theorem dX11_rule_104 : decode cX11_rule 104 = .ok (.isub, 1) := by decide +kernel
theorem dX11_rule_105 : decode cX11_rule 105 = .ok (.ireturn, 1) := by decide +kernel
theorem dX11_holds_0 : decode cX11_holds 0 = .ok (.aload_n 0, 1) := by decide +kernel
theorem dX11_holds_1 : decode cX11_holds 1 = .ok (.iload_n 1, 1) := by decide +kernel
theorem dX11_holds_2 : decode cX11_holds 2 = .ok (.invokevirtual 303, 3) := by decide +kernel
theorem dX11_holds_5 : decode cX11_holds 5 = .ok (.ifCond .eq 11, 3) := by decide +kernel
theorem dX11_holds_8 : decode cX11_holds 8 = .ok (.aload_n 0, 1) := by decide +kernel
theorem dX11_holds_9 : decode cX11_holds 9 = .ok (.iload_n 2, 1) := by decide +kernel
theorem dX11_holds_10 : decode cX11_holds 10 = .ok (.invokevirtual 177, 3) := by decide +kernel
theorem dX11_holds_13 : decode cX11_holds 13 = .ok (.ifCond .ne 5, 3) := by decide +kernel
theorem dX11_holds_16 : decode cX11_holds 16 = .ok (.iconst (-1), 1) := by decide +kernel
theorem dX11_holds_17 : decode cX11_holds 17 = .ok (.ireturn, 1) := by decide +kernel
theorem dX11_holds_18 : decode cX11_holds 18 = .ok (.aload_n 0, 1) := by decide +kernel
theorem dX11_holds_19 : decode cX11_holds 19 = .ok (.iload_n 2, 1) := by decide +kernel
theorem dX11_holds_20 : decode cX11_holds 20 = .ok (.invokevirtual 234, 3) := by decide +kernel
theorem dX11_holds_23 : decode cX11_holds 23 = .ok (.aload_n 0, 1) := by decide +kernel
theorem dX11_holds_24 : decode cX11_holds 24 = .ok (.getfield 82, 3) := by decide +kernel
theorem dX11_holds_27 : decode cX11_holds 27 = .ok (.aload_n 0, 1) := by decide +kernel
theorem dX11_holds_28 : decode cX11_holds 28 = .ok (.getfield 58, 3) := by decide +kernel
theorem dX11_holds_31 : decode cX11_holds 31 = .ok (.getfield 306, 3) := by decide +kernel
theorem dX11_holds_34 : decode cX11_holds 34 = .ok (.iconst 0, 1) := by decide +kernel
theorem dX11_holds_35 : decode cX11_holds 35 = .ok (.invokevirtual 309, 3) := by decide +kernel
theorem dX11_holds_38 : decode cX11_holds 38 = .ok (.aload_n 0, 1) := by decide +kernel
theorem dX11_holds_39 : decode cX11_holds 39 = .ok (.getfield 58, 3) := by decide +kernel
theorem dX11_holds_42 : decode cX11_holds 42 = .ok (.aload_n 0, 1) := by decide +kernel
theorem dX11_holds_43 : decode cX11_holds 43 = .ok (.getfield 29, 3) := by decide +kernel
theorem dX11_holds_46 : decode cX11_holds 46 = .ok (.getfield 312, 3) := by decide +kernel
theorem dX11_holds_49 : decode cX11_holds 49 = .ok (.iload_n 1, 1) := by decide +kernel
theorem dX11_holds_50 : decode cX11_holds 50 = .ok (.aaload, 1) := by decide +kernel
theorem dX11_holds_51 : decode cX11_holds 51 = .ok (.aload_n 0, 1) := by decide +kernel
theorem dX11_holds_52 : decode cX11_holds 52 = .ok (.getfield 29, 3) := by decide +kernel
theorem dX11_holds_55 : decode cX11_holds 55 = .ok (.getfield 316, 3) := by decide +kernel
theorem dX11_holds_58 : decode cX11_holds 58 = .ok (.iload_n 1, 1) := by decide +kernel
theorem dX11_holds_59 : decode cX11_holds 59 = .ok (.iaload, 1) := by decide +kernel
theorem dX11_holds_60 : decode cX11_holds 60 = .ok (.invokevirtual 292, 3) := by decide +kernel
theorem dX11_holds_63 : decode cX11_holds 63 = .ok (.ifCond .eq 7, 3) := by decide +kernel
theorem dX11_holds_66 : decode cX11_holds 66 = .ok (.iconst 1, 1) := by decide +kernel
theorem dX11_holds_67 : decode cX11_holds 67 = .ok (.goto 4, 3) := by decide +kernel
theorem dX11_holds_70 : decode cX11_holds 70 = .ok (.iconst 0, 1) := by decide +kernel
theorem dX11_holds_71 : decode cX11_holds 71 = .ok (.ireturn, 1) := by decide +kernel
theorem dX11_watch_0 : decode cX11_watch 0 = .ok (.aload_n 0, 1) := by decide +kernel
theorem dX11_watch_1 : decode cX11_watch 1 = .ok (.iload_n 1, 1) := by decide +kernel
theorem dX11_watch_2 : decode cX11_watch 2 = .ok (.invokevirtual 303, 3) := by decide +kernel
theorem dX11_watch_5 : decode cX11_watch 5 = .ok (.ifCond .eq 18, 3) := by decide +kernel
theorem dX11_watch_8 : decode cX11_watch 8 = .ok (.aload_n 0, 1) := by decide +kernel
theorem dX11_watch_9 : decode cX11_watch 9 = .ok (.iload_n 2, 1) := by decide +kernel
theorem dX11_watch_10 : decode cX11_watch 10 = .ok (.invokevirtual 177, 3) := by decide +kernel
theorem dX11_watch_13 : decode cX11_watch 13 = .ok (.ifCond .eq 10, 3) := by decide +kernel
theorem dX11_watch_16 : decode cX11_watch 16 = .ok (.iload_n 3, 1) := by decide +kernel
theorem dX11_watch_17 : decode cX11_watch 17 = .ok (.invokestatic 254, 3) := by decide +kernel
theorem dX11_watch_20 : decode cX11_watch 20 = .ok (.ifCond .ne 5, 3) := by decide +kernel
theorem dX11_watch_23 : decode cX11_watch 23 = .ok (.iconst (-1), 1) := by decide +kernel
theorem dX11_watch_24 : decode cX11_watch 24 = .ok (.ireturn, 1) := by decide +kernel
theorem dX11_watch_25 : decode cX11_watch 25 = .ok (.aload_n 0, 1) := by decide +kernel
theorem dX11_watch_26 : decode cX11_watch 26 = .ok (.iload_n 2, 1) := by decide +kernel
theorem dX11_watch_27 : decode cX11_watch 27 = .ok (.invokevirtual 263, 3) := by decide +kernel
theorem dX11_watch_30 : decode cX11_watch 30 = .ok (.iconst 0, 1) := by decide +kernel
theorem dX11_watch_31 : decode cX11_watch 31 = .ok (.istore 4, 2) := by decide +kernel
theorem dX11_watch_33 : decode cX11_watch 33 = .ok (.iload 4, 2) := by decide +kernel
theorem dX11_watch_35 : decode cX11_watch 35 = .ok (.sipush 200, 3) := by decide +kernel
theorem dX11_watch_38 : decode cX11_watch 38 = .ok (.if_icmp .gt 71, 3) := by decide +kernel
theorem dX11_watch_41 : decode cX11_watch 41 = .ok (.aload_n 0, 1) := by decide +kernel
theorem dX11_watch_42 : decode cX11_watch 42 = .ok (.getfield 82, 3) := by decide +kernel
theorem dX11_watch_45 : decode cX11_watch 45 = .ok (.aload_n 0, 1) := by decide +kernel
theorem dX11_watch_46 : decode cX11_watch 46 = .ok (.getfield 58, 3) := by decide +kernel
theorem dX11_watch_49 : decode cX11_watch 49 = .ok (.getfield 306, 3) := by decide +kernel
theorem dX11_watch_52 : decode cX11_watch 52 = .ok (.iload 4, 2) := by decide +kernel
theorem dX11_watch_54 : decode cX11_watch 54 = .ok (.invokevirtual 309, 3) := by decide +kernel
theorem dX11_watch_57 : decode cX11_watch 57 = .ok (.aload_n 0, 1) := by decide +kernel
theorem dX11_watch_58 : decode cX11_watch 58 = .ok (.getfield 58, 3) := by decide +kernel
theorem dX11_watch_61 : decode cX11_watch 61 = .ok (.aload_n 0, 1) := by decide +kernel
theorem dX11_watch_62 : decode cX11_watch 62 = .ok (.getfield 29, 3) := by decide +kernel
theorem dX11_watch_65 : decode cX11_watch 65 = .ok (.getfield 312, 3) := by decide +kernel
theorem dX11_watch_68 : decode cX11_watch 68 = .ok (.iload_n 1, 1) := by decide +kernel
theorem dX11_watch_69 : decode cX11_watch 69 = .ok (.aaload, 1) := by decide +kernel
theorem dX11_watch_70 : decode cX11_watch 70 = .ok (.aload_n 0, 1) := by decide +kernel
theorem dX11_watch_71 : decode cX11_watch 71 = .ok (.getfield 29, 3) := by decide +kernel
theorem dX11_watch_74 : decode cX11_watch 74 = .ok (.getfield 316, 3) := by decide +kernel
theorem dX11_watch_77 : decode cX11_watch 77 = .ok (.iload_n 1, 1) := by decide +kernel
theorem dX11_watch_78 : decode cX11_watch 78 = .ok (.iaload, 1) := by decide +kernel
theorem dX11_watch_79 : decode cX11_watch 79 = .ok (.invokevirtual 292, 3) := by decide +kernel
theorem dX11_watch_82 : decode cX11_watch 82 = .ok (.ifCond .eq 6, 3) := by decide +kernel
theorem dX11_watch_85 : decode cX11_watch 85 = .ok (.iload 4, 2) := by decide +kernel
theorem dX11_watch_87 : decode cX11_watch 87 = .ok (.ireturn, 1) := by decide +kernel
theorem dX11_watch_88 : decode cX11_watch 88 = .ok (.aload_n 0, 1) := by decide +kernel
theorem dX11_watch_89 : decode cX11_watch 89 = .ok (.getfield 82, 3) := by decide +kernel
theorem dX11_watch_92 : decode cX11_watch 92 = .ok (.iload_n 3, 1) := by decide +kernel
theorem dX11_watch_93 : decode cX11_watch 93 = .ok (.invokevirtual 257, 3) := by decide +kernel
theorem dX11_watch_96 : decode cX11_watch 96 = .ok (.aload_n 0, 1) := by decide +kernel
theorem dX11_watch_97 : decode cX11_watch 97 = .ok (.getfield 82, 3) := by decide +kernel
theorem dX11_watch_100 : decode cX11_watch 100 = .ok (.invokevirtual 260, 3) := by decide +kernel
theorem dX11_watch_103 : decode cX11_watch 103 = .ok (.iinc 4 1, 3) := by decide +kernel
theorem dX11_watch_106 : decode cX11_watch 106 = .ok (.goto (-73), 3) := by decide +kernel
theorem dX11_watch_109 : decode cX11_watch 109 = .ok (.bipush (-4), 2) := by decide +kernel
theorem dX11_watch_111 : decode cX11_watch 111 = .ok (.ireturn, 1) := by decide +kernel
theorem dX11_ear_0 : decode cX11_ear 0 = .ok (.iload_n 1, 1) := by decide +kernel
theorem dX11_ear_1 : decode cX11_ear 1 = .ok (.invokestatic 94, 3) := by decide +kernel
theorem dX11_ear_4 : decode cX11_ear 4 = .ok (.ifCond .eq 12, 3) := by decide +kernel
theorem dX11_ear_7 : decode cX11_ear 7 = .ok (.iload_n 2, 1) := by decide +kernel
theorem dX11_ear_8 : decode cX11_ear 8 = .ok (.iconst 0, 1) := by decide +kernel
theorem dX11_ear_9 : decode cX11_ear 9 = .ok (.iconst 2, 1) := by decide +kernel
theorem dX11_ear_10 : decode cX11_ear 10 = .ok (.invokestatic 170, 3) := by decide +kernel
theorem dX11_ear_13 : decode cX11_ear 13 = .ok (.ifCond .ne 5, 3) := by decide +kernel
theorem dX11_ear_16 : decode cX11_ear 16 = .ok (.iconst (-1), 1) := by decide +kernel
theorem dX11_ear_17 : decode cX11_ear 17 = .ok (.ireturn, 1) := by decide +kernel
theorem dX11_ear_18 : decode cX11_ear 18 = .ok (.aload_n 0, 1) := by decide +kernel
theorem dX11_ear_19 : decode cX11_ear 19 = .ok (.getfield 44, 3) := by decide +kernel
theorem dX11_ear_22 : decode cX11_ear 22 = .ok (.iload_n 1, 1) := by decide +kernel
theorem dX11_ear_23 : decode cX11_ear 23 = .ok (.aaload, 1) := by decide +kernel
theorem dX11_ear_24 : decode cX11_ear 24 = .ok (.astore_n 3, 1) := by decide +kernel
theorem dX11_ear_25 : decode cX11_ear 25 = .ok (.aload_n 3, 1) := by decide +kernel
theorem dX11_ear_26 : decode cX11_ear 26 = .ok (.invokevirtual 319, 3) := by decide +kernel
theorem dX11_ear_29 : decode cX11_ear 29 = .ok (.istore 4, 2) := by decide +kernel
theorem dX11_ear_31 : decode cX11_ear 31 = .ok (.iload 4, 2) := by decide +kernel
theorem dX11_ear_33 : decode cX11_ear 33 = .ok (.ifCond .eq 6, 3) := by decide +kernel
theorem dX11_ear_36 : decode cX11_ear 36 = .ok (.iload 4, 2) := by decide +kernel
theorem dX11_ear_38 : decode cX11_ear 38 = .ok (.ireturn, 1) := by decide +kernel
theorem dX11_ear_39 : decode cX11_ear 39 = .ok (.aload_n 0, 1) := by decide +kernel
theorem dX11_ear_40 : decode cX11_ear 40 = .ok (.getfield 89, 3) := by decide +kernel
theorem dX11_ear_43 : decode cX11_ear 43 = .ok (.aload_n 0, 1) := by decide +kernel
theorem dX11_ear_44 : decode cX11_ear 44 = .ok (.getfield 10, 3) := by decide +kernel
theorem dX11_ear_47 : decode cX11_ear 47 = .ok (.aload_n 3, 1) := by decide +kernel
theorem dX11_ear_48 : decode cX11_ear 48 = .ok (.getfield 102, 3) := by decide +kernel
theorem dX11_ear_51 : decode cX11_ear 51 = .ok (.aload_n 3, 1) := by decide +kernel
theorem dX11_ear_52 : decode cX11_ear 52 = .ok (.getfield 106, 3) := by decide +kernel
theorem dX11_ear_55 : decode cX11_ear 55 = .ok (.invokevirtual 322, 3) := by decide +kernel
theorem dX11_ear_58 : decode cX11_ear 58 = .ok (.iload_n 2, 1) := by decide +kernel
theorem dX11_ear_59 : decode cX11_ear 59 = .ok (.lookupswitch 41 #[(0, 25), (1, 33)], 25) := by decide +kernel
theorem dX11_ear_84 : decode cX11_ear 84 = .ok (.aload_n 0, 1) := by decide +kernel
theorem dX11_ear_85 : decode cX11_ear 85 = .ok (.getfield 89, 3) := by decide +kernel
theorem dX11_ear_88 : decode cX11_ear 88 = .ok (.getfield 326, 3) := by decide +kernel
theorem dX11_ear_91 : decode cX11_ear 91 = .ok (.ireturn, 1) := by decide +kernel
theorem dX11_ear_92 : decode cX11_ear 92 = .ok (.aload_n 0, 1) := by decide +kernel
theorem dX11_ear_93 : decode cX11_ear 93 = .ok (.getfield 89, 3) := by decide +kernel
theorem dX11_ear_96 : decode cX11_ear 96 = .ok (.invokevirtual 329, 3) := by decide +kernel
theorem dX11_ear_99 : decode cX11_ear 99 = .ok (.ireturn, 1) := by decide +kernel
theorem dX11_ear_100 : decode cX11_ear 100 = .ok (.aload_n 0, 1) := by decide +kernel
theorem dX11_ear_101 : decode cX11_ear 101 = .ok (.getfield 89, 3) := by decide +kernel
theorem dX11_ear_104 : decode cX11_ear 104 = .ok (.invokevirtual 332, 3) := by decide +kernel
theorem dX11_ear_107 : decode cX11_ear 107 = .ok (.ireturn, 1) := by decide +kernel
theorem dX11_bestShift_0 : decode cX11_bestShift 0 = .ok (.aload_n 0, 1) := by decide +kernel
theorem dX11_bestShift_1 : decode cX11_bestShift 1 = .ok (.iload_n 1, 1) := by decide +kernel
theorem dX11_bestShift_2 : decode cX11_bestShift 2 = .ok (.invokevirtual 177, 3) := by decide +kernel
theorem dX11_bestShift_5 : decode cX11_bestShift 5 = .ok (.ifCond .eq 17, 3) := by decide +kernel
theorem dX11_bestShift_8 : decode cX11_bestShift 8 = .ok (.iload_n 2, 1) := by decide +kernel
theorem dX11_bestShift_9 : decode cX11_bestShift 9 = .ok (.invokestatic 94, 3) := by decide +kernel
theorem dX11_bestShift_12 : decode cX11_bestShift 12 = .ok (.ifCond .eq 10, 3) := by decide +kernel
theorem dX11_bestShift_15 : decode cX11_bestShift 15 = .ok (.iload_n 3, 1) := by decide +kernel
theorem dX11_bestShift_16 : decode cX11_bestShift 16 = .ok (.invokestatic 223, 3) := by decide +kernel
theorem dX11_bestShift_19 : decode cX11_bestShift 19 = .ok (.ifCond .ne 6, 3) := by decide +kernel
theorem dX11_bestShift_22 : decode cX11_bestShift 22 = .ok (.ldc 233, 2) := by decide +kernel
theorem dX11_bestShift_24 : decode cX11_bestShift 24 = .ok (.ireturn, 1) := by decide +kernel
theorem dX11_bestShift_25 : decode cX11_bestShift 25 = .ok (.aload_n 0, 1) := by decide +kernel
theorem dX11_bestShift_26 : decode cX11_bestShift 26 = .ok (.getfield 44, 3) := by decide +kernel
theorem dX11_bestShift_29 : decode cX11_bestShift 29 = .ok (.iload_n 2, 1) := by decide +kernel
theorem dX11_bestShift_30 : decode cX11_bestShift 30 = .ok (.aaload, 1) := by decide +kernel
theorem dX11_bestShift_31 : decode cX11_bestShift 31 = .ok (.invokevirtual 226, 3) := by decide +kernel
theorem dX11_bestShift_34 : decode cX11_bestShift 34 = .ok (.istore 4, 2) := by decide +kernel
theorem dX11_bestShift_36 : decode cX11_bestShift 36 = .ok (.iload 4, 2) := by decide +kernel
theorem dX11_bestShift_38 : decode cX11_bestShift 38 = .ok (.ifCond .eq 10, 3) := by decide +kernel
theorem dX11_bestShift_41 : decode cX11_bestShift 41 = .ok (.ldc_w 335, 3) := by decide +kernel
theorem dX11_bestShift_44 : decode cX11_bestShift 44 = .ok (.iload 4, 2) := by decide +kernel
theorem dX11_bestShift_46 : decode cX11_bestShift 46 = .ok (.iadd, 1) := by decide +kernel
theorem dX11_bestShift_47 : decode cX11_bestShift 47 = .ok (.ireturn, 1) := by decide +kernel
theorem dX11_bestShift_48 : decode cX11_bestShift 48 = .ok (.aload_n 0, 1) := by decide +kernel
theorem dX11_bestShift_49 : decode cX11_bestShift 49 = .ok (.iload_n 1, 1) := by decide +kernel
theorem dX11_bestShift_50 : decode cX11_bestShift 50 = .ok (.invokevirtual 263, 3) := by decide +kernel
theorem dX11_bestShift_53 : decode cX11_bestShift 53 = .ok (.sipush (-4000), 3) := by decide +kernel
theorem dX11_bestShift_56 : decode cX11_bestShift 56 = .ok (.istore 5, 2) := by decide +kernel
theorem dX11_bestShift_58 : decode cX11_bestShift 58 = .ok (.bipush 63, 2) := by decide +kernel
theorem dX11_bestShift_60 : decode cX11_bestShift 60 = .ok (.istore 6, 2) := by decide +kernel
theorem dX11_bestShift_62 : decode cX11_bestShift 62 = .ok (.iconst 0, 1) := by decide +kernel
theorem dX11_bestShift_63 : decode cX11_bestShift 63 = .ok (.istore 7, 2) := by decide +kernel
theorem dX11_bestShift_65 : decode cX11_bestShift 65 = .ok (.iload 7, 2) := by decide +kernel
theorem dX11_bestShift_67 : decode cX11_bestShift 67 = .ok (.bipush 16, 2) := by decide +kernel
theorem dX11_bestShift_69 : decode cX11_bestShift 69 = .ok (.if_icmp .gt 96, 3) := by decide +kernel
theorem dX11_bestShift_72 : decode cX11_bestShift 72 = .ok (.iload 7, 2) := by decide +kernel
theorem dX11_bestShift_74 : decode cX11_bestShift 74 = .ok (.iconst 2, 1) := by decide +kernel
theorem dX11_bestShift_75 : decode cX11_bestShift 75 = .ok (.irem, 1) := by decide +kernel
theorem dX11_bestShift_76 : decode cX11_bestShift 76 = .ok (.iconst 1, 1) := by decide +kernel
theorem dX11_bestShift_77 : decode cX11_bestShift 77 = .ok (.if_icmp .ne 12, 3) := by decide +kernel
theorem dX11_bestShift_80 : decode cX11_bestShift 80 = .ok (.iload 7, 2) := by decide +kernel
theorem dX11_bestShift_82 : decode cX11_bestShift 82 = .ok (.iconst 1, 1) := by decide +kernel
theorem dX11_bestShift_83 : decode cX11_bestShift 83 = .ok (.iadd, 1) := by decide +kernel
theorem dX11_bestShift_84 : decode cX11_bestShift 84 = .ok (.iconst 2, 1) := by decide +kernel
theorem dX11_bestShift_85 : decode cX11_bestShift 85 = .ok (.idiv, 1) := by decide +kernel
theorem dX11_bestShift_86 : decode cX11_bestShift 86 = .ok (.goto 8, 3) := by decide +kernel
theorem dX11_bestShift_89 : decode cX11_bestShift 89 = .ok (.iload 7, 2) := by decide +kernel
theorem dX11_bestShift_91 : decode cX11_bestShift 91 = .ok (.iconst 2, 1) := by decide +kernel
theorem dX11_bestShift_92 : decode cX11_bestShift 92 = .ok (.idiv, 1) := by decide +kernel
theorem dX11_bestShift_93 : decode cX11_bestShift 93 = .ok (.ineg, 1) := by decide +kernel
theorem dX11_bestShift_94 : decode cX11_bestShift 94 = .ok (.istore 8, 2) := by decide +kernel
theorem dX11_bestShift_96 : decode cX11_bestShift 96 = .ok (.aload_n 0, 1) := by decide +kernel
theorem dX11_bestShift_97 : decode cX11_bestShift 97 = .ok (.getfield 72, 3) := by decide +kernel
theorem dX11_bestShift_100 : decode cX11_bestShift 100 = .ok (.aload_n 0, 1) := by decide +kernel
theorem dX11_bestShift_101 : decode cX11_bestShift 101 = .ok (.getfield 44, 3) := by decide +kernel
theorem dX11_bestShift_104 : decode cX11_bestShift 104 = .ok (.iload_n 2, 1) := by decide +kernel
theorem dX11_bestShift_105 : decode cX11_bestShift 105 = .ok (.aaload, 1) := by decide +kernel
theorem dX11_bestShift_106 : decode cX11_bestShift 106 = .ok (.getfield 102, 3) := by decide +kernel
theorem dX11_bestShift_109 : decode cX11_bestShift 109 = .ok (.iload 8, 2) := by decide +kernel
theorem dX11_bestShift_111 : decode cX11_bestShift 111 = .ok (.iload_n 3, 1) := by decide +kernel
theorem dX11_bestShift_112 : decode cX11_bestShift 112 = .ok (.invokevirtual 229, 3) := by decide +kernel
theorem dX11_bestShift_115 : decode cX11_bestShift 115 = .ok (.aload_n 0, 1) := by decide +kernel
theorem dX11_bestShift_116 : decode cX11_bestShift 116 = .ok (.getfield 82, 3) := by decide +kernel
theorem dX11_bestShift_119 : decode cX11_bestShift 119 = .ok (.invokevirtual 260, 3) := by decide +kernel
theorem dX11_bestShift_122 : decode cX11_bestShift 122 = .ok (.aload_n 0, 1) := by decide +kernel
theorem dX11_bestShift_123 : decode cX11_bestShift 123 = .ok (.getfield 82, 3) := by decide +kernel
theorem dX11_bestShift_126 : decode cX11_bestShift 126 = .ok (.invokevirtual 245, 3) := by decide +kernel
theorem dX11_bestShift_129 : decode cX11_bestShift 129 = .ok (.bipush (-4), 2) := by decide +kernel
theorem dX11_bestShift_131 : decode cX11_bestShift 131 = .ok (.if_icmp .ne 28, 3) := by decide +kernel
theorem dX11_bestShift_134 : decode cX11_bestShift 134 = .ok (.aload_n 0, 1) := by decide +kernel
theorem dX11_bestShift_135 : decode cX11_bestShift 135 = .ok (.getfield 82, 3) := by decide +kernel
theorem dX11_bestShift_138 : decode cX11_bestShift 138 = .ok (.invokevirtual 251, 3) := by decide +kernel
theorem dX11_bestShift_141 : decode cX11_bestShift 141 = .ok (.iload 6, 2) := by decide +kernel
theorem dX11_bestShift_143 : decode cX11_bestShift 143 = .ok (.if_icmp .ge 16, 3) := by decide +kernel
theorem dX11_bestShift_146 : decode cX11_bestShift 146 = .ok (.aload_n 0, 1) := by decide +kernel
theorem dX11_bestShift_147 : decode cX11_bestShift 147 = .ok (.getfield 82, 3) := by decide +kernel
theorem dX11_bestShift_150 : decode cX11_bestShift 150 = .ok (.invokevirtual 251, 3) := by decide +kernel
theorem dX11_bestShift_153 : decode cX11_bestShift 153 = .ok (.istore 6, 2) := by decide +kernel
theorem dX11_bestShift_155 : decode cX11_bestShift 155 = .ok (.iload 8, 2) := by decide +kernel
theorem dX11_bestShift_157 : decode cX11_bestShift 157 = .ok (.istore 5, 2) := by decide +kernel
theorem dX11_bestShift_159 : decode cX11_bestShift 159 = .ok (.iinc 7 1, 3) := by decide +kernel
theorem dX11_bestShift_162 : decode cX11_bestShift 162 = .ok (.goto (-97), 3) := by decide +kernel
theorem dX11_bestShift_165 : decode cX11_bestShift 165 = .ok (.iload 5, 2) := by decide +kernel
theorem dX11_bestShift_167 : decode cX11_bestShift 167 = .ok (.ireturn, 1) := by decide +kernel
theorem dX11_readBack_0 : decode cX11_readBack 0 = .ok (.aload_n 0, 1) := by decide +kernel
theorem dX11_readBack_1 : decode cX11_readBack 1 = .ok (.iload_n 1, 1) := by decide +kernel
theorem dX11_readBack_2 : decode cX11_readBack 2 = .ok (.invokevirtual 139, 3) := by decide +kernel
theorem dX11_readBack_5 : decode cX11_readBack 5 = .ok (.ifCond .eq 23, 3) := by decide +kernel
theorem dX11_readBack_8 : decode cX11_readBack 8 = .ok (.iload_n 2, 1) := by decide +kernel
theorem dX11_readBack_9 : decode cX11_readBack 9 = .ok (.invokestatic 94, 3) := by decide +kernel
theorem dX11_readBack_12 : decode cX11_readBack 12 = .ok (.ifCond .eq 16, 3) := by decide +kernel
theorem dX11_readBack_15 : decode cX11_readBack 15 = .ok (.iload_n 3, 1) := by decide +kernel
theorem dX11_readBack_16 : decode cX11_readBack 16 = .ok (.invokestatic 223, 3) := by decide +kernel
theorem dX11_readBack_19 : decode cX11_readBack 19 = .ok (.ifCond .eq 9, 3) := by decide +kernel
theorem dX11_readBack_22 : decode cX11_readBack 22 = .ok (.iload 4, 2) := by decide +kernel
theorem dX11_readBack_24 : decode cX11_readBack 24 = .ok (.iconst (-1), 1) := by decide +kernel
theorem dX11_readBack_25 : decode cX11_readBack 25 = .ok (.if_icmp .ge 5, 3) := by decide +kernel
theorem dX11_readBack_28 : decode cX11_readBack 28 = .ok (.iconst (-1), 1) := by decide +kernel
theorem dX11_readBack_29 : decode cX11_readBack 29 = .ok (.ireturn, 1) := by decide +kernel
theorem dX11_readBack_30 : decode cX11_readBack 30 = .ok (.aload_n 0, 1) := by decide +kernel
theorem dX11_readBack_31 : decode cX11_readBack 31 = .ok (.getfield 44, 3) := by decide +kernel
theorem dX11_readBack_34 : decode cX11_readBack 34 = .ok (.iload_n 2, 1) := by decide +kernel
theorem dX11_readBack_35 : decode cX11_readBack 35 = .ok (.aaload, 1) := by decide +kernel
theorem dX11_readBack_36 : decode cX11_readBack 36 = .ok (.invokevirtual 226, 3) := by decide +kernel
theorem dX11_readBack_39 : decode cX11_readBack 39 = .ok (.istore 5, 2) := by decide +kernel
theorem dX11_readBack_41 : decode cX11_readBack 41 = .ok (.iload 5, 2) := by decide +kernel
theorem dX11_readBack_43 : decode cX11_readBack 43 = .ok (.ifCond .eq 6, 3) := by decide +kernel
theorem dX11_readBack_46 : decode cX11_readBack 46 = .ok (.iload 5, 2) := by decide +kernel
theorem dX11_readBack_48 : decode cX11_readBack 48 = .ok (.ireturn, 1) := by decide +kernel
theorem dX11_readBack_49 : decode cX11_readBack 49 = .ok (.iconst 0, 1) := by decide +kernel
theorem dX11_readBack_50 : decode cX11_readBack 50 = .ok (.istore 6, 2) := by decide +kernel
theorem dX11_readBack_52 : decode cX11_readBack 52 = .ok (.bipush (-8), 2) := by decide +kernel
theorem dX11_readBack_54 : decode cX11_readBack 54 = .ok (.istore 7, 2) := by decide +kernel
theorem dX11_readBack_56 : decode cX11_readBack 56 = .ok (.iload 7, 2) := by decide +kernel
theorem dX11_readBack_58 : decode cX11_readBack 58 = .ok (.bipush 8, 2) := by decide +kernel
theorem dX11_readBack_60 : decode cX11_readBack 60 = .ok (.if_icmp .gt 63, 3) := by decide +kernel
theorem dX11_readBack_63 : decode cX11_readBack 63 = .ok (.aload_n 0, 1) := by decide +kernel
theorem dX11_readBack_64 : decode cX11_readBack 64 = .ok (.getfield 72, 3) := by decide +kernel
theorem dX11_readBack_67 : decode cX11_readBack 67 = .ok (.aload_n 0, 1) := by decide +kernel
theorem dX11_readBack_68 : decode cX11_readBack 68 = .ok (.getfield 44, 3) := by decide +kernel
theorem dX11_readBack_71 : decode cX11_readBack 71 = .ok (.iload_n 2, 1) := by decide +kernel
theorem dX11_readBack_72 : decode cX11_readBack 72 = .ok (.aaload, 1) := by decide +kernel
theorem dX11_readBack_73 : decode cX11_readBack 73 = .ok (.getfield 102, 3) := by decide +kernel
theorem dX11_readBack_76 : decode cX11_readBack 76 = .ok (.iload 7, 2) := by decide +kernel
theorem dX11_readBack_78 : decode cX11_readBack 78 = .ok (.iload_n 3, 1) := by decide +kernel
theorem dX11_readBack_79 : decode cX11_readBack 79 = .ok (.invokevirtual 229, 3) := by decide +kernel
theorem dX11_readBack_82 : decode cX11_readBack 82 = .ok (.aload_n 0, 1) := by decide +kernel
theorem dX11_readBack_83 : decode cX11_readBack 83 = .ok (.getfield 72, 3) := by decide +kernel
theorem dX11_readBack_86 : decode cX11_readBack 86 = .ok (.aload_n 0, 1) := by decide +kernel
theorem dX11_readBack_87 : decode cX11_readBack 87 = .ok (.getfield 10, 3) := by decide +kernel
theorem dX11_readBack_90 : decode cX11_readBack 90 = .ok (.getfield 142, 3) := by decide +kernel
theorem dX11_readBack_93 : decode cX11_readBack 93 = .ok (.iload_n 1, 1) := by decide +kernel
theorem dX11_readBack_94 : decode cX11_readBack 94 = .ok (.aaload, 1) := by decide +kernel
theorem dX11_readBack_95 : decode cX11_readBack 95 = .ok (.invokevirtual 336, 3) := by decide +kernel
theorem dX11_readBack_98 : decode cX11_readBack 98 = .ok (.ifCond .eq 19, 3) := by decide +kernel
theorem dX11_readBack_101 : decode cX11_readBack 101 = .ok (.iload 6, 2) := by decide +kernel
theorem dX11_readBack_103 : decode cX11_readBack 103 = .ok (.iload 4, 2) := by decide +kernel
theorem dX11_readBack_105 : decode cX11_readBack 105 = .ok (.if_icmp .ne 9, 3) := by decide +kernel
theorem dX11_readBack_108 : decode cX11_readBack 108 = .ok (.iload 7, 2) := by decide +kernel
theorem dX11_readBack_110 : decode cX11_readBack 110 = .ok (.bipush 8, 2) := by decide +kernel
theorem dX11_readBack_112 : decode cX11_readBack 112 = .ok (.iadd, 1) := by decide +kernel
theorem dX11_readBack_113 : decode cX11_readBack 113 = .ok (.ireturn, 1) := by decide +kernel
theorem dX11_readBack_114 : decode cX11_readBack 114 = .ok (.iinc 6 1, 3) := by decide +kernel
theorem dX11_readBack_117 : decode cX11_readBack 117 = .ok (.iinc 7 1, 3) := by decide +kernel
theorem dX11_readBack_120 : decode cX11_readBack 120 = .ok (.goto (-64), 3) := by decide +kernel
theorem dX11_readBack_123 : decode cX11_readBack 123 = .ok (.iload 4, 2) := by decide +kernel
theorem dX11_readBack_125 : decode cX11_readBack 125 = .ok (.iconst (-1), 1) := by decide +kernel
theorem dX11_readBack_126 : decode cX11_readBack 126 = .ok (.if_icmp .ne 8, 3) := by decide +kernel
theorem dX11_readBack_129 : decode cX11_readBack 129 = .ok (.iload 6, 2) := by decide +kernel
theorem dX11_readBack_131 : decode cX11_readBack 131 = .ok (.goto 5, 3) := by decide +kernel
theorem dX11_readBack_134 : decode cX11_readBack 134 = .ok (.bipush (-4), 2) := by decide +kernel
theorem dX11_readBack_136 : decode cX11_readBack 136 = .ok (.ireturn, 1) := by decide +kernel
theorem dX11_image_0 : decode cX11_image 0 = .ok (.aload_n 0, 1) := by decide +kernel
theorem dX11_image_1 : decode cX11_image 1 = .ok (.getfield 33, 3) := by decide +kernel
theorem dX11_image_4 : decode cX11_image 4 = .ok (.aload_n 0, 1) := by decide +kernel
theorem dX11_image_5 : decode cX11_image 5 = .ok (.getfield 10, 3) := by decide +kernel
theorem dX11_image_8 : decode cX11_image 8 = .ok (.invokevirtual 121, 3) := by decide +kernel
theorem dX11_image_11 : decode cX11_image 11 = .ok (.aload_n 0, 1) := by decide +kernel
theorem dX11_image_12 : decode cX11_image 12 = .ok (.getfield 36, 3) := by decide +kernel
theorem dX11_image_15 : decode cX11_image 15 = .ok (.aload_n 0, 1) := by decide +kernel
theorem dX11_image_16 : decode cX11_image 16 = .ok (.getfield 22, 3) := by decide +kernel
theorem dX11_image_19 : decode cX11_image 19 = .ok (.invokevirtual 340, 3) := by decide +kernel
theorem dX11_image_22 : decode cX11_image 22 = .ok (.aload_n 0, 1) := by decide +kernel
theorem dX11_image_23 : decode cX11_image 23 = .ok (.getfield 39, 3) := by decide +kernel
theorem dX11_image_26 : decode cX11_image 26 = .ok (.aload_n 0, 1) := by decide +kernel
theorem dX11_image_27 : decode cX11_image 27 = .ok (.getfield 29, 3) := by decide +kernel
theorem dX11_image_30 : decode cX11_image 30 = .ok (.invokevirtual 343, 3) := by decide +kernel
theorem dX11_image_33 : decode cX11_image 33 = .ok (.aload_n 0, 1) := by decide +kernel
theorem dX11_image_34 : decode cX11_image 34 = .ok (.iconst 1, 1) := by decide +kernel
theorem dX11_image_35 : decode cX11_image 35 = .ok (.putfield 346, 3) := by decide +kernel
theorem dX11_image_38 : decode cX11_image 38 = .ok (.aload_n 0, 1) := by decide +kernel
theorem dX11_image_39 : decode cX11_image 39 = .ok (.getfield 10, 3) := by decide +kernel
theorem dX11_image_42 : decode cX11_image 42 = .ok (.getfield 349, 3) := by decide +kernel
theorem dX11_image_45 : decode cX11_image 45 = .ok (.ireturn, 1) := by decide +kernel
theorem dX11_restore_0 : decode cX11_restore 0 = .ok (.aload_n 0, 1) := by decide +kernel
theorem dX11_restore_1 : decode cX11_restore 1 = .ok (.getfield 346, 3) := by decide +kernel
theorem dX11_restore_4 : decode cX11_restore 4 = .ok (.ifCond .ne 6, 3) := by decide +kernel
theorem dX11_restore_7 : decode cX11_restore 7 = .ok (.bipush (-3), 2) := by decide +kernel
theorem dX11_restore_9 : decode cX11_restore 9 = .ok (.ireturn, 1) := by decide +kernel
theorem dX11_restore_10 : decode cX11_restore 10 = .ok (.aload_n 0, 1) := by decide +kernel
theorem dX11_restore_11 : decode cX11_restore 11 = .ok (.getfield 10, 3) := by decide +kernel
theorem dX11_restore_14 : decode cX11_restore 14 = .ok (.aload_n 0, 1) := by decide +kernel
theorem dX11_restore_15 : decode cX11_restore 15 = .ok (.getfield 33, 3) := by decide +kernel
theorem dX11_restore_18 : decode cX11_restore 18 = .ok (.invokevirtual 121, 3) := by decide +kernel
theorem dX11_restore_21 : decode cX11_restore 21 = .ok (.aload_n 0, 1) := by decide +kernel
theorem dX11_restore_22 : decode cX11_restore 22 = .ok (.getfield 22, 3) := by decide +kernel
theorem dX11_restore_25 : decode cX11_restore 25 = .ok (.aload_n 0, 1) := by decide +kernel
theorem dX11_restore_26 : decode cX11_restore 26 = .ok (.getfield 36, 3) := by decide +kernel
theorem dX11_restore_29 : decode cX11_restore 29 = .ok (.invokevirtual 340, 3) := by decide +kernel
theorem dX11_restore_32 : decode cX11_restore 32 = .ok (.aload_n 0, 1) := by decide +kernel
theorem dX11_restore_33 : decode cX11_restore 33 = .ok (.getfield 29, 3) := by decide +kernel
theorem dX11_restore_36 : decode cX11_restore 36 = .ok (.aload_n 0, 1) := by decide +kernel
theorem dX11_restore_37 : decode cX11_restore 37 = .ok (.getfield 39, 3) := by decide +kernel
theorem dX11_restore_40 : decode cX11_restore 40 = .ok (.invokevirtual 343, 3) := by decide +kernel
theorem dX11_restore_43 : decode cX11_restore 43 = .ok (.aload_n 0, 1) := by decide +kernel
theorem dX11_restore_44 : decode cX11_restore 44 = .ok (.getfield 10, 3) := by decide +kernel
theorem dX11_restore_47 : decode cX11_restore 47 = .ok (.getfield 349, 3) := by decide +kernel
theorem dX11_restore_50 : decode cX11_restore 50 = .ok (.ireturn, 1) := by decide +kernel
theorem dX11_count_0 : decode cX11_count 0 = .ok (.iload_n 1, 1) := by decide +kernel
theorem dX11_count_1 : decode cX11_count 1 = .ok (.tableswitch 110 0 6 #[43, 51, 59, 67, 75, 83, 91], 43) := by decide +kernel
theorem dX11_count_44 : decode cX11_count 44 = .ok (.aload_n 0, 1) := by decide +kernel
theorem dX11_count_45 : decode cX11_count 45 = .ok (.getfield 10, 3) := by decide +kernel
theorem dX11_count_48 : decode cX11_count 48 = .ok (.getfield 349, 3) := by decide +kernel
theorem dX11_count_51 : decode cX11_count 51 = .ok (.ireturn, 1) := by decide +kernel
theorem dX11_count_52 : decode cX11_count 52 = .ok (.aload_n 0, 1) := by decide +kernel
theorem dX11_count_53 : decode cX11_count 53 = .ok (.getfield 10, 3) := by decide +kernel
theorem dX11_count_56 : decode cX11_count 56 = .ok (.getfield 352, 3) := by decide +kernel
theorem dX11_count_59 : decode cX11_count 59 = .ok (.ireturn, 1) := by decide +kernel
theorem dX11_count_60 : decode cX11_count 60 = .ok (.aload_n 0, 1) := by decide +kernel
theorem dX11_count_61 : decode cX11_count 61 = .ok (.getfield 29, 3) := by decide +kernel
theorem dX11_count_64 : decode cX11_count 64 = .ok (.getfield 299, 3) := by decide +kernel
theorem dX11_count_67 : decode cX11_count 67 = .ok (.ireturn, 1) := by decide +kernel
theorem dX11_count_68 : decode cX11_count 68 = .ok (.aload_n 0, 1) := by decide +kernel
theorem dX11_count_69 : decode cX11_count 69 = .ok (.getfield 22, 3) := by decide +kernel
theorem dX11_count_72 : decode cX11_count 72 = .ok (.getfield 274, 3) := by decide +kernel
theorem dX11_count_75 : decode cX11_count 75 = .ok (.ireturn, 1) := by decide +kernel
theorem dX11_count_76 : decode cX11_count 76 = .ok (.aload_n 0, 1) := by decide +kernel
theorem dX11_count_77 : decode cX11_count 77 = .ok (.getfield 10, 3) := by decide +kernel
theorem dX11_count_80 : decode cX11_count 80 = .ok (.invokevirtual 355, 3) := by decide +kernel
theorem dX11_count_83 : decode cX11_count 83 = .ok (.ireturn, 1) := by decide +kernel
theorem dX11_count_84 : decode cX11_count 84 = .ok (.aload_n 0, 1) := by decide +kernel
theorem dX11_count_85 : decode cX11_count 85 = .ok (.getfield 10, 3) := by decide +kernel
theorem dX11_count_88 : decode cX11_count 88 = .ok (.invokevirtual 358, 3) := by decide +kernel
theorem dX11_count_91 : decode cX11_count 91 = .ok (.ireturn, 1) := by decide +kernel
theorem dX11_count_92 : decode cX11_count 92 = .ok (.aload_n 0, 1) := by decide +kernel
theorem dX11_count_93 : decode cX11_count 93 = .ok (.getfield 65, 3) := by decide +kernel
theorem dX11_count_96 : decode cX11_count 96 = .ok (.aload_n 0, 1) := by decide +kernel
theorem dX11_count_97 : decode cX11_count 97 = .ok (.getfield 10, 3) := by decide +kernel
theorem dX11_count_100 : decode cX11_count 100 = .ok (.invokevirtual 189, 3) := by decide +kernel
theorem dX11_count_103 : decode cX11_count 103 = .ok (.aload_n 0, 1) := by decide +kernel
theorem dX11_count_104 : decode cX11_count 104 = .ok (.getfield 65, 3) := by decide +kernel
theorem dX11_count_107 : decode cX11_count 107 = .ok (.invokevirtual 361, 3) := by decide +kernel
theorem dX11_count_110 : decode cX11_count 110 = .ok (.ireturn, 1) := by decide +kernel
theorem dX11_count_111 : decode cX11_count 111 = .ok (.iconst (-1), 1) := by decide +kernel
theorem dX11_count_112 : decode cX11_count 112 = .ok (.ireturn, 1) := by decide +kernel
theorem dX11_keep_0 : decode cX11_keep 0 = .ok (.iload_n 1, 1) := by decide +kernel
theorem dX11_keep_1 : decode cX11_keep 1 = .ok (.invokestatic 94, 3) := by decide +kernel
theorem dX11_keep_4 : decode cX11_keep 4 = .ok (.ifCond .eq 25, 3) := by decide +kernel
theorem dX11_keep_7 : decode cX11_keep 7 = .ok (.iload_n 2, 1) := by decide +kernel
theorem dX11_keep_8 : decode cX11_keep 8 = .ok (.iconst 0, 1) := by decide +kernel
theorem dX11_keep_9 : decode cX11_keep 9 = .ok (.iconst 1, 1) := by decide +kernel
theorem dX11_keep_10 : decode cX11_keep 10 = .ok (.invokestatic 170, 3) := by decide +kernel
theorem dX11_keep_13 : decode cX11_keep 13 = .ok (.ifCond .eq 16, 3) := by decide +kernel
theorem dX11_keep_16 : decode cX11_keep 16 = .ok (.iload_n 2, 1) := by decide +kernel
theorem dX11_keep_17 : decode cX11_keep 17 = .ok (.iconst 1, 1) := by decide +kernel
theorem dX11_keep_18 : decode cX11_keep 18 = .ok (.if_icmp .ne 13, 3) := by decide +kernel
theorem dX11_keep_21 : decode cX11_keep 21 = .ok (.aload_n 0, 1) := by decide +kernel
theorem dX11_keep_22 : decode cX11_keep 22 = .ok (.iload_n 3, 1) := by decide +kernel
theorem dX11_keep_23 : decode cX11_keep 23 = .ok (.invokevirtual 139, 3) := by decide +kernel
theorem dX11_keep_26 : decode cX11_keep 26 = .ok (.ifCond .ne 5, 3) := by decide +kernel
theorem dX11_keep_29 : decode cX11_keep 29 = .ok (.iconst (-1), 1) := by decide +kernel
theorem dX11_keep_30 : decode cX11_keep 30 = .ok (.ireturn, 1) := by decide +kernel
theorem dX11_keep_31 : decode cX11_keep 31 = .ok (.iload_n 2, 1) := by decide +kernel
theorem dX11_keep_32 : decode cX11_keep 32 = .ok (.ifCond .ne 15, 3) := by decide +kernel
theorem dX11_keep_35 : decode cX11_keep 35 = .ok (.aload_n 0, 1) := by decide +kernel
theorem dX11_keep_36 : decode cX11_keep 36 = .ok (.getfield 44, 3) := by decide +kernel
theorem dX11_keep_39 : decode cX11_keep 39 = .ok (.iload_n 1, 1) := by decide +kernel
theorem dX11_keep_40 : decode cX11_keep 40 = .ok (.aaload, 1) := by decide +kernel
theorem dX11_keep_41 : decode cX11_keep 41 = .ok (.invokevirtual 364, 3) := by decide +kernel
theorem dX11_keep_44 : decode cX11_keep 44 = .ok (.goto 21, 3) := by decide +kernel
theorem dX11_keep_47 : decode cX11_keep 47 = .ok (.aload_n 0, 1) := by decide +kernel
theorem dX11_keep_48 : decode cX11_keep 48 = .ok (.getfield 44, 3) := by decide +kernel
theorem dX11_keep_51 : decode cX11_keep 51 = .ok (.iload_n 1, 1) := by decide +kernel
theorem dX11_keep_52 : decode cX11_keep 52 = .ok (.aaload, 1) := by decide +kernel
theorem dX11_keep_53 : decode cX11_keep 53 = .ok (.aload_n 0, 1) := by decide +kernel
theorem dX11_keep_54 : decode cX11_keep 54 = .ok (.getfield 10, 3) := by decide +kernel
theorem dX11_keep_57 : decode cX11_keep 57 = .ok (.getfield 142, 3) := by decide +kernel
theorem dX11_keep_60 : decode cX11_keep 60 = .ok (.iload_n 3, 1) := by decide +kernel
theorem dX11_keep_61 : decode cX11_keep 61 = .ok (.aaload, 1) := by decide +kernel
theorem dX11_keep_62 : decode cX11_keep 62 = .ok (.invokevirtual 367, 3) := by decide +kernel
theorem dX11_keep_65 : decode cX11_keep 65 = .ok (.iconst 0, 1) := by decide +kernel
theorem dX11_keep_66 : decode cX11_keep 66 = .ok (.ireturn, 1) := by decide +kernel
theorem dX11_row_0 : decode cX11_row 0 = .ok (.iload_n 1, 1) := by decide +kernel
theorem dX11_row_1 : decode cX11_row 1 = .ok (.invokestatic 94, 3) := by decide +kernel
theorem dX11_row_4 : decode cX11_row 4 = .ok (.ifCond .eq 18, 3) := by decide +kernel
theorem dX11_row_7 : decode cX11_row 7 = .ok (.iload_n 2, 1) := by decide +kernel
theorem dX11_row_8 : decode cX11_row 8 = .ok (.iconst 0, 1) := by decide +kernel
theorem dX11_row_9 : decode cX11_row 9 = .ok (.iconst 2, 1) := by decide +kernel
theorem dX11_row_10 : decode cX11_row 10 = .ok (.invokestatic 170, 3) := by decide +kernel
theorem dX11_row_13 : decode cX11_row 13 = .ok (.ifCond .eq 9, 3) := by decide +kernel
theorem dX11_row_16 : decode cX11_row 16 = .ok (.iload_n 3, 1) := by decide +kernel
theorem dX11_row_17 : decode cX11_row 17 = .ok (.bipush 120, 2) := by decide +kernel
theorem dX11_row_19 : decode cX11_row 19 = .ok (.if_icmp .le 5, 3) := by decide +kernel
theorem dX11_row_22 : decode cX11_row 22 = .ok (.iconst (-1), 1) := by decide +kernel
theorem dX11_row_23 : decode cX11_row 23 = .ok (.ireturn, 1) := by decide +kernel
theorem dX11_row_24 : decode cX11_row 24 = .ok (.iload_n 3, 1) := by decide +kernel
theorem dX11_row_25 : decode cX11_row 25 = .ok (.ifCond .ge 6, 3) := by decide +kernel
theorem dX11_row_28 : decode cX11_row 28 = .ok (.bipush (-14), 2) := by decide +kernel
theorem dX11_row_30 : decode cX11_row 30 = .ok (.ireturn, 1) := by decide +kernel
theorem dX11_row_31 : decode cX11_row 31 = .ok (.aload_n 0, 1) := by decide +kernel
theorem dX11_row_32 : decode cX11_row 32 = .ok (.getfield 44, 3) := by decide +kernel
theorem dX11_row_35 : decode cX11_row 35 = .ok (.iload_n 1, 1) := by decide +kernel
theorem dX11_row_36 : decode cX11_row 36 = .ok (.aaload, 1) := by decide +kernel
theorem dX11_row_37 : decode cX11_row 37 = .ok (.iload_n 2, 1) := by decide +kernel
theorem dX11_row_38 : decode cX11_row 38 = .ok (.iload_n 3, 1) := by decide +kernel
theorem dX11_row_39 : decode cX11_row 39 = .ok (.invokevirtual 371, 3) := by decide +kernel
theorem dX11_row_42 : decode cX11_row 42 = .ok (.iconst 0, 1) := by decide +kernel
theorem dX11_row_43 : decode cX11_row 43 = .ok (.ireturn, 1) := by decide +kernel
theorem dX11_put_0 : decode cX11_put 0 = .ok (.iload_n 1, 1) := by decide +kernel
theorem dX11_put_1 : decode cX11_put 1 = .ok (.invokestatic 94, 3) := by decide +kernel
theorem dX11_put_4 : decode cX11_put 4 = .ok (.ifCond .ne 5, 3) := by decide +kernel
theorem dX11_put_7 : decode cX11_put 7 = .ok (.iconst (-1), 1) := by decide +kernel
theorem dX11_put_8 : decode cX11_put 8 = .ok (.ireturn, 1) := by decide +kernel
theorem dX11_put_9 : decode cX11_put 9 = .ok (.aload_n 0, 1) := by decide +kernel
theorem dX11_put_10 : decode cX11_put 10 = .ok (.getfield 44, 3) := by decide +kernel
theorem dX11_put_13 : decode cX11_put 13 = .ok (.iload_n 1, 1) := by decide +kernel
theorem dX11_put_14 : decode cX11_put 14 = .ok (.aaload, 1) := by decide +kernel
theorem dX11_put_15 : decode cX11_put 15 = .ok (.astore 4, 2) := by decide +kernel
theorem dX11_put_17 : decode cX11_put 17 = .ok (.aload 4, 2) := by decide +kernel
theorem dX11_put_19 : decode cX11_put 19 = .ok (.invokevirtual 374, 3) := by decide +kernel
theorem dX11_put_22 : decode cX11_put 22 = .ok (.istore 5, 2) := by decide +kernel
theorem dX11_put_24 : decode cX11_put 24 = .ok (.iload 5, 2) := by decide +kernel
theorem dX11_put_26 : decode cX11_put 26 = .ok (.ifCond .eq 6, 3) := by decide +kernel
theorem dX11_put_29 : decode cX11_put 29 = .ok (.iload 5, 2) := by decide +kernel
theorem dX11_put_31 : decode cX11_put 31 = .ok (.ireturn, 1) := by decide +kernel
theorem dX11_put_32 : decode cX11_put 32 = .ok (.aload 4, 2) := by decide +kernel
theorem dX11_put_34 : decode cX11_put 34 = .ok (.iload_n 2, 1) := by decide +kernel
theorem dX11_put_35 : decode cX11_put 35 = .ok (.invokevirtual 377, 3) := by decide +kernel
theorem dX11_put_38 : decode cX11_put 38 = .ok (.ifCond .ne 6, 3) := by decide +kernel
theorem dX11_put_41 : decode cX11_put 41 = .ok (.bipush (-13), 2) := by decide +kernel
theorem dX11_put_43 : decode cX11_put 43 = .ok (.ireturn, 1) := by decide +kernel
theorem dX11_put_44 : decode cX11_put 44 = .ok (.aload 4, 2) := by decide +kernel
theorem dX11_put_46 : decode cX11_put 46 = .ok (.iload_n 2, 1) := by decide +kernel
theorem dX11_put_47 : decode cX11_put 47 = .ok (.iload_n 3, 1) := by decide +kernel
theorem dX11_put_48 : decode cX11_put 48 = .ok (.invokevirtual 380, 3) := by decide +kernel
theorem dX11_put_51 : decode cX11_put 51 = .ok (.iconst 0, 1) := by decide +kernel
theorem dX11_put_52 : decode cX11_put 52 = .ok (.ireturn, 1) := by decide +kernel
theorem dX11_element_0 : decode cX11_element 0 = .ok (.iload_n 1, 1) := by decide +kernel
theorem dX11_element_1 : decode cX11_element 1 = .ok (.invokestatic 94, 3) := by decide +kernel
theorem dX11_element_4 : decode cX11_element 4 = .ok (.ifCond .ne 14, 3) := by decide +kernel
theorem dX11_element_7 : decode cX11_element 7 = .ok (.new 383, 3) := by decide +kernel
theorem dX11_element_10 : decode cX11_element 10 = .ok (.dup, 1) := by decide +kernel
theorem dX11_element_11 : decode cX11_element 11 = .ok (.ldc_w 385, 3) := by decide +kernel
theorem dX11_element_14 : decode cX11_element 14 = .ok (.invokespecial 387, 3) := by decide +kernel
theorem dX11_element_17 : decode cX11_element 17 = .ok (.athrow, 1) := by decide +kernel
theorem dX11_element_18 : decode cX11_element 18 = .ok (.aload_n 0, 1) := by decide +kernel
theorem dX11_element_19 : decode cX11_element 19 = .ok (.getfield 44, 3) := by decide +kernel
theorem dX11_element_22 : decode cX11_element 22 = .ok (.iload_n 1, 1) := by decide +kernel
theorem dX11_element_23 : decode cX11_element 23 = .ok (.aaload, 1) := by decide +kernel
theorem dX11_element_24 : decode cX11_element 24 = .ok (.invokevirtual 390, 3) := by decide +kernel
theorem dX11_element_27 : decode cX11_element 27 = .ok (.ifCond .eq 16, 3) := by decide +kernel
theorem dX11_element_30 : decode cX11_element 30 = .ok (.aload_n 0, 1) := by decide +kernel
theorem dX11_element_31 : decode cX11_element 31 = .ok (.getfield 44, 3) := by decide +kernel
theorem dX11_element_34 : decode cX11_element 34 = .ok (.iload_n 1, 1) := by decide +kernel
theorem dX11_element_35 : decode cX11_element 35 = .ok (.aaload, 1) := by decide +kernel
theorem dX11_element_36 : decode cX11_element 36 = .ok (.iload_n 2, 1) := by decide +kernel
theorem dX11_element_37 : decode cX11_element 37 = .ok (.invokevirtual 377, 3) := by decide +kernel
theorem dX11_element_40 : decode cX11_element 40 = .ok (.ifCond .ne 14, 3) := by decide +kernel
theorem dX11_element_43 : decode cX11_element 43 = .ok (.new 393, 3) := by decide +kernel
theorem dX11_element_46 : decode cX11_element 46 = .ok (.dup, 1) := by decide +kernel
theorem dX11_element_47 : decode cX11_element 47 = .ok (.ldc_w 395, 3) := by decide +kernel
theorem dX11_element_50 : decode cX11_element 50 = .ok (.invokespecial 397, 3) := by decide +kernel
theorem dX11_element_53 : decode cX11_element 53 = .ok (.athrow, 1) := by decide +kernel
theorem dX11_element_54 : decode cX11_element 54 = .ok (.aload_n 0, 1) := by decide +kernel
theorem dX11_element_55 : decode cX11_element 55 = .ok (.getfield 44, 3) := by decide +kernel
theorem dX11_element_58 : decode cX11_element 58 = .ok (.iload_n 1, 1) := by decide +kernel
theorem dX11_element_59 : decode cX11_element 59 = .ok (.aaload, 1) := by decide +kernel
theorem dX11_element_60 : decode cX11_element 60 = .ok (.getfield 102, 3) := by decide +kernel
theorem dX11_element_63 : decode cX11_element 63 = .ok (.iload_n 2, 1) := by decide +kernel
theorem dX11_element_64 : decode cX11_element 64 = .ok (.iaload, 1) := by decide +kernel
theorem dX11_element_65 : decode cX11_element 65 = .ok (.i2l, 1) := by decide +kernel
theorem dX11_element_66 : decode cX11_element 66 = .ok (.lreturn, 1) := by decide +kernel
theorem dX11_copy_0 : decode cX11_copy 0 = .ok (.iload_n 1, 1) := by decide +kernel
theorem dX11_copy_1 : decode cX11_copy 1 = .ok (.invokestatic 94, 3) := by decide +kernel
theorem dX11_copy_4 : decode cX11_copy 4 = .ok (.ifCond .eq 10, 3) := by decide +kernel
theorem dX11_copy_7 : decode cX11_copy 7 = .ok (.iload_n 3, 1) := by decide +kernel
theorem dX11_copy_8 : decode cX11_copy 8 = .ok (.invokestatic 94, 3) := by decide +kernel
theorem dX11_copy_11 : decode cX11_copy 11 = .ok (.ifCond .ne 5, 3) := by decide +kernel
theorem dX11_copy_14 : decode cX11_copy 14 = .ok (.iconst (-1), 1) := by decide +kernel
theorem dX11_copy_15 : decode cX11_copy 15 = .ok (.ireturn, 1) := by decide +kernel
theorem dX11_copy_16 : decode cX11_copy 16 = .ok (.aload_n 0, 1) := by decide +kernel
theorem dX11_copy_17 : decode cX11_copy 17 = .ok (.getfield 44, 3) := by decide +kernel
theorem dX11_copy_20 : decode cX11_copy 20 = .ok (.iload_n 1, 1) := by decide +kernel
theorem dX11_copy_21 : decode cX11_copy 21 = .ok (.aaload, 1) := by decide +kernel
theorem dX11_copy_22 : decode cX11_copy 22 = .ok (.astore 6, 2) := by decide +kernel
theorem dX11_copy_24 : decode cX11_copy 24 = .ok (.aload_n 0, 1) := by decide +kernel
theorem dX11_copy_25 : decode cX11_copy 25 = .ok (.getfield 44, 3) := by decide +kernel
theorem dX11_copy_28 : decode cX11_copy 28 = .ok (.iload_n 3, 1) := by decide +kernel
theorem dX11_copy_29 : decode cX11_copy 29 = .ok (.aaload, 1) := by decide +kernel
theorem dX11_copy_30 : decode cX11_copy 30 = .ok (.astore 7, 2) := by decide +kernel
theorem dX11_copy_32 : decode cX11_copy 32 = .ok (.aload 6, 2) := by decide +kernel
theorem dX11_copy_34 : decode cX11_copy 34 = .ok (.invokevirtual 398, 3) := by decide +kernel
theorem dX11_copy_37 : decode cX11_copy 37 = .ok (.ifCond .ne 11, 3) := by decide +kernel
theorem dX11_copy_40 : decode cX11_copy 40 = .ok (.aload 7, 2) := by decide +kernel
theorem dX11_copy_42 : decode cX11_copy 42 = .ok (.invokevirtual 398, 3) := by decide +kernel
theorem dX11_copy_45 : decode cX11_copy 45 = .ok (.ifCond .eq 6, 3) := by decide +kernel
theorem dX11_copy_48 : decode cX11_copy 48 = .ok (.bipush (-11), 2) := by decide +kernel
theorem dX11_copy_50 : decode cX11_copy 50 = .ok (.ireturn, 1) := by decide +kernel
theorem dX11_copy_51 : decode cX11_copy 51 = .ok (.aload 6, 2) := by decide +kernel
theorem dX11_copy_53 : decode cX11_copy 53 = .ok (.invokevirtual 390, 3) := by decide +kernel
theorem dX11_copy_56 : decode cX11_copy 56 = .ok (.ifCond .eq 24, 3) := by decide +kernel
theorem dX11_copy_59 : decode cX11_copy 59 = .ok (.aload 7, 2) := by decide +kernel
theorem dX11_copy_61 : decode cX11_copy 61 = .ok (.invokevirtual 390, 3) := by decide +kernel
theorem dX11_copy_64 : decode cX11_copy 64 = .ok (.ifCond .eq 16, 3) := by decide +kernel
theorem dX11_copy_67 : decode cX11_copy 67 = .ok (.aload 6, 2) := by decide +kernel
theorem dX11_copy_69 : decode cX11_copy 69 = .ok (.getfield 401, 3) := by decide +kernel
theorem dX11_copy_72 : decode cX11_copy 72 = .ok (.aload 7, 2) := by decide +kernel
theorem dX11_copy_74 : decode cX11_copy 74 = .ok (.getfield 401, 3) := by decide +kernel
theorem dX11_copy_77 : decode cX11_copy 77 = .ok (.if_icmp .eq 6, 3) := by decide +kernel
theorem dX11_copy_80 : decode cX11_copy 80 = .ok (.bipush (-12), 2) := by decide +kernel
theorem dX11_copy_82 : decode cX11_copy 82 = .ok (.ireturn, 1) := by decide +kernel
theorem dX11_copy_83 : decode cX11_copy 83 = .ok (.aload 6, 2) := by decide +kernel
theorem dX11_copy_85 : decode cX11_copy 85 = .ok (.iload_n 2, 1) := by decide +kernel
theorem dX11_copy_86 : decode cX11_copy 86 = .ok (.iload 5, 2) := by decide +kernel
theorem dX11_copy_88 : decode cX11_copy 88 = .ok (.invokevirtual 404, 3) := by decide +kernel
theorem dX11_copy_91 : decode cX11_copy 91 = .ok (.ifCond .eq 15, 3) := by decide +kernel
theorem dX11_copy_94 : decode cX11_copy 94 = .ok (.aload 7, 2) := by decide +kernel
theorem dX11_copy_96 : decode cX11_copy 96 = .ok (.iload 4, 2) := by decide +kernel
theorem dX11_copy_98 : decode cX11_copy 98 = .ok (.iload 5, 2) := by decide +kernel
theorem dX11_copy_100 : decode cX11_copy 100 = .ok (.invokevirtual 404, 3) := by decide +kernel
theorem dX11_copy_103 : decode cX11_copy 103 = .ok (.ifCond .ne 6, 3) := by decide +kernel
theorem dX11_copy_106 : decode cX11_copy 106 = .ok (.bipush (-13), 2) := by decide +kernel
theorem dX11_copy_108 : decode cX11_copy 108 = .ok (.ireturn, 1) := by decide +kernel
theorem dX11_copy_109 : decode cX11_copy 109 = .ok (.aload 6, 2) := by decide +kernel
theorem dX11_copy_111 : decode cX11_copy 111 = .ok (.getfield 102, 3) := by decide +kernel
theorem dX11_copy_114 : decode cX11_copy 114 = .ok (.iload_n 2, 1) := by decide +kernel
theorem dX11_copy_115 : decode cX11_copy 115 = .ok (.aload 7, 2) := by decide +kernel
theorem dX11_copy_117 : decode cX11_copy 117 = .ok (.getfield 102, 3) := by decide +kernel
theorem dX11_copy_120 : decode cX11_copy 120 = .ok (.iload 4, 2) := by decide +kernel
theorem dX11_copy_122 : decode cX11_copy 122 = .ok (.iload 5, 2) := by decide +kernel
theorem dX11_copy_124 : decode cX11_copy 124 = .ok (.invokestatic 407, 3) := by decide +kernel
theorem dX11_copy_127 : decode cX11_copy 127 = .ok (.iload 5, 2) := by decide +kernel
theorem dX11_copy_129 : decode cX11_copy 129 = .ok (.ireturn, 1) := by decide +kernel
theorem dX11_weight_0 : decode cX11_weight 0 = .ok (.iload_n 1, 1) := by decide +kernel
theorem dX11_weight_1 : decode cX11_weight 1 = .ok (.invokestatic 94, 3) := by decide +kernel
theorem dX11_weight_4 : decode cX11_weight 4 = .ok (.ifCond .ne 5, 3) := by decide +kernel
theorem dX11_weight_7 : decode cX11_weight 7 = .ok (.iconst (-1), 1) := by decide +kernel
theorem dX11_weight_8 : decode cX11_weight 8 = .ok (.ireturn, 1) := by decide +kernel
theorem dX11_weight_9 : decode cX11_weight 9 = .ok (.aload_n 0, 1) := by decide +kernel
theorem dX11_weight_10 : decode cX11_weight 10 = .ok (.getfield 44, 3) := by decide +kernel
theorem dX11_weight_13 : decode cX11_weight 13 = .ok (.iload_n 1, 1) := by decide +kernel
theorem dX11_weight_14 : decode cX11_weight 14 = .ok (.aaload, 1) := by decide +kernel
theorem dX11_weight_15 : decode cX11_weight 15 = .ok (.invokevirtual 413, 3) := by decide +kernel
theorem dX11_weight_18 : decode cX11_weight 18 = .ok (.istore_n 2, 1) := by decide +kernel
theorem dX11_weight_19 : decode cX11_weight 19 = .ok (.iload_n 2, 1) := by decide +kernel
theorem dX11_weight_20 : decode cX11_weight 20 = .ok (.ifCond .eq 7, 3) := by decide +kernel
theorem dX11_weight_23 : decode cX11_weight 23 = .ok (.iload_n 2, 1) := by decide +kernel
theorem dX11_weight_24 : decode cX11_weight 24 = .ok (.goto 15, 3) := by decide +kernel
theorem dX11_weight_27 : decode cX11_weight 27 = .ok (.aload_n 0, 1) := by decide +kernel
theorem dX11_weight_28 : decode cX11_weight 28 = .ok (.getfield 44, 3) := by decide +kernel
theorem dX11_weight_31 : decode cX11_weight 31 = .ok (.iload_n 1, 1) := by decide +kernel
theorem dX11_weight_32 : decode cX11_weight 32 = .ok (.aaload, 1) := by decide +kernel
theorem dX11_weight_33 : decode cX11_weight 33 = .ok (.getfield 416, 3) := by decide +kernel
theorem dX11_weight_36 : decode cX11_weight 36 = .ok (.invokevirtual 419, 3) := by decide +kernel
theorem dX11_weight_39 : decode cX11_weight 39 = .ok (.ireturn, 1) := by decide +kernel
theorem dX11_toss_0 : decode cX11_toss 0 = .ok (.iload_n 1, 1) := by decide +kernel
theorem dX11_toss_1 : decode cX11_toss 1 = .ok (.invokestatic 94, 3) := by decide +kernel
theorem dX11_toss_4 : decode cX11_toss 4 = .ok (.ifCond .ne 5, 3) := by decide +kernel
theorem dX11_toss_7 : decode cX11_toss 7 = .ok (.iconst (-1), 1) := by decide +kernel
theorem dX11_toss_8 : decode cX11_toss 8 = .ok (.ireturn, 1) := by decide +kernel
theorem dX11_toss_9 : decode cX11_toss 9 = .ok (.aload_n 0, 1) := by decide +kernel
theorem dX11_toss_10 : decode cX11_toss 10 = .ok (.getfield 44, 3) := by decide +kernel
theorem dX11_toss_13 : decode cX11_toss 13 = .ok (.iload_n 1, 1) := by decide +kernel
theorem dX11_toss_14 : decode cX11_toss 14 = .ok (.aaload, 1) := by decide +kernel
theorem dX11_toss_15 : decode cX11_toss 15 = .ok (.invokevirtual 413, 3) := by decide +kernel
theorem dX11_toss_18 : decode cX11_toss 18 = .ok (.istore_n 2, 1) := by decide +kernel
theorem dX11_toss_19 : decode cX11_toss 19 = .ok (.iload_n 2, 1) := by decide +kernel
theorem dX11_toss_20 : decode cX11_toss 20 = .ok (.ifCond .eq 5, 3) := by decide +kernel
theorem dX11_toss_23 : decode cX11_toss 23 = .ok (.iload_n 2, 1) := by decide +kernel
theorem dX11_toss_24 : decode cX11_toss 24 = .ok (.ireturn, 1) := by decide +kernel
theorem dX11_toss_25 : decode cX11_toss 25 = .ok (.aload_n 0, 1) := by decide +kernel
theorem dX11_toss_26 : decode cX11_toss 26 = .ok (.getfield 44, 3) := by decide +kernel
theorem dX11_toss_29 : decode cX11_toss 29 = .ok (.iload_n 1, 1) := by decide +kernel
theorem dX11_toss_30 : decode cX11_toss 30 = .ok (.aaload, 1) := by decide +kernel
theorem dX11_toss_31 : decode cX11_toss 31 = .ok (.getfield 416, 3) := by decide +kernel
theorem dX11_toss_34 : decode cX11_toss 34 = .ok (.invokevirtual 422, 3) := by decide +kernel
theorem dX11_toss_37 : decode cX11_toss 37 = .ok (.goto 17, 3) := by decide +kernel
theorem dX11_toss_40 : decode cX11_toss 40 = .ok (.astore_n 3, 1) := by decide +kernel
theorem dX11_toss_41 : decode cX11_toss 41 = .ok (.aload_n 0, 1) := by decide +kernel
theorem dX11_toss_42 : decode cX11_toss 42 = .ok (.getfield 44, 3) := by decide +kernel
theorem dX11_toss_45 : decode cX11_toss 45 = .ok (.iload_n 1, 1) := by decide +kernel
theorem dX11_toss_46 : decode cX11_toss 46 = .ok (.aaload, 1) := by decide +kernel
theorem dX11_toss_47 : decode cX11_toss 47 = .ok (.getfield 416, 3) := by decide +kernel
theorem dX11_toss_50 : decode cX11_toss 50 = .ok (.invokevirtual 425, 3) := by decide +kernel
theorem dX11_toss_53 : decode cX11_toss 53 = .ok (.ireturn, 1) := by decide +kernel
theorem dX11_toss_54 : decode cX11_toss 54 = .ok (.bipush (-15), 2) := by decide +kernel
theorem dX11_toss_56 : decode cX11_toss 56 = .ok (.ireturn, 1) := by decide +kernel
theorem dX11_isWithin_0 : decode cX11_isWithin 0 = .ok (.iload_n 0, 1) := by decide +kernel
theorem dX11_isWithin_1 : decode cX11_isWithin 1 = .ok (.iload_n 1, 1) := by decide +kernel
theorem dX11_isWithin_2 : decode cX11_isWithin 2 = .ok (.if_icmp .lt 12, 3) := by decide +kernel
theorem dX11_isWithin_5 : decode cX11_isWithin 5 = .ok (.iload_n 0, 1) := by decide +kernel
theorem dX11_isWithin_6 : decode cX11_isWithin 6 = .ok (.iload_n 2, 1) := by decide +kernel
theorem dX11_isWithin_7 : decode cX11_isWithin 7 = .ok (.if_icmp .gt 7, 3) := by decide +kernel
theorem dX11_isWithin_10 : decode cX11_isWithin 10 = .ok (.iconst 1, 1) := by decide +kernel
theorem dX11_isWithin_11 : decode cX11_isWithin 11 = .ok (.goto 4, 3) := by decide +kernel
theorem dX11_isWithin_14 : decode cX11_isWithin 14 = .ok (.iconst 0, 1) := by decide +kernel
theorem dX11_isWithin_15 : decode cX11_isWithin 15 = .ok (.ireturn, 1) := by decide +kernel
theorem dX11_isShelf_0 : decode cX11_isShelf 0 = .ok (.iload_n 0, 1) := by decide +kernel
theorem dX11_isShelf_1 : decode cX11_isShelf 1 = .ok (.iconst 0, 1) := by decide +kernel
theorem dX11_isShelf_2 : decode cX11_isShelf 2 = .ok (.bipush 7, 2) := by decide +kernel
theorem dX11_isShelf_4 : decode cX11_isShelf 4 = .ok (.invokestatic 170, 3) := by decide +kernel
theorem dX11_isShelf_7 : decode cX11_isShelf 7 = .ok (.ireturn, 1) := by decide +kernel
theorem dX11_isGear_0 : decode cX11_isGear 0 = .ok (.iload_n 1, 1) := by decide +kernel
theorem dX11_isGear_1 : decode cX11_isGear 1 = .ok (.iconst 0, 1) := by decide +kernel
theorem dX11_isGear_2 : decode cX11_isGear 2 = .ok (.aload_n 0, 1) := by decide +kernel
theorem dX11_isGear_3 : decode cX11_isGear 3 = .ok (.getfield 10, 3) := by decide +kernel
theorem dX11_isGear_6 : decode cX11_isGear 6 = .ok (.getfield 349, 3) := by decide +kernel
theorem dX11_isGear_9 : decode cX11_isGear 9 = .ok (.iconst 1, 1) := by decide +kernel
theorem dX11_isGear_10 : decode cX11_isGear 10 = .ok (.isub, 1) := by decide +kernel
theorem dX11_isGear_11 : decode cX11_isGear 11 = .ok (.invokestatic 170, 3) := by decide +kernel
theorem dX11_isGear_14 : decode cX11_isGear 14 = .ok (.ireturn, 1) := by decide +kernel
theorem dX11_isMesh_0 : decode cX11_isMesh 0 = .ok (.iload_n 1, 1) := by decide +kernel
theorem dX11_isMesh_1 : decode cX11_isMesh 1 = .ok (.iconst 0, 1) := by decide +kernel
theorem dX11_isMesh_2 : decode cX11_isMesh 2 = .ok (.aload_n 0, 1) := by decide +kernel
theorem dX11_isMesh_3 : decode cX11_isMesh 3 = .ok (.getfield 10, 3) := by decide +kernel
theorem dX11_isMesh_6 : decode cX11_isMesh 6 = .ok (.getfield 352, 3) := by decide +kernel
theorem dX11_isMesh_9 : decode cX11_isMesh 9 = .ok (.iconst 1, 1) := by decide +kernel
theorem dX11_isMesh_10 : decode cX11_isMesh 10 = .ok (.isub, 1) := by decide +kernel
theorem dX11_isMesh_11 : decode cX11_isMesh 11 = .ok (.invokestatic 170, 3) := by decide +kernel
theorem dX11_isMesh_14 : decode cX11_isMesh 14 = .ok (.ireturn, 1) := by decide +kernel
theorem dX11_isRule_0 : decode cX11_isRule 0 = .ok (.iload_n 1, 1) := by decide +kernel
theorem dX11_isRule_1 : decode cX11_isRule 1 = .ok (.iconst 0, 1) := by decide +kernel
theorem dX11_isRule_2 : decode cX11_isRule 2 = .ok (.aload_n 0, 1) := by decide +kernel
theorem dX11_isRule_3 : decode cX11_isRule 3 = .ok (.getfield 29, 3) := by decide +kernel
theorem dX11_isRule_6 : decode cX11_isRule 6 = .ok (.getfield 299, 3) := by decide +kernel
theorem dX11_isRule_9 : decode cX11_isRule 9 = .ok (.iconst 1, 1) := by decide +kernel
theorem dX11_isRule_10 : decode cX11_isRule 10 = .ok (.isub, 1) := by decide +kernel
theorem dX11_isRule_11 : decode cX11_isRule 11 = .ok (.invokestatic 170, 3) := by decide +kernel
theorem dX11_isRule_14 : decode cX11_isRule 14 = .ok (.ireturn, 1) := by decide +kernel
theorem dX11_isSteps_0 : decode cX11_isSteps 0 = .ok (.iload_n 0, 1) := by decide +kernel
theorem dX11_isSteps_1 : decode cX11_isSteps 1 = .ok (.iconst 1, 1) := by decide +kernel
theorem dX11_isSteps_2 : decode cX11_isSteps 2 = .ok (.bipush 32, 2) := by decide +kernel
theorem dX11_isSteps_4 : decode cX11_isSteps 4 = .ok (.invokestatic 170, 3) := by decide +kernel
theorem dX11_isSteps_7 : decode cX11_isSteps 7 = .ok (.ireturn, 1) := by decide +kernel
theorem dX11_isWearLoad_0 : decode cX11_isWearLoad 0 = .ok (.iload_n 0, 1) := by decide +kernel
theorem dX11_isWearLoad_1 : decode cX11_isWearLoad 1 = .ok (.iconst 1, 1) := by decide +kernel
theorem dX11_isWearLoad_2 : decode cX11_isWearLoad 2 = .ok (.sipush 999, 3) := by decide +kernel
theorem dX11_isWearLoad_5 : decode cX11_isWearLoad 5 = .ok (.invokestatic 170, 3) := by decide +kernel
theorem dX11_isWearLoad_8 : decode cX11_isWearLoad 8 = .ok (.ireturn, 1) := by decide +kernel
theorem dX11_isLoad_0 : decode cX11_isLoad 0 = .ok (.iload_n 0, 1) := by decide +kernel
theorem dX11_isLoad_1 : decode cX11_isLoad 1 = .ok (.iconst 0, 1) := by decide +kernel
theorem dX11_isLoad_2 : decode cX11_isLoad 2 = .ok (.sipush 9999, 3) := by decide +kernel
theorem dX11_isLoad_5 : decode cX11_isLoad 5 = .ok (.invokestatic 170, 3) := by decide +kernel
theorem dX11_isLoad_8 : decode cX11_isLoad 8 = .ok (.ireturn, 1) := by decide +kernel
theorem dX11_areSunAndRing_0 : decode cX11_areSunAndRing 0 = .ok (.iload_n 0, 1) := by decide +kernel
theorem dX11_areSunAndRing_1 : decode cX11_areSunAndRing 1 = .ok (.iconst 4, 1) := by decide +kernel
theorem dX11_areSunAndRing_2 : decode cX11_areSunAndRing 2 = .ok (.bipush 99, 2) := by decide +kernel
theorem dX11_areSunAndRing_4 : decode cX11_areSunAndRing 4 = .ok (.invokestatic 170, 3) := by decide +kernel
theorem dX11_areSunAndRing_7 : decode cX11_areSunAndRing 7 = .ok (.ifCond .eq 17, 3) := by decide +kernel
theorem dX11_areSunAndRing_10 : decode cX11_areSunAndRing 10 = .ok (.iload_n 1, 1) := by decide +kernel
theorem dX11_areSunAndRing_11 : decode cX11_areSunAndRing 11 = .ok (.iconst 4, 1) := by decide +kernel
theorem dX11_areSunAndRing_12 : decode cX11_areSunAndRing 12 = .ok (.bipush 99, 2) := by decide +kernel
theorem dX11_areSunAndRing_14 : decode cX11_areSunAndRing 14 = .ok (.invokestatic 170, 3) := by decide +kernel
theorem dX11_areSunAndRing_17 : decode cX11_areSunAndRing 17 = .ok (.ifCond .eq 7, 3) := by decide +kernel
theorem dX11_areSunAndRing_20 : decode cX11_areSunAndRing 20 = .ok (.iconst 1, 1) := by decide +kernel
theorem dX11_areSunAndRing_21 : decode cX11_areSunAndRing 21 = .ok (.goto 4, 3) := by decide +kernel
theorem dX11_areSunAndRing_24 : decode cX11_areSunAndRing 24 = .ok (.iconst 0, 1) := by decide +kernel
theorem dX11_areSunAndRing_25 : decode cX11_areSunAndRing 25 = .ok (.ireturn, 1) := by decide +kernel
theorem dX11_mayBeBuilt_0 : decode cX11_mayBeBuilt 0 = .ok (.iload_n 2, 1) := by decide +kernel
theorem dX11_mayBeBuilt_1 : decode cX11_mayBeBuilt 1 = .ok (.iconst 1, 1) := by decide +kernel
theorem dX11_mayBeBuilt_2 : decode cX11_mayBeBuilt 2 = .ok (.if_icmp .lt 27, 3) := by decide +kernel
theorem dX11_mayBeBuilt_5 : decode cX11_mayBeBuilt 5 = .ok (.iload_n 1, 1) := by decide +kernel
theorem dX11_mayBeBuilt_6 : decode cX11_mayBeBuilt 6 = .ok (.iload_n 0, 1) := by decide +kernel
theorem dX11_mayBeBuilt_7 : decode cX11_mayBeBuilt 7 = .ok (.isub, 1) := by decide +kernel
theorem dX11_mayBeBuilt_8 : decode cX11_mayBeBuilt 8 = .ok (.bipush 8, 2) := by decide +kernel
theorem dX11_mayBeBuilt_10 : decode cX11_mayBeBuilt 10 = .ok (.if_icmp .lt 19, 3) := by decide +kernel
theorem dX11_mayBeBuilt_13 : decode cX11_mayBeBuilt 13 = .ok (.iload_n 1, 1) := by decide +kernel
theorem dX11_mayBeBuilt_14 : decode cX11_mayBeBuilt 14 = .ok (.iload_n 0, 1) := by decide +kernel
theorem dX11_mayBeBuilt_15 : decode cX11_mayBeBuilt 15 = .ok (.isub, 1) := by decide +kernel
theorem dX11_mayBeBuilt_16 : decode cX11_mayBeBuilt 16 = .ok (.iconst 2, 1) := by decide +kernel
theorem dX11_mayBeBuilt_17 : decode cX11_mayBeBuilt 17 = .ok (.irem, 1) := by decide +kernel
theorem dX11_mayBeBuilt_18 : decode cX11_mayBeBuilt 18 = .ok (.ifCond .ne 11, 3) := by decide +kernel
theorem dX11_mayBeBuilt_21 : decode cX11_mayBeBuilt 21 = .ok (.iload_n 0, 1) := by decide +kernel
theorem dX11_mayBeBuilt_22 : decode cX11_mayBeBuilt 22 = .ok (.iload_n 1, 1) := by decide +kernel
theorem dX11_mayBeBuilt_23 : decode cX11_mayBeBuilt 23 = .ok (.iadd, 1) := by decide +kernel
theorem dX11_mayBeBuilt_24 : decode cX11_mayBeBuilt 24 = .ok (.iload_n 2, 1) := by decide +kernel
theorem dX11_mayBeBuilt_25 : decode cX11_mayBeBuilt 25 = .ok (.irem, 1) := by decide +kernel
theorem dX11_mayBeBuilt_26 : decode cX11_mayBeBuilt 26 = .ok (.ifCond .eq 5, 3) := by decide +kernel
theorem dX11_mayBeBuilt_29 : decode cX11_mayBeBuilt 29 = .ok (.iconst 0, 1) := by decide +kernel
theorem dX11_mayBeBuilt_30 : decode cX11_mayBeBuilt 30 = .ok (.ireturn, 1) := by decide +kernel
theorem dX11_mayBeBuilt_31 : decode cX11_mayBeBuilt 31 = .ok (.iload_n 1, 1) := by decide +kernel
theorem dX11_mayBeBuilt_32 : decode cX11_mayBeBuilt 32 = .ok (.iload_n 0, 1) := by decide +kernel
theorem dX11_mayBeBuilt_33 : decode cX11_mayBeBuilt 33 = .ok (.isub, 1) := by decide +kernel
theorem dX11_mayBeBuilt_34 : decode cX11_mayBeBuilt 34 = .ok (.iconst 2, 1) := by decide +kernel
theorem dX11_mayBeBuilt_35 : decode cX11_mayBeBuilt 35 = .ok (.idiv, 1) := by decide +kernel
theorem dX11_mayBeBuilt_36 : decode cX11_mayBeBuilt 36 = .ok (.istore_n 3, 1) := by decide +kernel
theorem dX11_mayBeBuilt_37 : decode cX11_mayBeBuilt 37 = .ok (.iload_n 2, 1) := by decide +kernel
theorem dX11_mayBeBuilt_38 : decode cX11_mayBeBuilt 38 = .ok (.iload_n 3, 1) := by decide +kernel
theorem dX11_mayBeBuilt_39 : decode cX11_mayBeBuilt 39 = .ok (.iconst 2, 1) := by decide +kernel
theorem dX11_mayBeBuilt_40 : decode cX11_mayBeBuilt 40 = .ok (.iadd, 1) := by decide +kernel
theorem dX11_mayBeBuilt_41 : decode cX11_mayBeBuilt 41 = .ok (.imul, 1) := by decide +kernel
theorem dX11_mayBeBuilt_42 : decode cX11_mayBeBuilt 42 = .ok (.iconst 3, 1) := by decide +kernel
theorem dX11_mayBeBuilt_43 : decode cX11_mayBeBuilt 43 = .ok (.iload_n 0, 1) := by decide +kernel
theorem dX11_mayBeBuilt_44 : decode cX11_mayBeBuilt 44 = .ok (.iload_n 3, 1) := by decide +kernel
theorem dX11_mayBeBuilt_45 : decode cX11_mayBeBuilt 45 = .ok (.iadd, 1) := by decide +kernel
theorem dX11_mayBeBuilt_46 : decode cX11_mayBeBuilt 46 = .ok (.imul, 1) := by decide +kernel
theorem dX11_mayBeBuilt_47 : decode cX11_mayBeBuilt 47 = .ok (.if_icmp .gt 7, 3) := by decide +kernel
theorem dX11_mayBeBuilt_50 : decode cX11_mayBeBuilt 50 = .ok (.iconst 1, 1) := by decide +kernel
theorem dX11_mayBeBuilt_51 : decode cX11_mayBeBuilt 51 = .ok (.goto 4, 3) := by decide +kernel
theorem dX11_mayBeBuilt_54 : decode cX11_mayBeBuilt 54 = .ok (.iconst 0, 1) := by decide +kernel
theorem dX11_mayBeBuilt_55 : decode cX11_mayBeBuilt 55 = .ok (.ireturn, 1) := by decide +kernel
theorem dX11_greatestDivisor_0 : decode cX11_greatestDivisor 0 = .ok (.lload_n 0, 1) := by decide +kernel
theorem dX11_greatestDivisor_1 : decode cX11_greatestDivisor 1 = .ok (.lstore 4, 2) := by decide +kernel
theorem dX11_greatestDivisor_3 : decode cX11_greatestDivisor 3 = .ok (.lload_n 2, 1) := by decide +kernel
theorem dX11_greatestDivisor_4 : decode cX11_greatestDivisor 4 = .ok (.lstore 6, 2) := by decide +kernel
theorem dX11_greatestDivisor_6 : decode cX11_greatestDivisor 6 = .ok (.iconst 0, 1) := by decide +kernel
theorem dX11_greatestDivisor_7 : decode cX11_greatestDivisor 7 = .ok (.istore 8, 2) := by decide +kernel
theorem dX11_greatestDivisor_9 : decode cX11_greatestDivisor 9 = .ok (.iload 8, 2) := by decide +kernel
theorem dX11_greatestDivisor_11 : decode cX11_greatestDivisor 11 = .ok (.sipush 200, 3) := by decide +kernel
theorem dX11_greatestDivisor_14 : decode cX11_greatestDivisor 14 = .ok (.if_icmp .ge 31, 3) := by decide +kernel
theorem dX11_greatestDivisor_17 : decode cX11_greatestDivisor 17 = .ok (.lload 6, 2) := by decide +kernel
theorem dX11_greatestDivisor_19 : decode cX11_greatestDivisor 19 = .ok (.lconst 0, 1) := by decide +kernel
theorem dX11_greatestDivisor_20 : decode cX11_greatestDivisor 20 = .ok (.lcmp, 1) := by decide +kernel
theorem dX11_greatestDivisor_21 : decode cX11_greatestDivisor 21 = .ok (.ifCond .eq 24, 3) := by decide +kernel
theorem dX11_greatestDivisor_24 : decode cX11_greatestDivisor 24 = .ok (.lload 4, 2) := by decide +kernel
theorem dX11_greatestDivisor_26 : decode cX11_greatestDivisor 26 = .ok (.lload 6, 2) := by decide +kernel
theorem dX11_greatestDivisor_28 : decode cX11_greatestDivisor 28 = .ok (.lrem, 1) := by decide +kernel
theorem dX11_greatestDivisor_29 : decode cX11_greatestDivisor 29 = .ok (.lstore 9, 2) := by decide +kernel
theorem dX11_greatestDivisor_31 : decode cX11_greatestDivisor 31 = .ok (.lload 6, 2) := by decide +kernel
theorem dX11_greatestDivisor_33 : decode cX11_greatestDivisor 33 = .ok (.lstore 4, 2) := by decide +kernel
theorem dX11_greatestDivisor_35 : decode cX11_greatestDivisor 35 = .ok (.lload 9, 2) := by decide +kernel
theorem dX11_greatestDivisor_37 : decode cX11_greatestDivisor 37 = .ok (.lstore 6, 2) := by decide +kernel
theorem dX11_greatestDivisor_39 : decode cX11_greatestDivisor 39 = .ok (.iinc 8 1, 3) := by decide +kernel
theorem dX11_greatestDivisor_42 : decode cX11_greatestDivisor 42 = .ok (.goto (-33), 3) := by decide +kernel
theorem dX11_greatestDivisor_45 : decode cX11_greatestDivisor 45 = .ok (.lload 4, 2) := by decide +kernel
theorem dX11_greatestDivisor_47 : decode cX11_greatestDivisor 47 = .ok (.lreturn, 1) := by decide +kernel
theorem dX11_rollAsItIs_0 : decode cX11_rollAsItIs 0 = .ok (.aload_n 0, 1) := by decide +kernel
theorem dX11_rollAsItIs_1 : decode cX11_rollAsItIs 1 = .ok (.getfield 82, 3) := by decide +kernel
theorem dX11_rollAsItIs_4 : decode cX11_rollAsItIs 4 = .ok (.aload_n 0, 1) := by decide +kernel
theorem dX11_rollAsItIs_5 : decode cX11_rollAsItIs 5 = .ok (.getfield 10, 3) := by decide +kernel
theorem dX11_rollAsItIs_8 : decode cX11_rollAsItIs 8 = .ok (.getfield 142, 3) := by decide +kernel
theorem dX11_rollAsItIs_11 : decode cX11_rollAsItIs 11 = .ok (.aload_n 0, 1) := by decide +kernel
theorem dX11_rollAsItIs_12 : decode cX11_rollAsItIs 12 = .ok (.getfield 10, 3) := by decide +kernel
theorem dX11_rollAsItIs_15 : decode cX11_rollAsItIs 15 = .ok (.getfield 180, 3) := by decide +kernel
theorem dX11_rollAsItIs_18 : decode cX11_rollAsItIs 18 = .ok (.iload_n 1, 1) := by decide +kernel
theorem dX11_rollAsItIs_19 : decode cX11_rollAsItIs 19 = .ok (.iaload, 1) := by decide +kernel
theorem dX11_rollAsItIs_20 : decode cX11_rollAsItIs 20 = .ok (.aaload, 1) := by decide +kernel
theorem dX11_rollAsItIs_21 : decode cX11_rollAsItIs 21 = .ok (.aload_n 0, 1) := by decide +kernel
theorem dX11_rollAsItIs_22 : decode cX11_rollAsItIs 22 = .ok (.getfield 10, 3) := by decide +kernel
theorem dX11_rollAsItIs_25 : decode cX11_rollAsItIs 25 = .ok (.getfield 142, 3) := by decide +kernel
theorem dX11_rollAsItIs_28 : decode cX11_rollAsItIs 28 = .ok (.aload_n 0, 1) := by decide +kernel
theorem dX11_rollAsItIs_29 : decode cX11_rollAsItIs 29 = .ok (.getfield 10, 3) := by decide +kernel
theorem dX11_rollAsItIs_32 : decode cX11_rollAsItIs 32 = .ok (.getfield 183, 3) := by decide +kernel
theorem dX11_rollAsItIs_35 : decode cX11_rollAsItIs 35 = .ok (.iload_n 1, 1) := by decide +kernel
theorem dX11_rollAsItIs_36 : decode cX11_rollAsItIs 36 = .ok (.iaload, 1) := by decide +kernel
theorem dX11_rollAsItIs_37 : decode cX11_rollAsItIs 37 = .ok (.aaload, 1) := by decide +kernel
theorem dX11_rollAsItIs_38 : decode cX11_rollAsItIs 38 = .ok (.aload_n 0, 1) := by decide +kernel
theorem dX11_rollAsItIs_39 : decode cX11_rollAsItIs 39 = .ok (.getfield 10, 3) := by decide +kernel
theorem dX11_rollAsItIs_42 : decode cX11_rollAsItIs 42 = .ok (.getfield 186, 3) := by decide +kernel
theorem dX11_rollAsItIs_45 : decode cX11_rollAsItIs 45 = .ok (.iload_n 1, 1) := by decide +kernel
theorem dX11_rollAsItIs_46 : decode cX11_rollAsItIs 46 = .ok (.iaload, 1) := by decide +kernel
theorem dX11_rollAsItIs_47 : decode cX11_rollAsItIs 47 = .ok (.invokevirtual 428, 3) := by decide +kernel
theorem dX11_rollAsItIs_50 : decode cX11_rollAsItIs 50 = .ok (.return_, 1) := by decide +kernel
theorem dX11_rollSpares_0 : decode cX11_rollSpares 0 = .ok (.aload_n 0, 1) := by decide +kernel
theorem dX11_rollSpares_1 : decode cX11_rollSpares 1 = .ok (.getfield 72, 3) := by decide +kernel
theorem dX11_rollSpares_4 : decode cX11_rollSpares 4 = .ok (.aload_n 0, 1) := by decide +kernel
theorem dX11_rollSpares_5 : decode cX11_rollSpares 5 = .ok (.getfield 10, 3) := by decide +kernel
theorem dX11_rollSpares_8 : decode cX11_rollSpares 8 = .ok (.getfield 142, 3) := by decide +kernel
theorem dX11_rollSpares_11 : decode cX11_rollSpares 11 = .ok (.aload_n 0, 1) := by decide +kernel
theorem dX11_rollSpares_12 : decode cX11_rollSpares 12 = .ok (.getfield 10, 3) := by decide +kernel
theorem dX11_rollSpares_15 : decode cX11_rollSpares 15 = .ok (.getfield 180, 3) := by decide +kernel
theorem dX11_rollSpares_18 : decode cX11_rollSpares 18 = .ok (.iload_n 1, 1) := by decide +kernel
theorem dX11_rollSpares_19 : decode cX11_rollSpares 19 = .ok (.iaload, 1) := by decide +kernel
theorem dX11_rollSpares_20 : decode cX11_rollSpares 20 = .ok (.aaload, 1) := by decide +kernel
theorem dX11_rollSpares_21 : decode cX11_rollSpares 21 = .ok (.invokevirtual 432, 3) := by decide +kernel
theorem dX11_rollSpares_24 : decode cX11_rollSpares 24 = .ok (.aload_n 0, 1) := by decide +kernel
theorem dX11_rollSpares_25 : decode cX11_rollSpares 25 = .ok (.getfield 76, 3) := by decide +kernel
theorem dX11_rollSpares_28 : decode cX11_rollSpares 28 = .ok (.aload_n 0, 1) := by decide +kernel
theorem dX11_rollSpares_29 : decode cX11_rollSpares 29 = .ok (.getfield 10, 3) := by decide +kernel
theorem dX11_rollSpares_32 : decode cX11_rollSpares 32 = .ok (.getfield 142, 3) := by decide +kernel
theorem dX11_rollSpares_35 : decode cX11_rollSpares 35 = .ok (.aload_n 0, 1) := by decide +kernel
theorem dX11_rollSpares_36 : decode cX11_rollSpares 36 = .ok (.getfield 10, 3) := by decide +kernel
theorem dX11_rollSpares_39 : decode cX11_rollSpares 39 = .ok (.getfield 183, 3) := by decide +kernel
theorem dX11_rollSpares_42 : decode cX11_rollSpares 42 = .ok (.iload_n 1, 1) := by decide +kernel
theorem dX11_rollSpares_43 : decode cX11_rollSpares 43 = .ok (.iaload, 1) := by decide +kernel
theorem dX11_rollSpares_44 : decode cX11_rollSpares 44 = .ok (.aaload, 1) := by decide +kernel
theorem dX11_rollSpares_45 : decode cX11_rollSpares 45 = .ok (.invokevirtual 432, 3) := by decide +kernel
theorem dX11_rollSpares_48 : decode cX11_rollSpares 48 = .ok (.aload_n 0, 1) := by decide +kernel
theorem dX11_rollSpares_49 : decode cX11_rollSpares 49 = .ok (.getfield 82, 3) := by decide +kernel
theorem dX11_rollSpares_52 : decode cX11_rollSpares 52 = .ok (.aload_n 0, 1) := by decide +kernel
theorem dX11_rollSpares_53 : decode cX11_rollSpares 53 = .ok (.getfield 72, 3) := by decide +kernel
theorem dX11_rollSpares_56 : decode cX11_rollSpares 56 = .ok (.aload_n 0, 1) := by decide +kernel
theorem dX11_rollSpares_57 : decode cX11_rollSpares 57 = .ok (.getfield 76, 3) := by decide +kernel
theorem dX11_rollSpares_60 : decode cX11_rollSpares 60 = .ok (.aload_n 0, 1) := by decide +kernel
theorem dX11_rollSpares_61 : decode cX11_rollSpares 61 = .ok (.getfield 10, 3) := by decide +kernel
theorem dX11_rollSpares_64 : decode cX11_rollSpares 64 = .ok (.getfield 186, 3) := by decide +kernel
theorem dX11_rollSpares_67 : decode cX11_rollSpares 67 = .ok (.iload_n 1, 1) := by decide +kernel
theorem dX11_rollSpares_68 : decode cX11_rollSpares 68 = .ok (.iaload, 1) := by decide +kernel
theorem dX11_rollSpares_69 : decode cX11_rollSpares 69 = .ok (.invokevirtual 428, 3) := by decide +kernel
theorem dX11_rollSpares_72 : decode cX11_rollSpares 72 = .ok (.return_, 1) := by decide +kernel
