theorem dX12_init_0 : decode cX12_init 0 = .ok (.aload_n 0, 1) := by decide +kernel
theorem dX12_init_1 : decode cX12_init 1 = .ok (.invokespecial 1, 3) := by decide +kernel
theorem dX12_init_4 : decode cX12_init 4 = .ok (.aload_n 0, 1) := by decide +kernel
theorem dX12_init_5 : decode cX12_init 5 = .ok (.bipush 16, 2) := by decide +kernel
theorem dX12_init_7 : decode cX12_init 7 = .ok (.newarray .int, 2) := by decide +kernel
theorem dX12_init_9 : decode cX12_init 9 = .ok (.dup, 1) := by decide +kernel
theorem dX12_init_10 : decode cX12_init 10 = .ok (.iconst 0, 1) := by decide +kernel
theorem dX12_init_11 : decode cX12_init 11 = .ok (.sipush 1000, 3) := by decide +kernel
theorem dX12_init_14 : decode cX12_init 14 = .ok (.iastore, 1) := by decide +kernel
theorem dX12_init_15 : decode cX12_init 15 = .ok (.dup, 1) := by decide +kernel
theorem dX12_init_16 : decode cX12_init 16 = .ok (.iconst 1, 1) := by decide +kernel
theorem dX12_init_17 : decode cX12_init 17 = .ok (.sipush 924, 3) := by decide +kernel
theorem dX12_init_20 : decode cX12_init 20 = .ok (.iastore, 1) := by decide +kernel
theorem dX12_init_21 : decode cX12_init 21 = .ok (.dup, 1) := by decide +kernel
theorem dX12_init_22 : decode cX12_init 22 = .ok (.iconst 2, 1) := by decide +kernel
theorem dX12_init_23 : decode cX12_init 23 = .ok (.sipush 707, 3) := by decide +kernel
theorem dX12_init_26 : decode cX12_init 26 = .ok (.iastore, 1) := by decide +kernel
theorem dX12_init_27 : decode cX12_init 27 = .ok (.dup, 1) := by decide +kernel
theorem dX12_init_28 : decode cX12_init 28 = .ok (.iconst 3, 1) := by decide +kernel
theorem dX12_init_29 : decode cX12_init 29 = .ok (.sipush 383, 3) := by decide +kernel
theorem dX12_init_32 : decode cX12_init 32 = .ok (.iastore, 1) := by decide +kernel
theorem dX12_init_33 : decode cX12_init 33 = .ok (.dup, 1) := by decide +kernel
theorem dX12_init_34 : decode cX12_init 34 = .ok (.iconst 4, 1) := by decide +kernel
theorem dX12_init_35 : decode cX12_init 35 = .ok (.iconst 0, 1) := by decide +kernel
theorem dX12_init_36 : decode cX12_init 36 = .ok (.iastore, 1) := by decide +kernel
theorem dX12_init_37 : decode cX12_init 37 = .ok (.dup, 1) := by decide +kernel
theorem dX12_init_38 : decode cX12_init 38 = .ok (.iconst 5, 1) := by decide +kernel
theorem dX12_init_39 : decode cX12_init 39 = .ok (.sipush (-383), 3) := by decide +kernel
theorem dX12_init_42 : decode cX12_init 42 = .ok (.iastore, 1) := by decide +kernel
theorem dX12_init_43 : decode cX12_init 43 = .ok (.dup, 1) := by decide +kernel
theorem dX12_init_44 : decode cX12_init 44 = .ok (.bipush 6, 2) := by decide +kernel
theorem dX12_init_46 : decode cX12_init 46 = .ok (.sipush (-707), 3) := by decide +kernel
theorem dX12_init_49 : decode cX12_init 49 = .ok (.iastore, 1) := by decide +kernel
theorem dX12_init_50 : decode cX12_init 50 = .ok (.dup, 1) := by decide +kernel
theorem dX12_init_51 : decode cX12_init 51 = .ok (.bipush 7, 2) := by decide +kernel
theorem dX12_init_53 : decode cX12_init 53 = .ok (.sipush (-924), 3) := by decide +kernel
theorem dX12_init_56 : decode cX12_init 56 = .ok (.iastore, 1) := by decide +kernel
theorem dX12_init_57 : decode cX12_init 57 = .ok (.dup, 1) := by decide +kernel
theorem dX12_init_58 : decode cX12_init 58 = .ok (.bipush 8, 2) := by decide +kernel
theorem dX12_init_60 : decode cX12_init 60 = .ok (.sipush (-1000), 3) := by decide +kernel
theorem dX12_init_63 : decode cX12_init 63 = .ok (.iastore, 1) := by decide +kernel
theorem dX12_init_64 : decode cX12_init 64 = .ok (.dup, 1) := by decide +kernel
theorem dX12_init_65 : decode cX12_init 65 = .ok (.bipush 9, 2) := by decide +kernel
theorem dX12_init_67 : decode cX12_init 67 = .ok (.sipush (-924), 3) := by decide +kernel
theorem dX12_init_70 : decode cX12_init 70 = .ok (.iastore, 1) := by decide +kernel
theorem dX12_init_71 : decode cX12_init 71 = .ok (.dup, 1) := by decide +kernel
theorem dX12_init_72 : decode cX12_init 72 = .ok (.bipush 10, 2) := by decide +kernel
theorem dX12_init_74 : decode cX12_init 74 = .ok (.sipush (-707), 3) := by decide +kernel
theorem dX12_init_77 : decode cX12_init 77 = .ok (.iastore, 1) := by decide +kernel
theorem dX12_init_78 : decode cX12_init 78 = .ok (.dup, 1) := by decide +kernel
theorem dX12_init_79 : decode cX12_init 79 = .ok (.bipush 11, 2) := by decide +kernel
theorem dX12_init_81 : decode cX12_init 81 = .ok (.sipush (-383), 3) := by decide +kernel
theorem dX12_init_84 : decode cX12_init 84 = .ok (.iastore, 1) := by decide +kernel
theorem dX12_init_85 : decode cX12_init 85 = .ok (.dup, 1) := by decide +kernel
theorem dX12_init_86 : decode cX12_init 86 = .ok (.bipush 12, 2) := by decide +kernel
theorem dX12_init_88 : decode cX12_init 88 = .ok (.iconst 0, 1) := by decide +kernel
theorem dX12_init_89 : decode cX12_init 89 = .ok (.iastore, 1) := by decide +kernel
theorem dX12_init_90 : decode cX12_init 90 = .ok (.dup, 1) := by decide +kernel
theorem dX12_init_91 : decode cX12_init 91 = .ok (.bipush 13, 2) := by decide +kernel
theorem dX12_init_93 : decode cX12_init 93 = .ok (.sipush 383, 3) := by decide +kernel
theorem dX12_init_96 : decode cX12_init 96 = .ok (.iastore, 1) := by decide +kernel
theorem dX12_init_97 : decode cX12_init 97 = .ok (.dup, 1) := by decide +kernel
theorem dX12_init_98 : decode cX12_init 98 = .ok (.bipush 14, 2) := by decide +kernel
theorem dX12_init_100 : decode cX12_init 100 = .ok (.sipush 707, 3) := by decide +kernel
theorem dX12_init_103 : decode cX12_init 103 = .ok (.iastore, 1) := by decide +kernel
theorem dX12_init_104 : decode cX12_init 104 = .ok (.dup, 1) := by decide +kernel
theorem dX12_init_105 : decode cX12_init 105 = .ok (.bipush 15, 2) := by decide +kernel
theorem dX12_init_107 : decode cX12_init 107 = .ok (.sipush 924, 3) := by decide +kernel
theorem dX12_init_110 : decode cX12_init 110 = .ok (.iastore, 1) := by decide +kernel
theorem dX12_init_111 : decode cX12_init 111 = .ok (.putfield 7, 3) := by decide +kernel
theorem dX12_init_114 : decode cX12_init 114 = .ok (.aload_n 0, 1) := by decide +kernel
theorem dX12_init_115 : decode cX12_init 115 = .ok (.sipush 1744, 3) := by decide +kernel
theorem dX12_init_118 : decode cX12_init 118 = .ok (.newarray .int, 2) := by decide +kernel
theorem dX12_init_120 : decode cX12_init 120 = .ok (.putfield 13, 3) := by decide +kernel
theorem dX12_init_123 : decode cX12_init 123 = .ok (.aload_n 0, 1) := by decide +kernel
theorem dX12_init_124 : decode cX12_init 124 = .ok (.sipush 1744, 3) := by decide +kernel
theorem dX12_init_127 : decode cX12_init 127 = .ok (.newarray .int, 2) := by decide +kernel
theorem dX12_init_129 : decode cX12_init 129 = .ok (.putfield 16, 3) := by decide +kernel
theorem dX12_init_132 : decode cX12_init 132 = .ok (.aload_n 0, 1) := by decide +kernel
theorem dX12_init_133 : decode cX12_init 133 = .ok (.sipush 1744, 3) := by decide +kernel
theorem dX12_init_136 : decode cX12_init 136 = .ok (.newarray .int, 2) := by decide +kernel
theorem dX12_init_138 : decode cX12_init 138 = .ok (.putfield 19, 3) := by decide +kernel
theorem dX12_init_141 : decode cX12_init 141 = .ok (.aload_n 0, 1) := by decide +kernel
theorem dX12_init_142 : decode cX12_init 142 = .ok (.bipush 8, 2) := by decide +kernel
theorem dX12_init_144 : decode cX12_init 144 = .ok (.newarray .int, 2) := by decide +kernel
theorem dX12_init_146 : decode cX12_init 146 = .ok (.putfield 22, 3) := by decide +kernel
theorem dX12_init_149 : decode cX12_init 149 = .ok (.aload_n 0, 1) := by decide +kernel
theorem dX12_init_150 : decode cX12_init 150 = .ok (.bipush 8, 2) := by decide +kernel
theorem dX12_init_152 : decode cX12_init 152 = .ok (.newarray .int, 2) := by decide +kernel
theorem dX12_init_154 : decode cX12_init 154 = .ok (.putfield 25, 3) := by decide +kernel
theorem dX12_init_157 : decode cX12_init 157 = .ok (.aload_n 0, 1) := by decide +kernel
theorem dX12_init_158 : decode cX12_init 158 = .ok (.bipush 8, 2) := by decide +kernel
theorem dX12_init_160 : decode cX12_init 160 = .ok (.newarray .int, 2) := by decide +kernel
theorem dX12_init_162 : decode cX12_init 162 = .ok (.putfield 28, 3) := by decide +kernel
theorem dX12_init_165 : decode cX12_init 165 = .ok (.aload_n 0, 1) := by decide +kernel
theorem dX12_init_166 : decode cX12_init 166 = .ok (.sipush 960, 3) := by decide +kernel
theorem dX12_init_169 : decode cX12_init 169 = .ok (.newarray .int, 2) := by decide +kernel
theorem dX12_init_171 : decode cX12_init 171 = .ok (.putfield 31, 3) := by decide +kernel
theorem dX12_init_174 : decode cX12_init 174 = .ok (.aload_n 0, 1) := by decide +kernel
theorem dX12_init_175 : decode cX12_init 175 = .ok (.bipush 8, 2) := by decide +kernel
theorem dX12_init_177 : decode cX12_init 177 = .ok (.newarray .int, 2) := by decide +kernel
theorem dX12_init_179 : decode cX12_init 179 = .ok (.putfield 34, 3) := by decide +kernel
theorem dX12_init_182 : decode cX12_init 182 = .ok (.aload_n 0, 1) := by decide +kernel
theorem dX12_init_183 : decode cX12_init 183 = .ok (.bipush 8, 2) := by decide +kernel
theorem dX12_init_185 : decode cX12_init 185 = .ok (.newarray .int, 2) := by decide +kernel
theorem dX12_init_187 : decode cX12_init 187 = .ok (.putfield 37, 3) := by decide +kernel
theorem dX12_init_190 : decode cX12_init 190 = .ok (.aload_n 0, 1) := by decide +kernel
theorem dX12_init_191 : decode cX12_init 191 = .ok (.aload_n 0, 1) := by decide +kernel
theorem dX12_init_192 : decode cX12_init 192 = .ok (.getfield 31, 3) := by decide +kernel
theorem dX12_init_195 : decode cX12_init 195 = .ok (.putfield 40, 3) := by decide +kernel
theorem dX12_init_198 : decode cX12_init 198 = .ok (.aload_n 0, 1) := by decide +kernel
theorem dX12_init_199 : decode cX12_init 199 = .ok (.iconst 3, 1) := by decide +kernel
theorem dX12_init_200 : decode cX12_init 200 = .ok (.newarray .int, 2) := by decide +kernel
theorem dX12_init_202 : decode cX12_init 202 = .ok (.putfield 43, 3) := by decide +kernel
theorem dX12_init_205 : decode cX12_init 205 = .ok (.aload_n 0, 1) := by decide +kernel
theorem dX12_init_206 : decode cX12_init 206 = .ok (.bipush 8, 2) := by decide +kernel
theorem dX12_init_208 : decode cX12_init 208 = .ok (.newarray .int, 2) := by decide +kernel
theorem dX12_init_210 : decode cX12_init 210 = .ok (.putfield 46, 3) := by decide +kernel
theorem dX12_init_213 : decode cX12_init 213 = .ok (.aload_n 0, 1) := by decide +kernel
theorem dX12_init_214 : decode cX12_init 214 = .ok (.bipush 8, 2) := by decide +kernel
theorem dX12_init_216 : decode cX12_init 216 = .ok (.newarray .long, 2) := by decide +kernel
theorem dX12_init_218 : decode cX12_init 218 = .ok (.putfield 49, 3) := by decide +kernel
theorem dX12_init_221 : decode cX12_init 221 = .ok (.aload_n 0, 1) := by decide +kernel
theorem dX12_init_222 : decode cX12_init 222 = .ok (.bipush 8, 2) := by decide +kernel
theorem dX12_init_224 : decode cX12_init 224 = .ok (.newarray .long, 2) := by decide +kernel
theorem dX12_init_226 : decode cX12_init 226 = .ok (.putfield 53, 3) := by decide +kernel
theorem dX12_init_229 : decode cX12_init 229 = .ok (.aload_n 0, 1) := by decide +kernel
theorem dX12_init_230 : decode cX12_init 230 = .ok (.bipush 8, 2) := by decide +kernel
theorem dX12_init_232 : decode cX12_init 232 = .ok (.newarray .boolean, 2) := by decide +kernel
theorem dX12_init_234 : decode cX12_init 234 = .ok (.putfield 56, 3) := by decide +kernel
theorem dX12_init_237 : decode cX12_init 237 = .ok (.aload_n 0, 1) := by decide +kernel
theorem dX12_init_238 : decode cX12_init 238 = .ok (.bipush 16, 2) := by decide +kernel
theorem dX12_init_240 : decode cX12_init 240 = .ok (.newarray .int, 2) := by decide +kernel
theorem dX12_init_242 : decode cX12_init 242 = .ok (.putfield 60, 3) := by decide +kernel
theorem dX12_init_245 : decode cX12_init 245 = .ok (.aload_n 0, 1) := by decide +kernel
theorem dX12_init_246 : decode cX12_init 246 = .ok (.sipush 1200, 3) := by decide +kernel
theorem dX12_init_249 : decode cX12_init 249 = .ok (.newarray .long, 2) := by decide +kernel
theorem dX12_init_251 : decode cX12_init 251 = .ok (.putfield 63, 3) := by decide +kernel
theorem dX12_init_254 : decode cX12_init 254 = .ok (.aload_n 0, 1) := by decide +kernel
theorem dX12_init_255 : decode cX12_init 255 = .ok (.sipush 1200, 3) := by decide +kernel
theorem dX12_init_258 : decode cX12_init 258 = .ok (.newarray .int, 2) := by decide +kernel
theorem dX12_init_260 : decode cX12_init 260 = .ok (.putfield 66, 3) := by decide +kernel
theorem dX12_init_263 : decode cX12_init 263 = .ok (.return_, 1) := by decide +kernel
theorem dX12_thrown_0 : decode cX12_thrown 0 = .ok (.aload_n 0, 1) := by decide +kernel
theorem dX12_thrown_1 : decode cX12_thrown 1 = .ok (.getfield 69, 3) := by decide +kernel
theorem dX12_thrown_4 : decode cX12_thrown 4 = .ok (.ireturn, 1) := by decide +kernel
theorem dX12_isIn_0 : decode cX12_isIn 0 = .ok (.lload_n 0, 1) := by decide +kernel
theorem dX12_isIn_1 : decode cX12_isIn 1 = .ok (.lload_n 2, 1) := by decide +kernel
theorem dX12_isIn_2 : decode cX12_isIn 2 = .ok (.lcmp, 1) := by decide +kernel
theorem dX12_isIn_3 : decode cX12_isIn 3 = .ok (.ifCond .lt 14, 3) := by decide +kernel
theorem dX12_isIn_6 : decode cX12_isIn 6 = .ok (.lload_n 0, 1) := by decide +kernel
theorem dX12_isIn_7 : decode cX12_isIn 7 = .ok (.lload 4, 2) := by decide +kernel
theorem dX12_isIn_9 : decode cX12_isIn 9 = .ok (.lcmp, 1) := by decide +kernel
theorem dX12_isIn_10 : decode cX12_isIn 10 = .ok (.ifCond .gt 7, 3) := by decide +kernel
theorem dX12_isIn_13 : decode cX12_isIn 13 = .ok (.iconst 1, 1) := by decide +kernel
theorem dX12_isIn_14 : decode cX12_isIn 14 = .ok (.goto 4, 3) := by decide +kernel
theorem dX12_isIn_17 : decode cX12_isIn 17 = .ok (.iconst 0, 1) := by decide +kernel
theorem dX12_isIn_18 : decode cX12_isIn 18 = .ok (.ireturn, 1) := by decide +kernel
theorem dX12_isGear_0 : decode cX12_isGear 0 = .ok (.iload_n 1, 1) := by decide +kernel
theorem dX12_isGear_1 : decode cX12_isGear 1 = .ok (.i2l, 1) := by decide +kernel
theorem dX12_isGear_2 : decode cX12_isGear 2 = .ok (.lconst 0, 1) := by decide +kernel
theorem dX12_isGear_3 : decode cX12_isGear 3 = .ok (.aload_n 0, 1) := by decide +kernel
theorem dX12_isGear_4 : decode cX12_isGear 4 = .ok (.getfield 13, 3) := by decide +kernel
theorem dX12_isGear_7 : decode cX12_isGear 7 = .ok (.sipush 1740, 3) := by decide +kernel
theorem dX12_isGear_10 : decode cX12_isGear 10 = .ok (.iaload, 1) := by decide +kernel
theorem dX12_isGear_11 : decode cX12_isGear 11 = .ok (.iconst 1, 1) := by decide +kernel
theorem dX12_isGear_12 : decode cX12_isGear 12 = .ok (.isub, 1) := by decide +kernel
theorem dX12_isGear_13 : decode cX12_isGear 13 = .ok (.i2l, 1) := by decide +kernel
theorem dX12_isGear_14 : decode cX12_isGear 14 = .ok (.invokestatic 73, 3) := by decide +kernel
theorem dX12_isGear_17 : decode cX12_isGear 17 = .ok (.ireturn, 1) := by decide +kernel
theorem dX12_isMesh_0 : decode cX12_isMesh 0 = .ok (.iload_n 1, 1) := by decide +kernel
theorem dX12_isMesh_1 : decode cX12_isMesh 1 = .ok (.i2l, 1) := by decide +kernel
theorem dX12_isMesh_2 : decode cX12_isMesh 2 = .ok (.lconst 0, 1) := by decide +kernel
theorem dX12_isMesh_3 : decode cX12_isMesh 3 = .ok (.aload_n 0, 1) := by decide +kernel
theorem dX12_isMesh_4 : decode cX12_isMesh 4 = .ok (.getfield 13, 3) := by decide +kernel
theorem dX12_isMesh_7 : decode cX12_isMesh 7 = .ok (.sipush 1741, 3) := by decide +kernel
theorem dX12_isMesh_10 : decode cX12_isMesh 10 = .ok (.iaload, 1) := by decide +kernel
theorem dX12_isMesh_11 : decode cX12_isMesh 11 = .ok (.iconst 1, 1) := by decide +kernel
theorem dX12_isMesh_12 : decode cX12_isMesh 12 = .ok (.isub, 1) := by decide +kernel
theorem dX12_isMesh_13 : decode cX12_isMesh 13 = .ok (.i2l, 1) := by decide +kernel
theorem dX12_isMesh_14 : decode cX12_isMesh 14 = .ok (.invokestatic 73, 3) := by decide +kernel
theorem dX12_isMesh_17 : decode cX12_isMesh 17 = .ok (.ireturn, 1) := by decide +kernel
theorem dX12_isShelf_0 : decode cX12_isShelf 0 = .ok (.iload_n 0, 1) := by decide +kernel
theorem dX12_isShelf_1 : decode cX12_isShelf 1 = .ok (.i2l, 1) := by decide +kernel
theorem dX12_isShelf_2 : decode cX12_isShelf 2 = .ok (.lconst 0, 1) := by decide +kernel
theorem dX12_isShelf_3 : decode cX12_isShelf 3 = .ok (.ldc2_w 77, 3) := by decide +kernel
theorem dX12_isShelf_6 : decode cX12_isShelf 6 = .ok (.invokestatic 73, 3) := by decide +kernel
theorem dX12_isShelf_9 : decode cX12_isShelf 9 = .ok (.ireturn, 1) := by decide +kernel
theorem dX12_kind_0 : decode cX12_kind 0 = .ok (.aload_n 0, 1) := by decide +kernel
theorem dX12_kind_1 : decode cX12_kind 1 = .ok (.getfield 13, 3) := by decide +kernel
theorem dX12_kind_4 : decode cX12_kind 4 = .ok (.bipush 19, 2) := by decide +kernel
theorem dX12_kind_6 : decode cX12_kind 6 = .ok (.iload_n 1, 1) := by decide +kernel
theorem dX12_kind_7 : decode cX12_kind 7 = .ok (.imul, 1) := by decide +kernel
theorem dX12_kind_8 : decode cX12_kind 8 = .ok (.iaload, 1) := by decide +kernel
theorem dX12_kind_9 : decode cX12_kind 9 = .ok (.ireturn, 1) := by decide +kernel
theorem dX12_teeth_0 : decode cX12_teeth 0 = .ok (.aload_n 0, 1) := by decide +kernel
theorem dX12_teeth_1 : decode cX12_teeth 1 = .ok (.getfield 13, 3) := by decide +kernel
theorem dX12_teeth_4 : decode cX12_teeth 4 = .ok (.bipush 19, 2) := by decide +kernel
theorem dX12_teeth_6 : decode cX12_teeth 6 = .ok (.iload_n 1, 1) := by decide +kernel
theorem dX12_teeth_7 : decode cX12_teeth 7 = .ok (.imul, 1) := by decide +kernel
theorem dX12_teeth_8 : decode cX12_teeth 8 = .ok (.iconst 1, 1) := by decide +kernel
theorem dX12_teeth_9 : decode cX12_teeth 9 = .ok (.iadd, 1) := by decide +kernel
theorem dX12_teeth_10 : decode cX12_teeth 10 = .ok (.iaload, 1) := by decide +kernel
theorem dX12_teeth_11 : decode cX12_teeth 11 = .ok (.ireturn, 1) := by decide +kernel
theorem dX12_shaft_0 : decode cX12_shaft 0 = .ok (.aload_n 0, 1) := by decide +kernel
theorem dX12_shaft_1 : decode cX12_shaft 1 = .ok (.getfield 13, 3) := by decide +kernel
theorem dX12_shaft_4 : decode cX12_shaft 4 = .ok (.bipush 19, 2) := by decide +kernel
theorem dX12_shaft_6 : decode cX12_shaft 6 = .ok (.iload_n 1, 1) := by decide +kernel
theorem dX12_shaft_7 : decode cX12_shaft 7 = .ok (.imul, 1) := by decide +kernel
theorem dX12_shaft_8 : decode cX12_shaft 8 = .ok (.iconst 2, 1) := by decide +kernel
theorem dX12_shaft_9 : decode cX12_shaft 9 = .ok (.iadd, 1) := by decide +kernel
theorem dX12_shaft_10 : decode cX12_shaft 10 = .ok (.iaload, 1) := by decide +kernel
theorem dX12_shaft_11 : decode cX12_shaft 11 = .ok (.ireturn, 1) := by decide +kernel
theorem dX12_widthOf_0 : decode cX12_widthOf 0 = .ok (.aload_n 0, 1) := by decide +kernel
theorem dX12_widthOf_1 : decode cX12_widthOf 1 = .ok (.getfield 13, 3) := by decide +kernel
theorem dX12_widthOf_4 : decode cX12_widthOf 4 = .ok (.bipush 19, 2) := by decide +kernel
theorem dX12_widthOf_6 : decode cX12_widthOf 6 = .ok (.iload_n 1, 1) := by decide +kernel
theorem dX12_widthOf_7 : decode cX12_widthOf 7 = .ok (.imul, 1) := by decide +kernel
theorem dX12_widthOf_8 : decode cX12_widthOf 8 = .ok (.iconst 3, 1) := by decide +kernel
theorem dX12_widthOf_9 : decode cX12_widthOf 9 = .ok (.iadd, 1) := by decide +kernel
theorem dX12_widthOf_10 : decode cX12_widthOf 10 = .ok (.iload_n 2, 1) := by decide +kernel
theorem dX12_widthOf_11 : decode cX12_widthOf 11 = .ok (.iadd, 1) := by decide +kernel
theorem dX12_widthOf_12 : decode cX12_widthOf 12 = .ok (.iaload, 1) := by decide +kernel
theorem dX12_widthOf_13 : decode cX12_widthOf 13 = .ok (.ireturn, 1) := by decide +kernel
theorem dX12_meshOf_0 : decode cX12_meshOf 0 = .ok (.aload_n 0, 1) := by decide +kernel
theorem dX12_meshOf_1 : decode cX12_meshOf 1 = .ok (.getfield 13, 3) := by decide +kernel
theorem dX12_meshOf_4 : decode cX12_meshOf 4 = .ok (.sipush 228, 3) := by decide +kernel
theorem dX12_meshOf_7 : decode cX12_meshOf 7 = .ok (.iconst 3, 1) := by decide +kernel
theorem dX12_meshOf_8 : decode cX12_meshOf 8 = .ok (.iload_n 1, 1) := by decide +kernel
theorem dX12_meshOf_9 : decode cX12_meshOf 9 = .ok (.imul, 1) := by decide +kernel
theorem dX12_meshOf_10 : decode cX12_meshOf 10 = .ok (.iadd, 1) := by decide +kernel
theorem dX12_meshOf_11 : decode cX12_meshOf 11 = .ok (.iload_n 2, 1) := by decide +kernel
theorem dX12_meshOf_12 : decode cX12_meshOf 12 = .ok (.iadd, 1) := by decide +kernel
theorem dX12_meshOf_13 : decode cX12_meshOf 13 = .ok (.iaload, 1) := by decide +kernel
theorem dX12_meshOf_14 : decode cX12_meshOf 14 = .ok (.ireturn, 1) := by decide +kernel
theorem dX12_hard_0 : decode cX12_hard 0 = .ok (.aload_n 0, 1) := by decide +kernel
theorem dX12_hard_1 : decode cX12_hard 1 = .ok (.iload_n 1, 1) := by decide +kernel
theorem dX12_hard_2 : decode cX12_hard 2 = .ok (.invokevirtual 79, 3) := by decide +kernel
theorem dX12_hard_5 : decode cX12_hard 5 = .ok (.tableswitch 42 0 3 #[31, 34, 37, 39], 31) := by decide +kernel
theorem dX12_hard_36 : decode cX12_hard 36 = .ok (.bipush 10, 2) := by decide +kernel
theorem dX12_hard_38 : decode cX12_hard 38 = .ok (.ireturn, 1) := by decide +kernel
theorem dX12_hard_39 : decode cX12_hard 39 = .ok (.bipush 20, 2) := by decide +kernel
theorem dX12_hard_41 : decode cX12_hard 41 = .ok (.ireturn, 1) := by decide +kernel
theorem dX12_hard_42 : decode cX12_hard 42 = .ok (.iconst 5, 1) := by decide +kernel
theorem dX12_hard_43 : decode cX12_hard 43 = .ok (.ireturn, 1) := by decide +kernel
theorem dX12_hard_44 : decode cX12_hard 44 = .ok (.bipush 25, 2) := by decide +kernel
theorem dX12_hard_46 : decode cX12_hard 46 = .ok (.ireturn, 1) := by decide +kernel
theorem dX12_hard_47 : decode cX12_hard 47 = .ok (.bipush 10, 2) := by decide +kernel
theorem dX12_hard_49 : decode cX12_hard 49 = .ok (.aload_n 0, 1) := by decide +kernel
theorem dX12_hard_50 : decode cX12_hard 50 = .ok (.iload_n 1, 1) := by decide +kernel
theorem dX12_hard_51 : decode cX12_hard 51 = .ok (.invokevirtual 83, 3) := by decide +kernel
theorem dX12_hard_54 : decode cX12_hard 54 = .ok (.bipush 10, 2) := by decide +kernel
theorem dX12_hard_56 : decode cX12_hard 56 = .ok (.idiv, 1) := by decide +kernel
theorem dX12_hard_57 : decode cX12_hard 57 = .ok (.iadd, 1) := by decide +kernel
theorem dX12_hard_58 : decode cX12_hard 58 = .ok (.ireturn, 1) := by decide +kernel
theorem dX12_stiff_0 : decode cX12_stiff 0 = .ok (.aload_n 0, 1) := by decide +kernel
theorem dX12_stiff_1 : decode cX12_stiff 1 = .ok (.iload_n 1, 1) := by decide +kernel
theorem dX12_stiff_2 : decode cX12_stiff 2 = .ok (.invokevirtual 79, 3) := by decide +kernel
theorem dX12_stiff_5 : decode cX12_stiff 5 = .ok (.tableswitch 44 0 4 #[35, 44, 38, 44, 41], 35) := by decide +kernel
theorem dX12_stiff_40 : decode cX12_stiff 40 = .ok (.bipush 8, 2) := by decide +kernel
theorem dX12_stiff_42 : decode cX12_stiff 42 = .ok (.ireturn, 1) := by decide +kernel
theorem dX12_stiff_43 : decode cX12_stiff 43 = .ok (.bipush 6, 2) := by decide +kernel
theorem dX12_stiff_45 : decode cX12_stiff 45 = .ok (.ireturn, 1) := by decide +kernel
theorem dX12_stiff_46 : decode cX12_stiff 46 = .ok (.bipush 16, 2) := by decide +kernel
theorem dX12_stiff_48 : decode cX12_stiff 48 = .ok (.ireturn, 1) := by decide +kernel
theorem dX12_stiff_49 : decode cX12_stiff 49 = .ok (.bipush 12, 2) := by decide +kernel
theorem dX12_stiff_51 : decode cX12_stiff 51 = .ok (.ireturn, 1) := by decide +kernel
theorem dX12_thin_0 : decode cX12_thin 0 = .ok (.bipush 31, 2) := by decide +kernel
theorem dX12_thin_2 : decode cX12_thin 2 = .ok (.istore_n 2, 1) := by decide +kernel
theorem dX12_thin_3 : decode cX12_thin 3 = .ok (.iconst 0, 1) := by decide +kernel
theorem dX12_thin_4 : decode cX12_thin 4 = .ok (.istore_n 3, 1) := by decide +kernel
theorem dX12_thin_5 : decode cX12_thin 5 = .ok (.iload_n 3, 1) := by decide +kernel
theorem dX12_thin_6 : decode cX12_thin 6 = .ok (.bipush 16, 2) := by decide +kernel
theorem dX12_thin_8 : decode cX12_thin 8 = .ok (.if_icmp .ge 30, 3) := by decide +kernel
theorem dX12_thin_11 : decode cX12_thin 11 = .ok (.aload_n 0, 1) := by decide +kernel
theorem dX12_thin_12 : decode cX12_thin 12 = .ok (.iload_n 1, 1) := by decide +kernel
theorem dX12_thin_13 : decode cX12_thin 13 = .ok (.iload_n 3, 1) := by decide +kernel
theorem dX12_thin_14 : decode cX12_thin 14 = .ok (.invokevirtual 86, 3) := by decide +kernel
theorem dX12_thin_17 : decode cX12_thin 17 = .ok (.iload_n 2, 1) := by decide +kernel
theorem dX12_thin_18 : decode cX12_thin 18 = .ok (.if_icmp .ge 12, 3) := by decide +kernel
theorem dX12_thin_21 : decode cX12_thin 21 = .ok (.aload_n 0, 1) := by decide +kernel
theorem dX12_thin_22 : decode cX12_thin 22 = .ok (.iload_n 1, 1) := by decide +kernel
theorem dX12_thin_23 : decode cX12_thin 23 = .ok (.iload_n 3, 1) := by decide +kernel
theorem dX12_thin_24 : decode cX12_thin 24 = .ok (.invokevirtual 86, 3) := by decide +kernel
theorem dX12_thin_27 : decode cX12_thin 27 = .ok (.goto 4, 3) := by decide +kernel
theorem dX12_thin_30 : decode cX12_thin 30 = .ok (.iload_n 2, 1) := by decide +kernel
theorem dX12_thin_31 : decode cX12_thin 31 = .ok (.istore_n 2, 1) := by decide +kernel
theorem dX12_thin_32 : decode cX12_thin 32 = .ok (.iinc 3 1, 3) := by decide +kernel
theorem dX12_thin_35 : decode cX12_thin 35 = .ok (.goto (-30), 3) := by decide +kernel
theorem dX12_thin_38 : decode cX12_thin 38 = .ok (.iload_n 2, 1) := by decide +kernel
theorem dX12_thin_39 : decode cX12_thin 39 = .ok (.ireturn, 1) := by decide +kernel
theorem dX12_undercut_0 : decode cX12_undercut 0 = .ok (.iconst (-1), 1) := by decide +kernel
theorem dX12_undercut_1 : decode cX12_undercut 1 = .ok (.istore_n 2, 1) := by decide +kernel
theorem dX12_undercut_2 : decode cX12_undercut 2 = .ok (.iconst 0, 1) := by decide +kernel
theorem dX12_undercut_3 : decode cX12_undercut 3 = .ok (.istore_n 3, 1) := by decide +kernel
theorem dX12_undercut_4 : decode cX12_undercut 4 = .ok (.iload_n 3, 1) := by decide +kernel
theorem dX12_undercut_5 : decode cX12_undercut 5 = .ok (.bipush 15, 2) := by decide +kernel
theorem dX12_undercut_7 : decode cX12_undercut 7 = .ok (.if_icmp .ge 51, 3) := by decide +kernel
theorem dX12_undercut_10 : decode cX12_undercut 10 = .ok (.aload_n 0, 1) := by decide +kernel
theorem dX12_undercut_11 : decode cX12_undercut 11 = .ok (.iload_n 1, 1) := by decide +kernel
theorem dX12_undercut_12 : decode cX12_undercut 12 = .ok (.iload_n 3, 1) := by decide +kernel
theorem dX12_undercut_13 : decode cX12_undercut 13 = .ok (.invokevirtual 86, 3) := by decide +kernel
theorem dX12_undercut_16 : decode cX12_undercut 16 = .ok (.istore 4, 2) := by decide +kernel
theorem dX12_undercut_18 : decode cX12_undercut 18 = .ok (.iload 4, 2) := by decide +kernel
theorem dX12_undercut_20 : decode cX12_undercut 20 = .ok (.aload_n 0, 1) := by decide +kernel
theorem dX12_undercut_21 : decode cX12_undercut 21 = .ok (.iload_n 1, 1) := by decide +kernel
theorem dX12_undercut_22 : decode cX12_undercut 22 = .ok (.iload_n 3, 1) := by decide +kernel
theorem dX12_undercut_23 : decode cX12_undercut 23 = .ok (.iconst 1, 1) := by decide +kernel
theorem dX12_undercut_24 : decode cX12_undercut 24 = .ok (.iadd, 1) := by decide +kernel
theorem dX12_undercut_25 : decode cX12_undercut 25 = .ok (.invokevirtual 86, 3) := by decide +kernel
theorem dX12_undercut_28 : decode cX12_undercut 28 = .ok (.if_icmp .ge 11, 3) := by decide +kernel
theorem dX12_undercut_31 : decode cX12_undercut 31 = .ok (.iload 4, 2) := by decide +kernel
theorem dX12_undercut_33 : decode cX12_undercut 33 = .ok (.iload_n 2, 1) := by decide +kernel
theorem dX12_undercut_34 : decode cX12_undercut 34 = .ok (.if_icmp .ge 5, 3) := by decide +kernel
theorem dX12_undercut_37 : decode cX12_undercut 37 = .ok (.iload_n 3, 1) := by decide +kernel
theorem dX12_undercut_38 : decode cX12_undercut 38 = .ok (.ireturn, 1) := by decide +kernel
theorem dX12_undercut_39 : decode cX12_undercut 39 = .ok (.iload 4, 2) := by decide +kernel
theorem dX12_undercut_41 : decode cX12_undercut 41 = .ok (.iload_n 2, 1) := by decide +kernel
theorem dX12_undercut_42 : decode cX12_undercut 42 = .ok (.if_icmp .le 8, 3) := by decide +kernel
theorem dX12_undercut_45 : decode cX12_undercut 45 = .ok (.iload 4, 2) := by decide +kernel
theorem dX12_undercut_47 : decode cX12_undercut 47 = .ok (.goto 4, 3) := by decide +kernel
theorem dX12_undercut_50 : decode cX12_undercut 50 = .ok (.iload_n 2, 1) := by decide +kernel
theorem dX12_undercut_51 : decode cX12_undercut 51 = .ok (.istore_n 2, 1) := by decide +kernel
theorem dX12_undercut_52 : decode cX12_undercut 52 = .ok (.iinc 3 1, 3) := by decide +kernel
theorem dX12_undercut_55 : decode cX12_undercut 55 = .ok (.goto (-51), 3) := by decide +kernel
theorem dX12_undercut_58 : decode cX12_undercut 58 = .ok (.bipush (-4), 2) := by decide +kernel
theorem dX12_undercut_60 : decode cX12_undercut 60 = .ok (.ireturn, 1) := by decide +kernel
theorem dX12_sign_0 : decode cX12_sign 0 = .ok (.aload_n 0, 1) := by decide +kernel
theorem dX12_sign_1 : decode cX12_sign 1 = .ok (.getfield 90, 3) := by decide +kernel
theorem dX12_sign_4 : decode cX12_sign 4 = .ok (.aload_n 0, 1) := by decide +kernel
theorem dX12_sign_5 : decode cX12_sign 5 = .ok (.getfield 93, 3) := by decide +kernel
theorem dX12_sign_8 : decode cX12_sign 8 = .ok (.if_icmp .ge 20, 3) := by decide +kernel
theorem dX12_sign_11 : decode cX12_sign 11 = .ok (.aload_n 0, 1) := by decide +kernel
theorem dX12_sign_12 : decode cX12_sign 12 = .ok (.getfield 40, 3) := by decide +kernel
theorem dX12_sign_15 : decode cX12_sign 15 = .ok (.aload_n 0, 1) := by decide +kernel
theorem dX12_sign_16 : decode cX12_sign 16 = .ok (.getfield 96, 3) := by decide +kernel
theorem dX12_sign_19 : decode cX12_sign 19 = .ok (.aload_n 0, 1) := by decide +kernel
theorem dX12_sign_20 : decode cX12_sign 20 = .ok (.getfield 90, 3) := by decide +kernel
theorem dX12_sign_23 : decode cX12_sign 23 = .ok (.iadd, 1) := by decide +kernel
theorem dX12_sign_24 : decode cX12_sign 24 = .ok (.iaload, 1) := by decide +kernel
theorem dX12_sign_25 : decode cX12_sign 25 = .ok (.goto 6, 3) := by decide +kernel
theorem dX12_sign_28 : decode cX12_sign 28 = .ok (.sipush (-1000), 3) := by decide +kernel
theorem dX12_sign_31 : decode cX12_sign 31 = .ok (.ireturn, 1) := by decide +kernel
theorem dX12_takes_0 : decode cX12_takes 0 = .ok (.aload_n 0, 1) := by decide +kernel
theorem dX12_takes_1 : decode cX12_takes 1 = .ok (.invokevirtual 99, 3) := by decide +kernel
theorem dX12_takes_4 : decode cX12_takes 4 = .ok (.iload_n 1, 1) := by decide +kernel
theorem dX12_takes_5 : decode cX12_takes 5 = .ok (.if_icmp .eq 5, 3) := by decide +kernel
theorem dX12_takes_8 : decode cX12_takes 8 = .ok (.iconst 0, 1) := by decide +kernel
theorem dX12_takes_9 : decode cX12_takes 9 = .ok (.ireturn, 1) := by decide +kernel
theorem dX12_takes_10 : decode cX12_takes 10 = .ok (.aload_n 0, 1) := by decide +kernel
theorem dX12_takes_11 : decode cX12_takes 11 = .ok (.dup, 1) := by decide +kernel
theorem dX12_takes_12 : decode cX12_takes 12 = .ok (.getfield 90, 3) := by decide +kernel
theorem dX12_takes_15 : decode cX12_takes 15 = .ok (.iconst 1, 1) := by decide +kernel
theorem dX12_takes_16 : decode cX12_takes 16 = .ok (.iadd, 1) := by decide +kernel
theorem dX12_takes_17 : decode cX12_takes 17 = .ok (.putfield 90, 3) := by decide +kernel
theorem dX12_takes_20 : decode cX12_takes 20 = .ok (.iconst 1, 1) := by decide +kernel
theorem dX12_takes_21 : decode cX12_takes 21 = .ok (.ireturn, 1) := by decide +kernel
theorem dX12_readsNumber_0 : decode cX12_readsNumber 0 = .ok (.aload_n 0, 1) := by decide +kernel
theorem dX12_readsNumber_1 : decode cX12_readsNumber 1 = .ok (.invokevirtual 99, 3) := by decide +kernel
theorem dX12_readsNumber_4 : decode cX12_readsNumber 4 = .ok (.i2l, 1) := by decide +kernel
theorem dX12_readsNumber_5 : decode cX12_readsNumber 5 = .ok (.ldc2_w 103, 3) := by decide +kernel
theorem dX12_readsNumber_8 : decode cX12_readsNumber 8 = .ok (.ldc2_w 105, 3) := by decide +kernel
theorem dX12_readsNumber_11 : decode cX12_readsNumber 11 = .ok (.invokestatic 73, 3) := by decide +kernel
theorem dX12_readsNumber_14 : decode cX12_readsNumber 14 = .ok (.ifCond .ne 5, 3) := by decide +kernel
theorem dX12_readsNumber_17 : decode cX12_readsNumber 17 = .ok (.iconst 0, 1) := by decide +kernel
theorem dX12_readsNumber_18 : decode cX12_readsNumber 18 = .ok (.ireturn, 1) := by decide +kernel
theorem dX12_readsNumber_19 : decode cX12_readsNumber 19 = .ok (.aload_n 0, 1) := by decide +kernel
theorem dX12_readsNumber_20 : decode cX12_readsNumber 20 = .ok (.aload_n 0, 1) := by decide +kernel
theorem dX12_readsNumber_21 : decode cX12_readsNumber 21 = .ok (.invokevirtual 99, 3) := by decide +kernel
theorem dX12_readsNumber_24 : decode cX12_readsNumber 24 = .ok (.bipush 48, 2) := by decide +kernel
theorem dX12_readsNumber_26 : decode cX12_readsNumber 26 = .ok (.isub, 1) := by decide +kernel
theorem dX12_readsNumber_27 : decode cX12_readsNumber 27 = .ok (.putfield 107, 3) := by decide +kernel
theorem dX12_readsNumber_30 : decode cX12_readsNumber 30 = .ok (.aload_n 0, 1) := by decide +kernel
theorem dX12_readsNumber_31 : decode cX12_readsNumber 31 = .ok (.dup, 1) := by decide +kernel
theorem dX12_readsNumber_32 : decode cX12_readsNumber 32 = .ok (.getfield 90, 3) := by decide +kernel
theorem dX12_readsNumber_35 : decode cX12_readsNumber 35 = .ok (.iconst 1, 1) := by decide +kernel
theorem dX12_readsNumber_36 : decode cX12_readsNumber 36 = .ok (.iadd, 1) := by decide +kernel
theorem dX12_readsNumber_37 : decode cX12_readsNumber 37 = .ok (.putfield 90, 3) := by decide +kernel
theorem dX12_readsNumber_40 : decode cX12_readsNumber 40 = .ok (.aload_n 0, 1) := by decide +kernel
theorem dX12_readsNumber_41 : decode cX12_readsNumber 41 = .ok (.getfield 107, 3) := by decide +kernel
theorem dX12_readsNumber_44 : decode cX12_readsNumber 44 = .ok (.ifCond .le 49, 3) := by decide +kernel
theorem dX12_readsNumber_47 : decode cX12_readsNumber 47 = .ok (.aload_n 0, 1) := by decide +kernel
theorem dX12_readsNumber_48 : decode cX12_readsNumber 48 = .ok (.invokevirtual 99, 3) := by decide +kernel
theorem dX12_readsNumber_51 : decode cX12_readsNumber 51 = .ok (.i2l, 1) := by decide +kernel
theorem dX12_readsNumber_52 : decode cX12_readsNumber 52 = .ok (.ldc2_w 103, 3) := by decide +kernel
theorem dX12_readsNumber_55 : decode cX12_readsNumber 55 = .ok (.ldc2_w 105, 3) := by decide +kernel
theorem dX12_readsNumber_58 : decode cX12_readsNumber 58 = .ok (.invokestatic 73, 3) := by decide +kernel
theorem dX12_readsNumber_61 : decode cX12_readsNumber 61 = .ok (.ifCond .eq 32, 3) := by decide +kernel
theorem dX12_readsNumber_64 : decode cX12_readsNumber 64 = .ok (.aload_n 0, 1) := by decide +kernel
theorem dX12_readsNumber_65 : decode cX12_readsNumber 65 = .ok (.bipush 10, 2) := by decide +kernel
theorem dX12_readsNumber_67 : decode cX12_readsNumber 67 = .ok (.aload_n 0, 1) := by decide +kernel
theorem dX12_readsNumber_68 : decode cX12_readsNumber 68 = .ok (.getfield 107, 3) := by decide +kernel
theorem dX12_readsNumber_71 : decode cX12_readsNumber 71 = .ok (.imul, 1) := by decide +kernel
theorem dX12_readsNumber_72 : decode cX12_readsNumber 72 = .ok (.aload_n 0, 1) := by decide +kernel
theorem dX12_readsNumber_73 : decode cX12_readsNumber 73 = .ok (.invokevirtual 99, 3) := by decide +kernel
theorem dX12_readsNumber_76 : decode cX12_readsNumber 76 = .ok (.iadd, 1) := by decide +kernel
theorem dX12_readsNumber_77 : decode cX12_readsNumber 77 = .ok (.bipush 48, 2) := by decide +kernel
theorem dX12_readsNumber_79 : decode cX12_readsNumber 79 = .ok (.isub, 1) := by decide +kernel
theorem dX12_readsNumber_80 : decode cX12_readsNumber 80 = .ok (.putfield 107, 3) := by decide +kernel
theorem dX12_readsNumber_83 : decode cX12_readsNumber 83 = .ok (.aload_n 0, 1) := by decide +kernel
theorem dX12_readsNumber_84 : decode cX12_readsNumber 84 = .ok (.dup, 1) := by decide +kernel
theorem dX12_readsNumber_85 : decode cX12_readsNumber 85 = .ok (.getfield 90, 3) := by decide +kernel
theorem dX12_readsNumber_88 : decode cX12_readsNumber 88 = .ok (.iconst 1, 1) := by decide +kernel
theorem dX12_readsNumber_89 : decode cX12_readsNumber 89 = .ok (.iadd, 1) := by decide +kernel
theorem dX12_readsNumber_90 : decode cX12_readsNumber 90 = .ok (.putfield 90, 3) := by decide +kernel
theorem dX12_readsNumber_93 : decode cX12_readsNumber 93 = .ok (.iconst 1, 1) := by decide +kernel
theorem dX12_readsNumber_94 : decode cX12_readsNumber 94 = .ok (.ireturn, 1) := by decide +kernel
theorem dX12_readsStatement_0 : decode cX12_readsStatement 0 = .ok (.aload_n 0, 1) := by decide +kernel
theorem dX12_readsStatement_1 : decode cX12_readsStatement 1 = .ok (.invokevirtual 99, 3) := by decide +kernel
theorem dX12_readsStatement_4 : decode cX12_readsStatement 4 = .ok (.istore_n 1, 1) := by decide +kernel
theorem dX12_readsStatement_5 : decode cX12_readsStatement 5 = .ok (.iload_n 1, 1) := by decide +kernel
theorem dX12_readsStatement_6 : decode cX12_readsStatement 6 = .ok (.bipush 103, 2) := by decide +kernel
theorem dX12_readsStatement_8 : decode cX12_readsStatement 8 = .ok (.if_icmp .eq 17, 3) := by decide +kernel
theorem dX12_readsStatement_11 : decode cX12_readsStatement 11 = .ok (.iload_n 1, 1) := by decide +kernel
theorem dX12_readsStatement_12 : decode cX12_readsStatement 12 = .ok (.bipush 109, 2) := by decide +kernel
theorem dX12_readsStatement_14 : decode cX12_readsStatement 14 = .ok (.if_icmp .eq 11, 3) := by decide +kernel
theorem dX12_readsStatement_17 : decode cX12_readsStatement 17 = .ok (.iload_n 1, 1) := by decide +kernel
theorem dX12_readsStatement_18 : decode cX12_readsStatement 18 = .ok (.bipush 100, 2) := by decide +kernel
theorem dX12_readsStatement_20 : decode cX12_readsStatement 20 = .ok (.if_icmp .eq 5, 3) := by decide +kernel
theorem dX12_readsStatement_23 : decode cX12_readsStatement 23 = .ok (.iconst 0, 1) := by decide +kernel
theorem dX12_readsStatement_24 : decode cX12_readsStatement 24 = .ok (.ireturn, 1) := by decide +kernel
theorem dX12_readsStatement_25 : decode cX12_readsStatement 25 = .ok (.aload_n 0, 1) := by decide +kernel
theorem dX12_readsStatement_26 : decode cX12_readsStatement 26 = .ok (.dup, 1) := by decide +kernel
theorem dX12_readsStatement_27 : decode cX12_readsStatement 27 = .ok (.getfield 90, 3) := by decide +kernel
theorem dX12_readsStatement_30 : decode cX12_readsStatement 30 = .ok (.iconst 1, 1) := by decide +kernel
theorem dX12_readsStatement_31 : decode cX12_readsStatement 31 = .ok (.iadd, 1) := by decide +kernel
theorem dX12_readsStatement_32 : decode cX12_readsStatement 32 = .ok (.putfield 90, 3) := by decide +kernel
theorem dX12_readsStatement_35 : decode cX12_readsStatement 35 = .ok (.iload_n 1, 1) := by decide +kernel
theorem dX12_readsStatement_36 : decode cX12_readsStatement 36 = .ok (.bipush 109, 2) := by decide +kernel
theorem dX12_readsStatement_38 : decode cX12_readsStatement 38 = .ok (.if_icmp .ne 7, 3) := by decide +kernel
theorem dX12_readsStatement_41 : decode cX12_readsStatement 41 = .ok (.iconst 2, 1) := by decide +kernel
theorem dX12_readsStatement_42 : decode cX12_readsStatement 42 = .ok (.goto 4, 3) := by decide +kernel
theorem dX12_readsStatement_45 : decode cX12_readsStatement 45 = .ok (.iconst 3, 1) := by decide +kernel
theorem dX12_readsStatement_46 : decode cX12_readsStatement 46 = .ok (.istore_n 2, 1) := by decide +kernel
theorem dX12_readsStatement_47 : decode cX12_readsStatement 47 = .ok (.iconst 0, 1) := by decide +kernel
theorem dX12_readsStatement_48 : decode cX12_readsStatement 48 = .ok (.istore_n 3, 1) := by decide +kernel
theorem dX12_readsStatement_49 : decode cX12_readsStatement 49 = .ok (.iload_n 3, 1) := by decide +kernel
theorem dX12_readsStatement_50 : decode cX12_readsStatement 50 = .ok (.iload_n 2, 1) := by decide +kernel
theorem dX12_readsStatement_51 : decode cX12_readsStatement 51 = .ok (.if_icmp .ge 43, 3) := by decide +kernel
theorem dX12_readsStatement_54 : decode cX12_readsStatement 54 = .ok (.iload_n 3, 1) := by decide +kernel
theorem dX12_readsStatement_55 : decode cX12_readsStatement 55 = .ok (.ifCond .le 14, 3) := by decide +kernel
theorem dX12_readsStatement_58 : decode cX12_readsStatement 58 = .ok (.aload_n 0, 1) := by decide +kernel
theorem dX12_readsStatement_59 : decode cX12_readsStatement 59 = .ok (.bipush 32, 2) := by decide +kernel
theorem dX12_readsStatement_61 : decode cX12_readsStatement 61 = .ok (.invokevirtual 110, 3) := by decide +kernel
theorem dX12_readsStatement_64 : decode cX12_readsStatement 64 = .ok (.ifCond .ne 5, 3) := by decide +kernel
theorem dX12_readsStatement_67 : decode cX12_readsStatement 67 = .ok (.iconst 0, 1) := by decide +kernel
theorem dX12_readsStatement_68 : decode cX12_readsStatement 68 = .ok (.ireturn, 1) := by decide +kernel
theorem dX12_readsStatement_69 : decode cX12_readsStatement 69 = .ok (.aload_n 0, 1) := by decide +kernel
theorem dX12_readsStatement_70 : decode cX12_readsStatement 70 = .ok (.invokevirtual 114, 3) := by decide +kernel
theorem dX12_readsStatement_73 : decode cX12_readsStatement 73 = .ok (.ifCond .ne 5, 3) := by decide +kernel
theorem dX12_readsStatement_76 : decode cX12_readsStatement 76 = .ok (.iconst 0, 1) := by decide +kernel
theorem dX12_readsStatement_77 : decode cX12_readsStatement 77 = .ok (.ireturn, 1) := by decide +kernel
theorem dX12_readsStatement_78 : decode cX12_readsStatement 78 = .ok (.aload_n 0, 1) := by decide +kernel
theorem dX12_readsStatement_79 : decode cX12_readsStatement 79 = .ok (.getfield 43, 3) := by decide +kernel
theorem dX12_readsStatement_82 : decode cX12_readsStatement 82 = .ok (.iload_n 3, 1) := by decide +kernel
theorem dX12_readsStatement_83 : decode cX12_readsStatement 83 = .ok (.aload_n 0, 1) := by decide +kernel
theorem dX12_readsStatement_84 : decode cX12_readsStatement 84 = .ok (.getfield 107, 3) := by decide +kernel
theorem dX12_readsStatement_87 : decode cX12_readsStatement 87 = .ok (.iastore, 1) := by decide +kernel
theorem dX12_readsStatement_88 : decode cX12_readsStatement 88 = .ok (.iinc 3 1, 3) := by decide +kernel
theorem dX12_readsStatement_91 : decode cX12_readsStatement 91 = .ok (.goto (-42), 3) := by decide +kernel
theorem dX12_readsStatement_94 : decode cX12_readsStatement 94 = .ok (.aload_n 0, 1) := by decide +kernel
theorem dX12_readsStatement_95 : decode cX12_readsStatement 95 = .ok (.bipush 59, 2) := by decide +kernel
theorem dX12_readsStatement_97 : decode cX12_readsStatement 97 = .ok (.invokevirtual 110, 3) := by decide +kernel
theorem dX12_readsStatement_100 : decode cX12_readsStatement 100 = .ok (.ireturn, 1) := by decide +kernel
theorem dX12_between_0 : decode cX12_between 0 = .ok (.iconst 0, 1) := by decide +kernel
theorem dX12_between_1 : decode cX12_between 1 = .ok (.istore_n 3, 1) := by decide +kernel
theorem dX12_between_2 : decode cX12_between 2 = .ok (.iload_n 3, 1) := by decide +kernel
theorem dX12_between_3 : decode cX12_between 3 = .ok (.aload_n 0, 1) := by decide +kernel
theorem dX12_between_4 : decode cX12_between 4 = .ok (.getfield 13, 3) := by decide +kernel
theorem dX12_between_7 : decode cX12_between 7 = .ok (.sipush 1741, 3) := by decide +kernel
theorem dX12_between_10 : decode cX12_between 10 = .ok (.iaload, 1) := by decide +kernel
theorem dX12_between_11 : decode cX12_between 11 = .ok (.if_icmp .ge 51, 3) := by decide +kernel
theorem dX12_between_14 : decode cX12_between 14 = .ok (.aload_n 0, 1) := by decide +kernel
theorem dX12_between_15 : decode cX12_between 15 = .ok (.iload_n 3, 1) := by decide +kernel
theorem dX12_between_16 : decode cX12_between 16 = .ok (.iconst 0, 1) := by decide +kernel
theorem dX12_between_17 : decode cX12_between 17 = .ok (.invokevirtual 118, 3) := by decide +kernel
theorem dX12_between_20 : decode cX12_between 20 = .ok (.iload_n 1, 1) := by decide +kernel
theorem dX12_between_21 : decode cX12_between 21 = .ok (.if_icmp .ne 13, 3) := by decide +kernel
theorem dX12_between_24 : decode cX12_between 24 = .ok (.aload_n 0, 1) := by decide +kernel
theorem dX12_between_25 : decode cX12_between 25 = .ok (.iload_n 3, 1) := by decide +kernel
theorem dX12_between_26 : decode cX12_between 26 = .ok (.iconst 1, 1) := by decide +kernel
theorem dX12_between_27 : decode cX12_between 27 = .ok (.invokevirtual 118, 3) := by decide +kernel
theorem dX12_between_30 : decode cX12_between 30 = .ok (.iload_n 2, 1) := by decide +kernel
theorem dX12_between_31 : decode cX12_between 31 = .ok (.if_icmp .eq 23, 3) := by decide +kernel
theorem dX12_between_34 : decode cX12_between 34 = .ok (.aload_n 0, 1) := by decide +kernel
theorem dX12_between_35 : decode cX12_between 35 = .ok (.iload_n 3, 1) := by decide +kernel
theorem dX12_between_36 : decode cX12_between 36 = .ok (.iconst 0, 1) := by decide +kernel
theorem dX12_between_37 : decode cX12_between 37 = .ok (.invokevirtual 118, 3) := by decide +kernel
theorem dX12_between_40 : decode cX12_between 40 = .ok (.iload_n 2, 1) := by decide +kernel
theorem dX12_between_41 : decode cX12_between 41 = .ok (.if_icmp .ne 15, 3) := by decide +kernel
theorem dX12_between_44 : decode cX12_between 44 = .ok (.aload_n 0, 1) := by decide +kernel
theorem dX12_between_45 : decode cX12_between 45 = .ok (.iload_n 3, 1) := by decide +kernel
theorem dX12_between_46 : decode cX12_between 46 = .ok (.iconst 1, 1) := by decide +kernel
theorem dX12_between_47 : decode cX12_between 47 = .ok (.invokevirtual 118, 3) := by decide +kernel
theorem dX12_between_50 : decode cX12_between 50 = .ok (.iload_n 1, 1) := by decide +kernel
theorem dX12_between_51 : decode cX12_between 51 = .ok (.if_icmp .ne 5, 3) := by decide +kernel
theorem dX12_between_54 : decode cX12_between 54 = .ok (.iload_n 3, 1) := by decide +kernel
theorem dX12_between_55 : decode cX12_between 55 = .ok (.ireturn, 1) := by decide +kernel
theorem dX12_between_56 : decode cX12_between 56 = .ok (.iinc 3 1, 3) := by decide +kernel
theorem dX12_between_59 : decode cX12_between 59 = .ok (.goto (-57), 3) := by decide +kernel
theorem dX12_between_62 : decode cX12_between 62 = .ok (.iconst (-1), 1) := by decide +kernel
theorem dX12_between_63 : decode cX12_between 63 = .ok (.ireturn, 1) := by decide +kernel
theorem dX12_makesGear_0 : decode cX12_makesGear 0 = .ok (.aload_n 0, 1) := by decide +kernel
theorem dX12_makesGear_1 : decode cX12_makesGear 1 = .ok (.getfield 13, 3) := by decide +kernel
theorem dX12_makesGear_4 : decode cX12_makesGear 4 = .ok (.sipush 1740, 3) := by decide +kernel
theorem dX12_makesGear_7 : decode cX12_makesGear 7 = .ok (.iaload, 1) := by decide +kernel
theorem dX12_makesGear_8 : decode cX12_makesGear 8 = .ok (.istore_n 1, 1) := by decide +kernel
theorem dX12_makesGear_9 : decode cX12_makesGear 9 = .ok (.iload_n 1, 1) := by decide +kernel
theorem dX12_makesGear_10 : decode cX12_makesGear 10 = .ok (.bipush 12, 2) := by decide +kernel
theorem dX12_makesGear_12 : decode cX12_makesGear 12 = .ok (.if_icmp .eq 34, 3) := by decide +kernel
theorem dX12_makesGear_15 : decode cX12_makesGear 15 = .ok (.aload_n 0, 1) := by decide +kernel
theorem dX12_makesGear_16 : decode cX12_makesGear 16 = .ok (.getfield 43, 3) := by decide +kernel
theorem dX12_makesGear_19 : decode cX12_makesGear 19 = .ok (.iconst 0, 1) := by decide +kernel
theorem dX12_makesGear_20 : decode cX12_makesGear 20 = .ok (.iaload, 1) := by decide +kernel
theorem dX12_makesGear_21 : decode cX12_makesGear 21 = .ok (.iconst 4, 1) := by decide +kernel
theorem dX12_makesGear_22 : decode cX12_makesGear 22 = .ok (.if_icmp .gt 24, 3) := by decide +kernel
theorem dX12_makesGear_25 : decode cX12_makesGear 25 = .ok (.aload_n 0, 1) := by decide +kernel
theorem dX12_makesGear_26 : decode cX12_makesGear 26 = .ok (.getfield 43, 3) := by decide +kernel
theorem dX12_makesGear_29 : decode cX12_makesGear 29 = .ok (.iconst 1, 1) := by decide +kernel
theorem dX12_makesGear_30 : decode cX12_makesGear 30 = .ok (.iaload, 1) := by decide +kernel
theorem dX12_makesGear_31 : decode cX12_makesGear 31 = .ok (.iconst 4, 1) := by decide +kernel
theorem dX12_makesGear_32 : decode cX12_makesGear 32 = .ok (.if_icmp .lt 14, 3) := by decide +kernel
theorem dX12_makesGear_35 : decode cX12_makesGear 35 = .ok (.aload_n 0, 1) := by decide +kernel
theorem dX12_makesGear_36 : decode cX12_makesGear 36 = .ok (.getfield 43, 3) := by decide +kernel
theorem dX12_makesGear_39 : decode cX12_makesGear 39 = .ok (.iconst 2, 1) := by decide +kernel
theorem dX12_makesGear_40 : decode cX12_makesGear 40 = .ok (.iaload, 1) := by decide +kernel
theorem dX12_makesGear_41 : decode cX12_makesGear 41 = .ok (.bipush 7, 2) := by decide +kernel
theorem dX12_makesGear_43 : decode cX12_makesGear 43 = .ok (.if_icmp .le 5, 3) := by decide +kernel
theorem dX12_makesGear_46 : decode cX12_makesGear 46 = .ok (.iconst 0, 1) := by decide +kernel
theorem dX12_makesGear_47 : decode cX12_makesGear 47 = .ok (.ireturn, 1) := by decide +kernel
theorem dX12_makesGear_48 : decode cX12_makesGear 48 = .ok (.iconst 0, 1) := by decide +kernel
theorem dX12_makesGear_49 : decode cX12_makesGear 49 = .ok (.istore_n 2, 1) := by decide +kernel
theorem dX12_makesGear_50 : decode cX12_makesGear 50 = .ok (.iload_n 2, 1) := by decide +kernel
theorem dX12_makesGear_51 : decode cX12_makesGear 51 = .ok (.bipush 19, 2) := by decide +kernel
theorem dX12_makesGear_53 : decode cX12_makesGear 53 = .ok (.if_icmp .ge 36, 3) := by decide +kernel
theorem dX12_makesGear_56 : decode cX12_makesGear 56 = .ok (.aload_n 0, 1) := by decide +kernel
theorem dX12_makesGear_57 : decode cX12_makesGear 57 = .ok (.getfield 13, 3) := by decide +kernel
theorem dX12_makesGear_60 : decode cX12_makesGear 60 = .ok (.bipush 19, 2) := by decide +kernel
theorem dX12_makesGear_62 : decode cX12_makesGear 62 = .ok (.iload_n 1, 1) := by decide +kernel
theorem dX12_makesGear_63 : decode cX12_makesGear 63 = .ok (.imul, 1) := by decide +kernel
theorem dX12_makesGear_64 : decode cX12_makesGear 64 = .ok (.iload_n 2, 1) := by decide +kernel
theorem dX12_makesGear_65 : decode cX12_makesGear 65 = .ok (.iadd, 1) := by decide +kernel
theorem dX12_makesGear_66 : decode cX12_makesGear 66 = .ok (.iload_n 2, 1) := by decide +kernel
theorem dX12_makesGear_67 : decode cX12_makesGear 67 = .ok (.iconst 3, 1) := by decide +kernel
theorem dX12_makesGear_68 : decode cX12_makesGear 68 = .ok (.if_icmp .ge 12, 3) := by decide +kernel
theorem dX12_makesGear_71 : decode cX12_makesGear 71 = .ok (.aload_n 0, 1) := by decide +kernel
theorem dX12_makesGear_72 : decode cX12_makesGear 72 = .ok (.getfield 43, 3) := by decide +kernel
theorem dX12_makesGear_75 : decode cX12_makesGear 75 = .ok (.iload_n 2, 1) := by decide +kernel
theorem dX12_makesGear_76 : decode cX12_makesGear 76 = .ok (.iaload, 1) := by decide +kernel
theorem dX12_makesGear_77 : decode cX12_makesGear 77 = .ok (.goto 5, 3) := by decide +kernel
theorem dX12_makesGear_80 : decode cX12_makesGear 80 = .ok (.bipush 31, 2) := by decide +kernel
theorem dX12_makesGear_82 : decode cX12_makesGear 82 = .ok (.iastore, 1) := by decide +kernel
theorem dX12_makesGear_83 : decode cX12_makesGear 83 = .ok (.iinc 2 1, 3) := by decide +kernel
theorem dX12_makesGear_86 : decode cX12_makesGear 86 = .ok (.goto (-36), 3) := by decide +kernel
theorem dX12_makesGear_89 : decode cX12_makesGear 89 = .ok (.aload_n 0, 1) := by decide +kernel
theorem dX12_makesGear_90 : decode cX12_makesGear 90 = .ok (.getfield 13, 3) := by decide +kernel
theorem dX12_makesGear_93 : decode cX12_makesGear 93 = .ok (.sipush 1740, 3) := by decide +kernel
theorem dX12_makesGear_96 : decode cX12_makesGear 96 = .ok (.dup2, 1) := by decide +kernel
theorem dX12_makesGear_97 : decode cX12_makesGear 97 = .ok (.iaload, 1) := by decide +kernel
theorem dX12_makesGear_98 : decode cX12_makesGear 98 = .ok (.iconst 1, 1) := by decide +kernel
theorem dX12_makesGear_99 : decode cX12_makesGear 99 = .ok (.iadd, 1) := by decide +kernel
theorem dX12_makesGear_100 : decode cX12_makesGear 100 = .ok (.iastore, 1) := by decide +kernel
theorem dX12_makesGear_101 : decode cX12_makesGear 101 = .ok (.iconst 1, 1) := by decide +kernel
theorem dX12_makesGear_102 : decode cX12_makesGear 102 = .ok (.ireturn, 1) := by decide +kernel
theorem dX12_makesMesh_0 : decode cX12_makesMesh 0 = .ok (.aload_n 0, 1) := by decide +kernel
theorem dX12_makesMesh_1 : decode cX12_makesMesh 1 = .ok (.getfield 43, 3) := by decide +kernel
theorem dX12_makesMesh_4 : decode cX12_makesMesh 4 = .ok (.iconst 0, 1) := by decide +kernel
theorem dX12_makesMesh_5 : decode cX12_makesMesh 5 = .ok (.iaload, 1) := by decide +kernel
theorem dX12_makesMesh_6 : decode cX12_makesMesh 6 = .ok (.istore_n 1, 1) := by decide +kernel
theorem dX12_makesMesh_7 : decode cX12_makesMesh 7 = .ok (.aload_n 0, 1) := by decide +kernel
theorem dX12_makesMesh_8 : decode cX12_makesMesh 8 = .ok (.getfield 43, 3) := by decide +kernel
theorem dX12_makesMesh_11 : decode cX12_makesMesh 11 = .ok (.iconst 1, 1) := by decide +kernel
theorem dX12_makesMesh_12 : decode cX12_makesMesh 12 = .ok (.iaload, 1) := by decide +kernel
theorem dX12_makesMesh_13 : decode cX12_makesMesh 13 = .ok (.istore_n 2, 1) := by decide +kernel
theorem dX12_makesMesh_14 : decode cX12_makesMesh 14 = .ok (.aload_n 0, 1) := by decide +kernel
theorem dX12_makesMesh_15 : decode cX12_makesMesh 15 = .ok (.getfield 13, 3) := by decide +kernel
theorem dX12_makesMesh_18 : decode cX12_makesMesh 18 = .ok (.sipush 1741, 3) := by decide +kernel
theorem dX12_makesMesh_21 : decode cX12_makesMesh 21 = .ok (.iaload, 1) := by decide +kernel
theorem dX12_makesMesh_22 : decode cX12_makesMesh 22 = .ok (.bipush 16, 2) := by decide +kernel
theorem dX12_makesMesh_24 : decode cX12_makesMesh 24 = .ok (.if_icmp .eq 51, 3) := by decide +kernel
theorem dX12_makesMesh_27 : decode cX12_makesMesh 27 = .ok (.aload_n 0, 1) := by decide +kernel
theorem dX12_makesMesh_28 : decode cX12_makesMesh 28 = .ok (.iload_n 1, 1) := by decide +kernel
theorem dX12_makesMesh_29 : decode cX12_makesMesh 29 = .ok (.invokevirtual 121, 3) := by decide +kernel
theorem dX12_makesMesh_32 : decode cX12_makesMesh 32 = .ok (.ifCond .eq 43, 3) := by decide +kernel
theorem dX12_makesMesh_35 : decode cX12_makesMesh 35 = .ok (.aload_n 0, 1) := by decide +kernel
theorem dX12_makesMesh_36 : decode cX12_makesMesh 36 = .ok (.iload_n 2, 1) := by decide +kernel
theorem dX12_makesMesh_37 : decode cX12_makesMesh 37 = .ok (.invokevirtual 121, 3) := by decide +kernel
theorem dX12_makesMesh_40 : decode cX12_makesMesh 40 = .ok (.ifCond .eq 35, 3) := by decide +kernel
theorem dX12_makesMesh_43 : decode cX12_makesMesh 43 = .ok (.iload_n 1, 1) := by decide +kernel
theorem dX12_makesMesh_44 : decode cX12_makesMesh 44 = .ok (.iload_n 2, 1) := by decide +kernel
theorem dX12_makesMesh_45 : decode cX12_makesMesh 45 = .ok (.if_icmp .eq 30, 3) := by decide +kernel
theorem dX12_makesMesh_48 : decode cX12_makesMesh 48 = .ok (.aload_n 0, 1) := by decide +kernel
theorem dX12_makesMesh_49 : decode cX12_makesMesh 49 = .ok (.iload_n 1, 1) := by decide +kernel
theorem dX12_makesMesh_50 : decode cX12_makesMesh 50 = .ok (.invokevirtual 79, 3) := by decide +kernel
theorem dX12_makesMesh_53 : decode cX12_makesMesh 53 = .ok (.iconst 4, 1) := by decide +kernel
theorem dX12_makesMesh_54 : decode cX12_makesMesh 54 = .ok (.if_icmp .ne 12, 3) := by decide +kernel
theorem dX12_makesMesh_57 : decode cX12_makesMesh 57 = .ok (.aload_n 0, 1) := by decide +kernel
theorem dX12_makesMesh_58 : decode cX12_makesMesh 58 = .ok (.iload_n 2, 1) := by decide +kernel
theorem dX12_makesMesh_59 : decode cX12_makesMesh 59 = .ok (.invokevirtual 79, 3) := by decide +kernel
theorem dX12_makesMesh_62 : decode cX12_makesMesh 62 = .ok (.iconst 4, 1) := by decide +kernel
theorem dX12_makesMesh_63 : decode cX12_makesMesh 63 = .ok (.if_icmp .eq 12, 3) := by decide +kernel
theorem dX12_makesMesh_66 : decode cX12_makesMesh 66 = .ok (.aload_n 0, 1) := by decide +kernel
theorem dX12_makesMesh_67 : decode cX12_makesMesh 67 = .ok (.iload_n 1, 1) := by decide +kernel
theorem dX12_makesMesh_68 : decode cX12_makesMesh 68 = .ok (.iload_n 2, 1) := by decide +kernel
theorem dX12_makesMesh_69 : decode cX12_makesMesh 69 = .ok (.invokevirtual 124, 3) := by decide +kernel
theorem dX12_makesMesh_72 : decode cX12_makesMesh 72 = .ok (.ifCond .lt 5, 3) := by decide +kernel
theorem dX12_makesMesh_75 : decode cX12_makesMesh 75 = .ok (.iconst 0, 1) := by decide +kernel
theorem dX12_makesMesh_76 : decode cX12_makesMesh 76 = .ok (.ireturn, 1) := by decide +kernel
theorem dX12_makesMesh_77 : decode cX12_makesMesh 77 = .ok (.sipush 228, 3) := by decide +kernel
theorem dX12_makesMesh_80 : decode cX12_makesMesh 80 = .ok (.iconst 3, 1) := by decide +kernel
theorem dX12_makesMesh_81 : decode cX12_makesMesh 81 = .ok (.aload_n 0, 1) := by decide +kernel
theorem dX12_makesMesh_82 : decode cX12_makesMesh 82 = .ok (.getfield 13, 3) := by decide +kernel
theorem dX12_makesMesh_85 : decode cX12_makesMesh 85 = .ok (.sipush 1741, 3) := by decide +kernel
theorem dX12_makesMesh_88 : decode cX12_makesMesh 88 = .ok (.iaload, 1) := by decide +kernel
theorem dX12_makesMesh_89 : decode cX12_makesMesh 89 = .ok (.imul, 1) := by decide +kernel
theorem dX12_makesMesh_90 : decode cX12_makesMesh 90 = .ok (.iadd, 1) := by decide +kernel
theorem dX12_makesMesh_91 : decode cX12_makesMesh 91 = .ok (.istore_n 3, 1) := by decide +kernel
theorem dX12_makesMesh_92 : decode cX12_makesMesh 92 = .ok (.aload_n 0, 1) := by decide +kernel
theorem dX12_makesMesh_93 : decode cX12_makesMesh 93 = .ok (.getfield 13, 3) := by decide +kernel
theorem dX12_makesMesh_96 : decode cX12_makesMesh 96 = .ok (.iload_n 3, 1) := by decide +kernel
theorem dX12_makesMesh_97 : decode cX12_makesMesh 97 = .ok (.iload_n 1, 1) := by decide +kernel
theorem dX12_makesMesh_98 : decode cX12_makesMesh 98 = .ok (.iastore, 1) := by decide +kernel
theorem dX12_makesMesh_99 : decode cX12_makesMesh 99 = .ok (.aload_n 0, 1) := by decide +kernel
theorem dX12_makesMesh_100 : decode cX12_makesMesh 100 = .ok (.getfield 13, 3) := by decide +kernel
theorem dX12_makesMesh_103 : decode cX12_makesMesh 103 = .ok (.iload_n 3, 1) := by decide +kernel
theorem dX12_makesMesh_104 : decode cX12_makesMesh 104 = .ok (.iconst 1, 1) := by decide +kernel
theorem dX12_makesMesh_105 : decode cX12_makesMesh 105 = .ok (.iadd, 1) := by decide +kernel
theorem dX12_makesMesh_106 : decode cX12_makesMesh 106 = .ok (.iload_n 2, 1) := by decide +kernel
theorem dX12_makesMesh_107 : decode cX12_makesMesh 107 = .ok (.iastore, 1) := by decide +kernel
theorem dX12_makesMesh_108 : decode cX12_makesMesh 108 = .ok (.aload_n 0, 1) := by decide +kernel
theorem dX12_makesMesh_109 : decode cX12_makesMesh 109 = .ok (.getfield 13, 3) := by decide +kernel
theorem dX12_makesMesh_112 : decode cX12_makesMesh 112 = .ok (.iload_n 3, 1) := by decide +kernel
theorem dX12_makesMesh_113 : decode cX12_makesMesh 113 = .ok (.iconst 2, 1) := by decide +kernel
theorem dX12_makesMesh_114 : decode cX12_makesMesh 114 = .ok (.iadd, 1) := by decide +kernel
theorem dX12_makesMesh_115 : decode cX12_makesMesh 115 = .ok (.bipush 62, 2) := by decide +kernel
theorem dX12_makesMesh_117 : decode cX12_makesMesh 117 = .ok (.iastore, 1) := by decide +kernel
theorem dX12_makesMesh_118 : decode cX12_makesMesh 118 = .ok (.aload_n 0, 1) := by decide +kernel
theorem dX12_makesMesh_119 : decode cX12_makesMesh 119 = .ok (.getfield 13, 3) := by decide +kernel
theorem dX12_makesMesh_122 : decode cX12_makesMesh 122 = .ok (.sipush 1741, 3) := by decide +kernel
theorem dX12_makesMesh_125 : decode cX12_makesMesh 125 = .ok (.dup2, 1) := by decide +kernel
theorem dX12_makesMesh_126 : decode cX12_makesMesh 126 = .ok (.iaload, 1) := by decide +kernel
theorem dX12_makesMesh_127 : decode cX12_makesMesh 127 = .ok (.iconst 1, 1) := by decide +kernel
theorem dX12_makesMesh_128 : decode cX12_makesMesh 128 = .ok (.iadd, 1) := by decide +kernel
theorem dX12_makesMesh_129 : decode cX12_makesMesh 129 = .ok (.iastore, 1) := by decide +kernel
theorem dX12_makesMesh_130 : decode cX12_makesMesh 130 = .ok (.iconst 1, 1) := by decide +kernel
theorem dX12_makesMesh_131 : decode cX12_makesMesh 131 = .ok (.ireturn, 1) := by decide +kernel
theorem dX12_makesRoom_0 : decode cX12_makesRoom 0 = .ok (.aload_n 0, 1) := by decide +kernel
theorem dX12_makesRoom_1 : decode cX12_makesRoom 1 = .ok (.aload_n 0, 1) := by decide +kernel
theorem dX12_makesRoom_2 : decode cX12_makesRoom 2 = .ok (.getfield 43, 3) := by decide +kernel
theorem dX12_makesRoom_5 : decode cX12_makesRoom 5 = .ok (.iconst 0, 1) := by decide +kernel
theorem dX12_makesRoom_6 : decode cX12_makesRoom 6 = .ok (.iaload, 1) := by decide +kernel
theorem dX12_makesRoom_7 : decode cX12_makesRoom 7 = .ok (.aload_n 0, 1) := by decide +kernel
theorem dX12_makesRoom_8 : decode cX12_makesRoom 8 = .ok (.getfield 43, 3) := by decide +kernel
theorem dX12_makesRoom_11 : decode cX12_makesRoom 11 = .ok (.iconst 1, 1) := by decide +kernel
theorem dX12_makesRoom_12 : decode cX12_makesRoom 12 = .ok (.iaload, 1) := by decide +kernel
theorem dX12_makesRoom_13 : decode cX12_makesRoom 13 = .ok (.invokevirtual 124, 3) := by decide +kernel
theorem dX12_makesRoom_16 : decode cX12_makesRoom 16 = .ok (.istore_n 1, 1) := by decide +kernel
theorem dX12_makesRoom_17 : decode cX12_makesRoom 17 = .ok (.iload_n 1, 1) := by decide +kernel
theorem dX12_makesRoom_18 : decode cX12_makesRoom 18 = .ok (.ifCond .lt 14, 3) := by decide +kernel
theorem dX12_makesRoom_21 : decode cX12_makesRoom 21 = .ok (.aload_n 0, 1) := by decide +kernel
theorem dX12_makesRoom_22 : decode cX12_makesRoom 22 = .ok (.getfield 43, 3) := by decide +kernel
theorem dX12_makesRoom_25 : decode cX12_makesRoom 25 = .ok (.iconst 2, 1) := by decide +kernel
theorem dX12_makesRoom_26 : decode cX12_makesRoom 26 = .ok (.iaload, 1) := by decide +kernel
theorem dX12_makesRoom_27 : decode cX12_makesRoom 27 = .ok (.bipush 62, 2) := by decide +kernel
theorem dX12_makesRoom_29 : decode cX12_makesRoom 29 = .ok (.if_icmp .le 5, 3) := by decide +kernel
theorem dX12_makesRoom_32 : decode cX12_makesRoom 32 = .ok (.iconst 0, 1) := by decide +kernel
theorem dX12_makesRoom_33 : decode cX12_makesRoom 33 = .ok (.ireturn, 1) := by decide +kernel
theorem dX12_makesRoom_34 : decode cX12_makesRoom 34 = .ok (.aload_n 0, 1) := by decide +kernel
theorem dX12_makesRoom_35 : decode cX12_makesRoom 35 = .ok (.getfield 13, 3) := by decide +kernel
theorem dX12_makesRoom_38 : decode cX12_makesRoom 38 = .ok (.sipush 228, 3) := by decide +kernel
theorem dX12_makesRoom_41 : decode cX12_makesRoom 41 = .ok (.iconst 3, 1) := by decide +kernel
theorem dX12_makesRoom_42 : decode cX12_makesRoom 42 = .ok (.iload_n 1, 1) := by decide +kernel
theorem dX12_makesRoom_43 : decode cX12_makesRoom 43 = .ok (.imul, 1) := by decide +kernel
theorem dX12_makesRoom_44 : decode cX12_makesRoom 44 = .ok (.iadd, 1) := by decide +kernel
theorem dX12_makesRoom_45 : decode cX12_makesRoom 45 = .ok (.iconst 2, 1) := by decide +kernel
theorem dX12_makesRoom_46 : decode cX12_makesRoom 46 = .ok (.iadd, 1) := by decide +kernel
theorem dX12_makesRoom_47 : decode cX12_makesRoom 47 = .ok (.aload_n 0, 1) := by decide +kernel
theorem dX12_makesRoom_48 : decode cX12_makesRoom 48 = .ok (.getfield 43, 3) := by decide +kernel
theorem dX12_makesRoom_51 : decode cX12_makesRoom 51 = .ok (.iconst 2, 1) := by decide +kernel
theorem dX12_makesRoom_52 : decode cX12_makesRoom 52 = .ok (.iaload, 1) := by decide +kernel
theorem dX12_makesRoom_53 : decode cX12_makesRoom 53 = .ok (.iastore, 1) := by decide +kernel
theorem dX12_makesRoom_54 : decode cX12_makesRoom 54 = .ok (.iconst 1, 1) := by decide +kernel
theorem dX12_makesRoom_55 : decode cX12_makesRoom 55 = .ok (.ireturn, 1) := by decide +kernel
theorem dX12_wrongRow_0 : decode cX12_wrongRow 0 = .ok (.iload_n 1, 1) := by decide +kernel
theorem dX12_wrongRow_1 : decode cX12_wrongRow 1 = .ok (.invokestatic 127, 3) := by decide +kernel
theorem dX12_wrongRow_4 : decode cX12_wrongRow 4 = .ok (.ifCond .ne 7, 3) := by decide +kernel
theorem dX12_wrongRow_7 : decode cX12_wrongRow 7 = .ok (.iconst (-1), 1) := by decide +kernel
theorem dX12_wrongRow_8 : decode cX12_wrongRow 8 = .ok (.goto 47, 3) := by decide +kernel
theorem dX12_wrongRow_11 : decode cX12_wrongRow 11 = .ok (.aload_n 0, 1) := by decide +kernel
theorem dX12_wrongRow_12 : decode cX12_wrongRow 12 = .ok (.getfield 22, 3) := by decide +kernel
theorem dX12_wrongRow_15 : decode cX12_wrongRow 15 = .ok (.iload_n 1, 1) := by decide +kernel
theorem dX12_wrongRow_16 : decode cX12_wrongRow 16 = .ok (.iaload, 1) := by decide +kernel
theorem dX12_wrongRow_17 : decode cX12_wrongRow 17 = .ok (.ifCond .ne 8, 3) := by decide +kernel
theorem dX12_wrongRow_20 : decode cX12_wrongRow 20 = .ok (.bipush (-11), 2) := by decide +kernel
theorem dX12_wrongRow_22 : decode cX12_wrongRow 22 = .ok (.goto 33, 3) := by decide +kernel
theorem dX12_wrongRow_25 : decode cX12_wrongRow 25 = .ok (.aload_n 0, 1) := by decide +kernel
theorem dX12_wrongRow_26 : decode cX12_wrongRow 26 = .ok (.getfield 22, 3) := by decide +kernel
theorem dX12_wrongRow_29 : decode cX12_wrongRow 29 = .ok (.iload_n 1, 1) := by decide +kernel
theorem dX12_wrongRow_30 : decode cX12_wrongRow 30 = .ok (.iaload, 1) := by decide +kernel
theorem dX12_wrongRow_31 : decode cX12_wrongRow 31 = .ok (.iconst 2, 1) := by decide +kernel
theorem dX12_wrongRow_32 : decode cX12_wrongRow 32 = .ok (.if_icmp .ne 17, 3) := by decide +kernel
theorem dX12_wrongRow_35 : decode cX12_wrongRow 35 = .ok (.iload_n 2, 1) := by decide +kernel
theorem dX12_wrongRow_36 : decode cX12_wrongRow 36 = .ok (.ifCond .lt 18, 3) := by decide +kernel
theorem dX12_wrongRow_39 : decode cX12_wrongRow 39 = .ok (.aload_n 0, 1) := by decide +kernel
theorem dX12_wrongRow_40 : decode cX12_wrongRow 40 = .ok (.getfield 25, 3) := by decide +kernel
theorem dX12_wrongRow_43 : decode cX12_wrongRow 43 = .ok (.iload_n 1, 1) := by decide +kernel
theorem dX12_wrongRow_44 : decode cX12_wrongRow 44 = .ok (.iaload, 1) := by decide +kernel
theorem dX12_wrongRow_45 : decode cX12_wrongRow 45 = .ok (.iload_n 2, 1) := by decide +kernel
theorem dX12_wrongRow_46 : decode cX12_wrongRow 46 = .ok (.if_icmp .eq 8, 3) := by decide +kernel
theorem dX12_wrongRow_49 : decode cX12_wrongRow 49 = .ok (.bipush (-12), 2) := by decide +kernel
theorem dX12_wrongRow_51 : decode cX12_wrongRow 51 = .ok (.goto 4, 3) := by decide +kernel
theorem dX12_wrongRow_54 : decode cX12_wrongRow 54 = .ok (.iconst 0, 1) := by decide +kernel
theorem dX12_wrongRow_55 : decode cX12_wrongRow 55 = .ok (.ireturn, 1) := by decide +kernel
theorem dX12_opens_0 : decode cX12_opens 0 = .ok (.aload_n 0, 1) := by decide +kernel
theorem dX12_opens_1 : decode cX12_opens 1 = .ok (.aload_n 0, 1) := by decide +kernel
theorem dX12_opens_2 : decode cX12_opens 2 = .ok (.getfield 31, 3) := by decide +kernel
theorem dX12_opens_5 : decode cX12_opens 5 = .ok (.putfield 40, 3) := by decide +kernel
theorem dX12_opens_8 : decode cX12_opens 8 = .ok (.aload_n 0, 1) := by decide +kernel
theorem dX12_opens_9 : decode cX12_opens 9 = .ok (.bipush 120, 2) := by decide +kernel
theorem dX12_opens_11 : decode cX12_opens 11 = .ok (.iload_n 1, 1) := by decide +kernel
theorem dX12_opens_12 : decode cX12_opens 12 = .ok (.imul, 1) := by decide +kernel
theorem dX12_opens_13 : decode cX12_opens 13 = .ok (.putfield 96, 3) := by decide +kernel
theorem dX12_opens_16 : decode cX12_opens 16 = .ok (.aload_n 0, 1) := by decide +kernel
theorem dX12_opens_17 : decode cX12_opens 17 = .ok (.aload_n 0, 1) := by decide +kernel
theorem dX12_opens_18 : decode cX12_opens 18 = .ok (.getfield 28, 3) := by decide +kernel
theorem dX12_opens_21 : decode cX12_opens 21 = .ok (.iload_n 1, 1) := by decide +kernel
theorem dX12_opens_22 : decode cX12_opens 22 = .ok (.iaload, 1) := by decide +kernel
theorem dX12_opens_23 : decode cX12_opens 23 = .ok (.putfield 93, 3) := by decide +kernel
theorem dX12_opens_26 : decode cX12_opens 26 = .ok (.aload_n 0, 1) := by decide +kernel
theorem dX12_opens_27 : decode cX12_opens 27 = .ok (.iconst 0, 1) := by decide +kernel
theorem dX12_opens_28 : decode cX12_opens 28 = .ok (.putfield 90, 3) := by decide +kernel
theorem dX12_opens_31 : decode cX12_opens 31 = .ok (.return_, 1) := by decide +kernel
theorem dX12_text_0 : decode cX12_text 0 = .ok (.aload_n 0, 1) := by decide +kernel
theorem dX12_text_1 : decode cX12_text 1 = .ok (.iload_n 1, 1) := by decide +kernel
theorem dX12_text_2 : decode cX12_text 2 = .ok (.iconst 0, 1) := by decide +kernel
theorem dX12_text_3 : decode cX12_text 3 = .ok (.invokevirtual 130, 3) := by decide +kernel
theorem dX12_text_6 : decode cX12_text 6 = .ok (.istore_n 2, 1) := by decide +kernel
theorem dX12_text_7 : decode cX12_text 7 = .ok (.iload_n 2, 1) := by decide +kernel
theorem dX12_text_8 : decode cX12_text 8 = .ok (.ifCond .eq 5, 3) := by decide +kernel
theorem dX12_text_11 : decode cX12_text 11 = .ok (.iload_n 2, 1) := by decide +kernel
theorem dX12_text_12 : decode cX12_text 12 = .ok (.ireturn, 1) := by decide +kernel
theorem dX12_text_13 : decode cX12_text 13 = .ok (.aload_n 0, 1) := by decide +kernel
theorem dX12_text_14 : decode cX12_text 14 = .ok (.iload_n 1, 1) := by decide +kernel
theorem dX12_text_15 : decode cX12_text 15 = .ok (.invokevirtual 133, 3) := by decide +kernel
theorem dX12_text_18 : decode cX12_text 18 = .ok (.aload_n 0, 1) := by decide +kernel
theorem dX12_text_19 : decode cX12_text 19 = .ok (.invokevirtual 137, 3) := by decide +kernel
theorem dX12_text_22 : decode cX12_text 22 = .ok (.ifCond .ne 12, 3) := by decide +kernel
theorem dX12_text_25 : decode cX12_text 25 = .ok (.sipush (-1000), 3) := by decide +kernel
theorem dX12_text_28 : decode cX12_text 28 = .ok (.aload_n 0, 1) := by decide +kernel
theorem dX12_text_29 : decode cX12_text 29 = .ok (.getfield 90, 3) := by decide +kernel
theorem dX12_text_32 : decode cX12_text 32 = .ok (.isub, 1) := by decide +kernel
theorem dX12_text_33 : decode cX12_text 33 = .ok (.ireturn, 1) := by decide +kernel
theorem dX12_text_34 : decode cX12_text 34 = .ok (.aload_n 0, 1) := by decide +kernel
theorem dX12_text_35 : decode cX12_text 35 = .ok (.getfield 90, 3) := by decide +kernel
theorem dX12_text_38 : decode cX12_text 38 = .ok (.aload_n 0, 1) := by decide +kernel
theorem dX12_text_39 : decode cX12_text 39 = .ok (.getfield 93, 3) := by decide +kernel
theorem dX12_text_42 : decode cX12_text 42 = .ok (.if_icmp .lt (-24), 3) := by decide +kernel
theorem dX12_text_45 : decode cX12_text 45 = .ok (.iconst 0, 1) := by decide +kernel
theorem dX12_text_46 : decode cX12_text 46 = .ok (.istore_n 3, 1) := by decide +kernel
theorem dX12_text_47 : decode cX12_text 47 = .ok (.iload_n 3, 1) := by decide +kernel
theorem dX12_text_48 : decode cX12_text 48 = .ok (.sipush 1744, 3) := by decide +kernel
theorem dX12_text_51 : decode cX12_text 51 = .ok (.if_icmp .ge 21, 3) := by decide +kernel
theorem dX12_text_54 : decode cX12_text 54 = .ok (.aload_n 0, 1) := by decide +kernel
theorem dX12_text_55 : decode cX12_text 55 = .ok (.getfield 19, 3) := by decide +kernel
theorem dX12_text_58 : decode cX12_text 58 = .ok (.iload_n 3, 1) := by decide +kernel
theorem dX12_text_59 : decode cX12_text 59 = .ok (.aload_n 0, 1) := by decide +kernel
theorem dX12_text_60 : decode cX12_text 60 = .ok (.getfield 13, 3) := by decide +kernel
theorem dX12_text_63 : decode cX12_text 63 = .ok (.iload_n 3, 1) := by decide +kernel
theorem dX12_text_64 : decode cX12_text 64 = .ok (.iaload, 1) := by decide +kernel
theorem dX12_text_65 : decode cX12_text 65 = .ok (.iastore, 1) := by decide +kernel
theorem dX12_text_66 : decode cX12_text 66 = .ok (.iinc 3 1, 3) := by decide +kernel
theorem dX12_text_69 : decode cX12_text 69 = .ok (.goto (-22), 3) := by decide +kernel
theorem dX12_text_72 : decode cX12_text 72 = .ok (.aload_n 0, 1) := by decide +kernel
theorem dX12_text_73 : decode cX12_text 73 = .ok (.iconst 0, 1) := by decide +kernel
theorem dX12_text_74 : decode cX12_text 74 = .ok (.putfield 90, 3) := by decide +kernel
theorem dX12_text_77 : decode cX12_text 77 = .ok (.iconst 0, 1) := by decide +kernel
theorem dX12_text_78 : decode cX12_text 78 = .ok (.istore_n 3, 1) := by decide +kernel
theorem dX12_text_79 : decode cX12_text 79 = .ok (.aload_n 0, 1) := by decide +kernel
theorem dX12_text_80 : decode cX12_text 80 = .ok (.getfield 90, 3) := by decide +kernel
theorem dX12_text_83 : decode cX12_text 83 = .ok (.aload_n 0, 1) := by decide +kernel
theorem dX12_text_84 : decode cX12_text 84 = .ok (.getfield 93, 3) := by decide +kernel
theorem dX12_text_87 : decode cX12_text 87 = .ok (.if_icmp .ge 104, 3) := by decide +kernel
theorem dX12_text_90 : decode cX12_text 90 = .ok (.aload_n 0, 1) := by decide +kernel
theorem dX12_text_91 : decode cX12_text 91 = .ok (.getfield 90, 3) := by decide +kernel
theorem dX12_text_94 : decode cX12_text 94 = .ok (.istore 4, 2) := by decide +kernel
theorem dX12_text_96 : decode cX12_text 96 = .ok (.aload_n 0, 1) := by decide +kernel
theorem dX12_text_97 : decode cX12_text 97 = .ok (.invokevirtual 99, 3) := by decide +kernel
theorem dX12_text_100 : decode cX12_text 100 = .ok (.istore 5, 2) := by decide +kernel
theorem dX12_text_102 : decode cX12_text 102 = .ok (.aload_n 0, 1) := by decide +kernel
theorem dX12_text_103 : decode cX12_text 103 = .ok (.invokevirtual 137, 3) := by decide +kernel
theorem dX12_text_106 : decode cX12_text 106 = .ok (.istore 6, 2) := by decide +kernel
theorem dX12_text_108 : decode cX12_text 108 = .ok (.iload 5, 2) := by decide +kernel
theorem dX12_text_110 : decode cX12_text 110 = .ok (.bipush 103, 2) := by decide +kernel
theorem dX12_text_112 : decode cX12_text 112 = .ok (.if_icmp .ne 10, 3) := by decide +kernel
theorem dX12_text_115 : decode cX12_text 115 = .ok (.aload_n 0, 1) := by decide +kernel
theorem dX12_text_116 : decode cX12_text 116 = .ok (.invokevirtual 140, 3) := by decide +kernel
theorem dX12_text_119 : decode cX12_text 119 = .ok (.goto 21, 3) := by decide +kernel
theorem dX12_text_122 : decode cX12_text 122 = .ok (.iload 5, 2) := by decide +kernel
theorem dX12_text_124 : decode cX12_text 124 = .ok (.bipush 109, 2) := by decide +kernel
theorem dX12_text_126 : decode cX12_text 126 = .ok (.if_icmp .ne 10, 3) := by decide +kernel
theorem dX12_text_129 : decode cX12_text 129 = .ok (.aload_n 0, 1) := by decide +kernel
theorem dX12_text_130 : decode cX12_text 130 = .ok (.invokevirtual 143, 3) := by decide +kernel
theorem dX12_text_133 : decode cX12_text 133 = .ok (.goto 7, 3) := by decide +kernel
theorem dX12_text_136 : decode cX12_text 136 = .ok (.aload_n 0, 1) := by decide +kernel
theorem dX12_text_137 : decode cX12_text 137 = .ok (.invokevirtual 146, 3) := by decide +kernel
theorem dX12_text_140 : decode cX12_text 140 = .ok (.istore 6, 2) := by decide +kernel
theorem dX12_text_142 : decode cX12_text 142 = .ok (.iinc 3 1, 3) := by decide +kernel
theorem dX12_text_145 : decode cX12_text 145 = .ok (.iload 6, 2) := by decide +kernel
theorem dX12_text_147 : decode cX12_text 147 = .ok (.ifCond .eq 6, 3) := by decide +kernel
theorem dX12_text_150 : decode cX12_text 150 = .ok (.goto (-71), 3) := by decide +kernel
theorem dX12_text_153 : decode cX12_text 153 = .ok (.iconst 0, 1) := by decide +kernel
theorem dX12_text_154 : decode cX12_text 154 = .ok (.istore 7, 2) := by decide +kernel
theorem dX12_text_156 : decode cX12_text 156 = .ok (.iload 7, 2) := by decide +kernel
theorem dX12_text_158 : decode cX12_text 158 = .ok (.sipush 1744, 3) := by decide +kernel
theorem dX12_text_161 : decode cX12_text 161 = .ok (.if_icmp .ge 23, 3) := by decide +kernel
theorem dX12_text_164 : decode cX12_text 164 = .ok (.aload_n 0, 1) := by decide +kernel
theorem dX12_text_165 : decode cX12_text 165 = .ok (.getfield 13, 3) := by decide +kernel
theorem dX12_text_168 : decode cX12_text 168 = .ok (.iload 7, 2) := by decide +kernel
theorem dX12_text_170 : decode cX12_text 170 = .ok (.aload_n 0, 1) := by decide +kernel
theorem dX12_text_171 : decode cX12_text 171 = .ok (.getfield 19, 3) := by decide +kernel
theorem dX12_text_174 : decode cX12_text 174 = .ok (.iload 7, 2) := by decide +kernel
theorem dX12_text_176 : decode cX12_text 176 = .ok (.iaload, 1) := by decide +kernel
theorem dX12_text_177 : decode cX12_text 177 = .ok (.iastore, 1) := by decide +kernel
theorem dX12_text_178 : decode cX12_text 178 = .ok (.iinc 7 1, 3) := by decide +kernel
theorem dX12_text_181 : decode cX12_text 181 = .ok (.goto (-25), 3) := by decide +kernel
theorem dX12_text_184 : decode cX12_text 184 = .ok (.sipush (-2000), 3) := by decide +kernel
theorem dX12_text_187 : decode cX12_text 187 = .ok (.iload 4, 2) := by decide +kernel
theorem dX12_text_189 : decode cX12_text 189 = .ok (.isub, 1) := by decide +kernel
theorem dX12_text_190 : decode cX12_text 190 = .ok (.ireturn, 1) := by decide +kernel
theorem dX12_text_191 : decode cX12_text 191 = .ok (.iload_n 3, 1) := by decide +kernel
theorem dX12_text_192 : decode cX12_text 192 = .ok (.ireturn, 1) := by decide +kernel
theorem dX12_gear_0 : decode cX12_gear 0 = .ok (.aload_n 0, 1) := by decide +kernel
theorem dX12_gear_1 : decode cX12_gear 1 = .ok (.iload_n 1, 1) := by decide +kernel
theorem dX12_gear_2 : decode cX12_gear 2 = .ok (.invokevirtual 121, 3) := by decide +kernel
theorem dX12_gear_5 : decode cX12_gear 5 = .ok (.ifCond .ne 5, 3) := by decide +kernel
theorem dX12_gear_8 : decode cX12_gear 8 = .ok (.iconst (-1), 1) := by decide +kernel
theorem dX12_gear_9 : decode cX12_gear 9 = .ok (.ireturn, 1) := by decide +kernel
theorem dX12_gear_10 : decode cX12_gear 10 = .ok (.iload_n 2, 1) := by decide +kernel
theorem dX12_gear_11 : decode cX12_gear 11 = .ok (.tableswitch 89 0 7 #[45, 45, 45, 57, 63, 69, 75, 83], 45) := by decide +kernel
theorem dX12_gear_56 : decode cX12_gear 56 = .ok (.aload_n 0, 1) := by decide +kernel
theorem dX12_gear_57 : decode cX12_gear 57 = .ok (.getfield 13, 3) := by decide +kernel
theorem dX12_gear_60 : decode cX12_gear 60 = .ok (.bipush 19, 2) := by decide +kernel
theorem dX12_gear_62 : decode cX12_gear 62 = .ok (.iload_n 1, 1) := by decide +kernel
theorem dX12_gear_63 : decode cX12_gear 63 = .ok (.imul, 1) := by decide +kernel
theorem dX12_gear_64 : decode cX12_gear 64 = .ok (.iload_n 2, 1) := by decide +kernel
theorem dX12_gear_65 : decode cX12_gear 65 = .ok (.iadd, 1) := by decide +kernel
theorem dX12_gear_66 : decode cX12_gear 66 = .ok (.iaload, 1) := by decide +kernel
theorem dX12_gear_67 : decode cX12_gear 67 = .ok (.ireturn, 1) := by decide +kernel
theorem dX12_gear_68 : decode cX12_gear 68 = .ok (.aload_n 0, 1) := by decide +kernel
theorem dX12_gear_69 : decode cX12_gear 69 = .ok (.iload_n 1, 1) := by decide +kernel
theorem dX12_gear_70 : decode cX12_gear 70 = .ok (.invokevirtual 149, 3) := by decide +kernel
theorem dX12_gear_73 : decode cX12_gear 73 = .ok (.ireturn, 1) := by decide +kernel
theorem dX12_gear_74 : decode cX12_gear 74 = .ok (.aload_n 0, 1) := by decide +kernel
theorem dX12_gear_75 : decode cX12_gear 75 = .ok (.iload_n 1, 1) := by decide +kernel
theorem dX12_gear_76 : decode cX12_gear 76 = .ok (.invokevirtual 152, 3) := by decide +kernel
theorem dX12_gear_79 : decode cX12_gear 79 = .ok (.ireturn, 1) := by decide +kernel
theorem dX12_gear_80 : decode cX12_gear 80 = .ok (.aload_n 0, 1) := by decide +kernel
theorem dX12_gear_81 : decode cX12_gear 81 = .ok (.iload_n 1, 1) := by decide +kernel
theorem dX12_gear_82 : decode cX12_gear 82 = .ok (.invokevirtual 155, 3) := by decide +kernel
theorem dX12_gear_85 : decode cX12_gear 85 = .ok (.ireturn, 1) := by decide +kernel
theorem dX12_gear_86 : decode cX12_gear 86 = .ok (.aload_n 0, 1) := by decide +kernel
theorem dX12_gear_87 : decode cX12_gear 87 = .ok (.iload_n 1, 1) := by decide +kernel
theorem dX12_gear_88 : decode cX12_gear 88 = .ok (.bipush 15, 2) := by decide +kernel
theorem dX12_gear_90 : decode cX12_gear 90 = .ok (.invokevirtual 86, 3) := by decide +kernel
theorem dX12_gear_93 : decode cX12_gear 93 = .ok (.ireturn, 1) := by decide +kernel
theorem dX12_gear_94 : decode cX12_gear 94 = .ok (.aload_n 0, 1) := by decide +kernel
theorem dX12_gear_95 : decode cX12_gear 95 = .ok (.iload_n 1, 1) := by decide +kernel
theorem dX12_gear_96 : decode cX12_gear 96 = .ok (.invokevirtual 158, 3) := by decide +kernel
theorem dX12_gear_99 : decode cX12_gear 99 = .ok (.ireturn, 1) := by decide +kernel
theorem dX12_gear_100 : decode cX12_gear 100 = .ok (.iconst (-1), 1) := by decide +kernel
theorem dX12_gear_101 : decode cX12_gear 101 = .ok (.ireturn, 1) := by decide +kernel
theorem dX12_width_0 : decode cX12_width 0 = .ok (.aload_n 0, 1) := by decide +kernel
theorem dX12_width_1 : decode cX12_width 1 = .ok (.iload_n 1, 1) := by decide +kernel
theorem dX12_width_2 : decode cX12_width 2 = .ok (.invokevirtual 121, 3) := by decide +kernel
theorem dX12_width_5 : decode cX12_width 5 = .ok (.ifCond .eq 24, 3) := by decide +kernel
theorem dX12_width_8 : decode cX12_width 8 = .ok (.iload_n 2, 1) := by decide +kernel
theorem dX12_width_9 : decode cX12_width 9 = .ok (.i2l, 1) := by decide +kernel
theorem dX12_width_10 : decode cX12_width 10 = .ok (.lconst 0, 1) := by decide +kernel
theorem dX12_width_11 : decode cX12_width 11 = .ok (.ldc2_w 161, 3) := by decide +kernel
theorem dX12_width_14 : decode cX12_width 14 = .ok (.invokestatic 73, 3) := by decide +kernel
theorem dX12_width_17 : decode cX12_width 17 = .ok (.ifCond .eq 12, 3) := by decide +kernel
theorem dX12_width_20 : decode cX12_width 20 = .ok (.aload_n 0, 1) := by decide +kernel
theorem dX12_width_21 : decode cX12_width 21 = .ok (.iload_n 1, 1) := by decide +kernel
theorem dX12_width_22 : decode cX12_width 22 = .ok (.iload_n 2, 1) := by decide +kernel
theorem dX12_width_23 : decode cX12_width 23 = .ok (.invokevirtual 86, 3) := by decide +kernel
theorem dX12_width_26 : decode cX12_width 26 = .ok (.goto 4, 3) := by decide +kernel
theorem dX12_width_29 : decode cX12_width 29 = .ok (.iconst (-1), 1) := by decide +kernel
theorem dX12_width_30 : decode cX12_width 30 = .ok (.ireturn, 1) := by decide +kernel
theorem dX12_mesh_0 : decode cX12_mesh 0 = .ok (.aload_n 0, 1) := by decide +kernel
theorem dX12_mesh_1 : decode cX12_mesh 1 = .ok (.iload_n 1, 1) := by decide +kernel
theorem dX12_mesh_2 : decode cX12_mesh 2 = .ok (.invokevirtual 163, 3) := by decide +kernel
theorem dX12_mesh_5 : decode cX12_mesh 5 = .ok (.ifCond .eq 24, 3) := by decide +kernel
theorem dX12_mesh_8 : decode cX12_mesh 8 = .ok (.iload_n 2, 1) := by decide +kernel
theorem dX12_mesh_9 : decode cX12_mesh 9 = .ok (.i2l, 1) := by decide +kernel
theorem dX12_mesh_10 : decode cX12_mesh 10 = .ok (.lconst 0, 1) := by decide +kernel
theorem dX12_mesh_11 : decode cX12_mesh 11 = .ok (.ldc2_w 166, 3) := by decide +kernel
theorem dX12_mesh_14 : decode cX12_mesh 14 = .ok (.invokestatic 73, 3) := by decide +kernel
theorem dX12_mesh_17 : decode cX12_mesh 17 = .ok (.ifCond .eq 12, 3) := by decide +kernel
theorem dX12_mesh_20 : decode cX12_mesh 20 = .ok (.aload_n 0, 1) := by decide +kernel
theorem dX12_mesh_21 : decode cX12_mesh 21 = .ok (.iload_n 1, 1) := by decide +kernel
theorem dX12_mesh_22 : decode cX12_mesh 22 = .ok (.iload_n 2, 1) := by decide +kernel
theorem dX12_mesh_23 : decode cX12_mesh 23 = .ok (.invokevirtual 118, 3) := by decide +kernel
theorem dX12_mesh_26 : decode cX12_mesh 26 = .ok (.goto 4, 3) := by decide +kernel
theorem dX12_mesh_29 : decode cX12_mesh 29 = .ok (.iconst (-1), 1) := by decide +kernel
theorem dX12_mesh_30 : decode cX12_mesh 30 = .ok (.ireturn, 1) := by decide +kernel
theorem dX12_common_0 : decode cX12_common 0 = .ok (.lload_n 0, 1) := by decide +kernel
theorem dX12_common_1 : decode cX12_common 1 = .ok (.lconst 0, 1) := by decide +kernel
theorem dX12_common_2 : decode cX12_common 2 = .ok (.lcmp, 1) := by decide +kernel
theorem dX12_common_3 : decode cX12_common 3 = .ok (.ifCond .ge 8, 3) := by decide +kernel
theorem dX12_common_6 : decode cX12_common 6 = .ok (.lload_n 0, 1) := by decide +kernel
theorem dX12_common_7 : decode cX12_common 7 = .ok (.lneg, 1) := by decide +kernel
theorem dX12_common_8 : decode cX12_common 8 = .ok (.goto 4, 3) := by decide +kernel
theorem dX12_common_11 : decode cX12_common 11 = .ok (.lload_n 0, 1) := by decide +kernel
theorem dX12_common_12 : decode cX12_common 12 = .ok (.lstore 4, 2) := by decide +kernel
theorem dX12_common_14 : decode cX12_common 14 = .ok (.lload_n 2, 1) := by decide +kernel
theorem dX12_common_15 : decode cX12_common 15 = .ok (.lstore 6, 2) := by decide +kernel
theorem dX12_common_17 : decode cX12_common 17 = .ok (.lload 6, 2) := by decide +kernel
theorem dX12_common_19 : decode cX12_common 19 = .ok (.lconst 0, 1) := by decide +kernel
theorem dX12_common_20 : decode cX12_common 20 = .ok (.lcmp, 1) := by decide +kernel
theorem dX12_common_21 : decode cX12_common 21 = .ok (.ifCond .eq 21, 3) := by decide +kernel
theorem dX12_common_24 : decode cX12_common 24 = .ok (.lload 4, 2) := by decide +kernel
theorem dX12_common_26 : decode cX12_common 26 = .ok (.lload 6, 2) := by decide +kernel
theorem dX12_common_28 : decode cX12_common 28 = .ok (.lrem, 1) := by decide +kernel
theorem dX12_common_29 : decode cX12_common 29 = .ok (.lstore 8, 2) := by decide +kernel
theorem dX12_common_31 : decode cX12_common 31 = .ok (.lload 6, 2) := by decide +kernel
theorem dX12_common_33 : decode cX12_common 33 = .ok (.lstore 4, 2) := by decide +kernel
theorem dX12_common_35 : decode cX12_common 35 = .ok (.lload 8, 2) := by decide +kernel
theorem dX12_common_37 : decode cX12_common 37 = .ok (.lstore 6, 2) := by decide +kernel
theorem dX12_common_39 : decode cX12_common 39 = .ok (.goto (-22), 3) := by decide +kernel
theorem dX12_common_42 : decode cX12_common 42 = .ok (.lload 4, 2) := by decide +kernel
theorem dX12_common_44 : decode cX12_common 44 = .ok (.lreturn, 1) := by decide +kernel
theorem dX12_follows_0 : decode cX12_follows 0 = .ok (.aload_n 0, 1) := by decide +kernel
theorem dX12_follows_1 : decode cX12_follows 1 = .ok (.iload_n 2, 1) := by decide +kernel
theorem dX12_follows_2 : decode cX12_follows 2 = .ok (.invokevirtual 79, 3) := by decide +kernel
theorem dX12_follows_5 : decode cX12_follows 5 = .ok (.iconst 4, 1) := by decide +kernel
theorem dX12_follows_6 : decode cX12_follows 6 = .ok (.if_icmp .eq 12, 3) := by decide +kernel
theorem dX12_follows_9 : decode cX12_follows 9 = .ok (.aload_n 0, 1) := by decide +kernel
theorem dX12_follows_10 : decode cX12_follows 10 = .ok (.iload_n 3, 1) := by decide +kernel
theorem dX12_follows_11 : decode cX12_follows 11 = .ok (.invokevirtual 79, 3) := by decide +kernel
theorem dX12_follows_14 : decode cX12_follows 14 = .ok (.iconst 4, 1) := by decide +kernel
theorem dX12_follows_15 : decode cX12_follows 15 = .ok (.if_icmp .ne 7, 3) := by decide +kernel
theorem dX12_follows_18 : decode cX12_follows 18 = .ok (.lconst 1, 1) := by decide +kernel
theorem dX12_follows_19 : decode cX12_follows 19 = .ok (.goto 6, 3) := by decide +kernel
theorem dX12_follows_22 : decode cX12_follows 22 = .ok (.ldc2_w 168, 3) := by decide +kernel
theorem dX12_follows_25 : decode cX12_follows 25 = .ok (.lstore 4, 2) := by decide +kernel
theorem dX12_follows_27 : decode cX12_follows 27 = .ok (.aload_n 0, 1) := by decide +kernel
theorem dX12_follows_28 : decode cX12_follows 28 = .ok (.getfield 49, 3) := by decide +kernel
theorem dX12_follows_31 : decode cX12_follows 31 = .ok (.iload_n 1, 1) := by decide +kernel
theorem dX12_follows_32 : decode cX12_follows 32 = .ok (.laload, 1) := by decide +kernel
theorem dX12_follows_33 : decode cX12_follows 33 = .ok (.aload_n 0, 1) := by decide +kernel
theorem dX12_follows_34 : decode cX12_follows 34 = .ok (.iload_n 2, 1) := by decide +kernel
theorem dX12_follows_35 : decode cX12_follows 35 = .ok (.invokevirtual 83, 3) := by decide +kernel
theorem dX12_follows_38 : decode cX12_follows 38 = .ok (.i2l, 1) := by decide +kernel
theorem dX12_follows_39 : decode cX12_follows 39 = .ok (.lmul, 1) := by decide +kernel
theorem dX12_follows_40 : decode cX12_follows 40 = .ok (.lload 4, 2) := by decide +kernel
theorem dX12_follows_42 : decode cX12_follows 42 = .ok (.lmul, 1) := by decide +kernel
theorem dX12_follows_43 : decode cX12_follows 43 = .ok (.lstore 6, 2) := by decide +kernel
theorem dX12_follows_45 : decode cX12_follows 45 = .ok (.aload_n 0, 1) := by decide +kernel
theorem dX12_follows_46 : decode cX12_follows 46 = .ok (.getfield 53, 3) := by decide +kernel
theorem dX12_follows_49 : decode cX12_follows 49 = .ok (.iload_n 1, 1) := by decide +kernel
theorem dX12_follows_50 : decode cX12_follows 50 = .ok (.laload, 1) := by decide +kernel
theorem dX12_follows_51 : decode cX12_follows 51 = .ok (.aload_n 0, 1) := by decide +kernel
theorem dX12_follows_52 : decode cX12_follows 52 = .ok (.iload_n 3, 1) := by decide +kernel
theorem dX12_follows_53 : decode cX12_follows 53 = .ok (.invokevirtual 83, 3) := by decide +kernel
theorem dX12_follows_56 : decode cX12_follows 56 = .ok (.i2l, 1) := by decide +kernel
theorem dX12_follows_57 : decode cX12_follows 57 = .ok (.lmul, 1) := by decide +kernel
theorem dX12_follows_58 : decode cX12_follows 58 = .ok (.lstore 8, 2) := by decide +kernel
theorem dX12_follows_60 : decode cX12_follows 60 = .ok (.lload 6, 2) := by decide +kernel
theorem dX12_follows_62 : decode cX12_follows 62 = .ok (.lload 8, 2) := by decide +kernel
theorem dX12_follows_64 : decode cX12_follows 64 = .ok (.invokestatic 170, 3) := by decide +kernel
theorem dX12_follows_67 : decode cX12_follows 67 = .ok (.lstore 10, 2) := by decide +kernel
theorem dX12_follows_69 : decode cX12_follows 69 = .ok (.aload_n 0, 1) := by decide +kernel
theorem dX12_follows_70 : decode cX12_follows 70 = .ok (.lload 6, 2) := by decide +kernel
theorem dX12_follows_72 : decode cX12_follows 72 = .ok (.lload 10, 2) := by decide +kernel
theorem dX12_follows_74 : decode cX12_follows 74 = .ok (.ldiv, 1) := by decide +kernel
theorem dX12_follows_75 : decode cX12_follows 75 = .ok (.putfield 174, 3) := by decide +kernel
theorem dX12_follows_78 : decode cX12_follows 78 = .ok (.aload_n 0, 1) := by decide +kernel
theorem dX12_follows_79 : decode cX12_follows 79 = .ok (.lload 8, 2) := by decide +kernel
theorem dX12_follows_81 : decode cX12_follows 81 = .ok (.lload 10, 2) := by decide +kernel
theorem dX12_follows_83 : decode cX12_follows 83 = .ok (.ldiv, 1) := by decide +kernel
theorem dX12_follows_84 : decode cX12_follows 84 = .ok (.putfield 178, 3) := by decide +kernel
theorem dX12_follows_87 : decode cX12_follows 87 = .ok (.return_, 1) := by decide +kernel
theorem dX12_goes_0 : decode cX12_goes 0 = .ok (.aload_n 0, 1) := by decide +kernel
theorem dX12_goes_1 : decode cX12_goes 1 = .ok (.getfield 46, 3) := by decide +kernel
theorem dX12_goes_4 : decode cX12_goes 4 = .ok (.iload_n 1, 1) := by decide +kernel
theorem dX12_goes_5 : decode cX12_goes 5 = .ok (.iload_n 1, 1) := by decide +kernel
theorem dX12_goes_6 : decode cX12_goes 6 = .ok (.iastore, 1) := by decide +kernel
theorem dX12_goes_7 : decode cX12_goes 7 = .ok (.aload_n 0, 1) := by decide +kernel
theorem dX12_goes_8 : decode cX12_goes 8 = .ok (.getfield 49, 3) := by decide +kernel
theorem dX12_goes_11 : decode cX12_goes 11 = .ok (.iload_n 1, 1) := by decide +kernel
theorem dX12_goes_12 : decode cX12_goes 12 = .ok (.lconst 1, 1) := by decide +kernel
theorem dX12_goes_13 : decode cX12_goes 13 = .ok (.lastore, 1) := by decide +kernel
theorem dX12_goes_14 : decode cX12_goes 14 = .ok (.aload_n 0, 1) := by decide +kernel
theorem dX12_goes_15 : decode cX12_goes 15 = .ok (.getfield 53, 3) := by decide +kernel
theorem dX12_goes_18 : decode cX12_goes 18 = .ok (.iload_n 1, 1) := by decide +kernel
theorem dX12_goes_19 : decode cX12_goes 19 = .ok (.lconst 1, 1) := by decide +kernel
theorem dX12_goes_20 : decode cX12_goes 20 = .ok (.lastore, 1) := by decide +kernel
theorem dX12_goes_21 : decode cX12_goes 21 = .ok (.iconst 1, 1) := by decide +kernel
theorem dX12_goes_22 : decode cX12_goes 22 = .ok (.istore_n 2, 1) := by decide +kernel
theorem dX12_goes_23 : decode cX12_goes 23 = .ok (.iload_n 2, 1) := by decide +kernel
theorem dX12_goes_24 : decode cX12_goes 24 = .ok (.ifCond .eq 185, 3) := by decide +kernel
theorem dX12_goes_27 : decode cX12_goes 27 = .ok (.iconst 0, 1) := by decide +kernel
theorem dX12_goes_28 : decode cX12_goes 28 = .ok (.istore_n 2, 1) := by decide +kernel
theorem dX12_goes_29 : decode cX12_goes 29 = .ok (.iconst 0, 1) := by decide +kernel
theorem dX12_goes_30 : decode cX12_goes 30 = .ok (.istore_n 3, 1) := by decide +kernel
theorem dX12_goes_31 : decode cX12_goes 31 = .ok (.iload_n 3, 1) := by decide +kernel
theorem dX12_goes_32 : decode cX12_goes 32 = .ok (.aload_n 0, 1) := by decide +kernel
theorem dX12_goes_33 : decode cX12_goes 33 = .ok (.getfield 13, 3) := by decide +kernel
theorem dX12_goes_36 : decode cX12_goes 36 = .ok (.sipush 1741, 3) := by decide +kernel
theorem dX12_goes_39 : decode cX12_goes 39 = .ok (.iaload, 1) := by decide +kernel
theorem dX12_goes_40 : decode cX12_goes 40 = .ok (.if_icmp .ge 166, 3) := by decide +kernel
theorem dX12_goes_43 : decode cX12_goes 43 = .ok (.iconst 0, 1) := by decide +kernel
theorem dX12_goes_44 : decode cX12_goes 44 = .ok (.istore 4, 2) := by decide +kernel
theorem dX12_goes_46 : decode cX12_goes 46 = .ok (.iload 4, 2) := by decide +kernel
theorem dX12_goes_48 : decode cX12_goes 48 = .ok (.iconst 2, 1) := by decide +kernel
theorem dX12_goes_49 : decode cX12_goes 49 = .ok (.if_icmp .ge 151, 3) := by decide +kernel
theorem dX12_goes_52 : decode cX12_goes 52 = .ok (.aload_n 0, 1) := by decide +kernel
theorem dX12_goes_53 : decode cX12_goes 53 = .ok (.iload_n 3, 1) := by decide +kernel
theorem dX12_goes_54 : decode cX12_goes 54 = .ok (.iload 4, 2) := by decide +kernel
theorem dX12_goes_56 : decode cX12_goes 56 = .ok (.invokevirtual 118, 3) := by decide +kernel
theorem dX12_goes_59 : decode cX12_goes 59 = .ok (.istore 5, 2) := by decide +kernel
theorem dX12_goes_61 : decode cX12_goes 61 = .ok (.aload_n 0, 1) := by decide +kernel
theorem dX12_goes_62 : decode cX12_goes 62 = .ok (.iload_n 3, 1) := by decide +kernel
theorem dX12_goes_63 : decode cX12_goes 63 = .ok (.iconst 1, 1) := by decide +kernel
theorem dX12_goes_64 : decode cX12_goes 64 = .ok (.iload 4, 2) := by decide +kernel
theorem dX12_goes_66 : decode cX12_goes 66 = .ok (.isub, 1) := by decide +kernel
theorem dX12_goes_67 : decode cX12_goes 67 = .ok (.invokevirtual 118, 3) := by decide +kernel
theorem dX12_goes_70 : decode cX12_goes 70 = .ok (.istore 6, 2) := by decide +kernel
theorem dX12_goes_72 : decode cX12_goes 72 = .ok (.aload_n 0, 1) := by decide +kernel
theorem dX12_goes_73 : decode cX12_goes 73 = .ok (.getfield 46, 3) := by decide +kernel
theorem dX12_goes_76 : decode cX12_goes 76 = .ok (.aload_n 0, 1) := by decide +kernel
theorem dX12_goes_77 : decode cX12_goes 77 = .ok (.iload 5, 2) := by decide +kernel
theorem dX12_goes_79 : decode cX12_goes 79 = .ok (.invokevirtual 181, 3) := by decide +kernel
theorem dX12_goes_82 : decode cX12_goes 82 = .ok (.iaload, 1) := by decide +kernel
theorem dX12_goes_83 : decode cX12_goes 83 = .ok (.iload_n 1, 1) := by decide +kernel
theorem dX12_goes_84 : decode cX12_goes 84 = .ok (.if_icmp .eq 6, 3) := by decide +kernel
theorem dX12_goes_87 : decode cX12_goes 87 = .ok (.goto 107, 3) := by decide +kernel
theorem dX12_goes_90 : decode cX12_goes 90 = .ok (.aload_n 0, 1) := by decide +kernel
theorem dX12_goes_91 : decode cX12_goes 91 = .ok (.aload_n 0, 1) := by decide +kernel
theorem dX12_goes_92 : decode cX12_goes 92 = .ok (.iload 5, 2) := by decide +kernel
theorem dX12_goes_94 : decode cX12_goes 94 = .ok (.invokevirtual 181, 3) := by decide +kernel
theorem dX12_goes_97 : decode cX12_goes 97 = .ok (.iload 5, 2) := by decide +kernel
theorem dX12_goes_99 : decode cX12_goes 99 = .ok (.iload 6, 2) := by decide +kernel
theorem dX12_goes_101 : decode cX12_goes 101 = .ok (.invokevirtual 184, 3) := by decide +kernel
theorem dX12_goes_104 : decode cX12_goes 104 = .ok (.aload_n 0, 1) := by decide +kernel
theorem dX12_goes_105 : decode cX12_goes 105 = .ok (.iload 6, 2) := by decide +kernel
theorem dX12_goes_107 : decode cX12_goes 107 = .ok (.invokevirtual 181, 3) := by decide +kernel
theorem dX12_goes_110 : decode cX12_goes 110 = .ok (.istore 7, 2) := by decide +kernel
theorem dX12_goes_112 : decode cX12_goes 112 = .ok (.aload_n 0, 1) := by decide +kernel
theorem dX12_goes_113 : decode cX12_goes 113 = .ok (.getfield 46, 3) := by decide +kernel
theorem dX12_goes_116 : decode cX12_goes 116 = .ok (.iload 7, 2) := by decide +kernel
theorem dX12_goes_118 : decode cX12_goes 118 = .ok (.iaload, 1) := by decide +kernel
theorem dX12_goes_119 : decode cX12_goes 119 = .ok (.ifCond .ge 38, 3) := by decide +kernel
theorem dX12_goes_122 : decode cX12_goes 122 = .ok (.aload_n 0, 1) := by decide +kernel
theorem dX12_goes_123 : decode cX12_goes 123 = .ok (.getfield 46, 3) := by decide +kernel
theorem dX12_goes_126 : decode cX12_goes 126 = .ok (.iload 7, 2) := by decide +kernel
theorem dX12_goes_128 : decode cX12_goes 128 = .ok (.iload_n 1, 1) := by decide +kernel
theorem dX12_goes_129 : decode cX12_goes 129 = .ok (.iastore, 1) := by decide +kernel
theorem dX12_goes_130 : decode cX12_goes 130 = .ok (.aload_n 0, 1) := by decide +kernel
theorem dX12_goes_131 : decode cX12_goes 131 = .ok (.getfield 49, 3) := by decide +kernel
theorem dX12_goes_134 : decode cX12_goes 134 = .ok (.iload 7, 2) := by decide +kernel
theorem dX12_goes_136 : decode cX12_goes 136 = .ok (.aload_n 0, 1) := by decide +kernel
theorem dX12_goes_137 : decode cX12_goes 137 = .ok (.getfield 174, 3) := by decide +kernel
theorem dX12_goes_140 : decode cX12_goes 140 = .ok (.lastore, 1) := by decide +kernel
theorem dX12_goes_141 : decode cX12_goes 141 = .ok (.aload_n 0, 1) := by decide +kernel
theorem dX12_goes_142 : decode cX12_goes 142 = .ok (.getfield 53, 3) := by decide +kernel
theorem dX12_goes_145 : decode cX12_goes 145 = .ok (.iload 7, 2) := by decide +kernel
theorem dX12_goes_147 : decode cX12_goes 147 = .ok (.aload_n 0, 1) := by decide +kernel
theorem dX12_goes_148 : decode cX12_goes 148 = .ok (.getfield 178, 3) := by decide +kernel
theorem dX12_goes_151 : decode cX12_goes 151 = .ok (.lastore, 1) := by decide +kernel
theorem dX12_goes_152 : decode cX12_goes 152 = .ok (.iconst 1, 1) := by decide +kernel
theorem dX12_goes_153 : decode cX12_goes 153 = .ok (.istore_n 2, 1) := by decide +kernel
theorem dX12_goes_154 : decode cX12_goes 154 = .ok (.goto 40, 3) := by decide +kernel
theorem dX12_goes_157 : decode cX12_goes 157 = .ok (.aload_n 0, 1) := by decide +kernel
theorem dX12_goes_158 : decode cX12_goes 158 = .ok (.getfield 49, 3) := by decide +kernel
theorem dX12_goes_161 : decode cX12_goes 161 = .ok (.iload 7, 2) := by decide +kernel
theorem dX12_goes_163 : decode cX12_goes 163 = .ok (.laload, 1) := by decide +kernel
theorem dX12_goes_164 : decode cX12_goes 164 = .ok (.aload_n 0, 1) := by decide +kernel
theorem dX12_goes_165 : decode cX12_goes 165 = .ok (.getfield 174, 3) := by decide +kernel
theorem dX12_goes_168 : decode cX12_goes 168 = .ok (.lcmp, 1) := by decide +kernel
theorem dX12_goes_169 : decode cX12_goes 169 = .ok (.ifCond .ne 18, 3) := by decide +kernel
theorem dX12_goes_172 : decode cX12_goes 172 = .ok (.aload_n 0, 1) := by decide +kernel
theorem dX12_goes_173 : decode cX12_goes 173 = .ok (.getfield 53, 3) := by decide +kernel
theorem dX12_goes_176 : decode cX12_goes 176 = .ok (.iload 7, 2) := by decide +kernel
theorem dX12_goes_178 : decode cX12_goes 178 = .ok (.laload, 1) := by decide +kernel
theorem dX12_goes_179 : decode cX12_goes 179 = .ok (.aload_n 0, 1) := by decide +kernel
theorem dX12_goes_180 : decode cX12_goes 180 = .ok (.getfield 178, 3) := by decide +kernel
theorem dX12_goes_183 : decode cX12_goes 183 = .ok (.lcmp, 1) := by decide +kernel
theorem dX12_goes_184 : decode cX12_goes 184 = .ok (.ifCond .eq 10, 3) := by decide +kernel
theorem dX12_goes_187 : decode cX12_goes 187 = .ok (.aload_n 0, 1) := by decide +kernel
theorem dX12_goes_188 : decode cX12_goes 188 = .ok (.getfield 56, 3) := by decide +kernel
theorem dX12_goes_191 : decode cX12_goes 191 = .ok (.iload_n 1, 1) := by decide +kernel
theorem dX12_goes_192 : decode cX12_goes 192 = .ok (.iconst 1, 1) := by decide +kernel
theorem dX12_goes_193 : decode cX12_goes 193 = .ok (.bastore, 1) := by decide +kernel
theorem dX12_goes_194 : decode cX12_goes 194 = .ok (.iinc 4 1, 3) := by decide +kernel
theorem dX12_goes_197 : decode cX12_goes 197 = .ok (.goto (-151), 3) := by decide +kernel
theorem dX12_goes_200 : decode cX12_goes 200 = .ok (.iinc 3 1, 3) := by decide +kernel
theorem dX12_goes_203 : decode cX12_goes 203 = .ok (.goto (-172), 3) := by decide +kernel
theorem dX12_goes_206 : decode cX12_goes 206 = .ok (.goto (-183), 3) := by decide +kernel
theorem dX12_goes_209 : decode cX12_goes 209 = .ok (.return_, 1) := by decide +kernel
theorem dX12_turns_0 : decode cX12_turns 0 = .ok (.iconst 0, 1) := by decide +kernel
theorem dX12_turns_1 : decode cX12_turns 1 = .ok (.istore_n 1, 1) := by decide +kernel
theorem dX12_turns_2 : decode cX12_turns 2 = .ok (.iload_n 1, 1) := by decide +kernel
theorem dX12_turns_3 : decode cX12_turns 3 = .ok (.bipush 8, 2) := by decide +kernel
theorem dX12_turns_5 : decode cX12_turns 5 = .ok (.if_icmp .ge 23, 3) := by decide +kernel
theorem dX12_turns_8 : decode cX12_turns 8 = .ok (.aload_n 0, 1) := by decide +kernel
theorem dX12_turns_9 : decode cX12_turns 9 = .ok (.getfield 46, 3) := by decide +kernel
theorem dX12_turns_12 : decode cX12_turns 12 = .ok (.iload_n 1, 1) := by decide +kernel
theorem dX12_turns_13 : decode cX12_turns 13 = .ok (.iconst (-1), 1) := by decide +kernel
theorem dX12_turns_14 : decode cX12_turns 14 = .ok (.iastore, 1) := by decide +kernel
theorem dX12_turns_15 : decode cX12_turns 15 = .ok (.aload_n 0, 1) := by decide +kernel
theorem dX12_turns_16 : decode cX12_turns 16 = .ok (.getfield 56, 3) := by decide +kernel
theorem dX12_turns_19 : decode cX12_turns 19 = .ok (.iload_n 1, 1) := by decide +kernel
theorem dX12_turns_20 : decode cX12_turns 20 = .ok (.iconst 0, 1) := by decide +kernel
theorem dX12_turns_21 : decode cX12_turns 21 = .ok (.bastore, 1) := by decide +kernel
theorem dX12_turns_22 : decode cX12_turns 22 = .ok (.iinc 1 1, 3) := by decide +kernel
theorem dX12_turns_25 : decode cX12_turns 25 = .ok (.goto (-23), 3) := by decide +kernel
theorem dX12_turns_28 : decode cX12_turns 28 = .ok (.iconst 0, 1) := by decide +kernel
theorem dX12_turns_29 : decode cX12_turns 29 = .ok (.istore_n 1, 1) := by decide +kernel
theorem dX12_turns_30 : decode cX12_turns 30 = .ok (.iload_n 1, 1) := by decide +kernel
theorem dX12_turns_31 : decode cX12_turns 31 = .ok (.bipush 8, 2) := by decide +kernel
theorem dX12_turns_33 : decode cX12_turns 33 = .ok (.if_icmp .ge 23, 3) := by decide +kernel
theorem dX12_turns_36 : decode cX12_turns 36 = .ok (.aload_n 0, 1) := by decide +kernel
theorem dX12_turns_37 : decode cX12_turns 37 = .ok (.getfield 46, 3) := by decide +kernel
theorem dX12_turns_40 : decode cX12_turns 40 = .ok (.iload_n 1, 1) := by decide +kernel
theorem dX12_turns_41 : decode cX12_turns 41 = .ok (.iaload, 1) := by decide +kernel
theorem dX12_turns_42 : decode cX12_turns 42 = .ok (.ifCond .ge 8, 3) := by decide +kernel
theorem dX12_turns_45 : decode cX12_turns 45 = .ok (.aload_n 0, 1) := by decide +kernel
theorem dX12_turns_46 : decode cX12_turns 46 = .ok (.iload_n 1, 1) := by decide +kernel
theorem dX12_turns_47 : decode cX12_turns 47 = .ok (.invokevirtual 188, 3) := by decide +kernel
theorem dX12_turns_50 : decode cX12_turns 50 = .ok (.iinc 1 1, 3) := by decide +kernel
theorem dX12_turns_53 : decode cX12_turns 53 = .ok (.goto (-23), 3) := by decide +kernel
theorem dX12_turns_56 : decode cX12_turns 56 = .ok (.return_, 1) := by decide +kernel
theorem dX12_locked_0 : decode cX12_locked 0 = .ok (.aload_n 0, 1) := by decide +kernel
theorem dX12_locked_1 : decode cX12_locked 1 = .ok (.invokevirtual 191, 3) := by decide +kernel
theorem dX12_locked_4 : decode cX12_locked 4 = .ok (.aload_n 0, 1) := by decide +kernel
theorem dX12_locked_5 : decode cX12_locked 5 = .ok (.getfield 56, 3) := by decide +kernel
theorem dX12_locked_8 : decode cX12_locked 8 = .ok (.iconst 0, 1) := by decide +kernel
theorem dX12_locked_9 : decode cX12_locked 9 = .ok (.baload, 1) := by decide +kernel
theorem dX12_locked_10 : decode cX12_locked 10 = .ok (.ifCond .eq 7, 3) := by decide +kernel
theorem dX12_locked_13 : decode cX12_locked 13 = .ok (.iconst 1, 1) := by decide +kernel
theorem dX12_locked_14 : decode cX12_locked 14 = .ok (.goto 4, 3) := by decide +kernel
theorem dX12_locked_17 : decode cX12_locked 17 = .ok (.iconst 0, 1) := by decide +kernel
theorem dX12_locked_18 : decode cX12_locked 18 = .ok (.ireturn, 1) := by decide +kernel
theorem dX12_speed_0 : decode cX12_speed 0 = .ok (.iload_n 1, 1) := by decide +kernel
theorem dX12_speed_1 : decode cX12_speed 1 = .ok (.i2l, 1) := by decide +kernel
theorem dX12_speed_2 : decode cX12_speed 2 = .ok (.lconst 0, 1) := by decide +kernel
theorem dX12_speed_3 : decode cX12_speed 3 = .ok (.ldc2_w 77, 3) := by decide +kernel
theorem dX12_speed_6 : decode cX12_speed 6 = .ok (.invokestatic 73, 3) := by decide +kernel
theorem dX12_speed_9 : decode cX12_speed 9 = .ok (.ifCond .eq 13, 3) := by decide +kernel
theorem dX12_speed_12 : decode cX12_speed 12 = .ok (.iload_n 2, 1) := by decide +kernel
theorem dX12_speed_13 : decode cX12_speed 13 = .ok (.i2l, 1) := by decide +kernel
theorem dX12_speed_14 : decode cX12_speed 14 = .ok (.lconst 0, 1) := by decide +kernel
theorem dX12_speed_15 : decode cX12_speed 15 = .ok (.lconst 1, 1) := by decide +kernel
theorem dX12_speed_16 : decode cX12_speed 16 = .ok (.invokestatic 73, 3) := by decide +kernel
theorem dX12_speed_19 : decode cX12_speed 19 = .ok (.ifCond .ne 7, 3) := by decide +kernel
theorem dX12_speed_22 : decode cX12_speed 22 = .ok (.ldc2_w 194, 3) := by decide +kernel
theorem dX12_speed_25 : decode cX12_speed 25 = .ok (.lreturn, 1) := by decide +kernel
theorem dX12_speed_26 : decode cX12_speed 26 = .ok (.aload_n 0, 1) := by decide +kernel
theorem dX12_speed_27 : decode cX12_speed 27 = .ok (.invokevirtual 191, 3) := by decide +kernel
theorem dX12_speed_30 : decode cX12_speed 30 = .ok (.aload_n 0, 1) := by decide +kernel
theorem dX12_speed_31 : decode cX12_speed 31 = .ok (.getfield 56, 3) := by decide +kernel
theorem dX12_speed_34 : decode cX12_speed 34 = .ok (.iconst 0, 1) := by decide +kernel
theorem dX12_speed_35 : decode cX12_speed 35 = .ok (.baload, 1) := by decide +kernel
theorem dX12_speed_36 : decode cX12_speed 36 = .ok (.ifCond .eq 7, 3) := by decide +kernel
theorem dX12_speed_39 : decode cX12_speed 39 = .ok (.ldc2_w 196, 3) := by decide +kernel
theorem dX12_speed_42 : decode cX12_speed 42 = .ok (.lreturn, 1) := by decide +kernel
theorem dX12_speed_43 : decode cX12_speed 43 = .ok (.aload_n 0, 1) := by decide +kernel
theorem dX12_speed_44 : decode cX12_speed 44 = .ok (.getfield 46, 3) := by decide +kernel
theorem dX12_speed_47 : decode cX12_speed 47 = .ok (.iload_n 1, 1) := by decide +kernel
theorem dX12_speed_48 : decode cX12_speed 48 = .ok (.iaload, 1) := by decide +kernel
theorem dX12_speed_49 : decode cX12_speed 49 = .ok (.ifCond .eq 21, 3) := by decide +kernel
theorem dX12_speed_52 : decode cX12_speed 52 = .ok (.aload_n 0, 1) := by decide +kernel
theorem dX12_speed_53 : decode cX12_speed 53 = .ok (.getfield 56, 3) := by decide +kernel
theorem dX12_speed_56 : decode cX12_speed 56 = .ok (.aload_n 0, 1) := by decide +kernel
theorem dX12_speed_57 : decode cX12_speed 57 = .ok (.getfield 46, 3) := by decide +kernel
theorem dX12_speed_60 : decode cX12_speed 60 = .ok (.iload_n 1, 1) := by decide +kernel
theorem dX12_speed_61 : decode cX12_speed 61 = .ok (.iaload, 1) := by decide +kernel
theorem dX12_speed_62 : decode cX12_speed 62 = .ok (.baload, 1) := by decide +kernel
theorem dX12_speed_63 : decode cX12_speed 63 = .ok (.ifCond .ne 7, 3) := by decide +kernel
theorem dX12_speed_66 : decode cX12_speed 66 = .ok (.ldc2_w 198, 3) := by decide +kernel
theorem dX12_speed_69 : decode cX12_speed 69 = .ok (.lreturn, 1) := by decide +kernel
theorem dX12_speed_70 : decode cX12_speed 70 = .ok (.aload_n 0, 1) := by decide +kernel
theorem dX12_speed_71 : decode cX12_speed 71 = .ok (.getfield 46, 3) := by decide +kernel
theorem dX12_speed_74 : decode cX12_speed 74 = .ok (.iload_n 1, 1) := by decide +kernel
theorem dX12_speed_75 : decode cX12_speed 75 = .ok (.iaload, 1) := by decide +kernel
theorem dX12_speed_76 : decode cX12_speed 76 = .ok (.ifCond .eq 6, 3) := by decide +kernel
theorem dX12_speed_79 : decode cX12_speed 79 = .ok (.iload_n 2, 1) := by decide +kernel
theorem dX12_speed_80 : decode cX12_speed 80 = .ok (.i2l, 1) := by decide +kernel
theorem dX12_speed_81 : decode cX12_speed 81 = .ok (.lreturn, 1) := by decide +kernel
theorem dX12_speed_82 : decode cX12_speed 82 = .ok (.iload_n 2, 1) := by decide +kernel
theorem dX12_speed_83 : decode cX12_speed 83 = .ok (.ifCond .ne 12, 3) := by decide +kernel
theorem dX12_speed_86 : decode cX12_speed 86 = .ok (.aload_n 0, 1) := by decide +kernel
theorem dX12_speed_87 : decode cX12_speed 87 = .ok (.getfield 49, 3) := by decide +kernel
theorem dX12_speed_90 : decode cX12_speed 90 = .ok (.iload_n 1, 1) := by decide +kernel
theorem dX12_speed_91 : decode cX12_speed 91 = .ok (.laload, 1) := by decide +kernel
theorem dX12_speed_92 : decode cX12_speed 92 = .ok (.goto 9, 3) := by decide +kernel
theorem dX12_speed_95 : decode cX12_speed 95 = .ok (.aload_n 0, 1) := by decide +kernel
theorem dX12_speed_96 : decode cX12_speed 96 = .ok (.getfield 53, 3) := by decide +kernel
theorem dX12_speed_99 : decode cX12_speed 99 = .ok (.iload_n 1, 1) := by decide +kernel
theorem dX12_speed_100 : decode cX12_speed 100 = .ok (.laload, 1) := by decide +kernel
theorem dX12_speed_101 : decode cX12_speed 101 = .ok (.lreturn, 1) := by decide +kernel
theorem dX12_hunt_0 : decode cX12_hunt 0 = .ok (.aload_n 0, 1) := by decide +kernel
theorem dX12_hunt_1 : decode cX12_hunt 1 = .ok (.iload_n 1, 1) := by decide +kernel
theorem dX12_hunt_2 : decode cX12_hunt 2 = .ok (.invokevirtual 121, 3) := by decide +kernel
theorem dX12_hunt_5 : decode cX12_hunt 5 = .ok (.ifCond .eq 26, 3) := by decide +kernel
theorem dX12_hunt_8 : decode cX12_hunt 8 = .ok (.aload_n 0, 1) := by decide +kernel
theorem dX12_hunt_9 : decode cX12_hunt 9 = .ok (.iload_n 2, 1) := by decide +kernel
theorem dX12_hunt_10 : decode cX12_hunt 10 = .ok (.invokevirtual 121, 3) := by decide +kernel
theorem dX12_hunt_13 : decode cX12_hunt 13 = .ok (.ifCond .eq 18, 3) := by decide +kernel
theorem dX12_hunt_16 : decode cX12_hunt 16 = .ok (.iload_n 1, 1) := by decide +kernel
theorem dX12_hunt_17 : decode cX12_hunt 17 = .ok (.iload_n 2, 1) := by decide +kernel
theorem dX12_hunt_18 : decode cX12_hunt 18 = .ok (.if_icmp .eq 13, 3) := by decide +kernel
theorem dX12_hunt_21 : decode cX12_hunt 21 = .ok (.iload_n 3, 1) := by decide +kernel
theorem dX12_hunt_22 : decode cX12_hunt 22 = .ok (.i2l, 1) := by decide +kernel
theorem dX12_hunt_23 : decode cX12_hunt 23 = .ok (.lconst 0, 1) := by decide +kernel
theorem dX12_hunt_24 : decode cX12_hunt 24 = .ok (.lconst 1, 1) := by decide +kernel
theorem dX12_hunt_25 : decode cX12_hunt 25 = .ok (.invokestatic 73, 3) := by decide +kernel
theorem dX12_hunt_28 : decode cX12_hunt 28 = .ok (.ifCond .ne 5, 3) := by decide +kernel
theorem dX12_hunt_31 : decode cX12_hunt 31 = .ok (.iconst (-1), 1) := by decide +kernel
theorem dX12_hunt_32 : decode cX12_hunt 32 = .ok (.ireturn, 1) := by decide +kernel
theorem dX12_hunt_33 : decode cX12_hunt 33 = .ok (.aload_n 0, 1) := by decide +kernel
theorem dX12_hunt_34 : decode cX12_hunt 34 = .ok (.iload_n 2, 1) := by decide +kernel
theorem dX12_hunt_35 : decode cX12_hunt 35 = .ok (.invokevirtual 83, 3) := by decide +kernel
theorem dX12_hunt_38 : decode cX12_hunt 38 = .ok (.aload_n 0, 1) := by decide +kernel
theorem dX12_hunt_39 : decode cX12_hunt 39 = .ok (.iload_n 1, 1) := by decide +kernel
theorem dX12_hunt_40 : decode cX12_hunt 40 = .ok (.invokevirtual 83, 3) := by decide +kernel
theorem dX12_hunt_43 : decode cX12_hunt 43 = .ok (.i2l, 1) := by decide +kernel
theorem dX12_hunt_44 : decode cX12_hunt 44 = .ok (.aload_n 0, 1) := by decide +kernel
theorem dX12_hunt_45 : decode cX12_hunt 45 = .ok (.iload_n 2, 1) := by decide +kernel
theorem dX12_hunt_46 : decode cX12_hunt 46 = .ok (.invokevirtual 83, 3) := by decide +kernel
theorem dX12_hunt_49 : decode cX12_hunt 49 = .ok (.i2l, 1) := by decide +kernel
theorem dX12_hunt_50 : decode cX12_hunt 50 = .ok (.invokestatic 170, 3) := by decide +kernel
theorem dX12_hunt_53 : decode cX12_hunt 53 = .ok (.l2i, 1) := by decide +kernel
theorem dX12_hunt_54 : decode cX12_hunt 54 = .ok (.idiv, 1) := by decide +kernel
theorem dX12_hunt_55 : decode cX12_hunt 55 = .ok (.istore 4, 2) := by decide +kernel
theorem dX12_hunt_57 : decode cX12_hunt 57 = .ok (.iload_n 3, 1) := by decide +kernel
theorem dX12_hunt_58 : decode cX12_hunt 58 = .ok (.ifCond .ne 8, 3) := by decide +kernel
theorem dX12_hunt_61 : decode cX12_hunt 61 = .ok (.iload 4, 2) := by decide +kernel
theorem dX12_hunt_63 : decode cX12_hunt 63 = .ok (.goto 11, 3) := by decide +kernel
theorem dX12_hunt_66 : decode cX12_hunt 66 = .ok (.aload_n 0, 1) := by decide +kernel
theorem dX12_hunt_67 : decode cX12_hunt 67 = .ok (.iload_n 2, 1) := by decide +kernel
theorem dX12_hunt_68 : decode cX12_hunt 68 = .ok (.invokevirtual 83, 3) := by decide +kernel
theorem dX12_hunt_71 : decode cX12_hunt 71 = .ok (.iload 4, 2) := by decide +kernel
theorem dX12_hunt_73 : decode cX12_hunt 73 = .ok (.isub, 1) := by decide +kernel
theorem dX12_hunt_74 : decode cX12_hunt 74 = .ok (.ireturn, 1) := by decide +kernel
theorem dX12_mayBuild_0 : decode cX12_mayBuild 0 = .ok (.iload_n 1, 1) := by decide +kernel
theorem dX12_mayBuild_1 : decode cX12_mayBuild 1 = .ok (.iload_n 0, 1) := by decide +kernel
theorem dX12_mayBuild_2 : decode cX12_mayBuild 2 = .ok (.isub, 1) := by decide +kernel
theorem dX12_mayBuild_3 : decode cX12_mayBuild 3 = .ok (.iconst 2, 1) := by decide +kernel
theorem dX12_mayBuild_4 : decode cX12_mayBuild 4 = .ok (.idiv, 1) := by decide +kernel
theorem dX12_mayBuild_5 : decode cX12_mayBuild 5 = .ok (.istore_n 3, 1) := by decide +kernel
theorem dX12_mayBuild_6 : decode cX12_mayBuild 6 = .ok (.iload_n 1, 1) := by decide +kernel
theorem dX12_mayBuild_7 : decode cX12_mayBuild 7 = .ok (.iload_n 0, 1) := by decide +kernel
theorem dX12_mayBuild_8 : decode cX12_mayBuild 8 = .ok (.isub, 1) := by decide +kernel
theorem dX12_mayBuild_9 : decode cX12_mayBuild 9 = .ok (.iconst 2, 1) := by decide +kernel
theorem dX12_mayBuild_10 : decode cX12_mayBuild 10 = .ok (.irem, 1) := by decide +kernel
theorem dX12_mayBuild_11 : decode cX12_mayBuild 11 = .ok (.ifCond .ne 36, 3) := by decide +kernel
theorem dX12_mayBuild_14 : decode cX12_mayBuild 14 = .ok (.iload_n 1, 1) := by decide +kernel
theorem dX12_mayBuild_15 : decode cX12_mayBuild 15 = .ok (.iload_n 0, 1) := by decide +kernel
theorem dX12_mayBuild_16 : decode cX12_mayBuild 16 = .ok (.isub, 1) := by decide +kernel
theorem dX12_mayBuild_17 : decode cX12_mayBuild 17 = .ok (.bipush 8, 2) := by decide +kernel
theorem dX12_mayBuild_19 : decode cX12_mayBuild 19 = .ok (.if_icmp .lt 28, 3) := by decide +kernel
theorem dX12_mayBuild_22 : decode cX12_mayBuild 22 = .ok (.iload_n 0, 1) := by decide +kernel
theorem dX12_mayBuild_23 : decode cX12_mayBuild 23 = .ok (.iload_n 1, 1) := by decide +kernel
theorem dX12_mayBuild_24 : decode cX12_mayBuild 24 = .ok (.iadd, 1) := by decide +kernel
theorem dX12_mayBuild_25 : decode cX12_mayBuild 25 = .ok (.iload_n 2, 1) := by decide +kernel
theorem dX12_mayBuild_26 : decode cX12_mayBuild 26 = .ok (.irem, 1) := by decide +kernel
theorem dX12_mayBuild_27 : decode cX12_mayBuild 27 = .ok (.ifCond .ne 20, 3) := by decide +kernel
theorem dX12_mayBuild_30 : decode cX12_mayBuild 30 = .ok (.iload_n 2, 1) := by decide +kernel
theorem dX12_mayBuild_31 : decode cX12_mayBuild 31 = .ok (.iload_n 3, 1) := by decide +kernel
theorem dX12_mayBuild_32 : decode cX12_mayBuild 32 = .ok (.iconst 2, 1) := by decide +kernel
theorem dX12_mayBuild_33 : decode cX12_mayBuild 33 = .ok (.iadd, 1) := by decide +kernel
theorem dX12_mayBuild_34 : decode cX12_mayBuild 34 = .ok (.imul, 1) := by decide +kernel
theorem dX12_mayBuild_35 : decode cX12_mayBuild 35 = .ok (.iconst 3, 1) := by decide +kernel
theorem dX12_mayBuild_36 : decode cX12_mayBuild 36 = .ok (.iload_n 0, 1) := by decide +kernel
theorem dX12_mayBuild_37 : decode cX12_mayBuild 37 = .ok (.iload_n 3, 1) := by decide +kernel
theorem dX12_mayBuild_38 : decode cX12_mayBuild 38 = .ok (.iadd, 1) := by decide +kernel
theorem dX12_mayBuild_39 : decode cX12_mayBuild 39 = .ok (.imul, 1) := by decide +kernel
theorem dX12_mayBuild_40 : decode cX12_mayBuild 40 = .ok (.if_icmp .gt 7, 3) := by decide +kernel
theorem dX12_mayBuild_43 : decode cX12_mayBuild 43 = .ok (.iconst 1, 1) := by decide +kernel
theorem dX12_mayBuild_44 : decode cX12_mayBuild 44 = .ok (.goto 4, 3) := by decide +kernel
theorem dX12_mayBuild_47 : decode cX12_mayBuild 47 = .ok (.iconst 0, 1) := by decide +kernel
theorem dX12_mayBuild_48 : decode cX12_mayBuild 48 = .ok (.ireturn, 1) := by decide +kernel
theorem dX12_planets_0 : decode cX12_planets 0 = .ok (.iload_n 1, 1) := by decide +kernel
theorem dX12_planets_1 : decode cX12_planets 1 = .ok (.i2l, 1) := by decide +kernel
theorem dX12_planets_2 : decode cX12_planets 2 = .ok (.ldc2_w 200, 3) := by decide +kernel
theorem dX12_planets_5 : decode cX12_planets 5 = .ok (.ldc2_w 202, 3) := by decide +kernel
theorem dX12_planets_8 : decode cX12_planets 8 = .ok (.invokestatic 73, 3) := by decide +kernel
theorem dX12_planets_11 : decode cX12_planets 11 = .ok (.ifCond .eq 29, 3) := by decide +kernel
theorem dX12_planets_14 : decode cX12_planets 14 = .ok (.iload_n 2, 1) := by decide +kernel
theorem dX12_planets_15 : decode cX12_planets 15 = .ok (.i2l, 1) := by decide +kernel
theorem dX12_planets_16 : decode cX12_planets 16 = .ok (.ldc2_w 200, 3) := by decide +kernel
theorem dX12_planets_19 : decode cX12_planets 19 = .ok (.ldc2_w 202, 3) := by decide +kernel
theorem dX12_planets_22 : decode cX12_planets 22 = .ok (.invokestatic 73, 3) := by decide +kernel
theorem dX12_planets_25 : decode cX12_planets 25 = .ok (.ifCond .eq 15, 3) := by decide +kernel
theorem dX12_planets_28 : decode cX12_planets 28 = .ok (.iload_n 3, 1) := by decide +kernel
theorem dX12_planets_29 : decode cX12_planets 29 = .ok (.i2l, 1) := by decide +kernel
theorem dX12_planets_30 : decode cX12_planets 30 = .ok (.lconst 1, 1) := by decide +kernel
theorem dX12_planets_31 : decode cX12_planets 31 = .ok (.ldc2_w 204, 3) := by decide +kernel
theorem dX12_planets_34 : decode cX12_planets 34 = .ok (.invokestatic 73, 3) := by decide +kernel
theorem dX12_planets_37 : decode cX12_planets 37 = .ok (.ifCond .ne 5, 3) := by decide +kernel
theorem dX12_planets_40 : decode cX12_planets 40 = .ok (.iconst (-1), 1) := by decide +kernel
theorem dX12_planets_41 : decode cX12_planets 41 = .ok (.ireturn, 1) := by decide +kernel
theorem dX12_planets_42 : decode cX12_planets 42 = .ok (.iload_n 1, 1) := by decide +kernel
theorem dX12_planets_43 : decode cX12_planets 43 = .ok (.iload_n 2, 1) := by decide +kernel
theorem dX12_planets_44 : decode cX12_planets 44 = .ok (.iload_n 3, 1) := by decide +kernel
theorem dX12_planets_45 : decode cX12_planets 45 = .ok (.invokestatic 206, 3) := by decide +kernel
theorem dX12_planets_48 : decode cX12_planets 48 = .ok (.ifCond .eq 11, 3) := by decide +kernel
theorem dX12_planets_51 : decode cX12_planets 51 = .ok (.iload_n 2, 1) := by decide +kernel
theorem dX12_planets_52 : decode cX12_planets 52 = .ok (.iload_n 1, 1) := by decide +kernel
theorem dX12_planets_53 : decode cX12_planets 53 = .ok (.isub, 1) := by decide +kernel
theorem dX12_planets_54 : decode cX12_planets 54 = .ok (.iconst 2, 1) := by decide +kernel
theorem dX12_planets_55 : decode cX12_planets 55 = .ok (.idiv, 1) := by decide +kernel
theorem dX12_planets_56 : decode cX12_planets 56 = .ok (.goto 5, 3) := by decide +kernel
theorem dX12_planets_59 : decode cX12_planets 59 = .ok (.bipush (-4), 2) := by decide +kernel
theorem dX12_planets_61 : decode cX12_planets 61 = .ok (.ireturn, 1) := by decide +kernel
theorem dX12_most_0 : decode cX12_most 0 = .ok (.iload_n 1, 1) := by decide +kernel
theorem dX12_most_1 : decode cX12_most 1 = .ok (.i2l, 1) := by decide +kernel
theorem dX12_most_2 : decode cX12_most 2 = .ok (.ldc2_w 200, 3) := by decide +kernel
theorem dX12_most_5 : decode cX12_most 5 = .ok (.ldc2_w 202, 3) := by decide +kernel
theorem dX12_most_8 : decode cX12_most 8 = .ok (.invokestatic 73, 3) := by decide +kernel
theorem dX12_most_11 : decode cX12_most 11 = .ok (.ifCond .eq 17, 3) := by decide +kernel
theorem dX12_most_14 : decode cX12_most 14 = .ok (.iload_n 2, 1) := by decide +kernel
theorem dX12_most_15 : decode cX12_most 15 = .ok (.i2l, 1) := by decide +kernel
theorem dX12_most_16 : decode cX12_most 16 = .ok (.ldc2_w 200, 3) := by decide +kernel
theorem dX12_most_19 : decode cX12_most 19 = .ok (.ldc2_w 202, 3) := by decide +kernel
theorem dX12_most_22 : decode cX12_most 22 = .ok (.invokestatic 73, 3) := by decide +kernel
theorem dX12_most_25 : decode cX12_most 25 = .ok (.ifCond .ne 5, 3) := by decide +kernel
theorem dX12_most_28 : decode cX12_most 28 = .ok (.iconst (-1), 1) := by decide +kernel
theorem dX12_most_29 : decode cX12_most 29 = .ok (.ireturn, 1) := by decide +kernel
theorem dX12_most_30 : decode cX12_most 30 = .ok (.bipush 12, 2) := by decide +kernel
theorem dX12_most_32 : decode cX12_most 32 = .ok (.istore_n 3, 1) := by decide +kernel
theorem dX12_most_33 : decode cX12_most 33 = .ok (.iload_n 3, 1) := by decide +kernel
theorem dX12_most_34 : decode cX12_most 34 = .ok (.ifCond .le 18, 3) := by decide +kernel
theorem dX12_most_37 : decode cX12_most 37 = .ok (.iload_n 1, 1) := by decide +kernel
theorem dX12_most_38 : decode cX12_most 38 = .ok (.iload_n 2, 1) := by decide +kernel
theorem dX12_most_39 : decode cX12_most 39 = .ok (.iload_n 3, 1) := by decide +kernel
theorem dX12_most_40 : decode cX12_most 40 = .ok (.invokestatic 206, 3) := by decide +kernel
theorem dX12_most_43 : decode cX12_most 43 = .ok (.ifCond .ne 9, 3) := by decide +kernel
theorem dX12_most_46 : decode cX12_most 46 = .ok (.iinc 3 (-1), 3) := by decide +kernel
theorem dX12_most_49 : decode cX12_most 49 = .ok (.goto (-16), 3) := by decide +kernel
theorem dX12_most_52 : decode cX12_most 52 = .ok (.iload_n 3, 1) := by decide +kernel
theorem dX12_most_53 : decode cX12_most 53 = .ok (.ifCond .le 7, 3) := by decide +kernel
theorem dX12_most_56 : decode cX12_most 56 = .ok (.iload_n 3, 1) := by decide +kernel
theorem dX12_most_57 : decode cX12_most 57 = .ok (.goto 5, 3) := by decide +kernel
theorem dX12_most_60 : decode cX12_most 60 = .ok (.bipush (-4), 2) := by decide +kernel
theorem dX12_most_62 : decode cX12_most 62 = .ok (.ireturn, 1) := by decide +kernel
theorem dX12_wrongCutter_0 : decode cX12_wrongCutter 0 = .ok (.aload_n 0, 1) := by decide +kernel
theorem dX12_wrongCutter_1 : decode cX12_wrongCutter 1 = .ok (.iload_n 1, 1) := by decide +kernel
theorem dX12_wrongCutter_2 : decode cX12_wrongCutter 2 = .ok (.iconst 0, 1) := by decide +kernel
theorem dX12_wrongCutter_3 : decode cX12_wrongCutter 3 = .ok (.invokevirtual 130, 3) := by decide +kernel
theorem dX12_wrongCutter_6 : decode cX12_wrongCutter 6 = .ok (.istore_n 2, 1) := by decide +kernel
theorem dX12_wrongCutter_7 : decode cX12_wrongCutter 7 = .ok (.iload_n 2, 1) := by decide +kernel
theorem dX12_wrongCutter_8 : decode cX12_wrongCutter 8 = .ok (.ifCond .eq 5, 3) := by decide +kernel
theorem dX12_wrongCutter_11 : decode cX12_wrongCutter 11 = .ok (.iload_n 2, 1) := by decide +kernel
theorem dX12_wrongCutter_12 : decode cX12_wrongCutter 12 = .ok (.ireturn, 1) := by decide +kernel
theorem dX12_wrongCutter_13 : decode cX12_wrongCutter 13 = .ok (.aload_n 0, 1) := by decide +kernel
theorem dX12_wrongCutter_14 : decode cX12_wrongCutter 14 = .ok (.getfield 28, 3) := by decide +kernel
theorem dX12_wrongCutter_17 : decode cX12_wrongCutter 17 = .ok (.iload_n 1, 1) := by decide +kernel
theorem dX12_wrongCutter_18 : decode cX12_wrongCutter 18 = .ok (.iaload, 1) := by decide +kernel
theorem dX12_wrongCutter_19 : decode cX12_wrongCutter 19 = .ok (.bipush 16, 2) := by decide +kernel
theorem dX12_wrongCutter_21 : decode cX12_wrongCutter 21 = .ok (.if_icmp .eq 6, 3) := by decide +kernel
theorem dX12_wrongCutter_24 : decode cX12_wrongCutter 24 = .ok (.bipush (-13), 2) := by decide +kernel
theorem dX12_wrongCutter_26 : decode cX12_wrongCutter 26 = .ok (.ireturn, 1) := by decide +kernel
theorem dX12_wrongCutter_27 : decode cX12_wrongCutter 27 = .ok (.iconst 0, 1) := by decide +kernel
theorem dX12_wrongCutter_28 : decode cX12_wrongCutter 28 = .ok (.istore_n 3, 1) := by decide +kernel
theorem dX12_wrongCutter_29 : decode cX12_wrongCutter 29 = .ok (.iload_n 3, 1) := by decide +kernel
theorem dX12_wrongCutter_30 : decode cX12_wrongCutter 30 = .ok (.bipush 16, 2) := by decide +kernel
theorem dX12_wrongCutter_32 : decode cX12_wrongCutter 32 = .ok (.if_icmp .ge 34, 3) := by decide +kernel
theorem dX12_wrongCutter_35 : decode cX12_wrongCutter 35 = .ok (.aload_n 0, 1) := by decide +kernel
theorem dX12_wrongCutter_36 : decode cX12_wrongCutter 36 = .ok (.getfield 31, 3) := by decide +kernel
theorem dX12_wrongCutter_39 : decode cX12_wrongCutter 39 = .ok (.bipush 120, 2) := by decide +kernel
theorem dX12_wrongCutter_41 : decode cX12_wrongCutter 41 = .ok (.iload_n 1, 1) := by decide +kernel
theorem dX12_wrongCutter_42 : decode cX12_wrongCutter 42 = .ok (.imul, 1) := by decide +kernel
theorem dX12_wrongCutter_43 : decode cX12_wrongCutter 43 = .ok (.iload_n 3, 1) := by decide +kernel
theorem dX12_wrongCutter_44 : decode cX12_wrongCutter 44 = .ok (.iadd, 1) := by decide +kernel
theorem dX12_wrongCutter_45 : decode cX12_wrongCutter 45 = .ok (.iaload, 1) := by decide +kernel
theorem dX12_wrongCutter_46 : decode cX12_wrongCutter 46 = .ok (.i2l, 1) := by decide +kernel
theorem dX12_wrongCutter_47 : decode cX12_wrongCutter 47 = .ok (.lconst 0, 1) := by decide +kernel
theorem dX12_wrongCutter_48 : decode cX12_wrongCutter 48 = .ok (.ldc2_w 210, 3) := by decide +kernel
theorem dX12_wrongCutter_51 : decode cX12_wrongCutter 51 = .ok (.invokestatic 73, 3) := by decide +kernel
theorem dX12_wrongCutter_54 : decode cX12_wrongCutter 54 = .ok (.ifCond .ne 6, 3) := by decide +kernel
theorem dX12_wrongCutter_57 : decode cX12_wrongCutter 57 = .ok (.bipush (-13), 2) := by decide +kernel
theorem dX12_wrongCutter_59 : decode cX12_wrongCutter 59 = .ok (.ireturn, 1) := by decide +kernel
theorem dX12_wrongCutter_60 : decode cX12_wrongCutter 60 = .ok (.iinc 3 1, 3) := by decide +kernel
theorem dX12_wrongCutter_63 : decode cX12_wrongCutter 63 = .ok (.goto (-34), 3) := by decide +kernel
theorem dX12_wrongCutter_66 : decode cX12_wrongCutter 66 = .ok (.iconst 0, 1) := by decide +kernel
theorem dX12_wrongCutter_67 : decode cX12_wrongCutter 67 = .ok (.ireturn, 1) := by decide +kernel
theorem dX12_cuts_0 : decode cX12_cuts 0 = .ok (.iconst 0, 1) := by decide +kernel
theorem dX12_cuts_1 : decode cX12_cuts 1 = .ok (.istore 4, 2) := by decide +kernel
theorem dX12_cuts_3 : decode cX12_cuts 3 = .ok (.iload 4, 2) := by decide +kernel
theorem dX12_cuts_5 : decode cX12_cuts 5 = .ok (.bipush 16, 2) := by decide +kernel
theorem dX12_cuts_7 : decode cX12_cuts 7 = .ok (.if_icmp .ge 18, 3) := by decide +kernel
theorem dX12_cuts_10 : decode cX12_cuts 10 = .ok (.aload_n 0, 1) := by decide +kernel
theorem dX12_cuts_11 : decode cX12_cuts 11 = .ok (.getfield 60, 3) := by decide +kernel
theorem dX12_cuts_14 : decode cX12_cuts 14 = .ok (.iload 4, 2) := by decide +kernel
theorem dX12_cuts_16 : decode cX12_cuts 16 = .ok (.bipush 31, 2) := by decide +kernel
theorem dX12_cuts_18 : decode cX12_cuts 18 = .ok (.iastore, 1) := by decide +kernel
theorem dX12_cuts_19 : decode cX12_cuts 19 = .ok (.iinc 4 1, 3) := by decide +kernel
theorem dX12_cuts_22 : decode cX12_cuts 22 = .ok (.goto (-19), 3) := by decide +kernel
theorem dX12_cuts_25 : decode cX12_cuts 25 = .ok (.iconst 0, 1) := by decide +kernel
theorem dX12_cuts_26 : decode cX12_cuts 26 = .ok (.istore 4, 2) := by decide +kernel
theorem dX12_cuts_28 : decode cX12_cuts 28 = .ok (.iload 4, 2) := by decide +kernel
theorem dX12_cuts_30 : decode cX12_cuts 30 = .ok (.iload_n 3, 1) := by decide +kernel
theorem dX12_cuts_31 : decode cX12_cuts 31 = .ok (.if_icmp .ge 127, 3) := by decide +kernel
theorem dX12_cuts_34 : decode cX12_cuts 34 = .ok (.bipush 16, 2) := by decide +kernel
theorem dX12_cuts_36 : decode cX12_cuts 36 = .ok (.iload 4, 2) := by decide +kernel
theorem dX12_cuts_38 : decode cX12_cuts 38 = .ok (.imul, 1) := by decide +kernel
theorem dX12_cuts_39 : decode cX12_cuts 39 = .ok (.iload_n 3, 1) := by decide +kernel
theorem dX12_cuts_40 : decode cX12_cuts 40 = .ok (.idiv, 1) := by decide +kernel
theorem dX12_cuts_41 : decode cX12_cuts 41 = .ok (.bipush 8, 2) := by decide +kernel
theorem dX12_cuts_43 : decode cX12_cuts 43 = .ok (.isub, 1) := by decide +kernel
theorem dX12_cuts_44 : decode cX12_cuts 44 = .ok (.istore 5, 2) := by decide +kernel
theorem dX12_cuts_46 : decode cX12_cuts 46 = .ok (.iconst 0, 1) := by decide +kernel
theorem dX12_cuts_47 : decode cX12_cuts 47 = .ok (.istore 6, 2) := by decide +kernel
theorem dX12_cuts_49 : decode cX12_cuts 49 = .ok (.iload 6, 2) := by decide +kernel
theorem dX12_cuts_51 : decode cX12_cuts 51 = .ok (.bipush 16, 2) := by decide +kernel
theorem dX12_cuts_53 : decode cX12_cuts 53 = .ok (.if_icmp .ge 99, 3) := by decide +kernel
theorem dX12_cuts_56 : decode cX12_cuts 56 = .ok (.iload 6, 2) := by decide +kernel
theorem dX12_cuts_58 : decode cX12_cuts 58 = .ok (.iload 5, 2) := by decide +kernel
theorem dX12_cuts_60 : decode cX12_cuts 60 = .ok (.isub, 1) := by decide +kernel
theorem dX12_cuts_61 : decode cX12_cuts 61 = .ok (.i2l, 1) := by decide +kernel
theorem dX12_cuts_62 : decode cX12_cuts 62 = .ok (.lconst 0, 1) := by decide +kernel
theorem dX12_cuts_63 : decode cX12_cuts 63 = .ok (.ldc2_w 161, 3) := by decide +kernel
theorem dX12_cuts_66 : decode cX12_cuts 66 = .ok (.invokestatic 73, 3) := by decide +kernel
theorem dX12_cuts_69 : decode cX12_cuts 69 = .ok (.ifCond .ne 6, 3) := by decide +kernel
theorem dX12_cuts_72 : decode cX12_cuts 72 = .ok (.goto 74, 3) := by decide +kernel
theorem dX12_cuts_75 : decode cX12_cuts 75 = .ok (.bipush 31, 2) := by decide +kernel
theorem dX12_cuts_77 : decode cX12_cuts 77 = .ok (.aload_n 0, 1) := by decide +kernel
theorem dX12_cuts_78 : decode cX12_cuts 78 = .ok (.getfield 31, 3) := by decide +kernel
theorem dX12_cuts_81 : decode cX12_cuts 81 = .ok (.bipush 120, 2) := by decide +kernel
theorem dX12_cuts_83 : decode cX12_cuts 83 = .ok (.iload_n 1, 1) := by decide +kernel
theorem dX12_cuts_84 : decode cX12_cuts 84 = .ok (.imul, 1) := by decide +kernel
theorem dX12_cuts_85 : decode cX12_cuts 85 = .ok (.iload 6, 2) := by decide +kernel
theorem dX12_cuts_87 : decode cX12_cuts 87 = .ok (.iadd, 1) := by decide +kernel
theorem dX12_cuts_88 : decode cX12_cuts 88 = .ok (.iload 5, 2) := by decide +kernel
theorem dX12_cuts_90 : decode cX12_cuts 90 = .ok (.isub, 1) := by decide +kernel
theorem dX12_cuts_91 : decode cX12_cuts 91 = .ok (.iaload, 1) := by decide +kernel
theorem dX12_cuts_92 : decode cX12_cuts 92 = .ok (.iload_n 2, 1) := by decide +kernel
theorem dX12_cuts_93 : decode cX12_cuts 93 = .ok (.iadd, 1) := by decide +kernel
theorem dX12_cuts_94 : decode cX12_cuts 94 = .ok (.iload 5, 2) := by decide +kernel
theorem dX12_cuts_96 : decode cX12_cuts 96 = .ok (.iload 5, 2) := by decide +kernel
theorem dX12_cuts_98 : decode cX12_cuts 98 = .ok (.imul, 1) := by decide +kernel
theorem dX12_cuts_99 : decode cX12_cuts 99 = .ok (.bipush 8, 2) := by decide +kernel
theorem dX12_cuts_101 : decode cX12_cuts 101 = .ok (.idiv, 1) := by decide +kernel
theorem dX12_cuts_102 : decode cX12_cuts 102 = .ok (.isub, 1) := by decide +kernel
theorem dX12_cuts_103 : decode cX12_cuts 103 = .ok (.isub, 1) := by decide +kernel
theorem dX12_cuts_104 : decode cX12_cuts 104 = .ok (.istore 7, 2) := by decide +kernel
theorem dX12_cuts_106 : decode cX12_cuts 106 = .ok (.aload_n 0, 1) := by decide +kernel
theorem dX12_cuts_107 : decode cX12_cuts 107 = .ok (.getfield 60, 3) := by decide +kernel
theorem dX12_cuts_110 : decode cX12_cuts 110 = .ok (.iload 6, 2) := by decide +kernel
theorem dX12_cuts_112 : decode cX12_cuts 112 = .ok (.iload 7, 2) := by decide +kernel
theorem dX12_cuts_114 : decode cX12_cuts 114 = .ok (.aload_n 0, 1) := by decide +kernel
theorem dX12_cuts_115 : decode cX12_cuts 115 = .ok (.getfield 60, 3) := by decide +kernel
theorem dX12_cuts_118 : decode cX12_cuts 118 = .ok (.iload 6, 2) := by decide +kernel
theorem dX12_cuts_120 : decode cX12_cuts 120 = .ok (.iaload, 1) := by decide +kernel
theorem dX12_cuts_121 : decode cX12_cuts 121 = .ok (.if_icmp .ge 17, 3) := by decide +kernel
theorem dX12_cuts_124 : decode cX12_cuts 124 = .ok (.iload 7, 2) := by decide +kernel
theorem dX12_cuts_126 : decode cX12_cuts 126 = .ok (.ifCond .ge 7, 3) := by decide +kernel
theorem dX12_cuts_129 : decode cX12_cuts 129 = .ok (.iconst 0, 1) := by decide +kernel
theorem dX12_cuts_130 : decode cX12_cuts 130 = .ok (.goto 15, 3) := by decide +kernel
theorem dX12_cuts_133 : decode cX12_cuts 133 = .ok (.iload 7, 2) := by decide +kernel
theorem dX12_cuts_135 : decode cX12_cuts 135 = .ok (.goto 10, 3) := by decide +kernel
theorem dX12_cuts_138 : decode cX12_cuts 138 = .ok (.aload_n 0, 1) := by decide +kernel
theorem dX12_cuts_139 : decode cX12_cuts 139 = .ok (.getfield 60, 3) := by decide +kernel
theorem dX12_cuts_142 : decode cX12_cuts 142 = .ok (.iload 6, 2) := by decide +kernel
theorem dX12_cuts_144 : decode cX12_cuts 144 = .ok (.iaload, 1) := by decide +kernel
theorem dX12_cuts_145 : decode cX12_cuts 145 = .ok (.iastore, 1) := by decide +kernel
theorem dX12_cuts_146 : decode cX12_cuts 146 = .ok (.iinc 6 1, 3) := by decide +kernel
theorem dX12_cuts_149 : decode cX12_cuts 149 = .ok (.goto (-100), 3) := by decide +kernel
theorem dX12_cuts_152 : decode cX12_cuts 152 = .ok (.iinc 4 1, 3) := by decide +kernel
theorem dX12_cuts_155 : decode cX12_cuts 155 = .ok (.goto (-127), 3) := by decide +kernel
theorem dX12_cuts_158 : decode cX12_cuts 158 = .ok (.return_, 1) := by decide +kernel
theorem dX12_puts_0 : decode cX12_puts 0 = .ok (.iconst 0, 1) := by decide +kernel
theorem dX12_puts_1 : decode cX12_puts 1 = .ok (.istore_n 2, 1) := by decide +kernel
theorem dX12_puts_2 : decode cX12_puts 2 = .ok (.iload_n 2, 1) := by decide +kernel
theorem dX12_puts_3 : decode cX12_puts 3 = .ok (.bipush 16, 2) := by decide +kernel
theorem dX12_puts_5 : decode cX12_puts 5 = .ok (.if_icmp .ge 28, 3) := by decide +kernel
theorem dX12_puts_8 : decode cX12_puts 8 = .ok (.aload_n 0, 1) := by decide +kernel
theorem dX12_puts_9 : decode cX12_puts 9 = .ok (.getfield 13, 3) := by decide +kernel
theorem dX12_puts_12 : decode cX12_puts 12 = .ok (.bipush 19, 2) := by decide +kernel
theorem dX12_puts_14 : decode cX12_puts 14 = .ok (.iload_n 1, 1) := by decide +kernel
theorem dX12_puts_15 : decode cX12_puts 15 = .ok (.imul, 1) := by decide +kernel
theorem dX12_puts_16 : decode cX12_puts 16 = .ok (.iconst 3, 1) := by decide +kernel
theorem dX12_puts_17 : decode cX12_puts 17 = .ok (.iadd, 1) := by decide +kernel
theorem dX12_puts_18 : decode cX12_puts 18 = .ok (.iload_n 2, 1) := by decide +kernel
theorem dX12_puts_19 : decode cX12_puts 19 = .ok (.iadd, 1) := by decide +kernel
theorem dX12_puts_20 : decode cX12_puts 20 = .ok (.aload_n 0, 1) := by decide +kernel
theorem dX12_puts_21 : decode cX12_puts 21 = .ok (.getfield 60, 3) := by decide +kernel
theorem dX12_puts_24 : decode cX12_puts 24 = .ok (.iload_n 2, 1) := by decide +kernel
theorem dX12_puts_25 : decode cX12_puts 25 = .ok (.iaload, 1) := by decide +kernel
theorem dX12_puts_26 : decode cX12_puts 26 = .ok (.iastore, 1) := by decide +kernel
theorem dX12_puts_27 : decode cX12_puts 27 = .ok (.iinc 2 1, 3) := by decide +kernel
theorem dX12_puts_30 : decode cX12_puts 30 = .ok (.goto (-28), 3) := by decide +kernel
theorem dX12_puts_33 : decode cX12_puts 33 = .ok (.return_, 1) := by decide +kernel
theorem dX12_cut_0 : decode cX12_cut 0 = .ok (.iload_n 3, 1) := by decide +kernel
theorem dX12_cut_1 : decode cX12_cut 1 = .ok (.bipush 100, 2) := by decide +kernel
theorem dX12_cut_3 : decode cX12_cut 3 = .ok (.idiv, 1) := by decide +kernel
theorem dX12_cut_4 : decode cX12_cut 4 = .ok (.istore 4, 2) := by decide +kernel
theorem dX12_cut_6 : decode cX12_cut 6 = .ok (.iload_n 3, 1) := by decide +kernel
theorem dX12_cut_7 : decode cX12_cut 7 = .ok (.bipush 100, 2) := by decide +kernel
theorem dX12_cut_9 : decode cX12_cut 9 = .ok (.irem, 1) := by decide +kernel
theorem dX12_cut_10 : decode cX12_cut 10 = .ok (.bipush 8, 2) := by decide +kernel
theorem dX12_cut_12 : decode cX12_cut 12 = .ok (.isub, 1) := by decide +kernel
theorem dX12_cut_13 : decode cX12_cut 13 = .ok (.istore 5, 2) := by decide +kernel
theorem dX12_cut_15 : decode cX12_cut 15 = .ok (.aload_n 0, 1) := by decide +kernel
theorem dX12_cut_16 : decode cX12_cut 16 = .ok (.iload_n 1, 1) := by decide +kernel
theorem dX12_cut_17 : decode cX12_cut 17 = .ok (.invokevirtual 121, 3) := by decide +kernel
theorem dX12_cut_20 : decode cX12_cut 20 = .ok (.ifCond .eq 34, 3) := by decide +kernel
theorem dX12_cut_23 : decode cX12_cut 23 = .ok (.iload_n 2, 1) := by decide +kernel
theorem dX12_cut_24 : decode cX12_cut 24 = .ok (.invokestatic 127, 3) := by decide +kernel
theorem dX12_cut_27 : decode cX12_cut 27 = .ok (.ifCond .eq 27, 3) := by decide +kernel
theorem dX12_cut_30 : decode cX12_cut 30 = .ok (.iload_n 3, 1) := by decide +kernel
theorem dX12_cut_31 : decode cX12_cut 31 = .ok (.ifCond .lt 23, 3) := by decide +kernel
theorem dX12_cut_34 : decode cX12_cut 34 = .ok (.iload 4, 2) := by decide +kernel
theorem dX12_cut_36 : decode cX12_cut 36 = .ok (.i2l, 1) := by decide +kernel
theorem dX12_cut_37 : decode cX12_cut 37 = .ok (.lconst 1, 1) := by decide +kernel
theorem dX12_cut_38 : decode cX12_cut 38 = .ok (.ldc2_w 212, 3) := by decide +kernel
theorem dX12_cut_41 : decode cX12_cut 41 = .ok (.invokestatic 73, 3) := by decide +kernel
theorem dX12_cut_44 : decode cX12_cut 44 = .ok (.ifCond .eq 10, 3) := by decide +kernel
theorem dX12_cut_47 : decode cX12_cut 47 = .ok (.iload 5, 2) := by decide +kernel
theorem dX12_cut_49 : decode cX12_cut 49 = .ok (.bipush 8, 2) := by decide +kernel
theorem dX12_cut_51 : decode cX12_cut 51 = .ok (.if_icmp .le 5, 3) := by decide +kernel
theorem dX12_cut_54 : decode cX12_cut 54 = .ok (.iconst (-1), 1) := by decide +kernel
theorem dX12_cut_55 : decode cX12_cut 55 = .ok (.ireturn, 1) := by decide +kernel
theorem dX12_cut_56 : decode cX12_cut 56 = .ok (.aload_n 0, 1) := by decide +kernel
theorem dX12_cut_57 : decode cX12_cut 57 = .ok (.iload_n 2, 1) := by decide +kernel
theorem dX12_cut_58 : decode cX12_cut 58 = .ok (.invokevirtual 214, 3) := by decide +kernel
theorem dX12_cut_61 : decode cX12_cut 61 = .ok (.istore 6, 2) := by decide +kernel
theorem dX12_cut_63 : decode cX12_cut 63 = .ok (.iload 6, 2) := by decide +kernel
theorem dX12_cut_65 : decode cX12_cut 65 = .ok (.ifCond .eq 6, 3) := by decide +kernel
theorem dX12_cut_68 : decode cX12_cut 68 = .ok (.iload 6, 2) := by decide +kernel
theorem dX12_cut_70 : decode cX12_cut 70 = .ok (.ireturn, 1) := by decide +kernel
theorem dX12_cut_71 : decode cX12_cut 71 = .ok (.aload_n 0, 1) := by decide +kernel
theorem dX12_cut_72 : decode cX12_cut 72 = .ok (.iload_n 2, 1) := by decide +kernel
theorem dX12_cut_73 : decode cX12_cut 73 = .ok (.iload 5, 2) := by decide +kernel
theorem dX12_cut_75 : decode cX12_cut 75 = .ok (.iload 4, 2) := by decide +kernel
theorem dX12_cut_77 : decode cX12_cut 77 = .ok (.invokevirtual 217, 3) := by decide +kernel
theorem dX12_cut_80 : decode cX12_cut 80 = .ok (.aload_n 0, 1) := by decide +kernel
theorem dX12_cut_81 : decode cX12_cut 81 = .ok (.iload_n 1, 1) := by decide +kernel
theorem dX12_cut_82 : decode cX12_cut 82 = .ok (.invokevirtual 220, 3) := by decide +kernel
theorem dX12_cut_85 : decode cX12_cut 85 = .ok (.aload_n 0, 1) := by decide +kernel
theorem dX12_cut_86 : decode cX12_cut 86 = .ok (.iload_n 1, 1) := by decide +kernel
theorem dX12_cut_87 : decode cX12_cut 87 = .ok (.invokevirtual 155, 3) := by decide +kernel
theorem dX12_cut_90 : decode cX12_cut 90 = .ok (.ireturn, 1) := by decide +kernel
theorem dX12_touchOf_0 : decode cX12_touchOf 0 = .ok (.iconst 0, 1) := by decide +kernel
theorem dX12_touchOf_1 : decode cX12_touchOf 1 = .ok (.istore_n 3, 1) := by decide +kernel
theorem dX12_touchOf_2 : decode cX12_touchOf 2 = .ok (.iconst 1, 1) := by decide +kernel
theorem dX12_touchOf_3 : decode cX12_touchOf 3 = .ok (.istore 4, 2) := by decide +kernel
theorem dX12_touchOf_5 : decode cX12_touchOf 5 = .ok (.iload 4, 2) := by decide +kernel
theorem dX12_touchOf_7 : decode cX12_touchOf 7 = .ok (.bipush 16, 2) := by decide +kernel
theorem dX12_touchOf_9 : decode cX12_touchOf 9 = .ok (.if_icmp .ge 30, 3) := by decide +kernel
theorem dX12_touchOf_12 : decode cX12_touchOf 12 = .ok (.aload_n 0, 1) := by decide +kernel
theorem dX12_touchOf_13 : decode cX12_touchOf 13 = .ok (.iload_n 1, 1) := by decide +kernel
theorem dX12_touchOf_14 : decode cX12_touchOf 14 = .ok (.iload_n 2, 1) := by decide +kernel
theorem dX12_touchOf_15 : decode cX12_touchOf 15 = .ok (.iload 4, 2) := by decide +kernel
theorem dX12_touchOf_17 : decode cX12_touchOf 17 = .ok (.invokevirtual 223, 3) := by decide +kernel
theorem dX12_touchOf_20 : decode cX12_touchOf 20 = .ok (.aload_n 0, 1) := by decide +kernel
theorem dX12_touchOf_21 : decode cX12_touchOf 21 = .ok (.iload_n 1, 1) := by decide +kernel
theorem dX12_touchOf_22 : decode cX12_touchOf 22 = .ok (.iload_n 2, 1) := by decide +kernel
theorem dX12_touchOf_23 : decode cX12_touchOf 23 = .ok (.iload_n 3, 1) := by decide +kernel
theorem dX12_touchOf_24 : decode cX12_touchOf 24 = .ok (.invokevirtual 223, 3) := by decide +kernel
theorem dX12_touchOf_27 : decode cX12_touchOf 27 = .ok (.if_icmp .le 6, 3) := by decide +kernel
theorem dX12_touchOf_30 : decode cX12_touchOf 30 = .ok (.iload 4, 2) := by decide +kernel
theorem dX12_touchOf_32 : decode cX12_touchOf 32 = .ok (.istore_n 3, 1) := by decide +kernel
theorem dX12_touchOf_33 : decode cX12_touchOf 33 = .ok (.iinc 4 1, 3) := by decide +kernel
theorem dX12_touchOf_36 : decode cX12_touchOf 36 = .ok (.goto (-31), 3) := by decide +kernel
theorem dX12_touchOf_39 : decode cX12_touchOf 39 = .ok (.iload_n 3, 1) := by decide +kernel
theorem dX12_touchOf_40 : decode cX12_touchOf 40 = .ok (.ireturn, 1) := by decide +kernel
theorem dX12_together_0 : decode cX12_together 0 = .ok (.aload_n 0, 1) := by decide +kernel
theorem dX12_together_1 : decode cX12_together 1 = .ok (.aload_n 0, 1) := by decide +kernel
theorem dX12_together_2 : decode cX12_together 2 = .ok (.iload_n 1, 1) := by decide +kernel
theorem dX12_together_3 : decode cX12_together 3 = .ok (.iconst 0, 1) := by decide +kernel
theorem dX12_together_4 : decode cX12_together 4 = .ok (.invokevirtual 118, 3) := by decide +kernel
theorem dX12_together_7 : decode cX12_together 7 = .ok (.iload_n 3, 1) := by decide +kernel
theorem dX12_together_8 : decode cX12_together 8 = .ok (.invokevirtual 86, 3) := by decide +kernel
theorem dX12_together_11 : decode cX12_together 11 = .ok (.aload_n 0, 1) := by decide +kernel
theorem dX12_together_12 : decode cX12_together 12 = .ok (.aload_n 0, 1) := by decide +kernel
theorem dX12_together_13 : decode cX12_together 13 = .ok (.iload_n 1, 1) := by decide +kernel
theorem dX12_together_14 : decode cX12_together 14 = .ok (.iconst 1, 1) := by decide +kernel
theorem dX12_together_15 : decode cX12_together 15 = .ok (.invokevirtual 118, 3) := by decide +kernel
theorem dX12_together_18 : decode cX12_together 18 = .ok (.bipush 15, 2) := by decide +kernel
theorem dX12_together_20 : decode cX12_together 20 = .ok (.iload_n 3, 1) := by decide +kernel
theorem dX12_together_21 : decode cX12_together 21 = .ok (.isub, 1) := by decide +kernel
theorem dX12_together_22 : decode cX12_together 22 = .ok (.iload_n 2, 1) := by decide +kernel
theorem dX12_together_23 : decode cX12_together 23 = .ok (.iadd, 1) := by decide +kernel
theorem dX12_together_24 : decode cX12_together 24 = .ok (.bipush 16, 2) := by decide +kernel
theorem dX12_together_26 : decode cX12_together 26 = .ok (.irem, 1) := by decide +kernel
theorem dX12_together_27 : decode cX12_together 27 = .ok (.invokevirtual 86, 3) := by decide +kernel
theorem dX12_together_30 : decode cX12_together 30 = .ok (.iadd, 1) := by decide +kernel
theorem dX12_together_31 : decode cX12_together 31 = .ok (.ireturn, 1) := by decide +kernel
theorem dX12_offOf_0 : decode cX12_offOf 0 = .ok (.aload_n 0, 1) := by decide +kernel
theorem dX12_offOf_1 : decode cX12_offOf 1 = .ok (.iload_n 1, 1) := by decide +kernel
theorem dX12_offOf_2 : decode cX12_offOf 2 = .ok (.iconst 2, 1) := by decide +kernel
theorem dX12_offOf_3 : decode cX12_offOf 3 = .ok (.invokevirtual 118, 3) := by decide +kernel
theorem dX12_offOf_6 : decode cX12_offOf 6 = .ok (.aload_n 0, 1) := by decide +kernel
theorem dX12_offOf_7 : decode cX12_offOf 7 = .ok (.iload_n 1, 1) := by decide +kernel
theorem dX12_offOf_8 : decode cX12_offOf 8 = .ok (.iload_n 2, 1) := by decide +kernel
theorem dX12_offOf_9 : decode cX12_offOf 9 = .ok (.aload_n 0, 1) := by decide +kernel
theorem dX12_offOf_10 : decode cX12_offOf 10 = .ok (.iload_n 1, 1) := by decide +kernel
theorem dX12_offOf_11 : decode cX12_offOf 11 = .ok (.iload_n 2, 1) := by decide +kernel
theorem dX12_offOf_12 : decode cX12_offOf 12 = .ok (.invokevirtual 227, 3) := by decide +kernel
theorem dX12_offOf_15 : decode cX12_offOf 15 = .ok (.invokevirtual 223, 3) := by decide +kernel
theorem dX12_offOf_18 : decode cX12_offOf 18 = .ok (.isub, 1) := by decide +kernel
theorem dX12_offOf_19 : decode cX12_offOf 19 = .ok (.ireturn, 1) := by decide +kernel
theorem dX12_isTurn_0 : decode cX12_isTurn 0 = .ok (.iload_n 1, 1) := by decide +kernel
theorem dX12_isTurn_1 : decode cX12_isTurn 1 = .ok (.i2l, 1) := by decide +kernel
theorem dX12_isTurn_2 : decode cX12_isTurn 2 = .ok (.lconst 0, 1) := by decide +kernel
theorem dX12_isTurn_3 : decode cX12_isTurn 3 = .ok (.ldc2_w 161, 3) := by decide +kernel
theorem dX12_isTurn_6 : decode cX12_isTurn 6 = .ok (.invokestatic 73, 3) := by decide +kernel
theorem dX12_isTurn_9 : decode cX12_isTurn 9 = .ok (.ireturn, 1) := by decide +kernel
theorem dX12_off_0 : decode cX12_off 0 = .ok (.aload_n 0, 1) := by decide +kernel
theorem dX12_off_1 : decode cX12_off 1 = .ok (.iload_n 1, 1) := by decide +kernel
theorem dX12_off_2 : decode cX12_off 2 = .ok (.invokevirtual 163, 3) := by decide +kernel
theorem dX12_off_5 : decode cX12_off 5 = .ok (.ifCond .eq 20, 3) := by decide +kernel
theorem dX12_off_8 : decode cX12_off 8 = .ok (.aload_n 0, 1) := by decide +kernel
theorem dX12_off_9 : decode cX12_off 9 = .ok (.iload_n 2, 1) := by decide +kernel
theorem dX12_off_10 : decode cX12_off 10 = .ok (.invokevirtual 230, 3) := by decide +kernel
theorem dX12_off_13 : decode cX12_off 13 = .ok (.ifCond .eq 12, 3) := by decide +kernel
theorem dX12_off_16 : decode cX12_off 16 = .ok (.aload_n 0, 1) := by decide +kernel
theorem dX12_off_17 : decode cX12_off 17 = .ok (.iload_n 1, 1) := by decide +kernel
theorem dX12_off_18 : decode cX12_off 18 = .ok (.iload_n 2, 1) := by decide +kernel
theorem dX12_off_19 : decode cX12_off 19 = .ok (.invokevirtual 233, 3) := by decide +kernel
theorem dX12_off_22 : decode cX12_off 22 = .ok (.goto 5, 3) := by decide +kernel
theorem dX12_off_25 : decode cX12_off 25 = .ok (.ldc 236, 2) := by decide +kernel
theorem dX12_off_27 : decode cX12_off 27 = .ok (.ireturn, 1) := by decide +kernel
theorem dX12_touch_0 : decode cX12_touch 0 = .ok (.aload_n 0, 1) := by decide +kernel
theorem dX12_touch_1 : decode cX12_touch 1 = .ok (.iload_n 1, 1) := by decide +kernel
theorem dX12_touch_2 : decode cX12_touch 2 = .ok (.invokevirtual 163, 3) := by decide +kernel
theorem dX12_touch_5 : decode cX12_touch 5 = .ok (.ifCond .eq 20, 3) := by decide +kernel
theorem dX12_touch_8 : decode cX12_touch 8 = .ok (.aload_n 0, 1) := by decide +kernel
theorem dX12_touch_9 : decode cX12_touch 9 = .ok (.iload_n 2, 1) := by decide +kernel
theorem dX12_touch_10 : decode cX12_touch 10 = .ok (.invokevirtual 230, 3) := by decide +kernel
theorem dX12_touch_13 : decode cX12_touch 13 = .ok (.ifCond .eq 12, 3) := by decide +kernel
theorem dX12_touch_16 : decode cX12_touch 16 = .ok (.aload_n 0, 1) := by decide +kernel
theorem dX12_touch_17 : decode cX12_touch 17 = .ok (.iload_n 1, 1) := by decide +kernel
theorem dX12_touch_18 : decode cX12_touch 18 = .ok (.iload_n 2, 1) := by decide +kernel
theorem dX12_touch_19 : decode cX12_touch 19 = .ok (.invokevirtual 227, 3) := by decide +kernel
theorem dX12_touch_22 : decode cX12_touch 22 = .ok (.goto 4, 3) := by decide +kernel
theorem dX12_touch_25 : decode cX12_touch 25 = .ok (.iconst (-1), 1) := by decide +kernel
theorem dX12_touch_26 : decode cX12_touch 26 = .ok (.ireturn, 1) := by decide +kernel
theorem dX12_jamOf_0 : decode cX12_jamOf 0 = .ok (.iconst 0, 1) := by decide +kernel
theorem dX12_jamOf_1 : decode cX12_jamOf 1 = .ok (.istore_n 2, 1) := by decide +kernel
theorem dX12_jamOf_2 : decode cX12_jamOf 2 = .ok (.iload_n 2, 1) := by decide +kernel
theorem dX12_jamOf_3 : decode cX12_jamOf 3 = .ok (.bipush 16, 2) := by decide +kernel
theorem dX12_jamOf_5 : decode cX12_jamOf 5 = .ok (.if_icmp .ge 20, 3) := by decide +kernel
theorem dX12_jamOf_8 : decode cX12_jamOf 8 = .ok (.aload_n 0, 1) := by decide +kernel
theorem dX12_jamOf_9 : decode cX12_jamOf 9 = .ok (.iload_n 1, 1) := by decide +kernel
theorem dX12_jamOf_10 : decode cX12_jamOf 10 = .ok (.iload_n 2, 1) := by decide +kernel
theorem dX12_jamOf_11 : decode cX12_jamOf 11 = .ok (.invokevirtual 233, 3) := by decide +kernel
theorem dX12_jamOf_14 : decode cX12_jamOf 14 = .ok (.ifCond .ge 5, 3) := by decide +kernel
theorem dX12_jamOf_17 : decode cX12_jamOf 17 = .ok (.iload_n 2, 1) := by decide +kernel
theorem dX12_jamOf_18 : decode cX12_jamOf 18 = .ok (.ireturn, 1) := by decide +kernel
theorem dX12_jamOf_19 : decode cX12_jamOf 19 = .ok (.iinc 2 1, 3) := by decide +kernel
theorem dX12_jamOf_22 : decode cX12_jamOf 22 = .ok (.goto (-20), 3) := by decide +kernel
theorem dX12_jamOf_25 : decode cX12_jamOf 25 = .ok (.bipush (-4), 2) := by decide +kernel
theorem dX12_jamOf_27 : decode cX12_jamOf 27 = .ok (.ireturn, 1) := by decide +kernel
theorem dX12_jam_0 : decode cX12_jam 0 = .ok (.aload_n 0, 1) := by decide +kernel
theorem dX12_jam_1 : decode cX12_jam 1 = .ok (.iload_n 1, 1) := by decide +kernel
theorem dX12_jam_2 : decode cX12_jam 2 = .ok (.invokevirtual 163, 3) := by decide +kernel
theorem dX12_jam_5 : decode cX12_jam 5 = .ok (.ifCond .eq 11, 3) := by decide +kernel
theorem dX12_jam_8 : decode cX12_jam 8 = .ok (.aload_n 0, 1) := by decide +kernel
theorem dX12_jam_9 : decode cX12_jam 9 = .ok (.iload_n 1, 1) := by decide +kernel
theorem dX12_jam_10 : decode cX12_jam 10 = .ok (.invokevirtual 237, 3) := by decide +kernel
theorem dX12_jam_13 : decode cX12_jam 13 = .ok (.goto 4, 3) := by decide +kernel
theorem dX12_jam_16 : decode cX12_jam 16 = .ok (.iconst (-1), 1) := by decide +kernel
theorem dX12_jam_17 : decode cX12_jam 17 = .ok (.ireturn, 1) := by decide +kernel
theorem dX12_gapOf_0 : decode cX12_gapOf 0 = .ok (.aload_n 0, 1) := by decide +kernel
theorem dX12_gapOf_1 : decode cX12_gapOf 1 = .ok (.iload_n 1, 1) := by decide +kernel
theorem dX12_gapOf_2 : decode cX12_gapOf 2 = .ok (.iconst 0, 1) := by decide +kernel
theorem dX12_gapOf_3 : decode cX12_gapOf 3 = .ok (.invokevirtual 233, 3) := by decide +kernel
theorem dX12_gapOf_6 : decode cX12_gapOf 6 = .ok (.istore_n 2, 1) := by decide +kernel
theorem dX12_gapOf_7 : decode cX12_gapOf 7 = .ok (.iconst 1, 1) := by decide +kernel
theorem dX12_gapOf_8 : decode cX12_gapOf 8 = .ok (.istore_n 3, 1) := by decide +kernel
theorem dX12_gapOf_9 : decode cX12_gapOf 9 = .ok (.iload_n 3, 1) := by decide +kernel
theorem dX12_gapOf_10 : decode cX12_gapOf 10 = .ok (.bipush 16, 2) := by decide +kernel
theorem dX12_gapOf_12 : decode cX12_gapOf 12 = .ok (.if_icmp .ge 30, 3) := by decide +kernel
theorem dX12_gapOf_15 : decode cX12_gapOf 15 = .ok (.aload_n 0, 1) := by decide +kernel
theorem dX12_gapOf_16 : decode cX12_gapOf 16 = .ok (.iload_n 1, 1) := by decide +kernel
theorem dX12_gapOf_17 : decode cX12_gapOf 17 = .ok (.iload_n 3, 1) := by decide +kernel
theorem dX12_gapOf_18 : decode cX12_gapOf 18 = .ok (.invokevirtual 233, 3) := by decide +kernel
theorem dX12_gapOf_21 : decode cX12_gapOf 21 = .ok (.iload_n 2, 1) := by decide +kernel
theorem dX12_gapOf_22 : decode cX12_gapOf 22 = .ok (.if_icmp .ge 12, 3) := by decide +kernel
theorem dX12_gapOf_25 : decode cX12_gapOf 25 = .ok (.aload_n 0, 1) := by decide +kernel
theorem dX12_gapOf_26 : decode cX12_gapOf 26 = .ok (.iload_n 1, 1) := by decide +kernel
theorem dX12_gapOf_27 : decode cX12_gapOf 27 = .ok (.iload_n 3, 1) := by decide +kernel
theorem dX12_gapOf_28 : decode cX12_gapOf 28 = .ok (.invokevirtual 233, 3) := by decide +kernel
theorem dX12_gapOf_31 : decode cX12_gapOf 31 = .ok (.goto 4, 3) := by decide +kernel
theorem dX12_gapOf_34 : decode cX12_gapOf 34 = .ok (.iload_n 2, 1) := by decide +kernel
theorem dX12_gapOf_35 : decode cX12_gapOf 35 = .ok (.istore_n 2, 1) := by decide +kernel
theorem dX12_gapOf_36 : decode cX12_gapOf 36 = .ok (.iinc 3 1, 3) := by decide +kernel
theorem dX12_gapOf_39 : decode cX12_gapOf 39 = .ok (.goto (-30), 3) := by decide +kernel
theorem dX12_gapOf_42 : decode cX12_gapOf 42 = .ok (.iload_n 2, 1) := by decide +kernel
theorem dX12_gapOf_43 : decode cX12_gapOf 43 = .ok (.ireturn, 1) := by decide +kernel
theorem dX12_gap_0 : decode cX12_gap 0 = .ok (.aload_n 0, 1) := by decide +kernel
theorem dX12_gap_1 : decode cX12_gap 1 = .ok (.iload_n 1, 1) := by decide +kernel
theorem dX12_gap_2 : decode cX12_gap 2 = .ok (.invokevirtual 163, 3) := by decide +kernel
theorem dX12_gap_5 : decode cX12_gap 5 = .ok (.ifCond .eq 11, 3) := by decide +kernel
theorem dX12_gap_8 : decode cX12_gap 8 = .ok (.aload_n 0, 1) := by decide +kernel
theorem dX12_gap_9 : decode cX12_gap 9 = .ok (.iload_n 1, 1) := by decide +kernel
theorem dX12_gap_10 : decode cX12_gap 10 = .ok (.invokevirtual 240, 3) := by decide +kernel
theorem dX12_gap_13 : decode cX12_gap 13 = .ok (.goto 5, 3) := by decide +kernel
theorem dX12_gap_16 : decode cX12_gap 16 = .ok (.ldc 236, 2) := by decide +kernel
theorem dX12_gap_18 : decode cX12_gap 18 = .ok (.ireturn, 1) := by decide +kernel
theorem dX12_evenOf_0 : decode cX12_evenOf 0 = .ok (.aload_n 0, 1) := by decide +kernel
theorem dX12_evenOf_1 : decode cX12_evenOf 1 = .ok (.iload_n 1, 1) := by decide +kernel
theorem dX12_evenOf_2 : decode cX12_evenOf 2 = .ok (.iconst 0, 1) := by decide +kernel
theorem dX12_evenOf_3 : decode cX12_evenOf 3 = .ok (.invokevirtual 233, 3) := by decide +kernel
theorem dX12_evenOf_6 : decode cX12_evenOf 6 = .ok (.istore_n 2, 1) := by decide +kernel
theorem dX12_evenOf_7 : decode cX12_evenOf 7 = .ok (.iconst 1, 1) := by decide +kernel
theorem dX12_evenOf_8 : decode cX12_evenOf 8 = .ok (.istore_n 3, 1) := by decide +kernel
theorem dX12_evenOf_9 : decode cX12_evenOf 9 = .ok (.iload_n 3, 1) := by decide +kernel
theorem dX12_evenOf_10 : decode cX12_evenOf 10 = .ok (.bipush 16, 2) := by decide +kernel
theorem dX12_evenOf_12 : decode cX12_evenOf 12 = .ok (.if_icmp .ge 30, 3) := by decide +kernel
theorem dX12_evenOf_15 : decode cX12_evenOf 15 = .ok (.aload_n 0, 1) := by decide +kernel
theorem dX12_evenOf_16 : decode cX12_evenOf 16 = .ok (.iload_n 1, 1) := by decide +kernel
theorem dX12_evenOf_17 : decode cX12_evenOf 17 = .ok (.iload_n 3, 1) := by decide +kernel
theorem dX12_evenOf_18 : decode cX12_evenOf 18 = .ok (.invokevirtual 233, 3) := by decide +kernel
theorem dX12_evenOf_21 : decode cX12_evenOf 21 = .ok (.iload_n 2, 1) := by decide +kernel
theorem dX12_evenOf_22 : decode cX12_evenOf 22 = .ok (.if_icmp .le 12, 3) := by decide +kernel
theorem dX12_evenOf_25 : decode cX12_evenOf 25 = .ok (.aload_n 0, 1) := by decide +kernel
theorem dX12_evenOf_26 : decode cX12_evenOf 26 = .ok (.iload_n 1, 1) := by decide +kernel
theorem dX12_evenOf_27 : decode cX12_evenOf 27 = .ok (.iload_n 3, 1) := by decide +kernel
theorem dX12_evenOf_28 : decode cX12_evenOf 28 = .ok (.invokevirtual 233, 3) := by decide +kernel
theorem dX12_evenOf_31 : decode cX12_evenOf 31 = .ok (.goto 4, 3) := by decide +kernel
theorem dX12_evenOf_34 : decode cX12_evenOf 34 = .ok (.iload_n 2, 1) := by decide +kernel
theorem dX12_evenOf_35 : decode cX12_evenOf 35 = .ok (.istore_n 2, 1) := by decide +kernel
theorem dX12_evenOf_36 : decode cX12_evenOf 36 = .ok (.iinc 3 1, 3) := by decide +kernel
theorem dX12_evenOf_39 : decode cX12_evenOf 39 = .ok (.goto (-30), 3) := by decide +kernel
theorem dX12_evenOf_42 : decode cX12_evenOf 42 = .ok (.iload_n 2, 1) := by decide +kernel
theorem dX12_evenOf_43 : decode cX12_evenOf 43 = .ok (.aload_n 0, 1) := by decide +kernel
theorem dX12_evenOf_44 : decode cX12_evenOf 44 = .ok (.iload_n 1, 1) := by decide +kernel
theorem dX12_evenOf_45 : decode cX12_evenOf 45 = .ok (.invokevirtual 240, 3) := by decide +kernel
theorem dX12_evenOf_48 : decode cX12_evenOf 48 = .ok (.isub, 1) := by decide +kernel
theorem dX12_evenOf_49 : decode cX12_evenOf 49 = .ok (.ireturn, 1) := by decide +kernel
theorem dX12_even_0 : decode cX12_even 0 = .ok (.aload_n 0, 1) := by decide +kernel
theorem dX12_even_1 : decode cX12_even 1 = .ok (.iload_n 1, 1) := by decide +kernel
theorem dX12_even_2 : decode cX12_even 2 = .ok (.invokevirtual 163, 3) := by decide +kernel
theorem dX12_even_5 : decode cX12_even 5 = .ok (.ifCond .eq 11, 3) := by decide +kernel
theorem dX12_even_8 : decode cX12_even 8 = .ok (.aload_n 0, 1) := by decide +kernel
theorem dX12_even_9 : decode cX12_even 9 = .ok (.iload_n 1, 1) := by decide +kernel
theorem dX12_even_10 : decode cX12_even 10 = .ok (.invokevirtual 243, 3) := by decide +kernel
theorem dX12_even_13 : decode cX12_even 13 = .ok (.goto 4, 3) := by decide +kernel
theorem dX12_even_16 : decode cX12_even 16 = .ok (.iconst (-1), 1) := by decide +kernel
theorem dX12_even_17 : decode cX12_even 17 = .ok (.ireturn, 1) := by decide +kernel
theorem dX12_room_0 : decode cX12_room 0 = .ok (.aload_n 0, 1) := by decide +kernel
theorem dX12_room_1 : decode cX12_room 1 = .ok (.iload_n 1, 1) := by decide +kernel
theorem dX12_room_2 : decode cX12_room 2 = .ok (.invokevirtual 163, 3) := by decide +kernel
theorem dX12_room_5 : decode cX12_room 5 = .ok (.ifCond .eq 15, 3) := by decide +kernel
theorem dX12_room_8 : decode cX12_room 8 = .ok (.iload_n 2, 1) := by decide +kernel
theorem dX12_room_9 : decode cX12_room 9 = .ok (.i2l, 1) := by decide +kernel
theorem dX12_room_10 : decode cX12_room 10 = .ok (.lconst 0, 1) := by decide +kernel
theorem dX12_room_11 : decode cX12_room 11 = .ok (.ldc2_w 246, 3) := by decide +kernel
theorem dX12_room_14 : decode cX12_room 14 = .ok (.invokestatic 73, 3) := by decide +kernel
theorem dX12_room_17 : decode cX12_room 17 = .ok (.ifCond .ne 5, 3) := by decide +kernel
theorem dX12_room_20 : decode cX12_room 20 = .ok (.iconst (-1), 1) := by decide +kernel
theorem dX12_room_21 : decode cX12_room 21 = .ok (.ireturn, 1) := by decide +kernel
theorem dX12_room_22 : decode cX12_room 22 = .ok (.aload_n 0, 1) := by decide +kernel
theorem dX12_room_23 : decode cX12_room 23 = .ok (.iload_n 1, 1) := by decide +kernel
theorem dX12_room_24 : decode cX12_room 24 = .ok (.iconst 2, 1) := by decide +kernel
theorem dX12_room_25 : decode cX12_room 25 = .ok (.invokevirtual 118, 3) := by decide +kernel
theorem dX12_room_28 : decode cX12_room 28 = .ok (.istore_n 3, 1) := by decide +kernel
theorem dX12_room_29 : decode cX12_room 29 = .ok (.aload_n 0, 1) := by decide +kernel
theorem dX12_room_30 : decode cX12_room 30 = .ok (.getfield 13, 3) := by decide +kernel
theorem dX12_room_33 : decode cX12_room 33 = .ok (.sipush 228, 3) := by decide +kernel
theorem dX12_room_36 : decode cX12_room 36 = .ok (.iconst 3, 1) := by decide +kernel
theorem dX12_room_37 : decode cX12_room 37 = .ok (.iload_n 1, 1) := by decide +kernel
theorem dX12_room_38 : decode cX12_room 38 = .ok (.imul, 1) := by decide +kernel
theorem dX12_room_39 : decode cX12_room 39 = .ok (.iadd, 1) := by decide +kernel
theorem dX12_room_40 : decode cX12_room 40 = .ok (.iconst 2, 1) := by decide +kernel
theorem dX12_room_41 : decode cX12_room 41 = .ok (.iadd, 1) := by decide +kernel
theorem dX12_room_42 : decode cX12_room 42 = .ok (.iload_n 2, 1) := by decide +kernel
theorem dX12_room_43 : decode cX12_room 43 = .ok (.iastore, 1) := by decide +kernel
theorem dX12_room_44 : decode cX12_room 44 = .ok (.iload_n 3, 1) := by decide +kernel
theorem dX12_room_45 : decode cX12_room 45 = .ok (.ireturn, 1) := by decide +kernel
theorem dX12_lessens_0 : decode cX12_lessens 0 = .ok (.bipush 19, 2) := by decide +kernel
theorem dX12_lessens_2 : decode cX12_lessens 2 = .ok (.iload_n 1, 1) := by decide +kernel
theorem dX12_lessens_3 : decode cX12_lessens 3 = .ok (.imul, 1) := by decide +kernel
theorem dX12_lessens_4 : decode cX12_lessens 4 = .ok (.iconst 3, 1) := by decide +kernel
theorem dX12_lessens_5 : decode cX12_lessens 5 = .ok (.iadd, 1) := by decide +kernel
theorem dX12_lessens_6 : decode cX12_lessens 6 = .ok (.iload_n 2, 1) := by decide +kernel
theorem dX12_lessens_7 : decode cX12_lessens 7 = .ok (.iadd, 1) := by decide +kernel
theorem dX12_lessens_8 : decode cX12_lessens 8 = .ok (.istore 4, 2) := by decide +kernel
theorem dX12_lessens_10 : decode cX12_lessens 10 = .ok (.aload_n 0, 1) := by decide +kernel
theorem dX12_lessens_11 : decode cX12_lessens 11 = .ok (.iload_n 1, 1) := by decide +kernel
theorem dX12_lessens_12 : decode cX12_lessens 12 = .ok (.invokevirtual 149, 3) := by decide +kernel
theorem dX12_lessens_15 : decode cX12_lessens 15 = .ok (.iload_n 3, 1) := by decide +kernel
theorem dX12_lessens_16 : decode cX12_lessens 16 = .ok (.bipush 10, 2) := by decide +kernel
theorem dX12_lessens_18 : decode cX12_lessens 18 = .ok (.idiv, 1) := by decide +kernel
theorem dX12_lessens_19 : decode cX12_lessens 19 = .ok (.if_icmp .ge 24, 3) := by decide +kernel
theorem dX12_lessens_22 : decode cX12_lessens 22 = .ok (.aload_n 0, 1) := by decide +kernel
theorem dX12_lessens_23 : decode cX12_lessens 23 = .ok (.getfield 13, 3) := by decide +kernel
theorem dX12_lessens_26 : decode cX12_lessens 26 = .ok (.iload 4, 2) := by decide +kernel
theorem dX12_lessens_28 : decode cX12_lessens 28 = .ok (.iaload, 1) := by decide +kernel
theorem dX12_lessens_29 : decode cX12_lessens 29 = .ok (.ifCond .le 14, 3) := by decide +kernel
theorem dX12_lessens_32 : decode cX12_lessens 32 = .ok (.aload_n 0, 1) := by decide +kernel
theorem dX12_lessens_33 : decode cX12_lessens 33 = .ok (.getfield 13, 3) := by decide +kernel
theorem dX12_lessens_36 : decode cX12_lessens 36 = .ok (.iload 4, 2) := by decide +kernel
theorem dX12_lessens_38 : decode cX12_lessens 38 = .ok (.dup2, 1) := by decide +kernel
theorem dX12_lessens_39 : decode cX12_lessens 39 = .ok (.iaload, 1) := by decide +kernel
theorem dX12_lessens_40 : decode cX12_lessens 40 = .ok (.iconst 1, 1) := by decide +kernel
theorem dX12_lessens_41 : decode cX12_lessens 41 = .ok (.isub, 1) := by decide +kernel
theorem dX12_lessens_42 : decode cX12_lessens 42 = .ok (.iastore, 1) := by decide +kernel
theorem dX12_lessens_43 : decode cX12_lessens 43 = .ok (.return_, 1) := by decide +kernel
theorem dX12_wears_0 : decode cX12_wears 0 = .ok (.iconst 0, 1) := by decide +kernel
theorem dX12_wears_1 : decode cX12_wears 1 = .ok (.istore_n 3, 1) := by decide +kernel
theorem dX12_wears_2 : decode cX12_wears 2 = .ok (.iload_n 3, 1) := by decide +kernel
theorem dX12_wears_3 : decode cX12_wears 3 = .ok (.bipush 16, 2) := by decide +kernel
theorem dX12_wears_5 : decode cX12_wears 5 = .ok (.if_icmp .ge 51, 3) := by decide +kernel
theorem dX12_wears_8 : decode cX12_wears 8 = .ok (.aload_n 0, 1) := by decide +kernel
theorem dX12_wears_9 : decode cX12_wears 9 = .ok (.iload_n 1, 1) := by decide +kernel
theorem dX12_wears_10 : decode cX12_wears 10 = .ok (.iload_n 3, 1) := by decide +kernel
theorem dX12_wears_11 : decode cX12_wears 11 = .ok (.invokevirtual 227, 3) := by decide +kernel
theorem dX12_wears_14 : decode cX12_wears 14 = .ok (.istore 4, 2) := by decide +kernel
theorem dX12_wears_16 : decode cX12_wears 16 = .ok (.aload_n 0, 1) := by decide +kernel
theorem dX12_wears_17 : decode cX12_wears 17 = .ok (.aload_n 0, 1) := by decide +kernel
theorem dX12_wears_18 : decode cX12_wears 18 = .ok (.iload_n 1, 1) := by decide +kernel
theorem dX12_wears_19 : decode cX12_wears 19 = .ok (.iconst 0, 1) := by decide +kernel
theorem dX12_wears_20 : decode cX12_wears 20 = .ok (.invokevirtual 118, 3) := by decide +kernel
theorem dX12_wears_23 : decode cX12_wears 23 = .ok (.iload 4, 2) := by decide +kernel
theorem dX12_wears_25 : decode cX12_wears 25 = .ok (.iload_n 2, 1) := by decide +kernel
theorem dX12_wears_26 : decode cX12_wears 26 = .ok (.invokevirtual 248, 3) := by decide +kernel
theorem dX12_wears_29 : decode cX12_wears 29 = .ok (.aload_n 0, 1) := by decide +kernel
theorem dX12_wears_30 : decode cX12_wears 30 = .ok (.aload_n 0, 1) := by decide +kernel
theorem dX12_wears_31 : decode cX12_wears 31 = .ok (.iload_n 1, 1) := by decide +kernel
theorem dX12_wears_32 : decode cX12_wears 32 = .ok (.iconst 1, 1) := by decide +kernel
theorem dX12_wears_33 : decode cX12_wears 33 = .ok (.invokevirtual 118, 3) := by decide +kernel
theorem dX12_wears_36 : decode cX12_wears 36 = .ok (.bipush 15, 2) := by decide +kernel
theorem dX12_wears_38 : decode cX12_wears 38 = .ok (.iload 4, 2) := by decide +kernel
theorem dX12_wears_40 : decode cX12_wears 40 = .ok (.isub, 1) := by decide +kernel
theorem dX12_wears_41 : decode cX12_wears 41 = .ok (.iload_n 3, 1) := by decide +kernel
theorem dX12_wears_42 : decode cX12_wears 42 = .ok (.iadd, 1) := by decide +kernel
theorem dX12_wears_43 : decode cX12_wears 43 = .ok (.bipush 16, 2) := by decide +kernel
theorem dX12_wears_45 : decode cX12_wears 45 = .ok (.irem, 1) := by decide +kernel
theorem dX12_wears_46 : decode cX12_wears 46 = .ok (.iload_n 2, 1) := by decide +kernel
theorem dX12_wears_47 : decode cX12_wears 47 = .ok (.invokevirtual 248, 3) := by decide +kernel
theorem dX12_wears_50 : decode cX12_wears 50 = .ok (.iinc 3 1, 3) := by decide +kernel
theorem dX12_wears_53 : decode cX12_wears 53 = .ok (.goto (-51), 3) := by decide +kernel
theorem dX12_wears_56 : decode cX12_wears 56 = .ok (.return_, 1) := by decide +kernel
theorem dX12_wear_0 : decode cX12_wear 0 = .ok (.aload_n 0, 1) := by decide +kernel
theorem dX12_wear_1 : decode cX12_wear 1 = .ok (.iload_n 1, 1) := by decide +kernel
theorem dX12_wear_2 : decode cX12_wear 2 = .ok (.invokevirtual 163, 3) := by decide +kernel
theorem dX12_wear_5 : decode cX12_wear 5 = .ok (.ifCond .eq 27, 3) := by decide +kernel
theorem dX12_wear_8 : decode cX12_wear 8 = .ok (.iload_n 2, 1) := by decide +kernel
theorem dX12_wear_9 : decode cX12_wear 9 = .ok (.i2l, 1) := by decide +kernel
theorem dX12_wear_10 : decode cX12_wear 10 = .ok (.lconst 1, 1) := by decide +kernel
theorem dX12_wear_11 : decode cX12_wear 11 = .ok (.ldc2_w 251, 3) := by decide +kernel
theorem dX12_wear_14 : decode cX12_wear 14 = .ok (.invokestatic 73, 3) := by decide +kernel
theorem dX12_wear_17 : decode cX12_wear 17 = .ok (.ifCond .eq 15, 3) := by decide +kernel
theorem dX12_wear_20 : decode cX12_wear 20 = .ok (.iload_n 3, 1) := by decide +kernel
theorem dX12_wear_21 : decode cX12_wear 21 = .ok (.i2l, 1) := by decide +kernel
theorem dX12_wear_22 : decode cX12_wear 22 = .ok (.lconst 1, 1) := by decide +kernel
theorem dX12_wear_23 : decode cX12_wear 23 = .ok (.ldc2_w 253, 3) := by decide +kernel
theorem dX12_wear_26 : decode cX12_wear 26 = .ok (.invokestatic 73, 3) := by decide +kernel
theorem dX12_wear_29 : decode cX12_wear 29 = .ok (.ifCond .ne 5, 3) := by decide +kernel
theorem dX12_wear_32 : decode cX12_wear 32 = .ok (.iconst (-1), 1) := by decide +kernel
theorem dX12_wear_33 : decode cX12_wear 33 = .ok (.ireturn, 1) := by decide +kernel
theorem dX12_wear_34 : decode cX12_wear 34 = .ok (.iconst 0, 1) := by decide +kernel
theorem dX12_wear_35 : decode cX12_wear 35 = .ok (.istore 4, 2) := by decide +kernel
theorem dX12_wear_37 : decode cX12_wear 37 = .ok (.iload 4, 2) := by decide +kernel
theorem dX12_wear_39 : decode cX12_wear 39 = .ok (.iload_n 3, 1) := by decide +kernel
theorem dX12_wear_40 : decode cX12_wear 40 = .ok (.if_icmp .ge 15, 3) := by decide +kernel
theorem dX12_wear_43 : decode cX12_wear 43 = .ok (.aload_n 0, 1) := by decide +kernel
theorem dX12_wear_44 : decode cX12_wear 44 = .ok (.iload_n 1, 1) := by decide +kernel
theorem dX12_wear_45 : decode cX12_wear 45 = .ok (.iload_n 2, 1) := by decide +kernel
theorem dX12_wear_46 : decode cX12_wear 46 = .ok (.invokevirtual 255, 3) := by decide +kernel
theorem dX12_wear_49 : decode cX12_wear 49 = .ok (.iinc 4 1, 3) := by decide +kernel
theorem dX12_wear_52 : decode cX12_wear 52 = .ok (.goto (-15), 3) := by decide +kernel
theorem dX12_wear_55 : decode cX12_wear 55 = .ok (.aload_n 0, 1) := by decide +kernel
theorem dX12_wear_56 : decode cX12_wear 56 = .ok (.iload_n 1, 1) := by decide +kernel
theorem dX12_wear_57 : decode cX12_wear 57 = .ok (.invokevirtual 243, 3) := by decide +kernel
theorem dX12_wear_60 : decode cX12_wear 60 = .ok (.ireturn, 1) := by decide +kernel
theorem dX12_saves_0 : decode cX12_saves 0 = .ok (.iconst 0, 1) := by decide +kernel
theorem dX12_saves_1 : decode cX12_saves 1 = .ok (.istore_n 1, 1) := by decide +kernel
theorem dX12_saves_2 : decode cX12_saves 2 = .ok (.iload_n 1, 1) := by decide +kernel
theorem dX12_saves_3 : decode cX12_saves 3 = .ok (.sipush 228, 3) := by decide +kernel
theorem dX12_saves_6 : decode cX12_saves 6 = .ok (.if_icmp .ge 21, 3) := by decide +kernel
theorem dX12_saves_9 : decode cX12_saves 9 = .ok (.aload_n 0, 1) := by decide +kernel
theorem dX12_saves_10 : decode cX12_saves 10 = .ok (.getfield 19, 3) := by decide +kernel
theorem dX12_saves_13 : decode cX12_saves 13 = .ok (.iload_n 1, 1) := by decide +kernel
theorem dX12_saves_14 : decode cX12_saves 14 = .ok (.aload_n 0, 1) := by decide +kernel
theorem dX12_saves_15 : decode cX12_saves 15 = .ok (.getfield 13, 3) := by decide +kernel
theorem dX12_saves_18 : decode cX12_saves 18 = .ok (.iload_n 1, 1) := by decide +kernel
theorem dX12_saves_19 : decode cX12_saves 19 = .ok (.iaload, 1) := by decide +kernel
theorem dX12_saves_20 : decode cX12_saves 20 = .ok (.iastore, 1) := by decide +kernel
theorem dX12_saves_21 : decode cX12_saves 21 = .ok (.iinc 1 1, 3) := by decide +kernel
theorem dX12_saves_24 : decode cX12_saves 24 = .ok (.goto (-22), 3) := by decide +kernel
theorem dX12_saves_27 : decode cX12_saves 27 = .ok (.return_, 1) := by decide +kernel
theorem dX12_back_0 : decode cX12_back 0 = .ok (.iconst 0, 1) := by decide +kernel
theorem dX12_back_1 : decode cX12_back 1 = .ok (.istore_n 1, 1) := by decide +kernel
theorem dX12_back_2 : decode cX12_back 2 = .ok (.iload_n 1, 1) := by decide +kernel
theorem dX12_back_3 : decode cX12_back 3 = .ok (.sipush 228, 3) := by decide +kernel
theorem dX12_back_6 : decode cX12_back 6 = .ok (.if_icmp .ge 21, 3) := by decide +kernel
theorem dX12_back_9 : decode cX12_back 9 = .ok (.aload_n 0, 1) := by decide +kernel
theorem dX12_back_10 : decode cX12_back 10 = .ok (.getfield 13, 3) := by decide +kernel
theorem dX12_back_13 : decode cX12_back 13 = .ok (.iload_n 1, 1) := by decide +kernel
theorem dX12_back_14 : decode cX12_back 14 = .ok (.aload_n 0, 1) := by decide +kernel
theorem dX12_back_15 : decode cX12_back 15 = .ok (.getfield 19, 3) := by decide +kernel
theorem dX12_back_18 : decode cX12_back 18 = .ok (.iload_n 1, 1) := by decide +kernel
theorem dX12_back_19 : decode cX12_back 19 = .ok (.iaload, 1) := by decide +kernel
theorem dX12_back_20 : decode cX12_back 20 = .ok (.iastore, 1) := by decide +kernel
theorem dX12_back_21 : decode cX12_back 21 = .ok (.iinc 1 1, 3) := by decide +kernel
theorem dX12_back_24 : decode cX12_back 24 = .ok (.goto (-22), 3) := by decide +kernel
theorem dX12_back_27 : decode cX12_back 27 = .ok (.return_, 1) := by decide +kernel
theorem dX12_until_0 : decode cX12_until 0 = .ok (.aload_n 0, 1) := by decide +kernel
theorem dX12_until_1 : decode cX12_until 1 = .ok (.iload_n 1, 1) := by decide +kernel
theorem dX12_until_2 : decode cX12_until 2 = .ok (.invokevirtual 163, 3) := by decide +kernel
theorem dX12_until_5 : decode cX12_until 5 = .ok (.ifCond .eq 27, 3) := by decide +kernel
theorem dX12_until_8 : decode cX12_until 8 = .ok (.iload_n 2, 1) := by decide +kernel
theorem dX12_until_9 : decode cX12_until 9 = .ok (.i2l, 1) := by decide +kernel
theorem dX12_until_10 : decode cX12_until 10 = .ok (.lconst 1, 1) := by decide +kernel
theorem dX12_until_11 : decode cX12_until 11 = .ok (.ldc2_w 251, 3) := by decide +kernel
theorem dX12_until_14 : decode cX12_until 14 = .ok (.invokestatic 73, 3) := by decide +kernel
theorem dX12_until_17 : decode cX12_until 17 = .ok (.ifCond .eq 15, 3) := by decide +kernel
theorem dX12_until_20 : decode cX12_until 20 = .ok (.iload_n 3, 1) := by decide +kernel
theorem dX12_until_21 : decode cX12_until 21 = .ok (.i2l, 1) := by decide +kernel
theorem dX12_until_22 : decode cX12_until 22 = .ok (.lconst 1, 1) := by decide +kernel
theorem dX12_until_23 : decode cX12_until 23 = .ok (.ldc2_w 246, 3) := by decide +kernel
theorem dX12_until_26 : decode cX12_until 26 = .ok (.invokestatic 73, 3) := by decide +kernel
theorem dX12_until_29 : decode cX12_until 29 = .ok (.ifCond .ne 5, 3) := by decide +kernel
theorem dX12_until_32 : decode cX12_until 32 = .ok (.iconst (-1), 1) := by decide +kernel
theorem dX12_until_33 : decode cX12_until 33 = .ok (.ireturn, 1) := by decide +kernel
theorem dX12_until_34 : decode cX12_until 34 = .ok (.aload_n 0, 1) := by decide +kernel
theorem dX12_until_35 : decode cX12_until 35 = .ok (.invokevirtual 259, 3) := by decide +kernel
theorem dX12_until_38 : decode cX12_until 38 = .ok (.bipush (-4), 2) := by decide +kernel
theorem dX12_until_40 : decode cX12_until 40 = .ok (.istore 4, 2) := by decide +kernel
theorem dX12_until_42 : decode cX12_until 42 = .ok (.iconst 1, 1) := by decide +kernel
theorem dX12_until_43 : decode cX12_until 43 = .ok (.istore 5, 2) := by decide +kernel
theorem dX12_until_45 : decode cX12_until 45 = .ok (.iload 5, 2) := by decide +kernel
theorem dX12_until_47 : decode cX12_until 47 = .ok (.sipush 200, 3) := by decide +kernel
theorem dX12_until_50 : decode cX12_until 50 = .ok (.if_icmp .gt 38, 3) := by decide +kernel
theorem dX12_until_53 : decode cX12_until 53 = .ok (.iload 4, 2) := by decide +kernel
theorem dX12_until_55 : decode cX12_until 55 = .ok (.ifCond .ge 33, 3) := by decide +kernel
theorem dX12_until_58 : decode cX12_until 58 = .ok (.aload_n 0, 1) := by decide +kernel
theorem dX12_until_59 : decode cX12_until 59 = .ok (.iload_n 1, 1) := by decide +kernel
theorem dX12_until_60 : decode cX12_until 60 = .ok (.iload_n 2, 1) := by decide +kernel
theorem dX12_until_61 : decode cX12_until 61 = .ok (.invokevirtual 255, 3) := by decide +kernel
theorem dX12_until_64 : decode cX12_until 64 = .ok (.aload_n 0, 1) := by decide +kernel
theorem dX12_until_65 : decode cX12_until 65 = .ok (.iload_n 1, 1) := by decide +kernel
theorem dX12_until_66 : decode cX12_until 66 = .ok (.invokevirtual 243, 3) := by decide +kernel
theorem dX12_until_69 : decode cX12_until 69 = .ok (.iload_n 3, 1) := by decide +kernel
theorem dX12_until_70 : decode cX12_until 70 = .ok (.if_icmp .lt 8, 3) := by decide +kernel
theorem dX12_until_73 : decode cX12_until 73 = .ok (.iload 5, 2) := by decide +kernel
theorem dX12_until_75 : decode cX12_until 75 = .ok (.goto 5, 3) := by decide +kernel
theorem dX12_until_78 : decode cX12_until 78 = .ok (.bipush (-4), 2) := by decide +kernel
theorem dX12_until_80 : decode cX12_until 80 = .ok (.istore 4, 2) := by decide +kernel
theorem dX12_until_82 : decode cX12_until 82 = .ok (.iinc 5 1, 3) := by decide +kernel
theorem dX12_until_85 : decode cX12_until 85 = .ok (.goto (-40), 3) := by decide +kernel
theorem dX12_until_88 : decode cX12_until 88 = .ok (.aload_n 0, 1) := by decide +kernel
theorem dX12_until_89 : decode cX12_until 89 = .ok (.invokevirtual 262, 3) := by decide +kernel
theorem dX12_until_92 : decode cX12_until 92 = .ok (.iload 4, 2) := by decide +kernel
theorem dX12_until_94 : decode cX12_until 94 = .ok (.ireturn, 1) := by decide +kernel
theorem dX12_loudOf_0 : decode cX12_loudOf 0 = .ok (.lconst 0, 1) := by decide +kernel
theorem dX12_loudOf_1 : decode cX12_loudOf 1 = .ok (.lstore_n 3, 1) := by decide +kernel
theorem dX12_loudOf_2 : decode cX12_loudOf 2 = .ok (.lconst 0, 1) := by decide +kernel
theorem dX12_loudOf_3 : decode cX12_loudOf 3 = .ok (.lstore 5, 2) := by decide +kernel
theorem dX12_loudOf_5 : decode cX12_loudOf 5 = .ok (.iconst 0, 1) := by decide +kernel
theorem dX12_loudOf_6 : decode cX12_loudOf 6 = .ok (.istore 7, 2) := by decide +kernel
theorem dX12_loudOf_8 : decode cX12_loudOf 8 = .ok (.iload 7, 2) := by decide +kernel
theorem dX12_loudOf_10 : decode cX12_loudOf 10 = .ok (.bipush 16, 2) := by decide +kernel
theorem dX12_loudOf_12 : decode cX12_loudOf 12 = .ok (.if_icmp .ge 62, 3) := by decide +kernel
theorem dX12_loudOf_15 : decode cX12_loudOf 15 = .ok (.aload_n 0, 1) := by decide +kernel
theorem dX12_loudOf_16 : decode cX12_loudOf 16 = .ok (.iload_n 1, 1) := by decide +kernel
theorem dX12_loudOf_17 : decode cX12_loudOf 17 = .ok (.iload 7, 2) := by decide +kernel
theorem dX12_loudOf_19 : decode cX12_loudOf 19 = .ok (.invokevirtual 233, 3) := by decide +kernel
theorem dX12_loudOf_22 : decode cX12_loudOf 22 = .ok (.i2l, 1) := by decide +kernel
theorem dX12_loudOf_23 : decode cX12_loudOf 23 = .ok (.lstore 8, 2) := by decide +kernel
theorem dX12_loudOf_25 : decode cX12_loudOf 25 = .ok (.lload_n 3, 1) := by decide +kernel
theorem dX12_loudOf_26 : decode cX12_loudOf 26 = .ok (.lload 8, 2) := by decide +kernel
theorem dX12_loudOf_28 : decode cX12_loudOf 28 = .ok (.aload_n 0, 1) := by decide +kernel
theorem dX12_loudOf_29 : decode cX12_loudOf 29 = .ok (.getfield 7, 3) := by decide +kernel
theorem dX12_loudOf_32 : decode cX12_loudOf 32 = .ok (.iload_n 2, 1) := by decide +kernel
theorem dX12_loudOf_33 : decode cX12_loudOf 33 = .ok (.iload 7, 2) := by decide +kernel
theorem dX12_loudOf_35 : decode cX12_loudOf 35 = .ok (.imul, 1) := by decide +kernel
theorem dX12_loudOf_36 : decode cX12_loudOf 36 = .ok (.bipush 16, 2) := by decide +kernel
theorem dX12_loudOf_38 : decode cX12_loudOf 38 = .ok (.irem, 1) := by decide +kernel
theorem dX12_loudOf_39 : decode cX12_loudOf 39 = .ok (.iaload, 1) := by decide +kernel
theorem dX12_loudOf_40 : decode cX12_loudOf 40 = .ok (.i2l, 1) := by decide +kernel
theorem dX12_loudOf_41 : decode cX12_loudOf 41 = .ok (.lmul, 1) := by decide +kernel
theorem dX12_loudOf_42 : decode cX12_loudOf 42 = .ok (.ladd, 1) := by decide +kernel
theorem dX12_loudOf_43 : decode cX12_loudOf 43 = .ok (.lstore_n 3, 1) := by decide +kernel
theorem dX12_loudOf_44 : decode cX12_loudOf 44 = .ok (.lload 5, 2) := by decide +kernel
theorem dX12_loudOf_46 : decode cX12_loudOf 46 = .ok (.lload 8, 2) := by decide +kernel
theorem dX12_loudOf_48 : decode cX12_loudOf 48 = .ok (.aload_n 0, 1) := by decide +kernel
theorem dX12_loudOf_49 : decode cX12_loudOf 49 = .ok (.getfield 7, 3) := by decide +kernel
theorem dX12_loudOf_52 : decode cX12_loudOf 52 = .ok (.iload_n 2, 1) := by decide +kernel
theorem dX12_loudOf_53 : decode cX12_loudOf 53 = .ok (.iload 7, 2) := by decide +kernel
theorem dX12_loudOf_55 : decode cX12_loudOf 55 = .ok (.imul, 1) := by decide +kernel
theorem dX12_loudOf_56 : decode cX12_loudOf 56 = .ok (.bipush 12, 2) := by decide +kernel
theorem dX12_loudOf_58 : decode cX12_loudOf 58 = .ok (.iadd, 1) := by decide +kernel
theorem dX12_loudOf_59 : decode cX12_loudOf 59 = .ok (.bipush 16, 2) := by decide +kernel
theorem dX12_loudOf_61 : decode cX12_loudOf 61 = .ok (.irem, 1) := by decide +kernel
theorem dX12_loudOf_62 : decode cX12_loudOf 62 = .ok (.iaload, 1) := by decide +kernel
theorem dX12_loudOf_63 : decode cX12_loudOf 63 = .ok (.i2l, 1) := by decide +kernel
theorem dX12_loudOf_64 : decode cX12_loudOf 64 = .ok (.lmul, 1) := by decide +kernel
theorem dX12_loudOf_65 : decode cX12_loudOf 65 = .ok (.ladd, 1) := by decide +kernel
theorem dX12_loudOf_66 : decode cX12_loudOf 66 = .ok (.lstore 5, 2) := by decide +kernel
theorem dX12_loudOf_68 : decode cX12_loudOf 68 = .ok (.iinc 7 1, 3) := by decide +kernel
theorem dX12_loudOf_71 : decode cX12_loudOf 71 = .ok (.goto (-63), 3) := by decide +kernel
