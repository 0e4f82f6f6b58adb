theorem d_Mo_init_0 : decode b_Mo_init 0 = .ok (.aload_n 0, 1) := by decide +kernel
theorem d_Mo_init_1 : decode b_Mo_init 1 = .ok (.invokespecial 1, 3) := by decide +kernel
theorem d_Mo_init_4 : decode b_Mo_init 4 = .ok (.aload_n 0, 1) := by decide +kernel
theorem d_Mo_init_5 : decode b_Mo_init 5 = .ok (.sipush 215, 3) := by decide +kernel
theorem d_Mo_init_8 : decode b_Mo_init 8 = .ok (.newarray .long, 2) := by decide +kernel
theorem d_Mo_init_10 : decode b_Mo_init 10 = .ok (.putfield 7, 3) := by decide +kernel
theorem d_Mo_init_13 : decode b_Mo_init 13 = .ok (.aload_n 0, 1) := by decide +kernel
theorem d_Mo_init_14 : decode b_Mo_init 14 = .ok (.sipush 215, 3) := by decide +kernel
theorem d_Mo_init_17 : decode b_Mo_init 17 = .ok (.newarray .long, 2) := by decide +kernel
theorem d_Mo_init_19 : decode b_Mo_init 19 = .ok (.putfield 13, 3) := by decide +kernel
theorem d_Mo_init_22 : decode b_Mo_init 22 = .ok (.aload_n 0, 1) := by decide +kernel
theorem d_Mo_init_23 : decode b_Mo_init 23 = .ok (.sipush 1720, 3) := by decide +kernel
theorem d_Mo_init_26 : decode b_Mo_init 26 = .ok (.newarray .long, 2) := by decide +kernel
theorem d_Mo_init_28 : decode b_Mo_init 28 = .ok (.putfield 16, 3) := by decide +kernel
theorem d_Mo_init_31 : decode b_Mo_init 31 = .ok (.aload_n 0, 1) := by decide +kernel
theorem d_Mo_init_32 : decode b_Mo_init 32 = .ok (.sipush 430, 3) := by decide +kernel
theorem d_Mo_init_35 : decode b_Mo_init 35 = .ok (.newarray .long, 2) := by decide +kernel
theorem d_Mo_init_37 : decode b_Mo_init 37 = .ok (.putfield 19, 3) := by decide +kernel
theorem d_Mo_init_40 : decode b_Mo_init 40 = .ok (.aload_n 0, 1) := by decide +kernel
theorem d_Mo_init_41 : decode b_Mo_init 41 = .ok (.iconst 2, 1) := by decide +kernel
theorem d_Mo_init_42 : decode b_Mo_init 42 = .ok (.newarray .boolean, 2) := by decide +kernel
theorem d_Mo_init_44 : decode b_Mo_init 44 = .ok (.putfield 22, 3) := by decide +kernel
theorem d_Mo_init_47 : decode b_Mo_init 47 = .ok (.aload_n 0, 1) := by decide +kernel
theorem d_Mo_init_48 : decode b_Mo_init 48 = .ok (.sipush 600, 3) := by decide +kernel
theorem d_Mo_init_51 : decode b_Mo_init 51 = .ok (.newarray .int, 2) := by decide +kernel
theorem d_Mo_init_53 : decode b_Mo_init 53 = .ok (.putfield 26, 3) := by decide +kernel
theorem d_Mo_init_56 : decode b_Mo_init 56 = .ok (.aload_n 0, 1) := by decide +kernel
theorem d_Mo_init_57 : decode b_Mo_init 57 = .ok (.iconst (-1), 1) := by decide +kernel
theorem d_Mo_init_58 : decode b_Mo_init 58 = .ok (.putfield 30, 3) := by decide +kernel
theorem d_Mo_init_61 : decode b_Mo_init 61 = .ok (.aload_n 0, 1) := by decide +kernel
theorem d_Mo_init_62 : decode b_Mo_init 62 = .ok (.bipush 6, 2) := by decide +kernel
theorem d_Mo_init_64 : decode b_Mo_init 64 = .ok (.newarray .boolean, 2) := by decide +kernel
theorem d_Mo_init_66 : decode b_Mo_init 66 = .ok (.putfield 34, 3) := by decide +kernel
theorem d_Mo_init_69 : decode b_Mo_init 69 = .ok (.aload_n 0, 1) := by decide +kernel
theorem d_Mo_init_70 : decode b_Mo_init 70 = .ok (.iconst 5, 1) := by decide +kernel
theorem d_Mo_init_71 : decode b_Mo_init 71 = .ok (.newarray .boolean, 2) := by decide +kernel
theorem d_Mo_init_73 : decode b_Mo_init 73 = .ok (.putfield 37, 3) := by decide +kernel
theorem d_Mo_init_76 : decode b_Mo_init 76 = .ok (.aload_n 0, 1) := by decide +kernel
theorem d_Mo_init_77 : decode b_Mo_init 77 = .ok (.iconst 2, 1) := by decide +kernel
theorem d_Mo_init_78 : decode b_Mo_init 78 = .ok (.newarray .boolean, 2) := by decide +kernel
theorem d_Mo_init_80 : decode b_Mo_init 80 = .ok (.putfield 40, 3) := by decide +kernel
theorem d_Mo_init_83 : decode b_Mo_init 83 = .ok (.aload_n 0, 1) := by decide +kernel
theorem d_Mo_init_84 : decode b_Mo_init 84 = .ok (.bipush 10, 2) := by decide +kernel
theorem d_Mo_init_86 : decode b_Mo_init 86 = .ok (.anewarray 43, 3) := by decide +kernel
theorem d_Mo_init_89 : decode b_Mo_init 89 = .ok (.dup, 1) := by decide +kernel
theorem d_Mo_init_90 : decode b_Mo_init 90 = .ok (.iconst 0, 1) := by decide +kernel
theorem d_Mo_init_91 : decode b_Mo_init 91 = .ok (.ldc 45, 2) := by decide +kernel
theorem d_Mo_init_93 : decode b_Mo_init 93 = .ok (.aastore, 1) := by decide +kernel
theorem d_Mo_init_94 : decode b_Mo_init 94 = .ok (.dup, 1) := by decide +kernel
theorem d_Mo_init_95 : decode b_Mo_init 95 = .ok (.iconst 1, 1) := by decide +kernel
theorem d_Mo_init_96 : decode b_Mo_init 96 = .ok (.ldc 47, 2) := by decide +kernel
theorem d_Mo_init_98 : decode b_Mo_init 98 = .ok (.aastore, 1) := by decide +kernel
theorem d_Mo_init_99 : decode b_Mo_init 99 = .ok (.dup, 1) := by decide +kernel
theorem d_Mo_init_100 : decode b_Mo_init 100 = .ok (.iconst 2, 1) := by decide +kernel
theorem d_Mo_init_101 : decode b_Mo_init 101 = .ok (.ldc 49, 2) := by decide +kernel
theorem d_Mo_init_103 : decode b_Mo_init 103 = .ok (.aastore, 1) := by decide +kernel
theorem d_Mo_init_104 : decode b_Mo_init 104 = .ok (.dup, 1) := by decide +kernel
theorem d_Mo_init_105 : decode b_Mo_init 105 = .ok (.iconst 3, 1) := by decide +kernel
theorem d_Mo_init_106 : decode b_Mo_init 106 = .ok (.ldc 51, 2) := by decide +kernel
theorem d_Mo_init_108 : decode b_Mo_init 108 = .ok (.aastore, 1) := by decide +kernel
theorem d_Mo_init_109 : decode b_Mo_init 109 = .ok (.dup, 1) := by decide +kernel
theorem d_Mo_init_110 : decode b_Mo_init 110 = .ok (.iconst 4, 1) := by decide +kernel
theorem d_Mo_init_111 : decode b_Mo_init 111 = .ok (.ldc 53, 2) := by decide +kernel
theorem d_Mo_init_113 : decode b_Mo_init 113 = .ok (.aastore, 1) := by decide +kernel
theorem d_Mo_init_114 : decode b_Mo_init 114 = .ok (.dup, 1) := by decide +kernel
theorem d_Mo_init_115 : decode b_Mo_init 115 = .ok (.iconst 5, 1) := by decide +kernel
theorem d_Mo_init_116 : decode b_Mo_init 116 = .ok (.ldc 55, 2) := by decide +kernel
theorem d_Mo_init_118 : decode b_Mo_init 118 = .ok (.aastore, 1) := by decide +kernel
theorem d_Mo_init_119 : decode b_Mo_init 119 = .ok (.dup, 1) := by decide +kernel
theorem d_Mo_init_120 : decode b_Mo_init 120 = .ok (.bipush 6, 2) := by decide +kernel
theorem d_Mo_init_122 : decode b_Mo_init 122 = .ok (.ldc 57, 2) := by decide +kernel
theorem d_Mo_init_124 : decode b_Mo_init 124 = .ok (.aastore, 1) := by decide +kernel
theorem d_Mo_init_125 : decode b_Mo_init 125 = .ok (.dup, 1) := by decide +kernel
theorem d_Mo_init_126 : decode b_Mo_init 126 = .ok (.bipush 7, 2) := by decide +kernel
theorem d_Mo_init_128 : decode b_Mo_init 128 = .ok (.ldc 59, 2) := by decide +kernel
theorem d_Mo_init_130 : decode b_Mo_init 130 = .ok (.aastore, 1) := by decide +kernel
theorem d_Mo_init_131 : decode b_Mo_init 131 = .ok (.dup, 1) := by decide +kernel
theorem d_Mo_init_132 : decode b_Mo_init 132 = .ok (.bipush 8, 2) := by decide +kernel
theorem d_Mo_init_134 : decode b_Mo_init 134 = .ok (.ldc 61, 2) := by decide +kernel
theorem d_Mo_init_136 : decode b_Mo_init 136 = .ok (.aastore, 1) := by decide +kernel
theorem d_Mo_init_137 : decode b_Mo_init 137 = .ok (.dup, 1) := by decide +kernel
theorem d_Mo_init_138 : decode b_Mo_init 138 = .ok (.bipush 9, 2) := by decide +kernel
theorem d_Mo_init_140 : decode b_Mo_init 140 = .ok (.ldc 63, 2) := by decide +kernel
theorem d_Mo_init_142 : decode b_Mo_init 142 = .ok (.aastore, 1) := by decide +kernel
theorem d_Mo_init_143 : decode b_Mo_init 143 = .ok (.putfield 65, 3) := by decide +kernel
theorem d_Mo_init_146 : decode b_Mo_init 146 = .ok (.aload_n 0, 1) := by decide +kernel
theorem d_Mo_init_147 : decode b_Mo_init 147 = .ok (.bipush 30, 2) := by decide +kernel
theorem d_Mo_init_149 : decode b_Mo_init 149 = .ok (.newarray .int, 2) := by decide +kernel
theorem d_Mo_init_151 : decode b_Mo_init 151 = .ok (.putfield 69, 3) := by decide +kernel
theorem d_Mo_init_154 : decode b_Mo_init 154 = .ok (.aload_n 0, 1) := by decide +kernel
theorem d_Mo_init_155 : decode b_Mo_init 155 = .ok (.bipush 30, 2) := by decide +kernel
theorem d_Mo_init_157 : decode b_Mo_init 157 = .ok (.newarray .int, 2) := by decide +kernel
theorem d_Mo_init_159 : decode b_Mo_init 159 = .ok (.putfield 72, 3) := by decide +kernel
theorem d_Mo_init_162 : decode b_Mo_init 162 = .ok (.aload_n 0, 1) := by decide +kernel
theorem d_Mo_init_163 : decode b_Mo_init 163 = .ok (.bipush 30, 2) := by decide +kernel
theorem d_Mo_init_165 : decode b_Mo_init 165 = .ok (.newarray .int, 2) := by decide +kernel
theorem d_Mo_init_167 : decode b_Mo_init 167 = .ok (.putfield 75, 3) := by decide +kernel
theorem d_Mo_init_170 : decode b_Mo_init 170 = .ok (.aload_n 0, 1) := by decide +kernel
theorem d_Mo_init_171 : decode b_Mo_init 171 = .ok (.bipush 30, 2) := by decide +kernel
theorem d_Mo_init_173 : decode b_Mo_init 173 = .ok (.newarray .int, 2) := by decide +kernel
theorem d_Mo_init_175 : decode b_Mo_init 175 = .ok (.putfield 78, 3) := by decide +kernel
theorem d_Mo_init_178 : decode b_Mo_init 178 = .ok (.aload_n 0, 1) := by decide +kernel
theorem d_Mo_init_179 : decode b_Mo_init 179 = .ok (.iconst 2, 1) := by decide +kernel
theorem d_Mo_init_180 : decode b_Mo_init 180 = .ok (.newarray .int, 2) := by decide +kernel
theorem d_Mo_init_182 : decode b_Mo_init 182 = .ok (.putfield 81, 3) := by decide +kernel
theorem d_Mo_init_185 : decode b_Mo_init 185 = .ok (.aload_n 0, 1) := by decide +kernel
theorem d_Mo_init_186 : decode b_Mo_init 186 = .ok (.iconst 2, 1) := by decide +kernel
theorem d_Mo_init_187 : decode b_Mo_init 187 = .ok (.newarray .int, 2) := by decide +kernel
theorem d_Mo_init_189 : decode b_Mo_init 189 = .ok (.putfield 84, 3) := by decide +kernel
theorem d_Mo_init_192 : decode b_Mo_init 192 = .ok (.aload_n 0, 1) := by decide +kernel
theorem d_Mo_init_193 : decode b_Mo_init 193 = .ok (.iconst 2, 1) := by decide +kernel
theorem d_Mo_init_194 : decode b_Mo_init 194 = .ok (.newarray .int, 2) := by decide +kernel
theorem d_Mo_init_196 : decode b_Mo_init 196 = .ok (.putfield 87, 3) := by decide +kernel
theorem d_Mo_init_199 : decode b_Mo_init 199 = .ok (.aload_n 0, 1) := by decide +kernel
theorem d_Mo_init_200 : decode b_Mo_init 200 = .ok (.iconst 2, 1) := by decide +kernel
theorem d_Mo_init_201 : decode b_Mo_init 201 = .ok (.newarray .int, 2) := by decide +kernel
theorem d_Mo_init_203 : decode b_Mo_init 203 = .ok (.putfield 90, 3) := by decide +kernel
theorem d_Mo_init_206 : decode b_Mo_init 206 = .ok (.aload_n 0, 1) := by decide +kernel
theorem d_Mo_init_207 : decode b_Mo_init 207 = .ok (.sipush 2000, 3) := by decide +kernel
theorem d_Mo_init_210 : decode b_Mo_init 210 = .ok (.newarray .byte, 2) := by decide +kernel
theorem d_Mo_init_212 : decode b_Mo_init 212 = .ok (.putfield 93, 3) := by decide +kernel
theorem d_Mo_init_215 : decode b_Mo_init 215 = .ok (.aload_n 0, 1) := by decide +kernel
theorem d_Mo_init_216 : decode b_Mo_init 216 = .ok (.invokevirtual 97, 3) := by decide +kernel
theorem d_Mo_init_219 : decode b_Mo_init 219 = .ok (.aload_n 0, 1) := by decide +kernel
theorem d_Mo_init_220 : decode b_Mo_init 220 = .ok (.getfield 13, 3) := by decide +kernel
theorem d_Mo_init_223 : decode b_Mo_init 223 = .ok (.iconst 0, 1) := by decide +kernel
theorem d_Mo_init_224 : decode b_Mo_init 224 = .ok (.ldc2_w 100, 3) := by decide +kernel
theorem d_Mo_init_227 : decode b_Mo_init 227 = .ok (.lastore, 1) := by decide +kernel
theorem d_Mo_init_228 : decode b_Mo_init 228 = .ok (.aload_n 0, 1) := by decide +kernel
theorem d_Mo_init_229 : decode b_Mo_init 229 = .ok (.getfield 13, 3) := by decide +kernel
theorem d_Mo_init_232 : decode b_Mo_init 232 = .ok (.iconst 1, 1) := by decide +kernel
theorem d_Mo_init_233 : decode b_Mo_init 233 = .ok (.lconst 1, 1) := by decide +kernel
theorem d_Mo_init_234 : decode b_Mo_init 234 = .ok (.lastore, 1) := by decide +kernel
theorem d_Mo_init_235 : decode b_Mo_init 235 = .ok (.aload_n 0, 1) := by decide +kernel
theorem d_Mo_init_236 : decode b_Mo_init 236 = .ok (.getfield 13, 3) := by decide +kernel
theorem d_Mo_init_239 : decode b_Mo_init 239 = .ok (.bipush 12, 2) := by decide +kernel
theorem d_Mo_init_241 : decode b_Mo_init 241 = .ok (.ldc2_w 102, 3) := by decide +kernel
theorem d_Mo_init_244 : decode b_Mo_init 244 = .ok (.lastore, 1) := by decide +kernel
theorem d_Mo_init_245 : decode b_Mo_init 245 = .ok (.aload_n 0, 1) := by decide +kernel
theorem d_Mo_init_246 : decode b_Mo_init 246 = .ok (.invokevirtual 104, 3) := by decide +kernel
theorem d_Mo_init_249 : decode b_Mo_init 249 = .ok (.return_, 1) := by decide +kernel
theorem d_Mo_thrown_0 : decode b_Mo_thrown 0 = .ok (.aload_n 0, 1) := by decide +kernel
theorem d_Mo_thrown_1 : decode b_Mo_thrown 1 = .ok (.getfield 107, 3) := by decide +kernel
theorem d_Mo_thrown_4 : decode b_Mo_thrown 4 = .ok (.ireturn, 1) := by decide +kernel
theorem d_Mo_raise_0 : decode b_Mo_raise 0 = .ok (.aload_n 0, 1) := by decide +kernel
theorem d_Mo_raise_1 : decode b_Mo_raise 1 = .ok (.iload_n 1, 1) := by decide +kernel
theorem d_Mo_raise_2 : decode b_Mo_raise 2 = .ok (.putfield 107, 3) := by decide +kernel
theorem d_Mo_raise_5 : decode b_Mo_raise 5 = .ok (.iconst 0, 1) := by decide +kernel
theorem d_Mo_raise_6 : decode b_Mo_raise 6 = .ok (.ireturn, 1) := by decide +kernel
theorem d_Mo_in_0 : decode b_Mo_in 0 = .ok (.lload_n 0, 1) := by decide +kernel
theorem d_Mo_in_1 : decode b_Mo_in 1 = .ok (.lload_n 2, 1) := by decide +kernel
theorem d_Mo_in_2 : decode b_Mo_in 2 = .ok (.lcmp, 1) := by decide +kernel
theorem d_Mo_in_3 : decode b_Mo_in 3 = .ok (.ifCond .lt 14, 3) := by decide +kernel
theorem d_Mo_in_6 : decode b_Mo_in 6 = .ok (.lload_n 0, 1) := by decide +kernel
theorem d_Mo_in_7 : decode b_Mo_in 7 = .ok (.lload 4, 2) := by decide +kernel
theorem d_Mo_in_9 : decode b_Mo_in 9 = .ok (.lcmp, 1) := by decide +kernel
theorem d_Mo_in_10 : decode b_Mo_in 10 = .ok (.ifCond .gt 7, 3) := by decide +kernel
theorem d_Mo_in_13 : decode b_Mo_in 13 = .ok (.iconst 1, 1) := by decide +kernel
theorem d_Mo_in_14 : decode b_Mo_in 14 = .ok (.goto 4, 3) := by decide +kernel
theorem d_Mo_in_17 : decode b_Mo_in 17 = .ok (.iconst 0, 1) := by decide +kernel
theorem d_Mo_in_18 : decode b_Mo_in 18 = .ok (.ireturn, 1) := by decide +kernel
theorem d_Mo_amount_0 : decode b_Mo_amount 0 = .ok (.lload_n 0, 1) := by decide +kernel
theorem d_Mo_amount_1 : decode b_Mo_amount 1 = .ok (.lconst 0, 1) := by decide +kernel
theorem d_Mo_amount_2 : decode b_Mo_amount 2 = .ok (.lcmp, 1) := by decide +kernel
theorem d_Mo_amount_3 : decode b_Mo_amount 3 = .ok (.ifCond .ge 8, 3) := by decide +kernel
theorem d_Mo_amount_6 : decode b_Mo_amount 6 = .ok (.lload_n 0, 1) := by decide +kernel
theorem d_Mo_amount_7 : decode b_Mo_amount 7 = .ok (.lneg, 1) := by decide +kernel
theorem d_Mo_amount_8 : decode b_Mo_amount 8 = .ok (.goto 4, 3) := by decide +kernel
theorem d_Mo_amount_11 : decode b_Mo_amount 11 = .ok (.lload_n 0, 1) := by decide +kernel
theorem d_Mo_amount_12 : decode b_Mo_amount 12 = .ok (.lreturn, 1) := by decide +kernel
theorem d_Mo_bound_0 : decode b_Mo_bound 0 = .ok (.lload_n 0, 1) := by decide +kernel
theorem d_Mo_bound_1 : decode b_Mo_bound 1 = .ok (.lload_n 2, 1) := by decide +kernel
theorem d_Mo_bound_2 : decode b_Mo_bound 2 = .ok (.lcmp, 1) := by decide +kernel
theorem d_Mo_bound_3 : decode b_Mo_bound 3 = .ok (.ifCond .ge 7, 3) := by decide +kernel
theorem d_Mo_bound_6 : decode b_Mo_bound 6 = .ok (.lload_n 2, 1) := by decide +kernel
theorem d_Mo_bound_7 : decode b_Mo_bound 7 = .ok (.goto 16, 3) := by decide +kernel
theorem d_Mo_bound_10 : decode b_Mo_bound 10 = .ok (.lload_n 0, 1) := by decide +kernel
theorem d_Mo_bound_11 : decode b_Mo_bound 11 = .ok (.lload 4, 2) := by decide +kernel
theorem d_Mo_bound_13 : decode b_Mo_bound 13 = .ok (.lcmp, 1) := by decide +kernel
theorem d_Mo_bound_14 : decode b_Mo_bound 14 = .ok (.ifCond .le 8, 3) := by decide +kernel
theorem d_Mo_bound_17 : decode b_Mo_bound 17 = .ok (.lload 4, 2) := by decide +kernel
theorem d_Mo_bound_19 : decode b_Mo_bound 19 = .ok (.goto 4, 3) := by decide +kernel
theorem d_Mo_bound_22 : decode b_Mo_bound 22 = .ok (.lload_n 0, 1) := by decide +kernel
theorem d_Mo_bound_23 : decode b_Mo_bound 23 = .ok (.lreturn, 1) := by decide +kernel
theorem d_Mo_tenTo_0 : decode b_Mo_tenTo 0 = .ok (.lconst 1, 1) := by decide +kernel
theorem d_Mo_tenTo_1 : decode b_Mo_tenTo 1 = .ok (.lstore_n 1, 1) := by decide +kernel
theorem d_Mo_tenTo_2 : decode b_Mo_tenTo 2 = .ok (.iconst 0, 1) := by decide +kernel
theorem d_Mo_tenTo_3 : decode b_Mo_tenTo 3 = .ok (.istore_n 3, 1) := by decide +kernel
theorem d_Mo_tenTo_4 : decode b_Mo_tenTo 4 = .ok (.iload_n 3, 1) := by decide +kernel
theorem d_Mo_tenTo_5 : decode b_Mo_tenTo 5 = .ok (.iload_n 0, 1) := by decide +kernel
theorem d_Mo_tenTo_6 : decode b_Mo_tenTo 6 = .ok (.if_icmp .ge 15, 3) := by decide +kernel
theorem d_Mo_tenTo_9 : decode b_Mo_tenTo 9 = .ok (.lload_n 1, 1) := by decide +kernel
theorem d_Mo_tenTo_10 : decode b_Mo_tenTo 10 = .ok (.ldc2_w 110, 3) := by decide +kernel
theorem d_Mo_tenTo_13 : decode b_Mo_tenTo 13 = .ok (.lmul, 1) := by decide +kernel
theorem d_Mo_tenTo_14 : decode b_Mo_tenTo 14 = .ok (.lstore_n 1, 1) := by decide +kernel
theorem d_Mo_tenTo_15 : decode b_Mo_tenTo 15 = .ok (.iinc 3 1, 3) := by decide +kernel
theorem d_Mo_tenTo_18 : decode b_Mo_tenTo 18 = .ok (.goto (-14), 3) := by decide +kernel
theorem d_Mo_tenTo_21 : decode b_Mo_tenTo 21 = .ok (.lload_n 1, 1) := by decide +kernel
theorem d_Mo_tenTo_22 : decode b_Mo_tenTo 22 = .ok (.lreturn, 1) := by decide +kernel
theorem d_Mo_setPlain_0 : decode b_Mo_setPlain 0 = .ok (.iconst 0, 1) := by decide +kernel
theorem d_Mo_setPlain_1 : decode b_Mo_setPlain 1 = .ok (.istore_n 1, 1) := by decide +kernel
theorem d_Mo_setPlain_2 : decode b_Mo_setPlain 2 = .ok (.iload_n 1, 1) := by decide +kernel
theorem d_Mo_setPlain_3 : decode b_Mo_setPlain 3 = .ok (.sipush 215, 3) := by decide +kernel
theorem d_Mo_setPlain_6 : decode b_Mo_setPlain 6 = .ok (.if_icmp .ge 16, 3) := by decide +kernel
theorem d_Mo_setPlain_9 : decode b_Mo_setPlain 9 = .ok (.aload_n 0, 1) := by decide +kernel
theorem d_Mo_setPlain_10 : decode b_Mo_setPlain 10 = .ok (.getfield 13, 3) := by decide +kernel
theorem d_Mo_setPlain_13 : decode b_Mo_setPlain 13 = .ok (.iload_n 1, 1) := by decide +kernel
theorem d_Mo_setPlain_14 : decode b_Mo_setPlain 14 = .ok (.lconst 0, 1) := by decide +kernel
theorem d_Mo_setPlain_15 : decode b_Mo_setPlain 15 = .ok (.lastore, 1) := by decide +kernel
theorem d_Mo_setPlain_16 : decode b_Mo_setPlain 16 = .ok (.iinc 1 1, 3) := by decide +kernel
theorem d_Mo_setPlain_19 : decode b_Mo_setPlain 19 = .ok (.goto (-17), 3) := by decide +kernel
theorem d_Mo_setPlain_22 : decode b_Mo_setPlain 22 = .ok (.aload_n 0, 1) := by decide +kernel
theorem d_Mo_setPlain_23 : decode b_Mo_setPlain 23 = .ok (.getfield 13, 3) := by decide +kernel
theorem d_Mo_setPlain_26 : decode b_Mo_setPlain 26 = .ok (.bipush 22, 2) := by decide +kernel
theorem d_Mo_setPlain_28 : decode b_Mo_setPlain 28 = .ok (.ldc2_w 102, 3) := by decide +kernel
theorem d_Mo_setPlain_31 : decode b_Mo_setPlain 31 = .ok (.lastore, 1) := by decide +kernel
theorem d_Mo_setPlain_32 : decode b_Mo_setPlain 32 = .ok (.aload_n 0, 1) := by decide +kernel
theorem d_Mo_setPlain_33 : decode b_Mo_setPlain 33 = .ok (.getfield 13, 3) := by decide +kernel
theorem d_Mo_setPlain_36 : decode b_Mo_setPlain 36 = .ok (.bipush 23, 2) := by decide +kernel
theorem d_Mo_setPlain_38 : decode b_Mo_setPlain 38 = .ok (.ldc2_w 112, 3) := by decide +kernel
theorem d_Mo_setPlain_41 : decode b_Mo_setPlain 41 = .ok (.lastore, 1) := by decide +kernel
theorem d_Mo_setPlain_42 : decode b_Mo_setPlain 42 = .ok (.aload_n 0, 1) := by decide +kernel
theorem d_Mo_setPlain_43 : decode b_Mo_setPlain 43 = .ok (.getfield 13, 3) := by decide +kernel
theorem d_Mo_setPlain_46 : decode b_Mo_setPlain 46 = .ok (.bipush 24, 2) := by decide +kernel
theorem d_Mo_setPlain_48 : decode b_Mo_setPlain 48 = .ok (.ldc2_w 114, 3) := by decide +kernel
theorem d_Mo_setPlain_51 : decode b_Mo_setPlain 51 = .ok (.lastore, 1) := by decide +kernel
theorem d_Mo_setPlain_52 : decode b_Mo_setPlain 52 = .ok (.aload_n 0, 1) := by decide +kernel
theorem d_Mo_setPlain_53 : decode b_Mo_setPlain 53 = .ok (.getfield 13, 3) := by decide +kernel
theorem d_Mo_setPlain_56 : decode b_Mo_setPlain 56 = .ok (.bipush 28, 2) := by decide +kernel
theorem d_Mo_setPlain_58 : decode b_Mo_setPlain 58 = .ok (.lconst 1, 1) := by decide +kernel
theorem d_Mo_setPlain_59 : decode b_Mo_setPlain 59 = .ok (.lastore, 1) := by decide +kernel
theorem d_Mo_setPlain_60 : decode b_Mo_setPlain 60 = .ok (.aload_n 0, 1) := by decide +kernel
theorem d_Mo_setPlain_61 : decode b_Mo_setPlain 61 = .ok (.getfield 13, 3) := by decide +kernel
theorem d_Mo_setPlain_64 : decode b_Mo_setPlain 64 = .ok (.bipush 32, 2) := by decide +kernel
theorem d_Mo_setPlain_66 : decode b_Mo_setPlain 66 = .ok (.ldc2_w 100, 3) := by decide +kernel
theorem d_Mo_setPlain_69 : decode b_Mo_setPlain 69 = .ok (.lastore, 1) := by decide +kernel
theorem d_Mo_setPlain_70 : decode b_Mo_setPlain 70 = .ok (.return_, 1) := by decide +kernel
theorem d_Mo_takeDraft_0 : decode b_Mo_takeDraft 0 = .ok (.iconst 0, 1) := by decide +kernel
theorem d_Mo_takeDraft_1 : decode b_Mo_takeDraft 1 = .ok (.istore_n 1, 1) := by decide +kernel
theorem d_Mo_takeDraft_2 : decode b_Mo_takeDraft 2 = .ok (.iload_n 1, 1) := by decide +kernel
theorem d_Mo_takeDraft_3 : decode b_Mo_takeDraft 3 = .ok (.sipush 215, 3) := by decide +kernel
theorem d_Mo_takeDraft_6 : decode b_Mo_takeDraft 6 = .ok (.if_icmp .ge 21, 3) := by decide +kernel
theorem d_Mo_takeDraft_9 : decode b_Mo_takeDraft 9 = .ok (.aload_n 0, 1) := by decide +kernel
theorem d_Mo_takeDraft_10 : decode b_Mo_takeDraft 10 = .ok (.getfield 7, 3) := by decide +kernel
theorem d_Mo_takeDraft_13 : decode b_Mo_takeDraft 13 = .ok (.iload_n 1, 1) := by decide +kernel
theorem d_Mo_takeDraft_14 : decode b_Mo_takeDraft 14 = .ok (.aload_n 0, 1) := by decide +kernel
theorem d_Mo_takeDraft_15 : decode b_Mo_takeDraft 15 = .ok (.getfield 13, 3) := by decide +kernel
theorem d_Mo_takeDraft_18 : decode b_Mo_takeDraft 18 = .ok (.iload_n 1, 1) := by decide +kernel
theorem d_Mo_takeDraft_19 : decode b_Mo_takeDraft 19 = .ok (.laload, 1) := by decide +kernel
theorem d_Mo_takeDraft_20 : decode b_Mo_takeDraft 20 = .ok (.lastore, 1) := by decide +kernel
theorem d_Mo_takeDraft_21 : decode b_Mo_takeDraft 21 = .ok (.iinc 1 1, 3) := by decide +kernel
theorem d_Mo_takeDraft_24 : decode b_Mo_takeDraft 24 = .ok (.goto (-22), 3) := by decide +kernel
theorem d_Mo_takeDraft_27 : decode b_Mo_takeDraft 27 = .ok (.return_, 1) := by decide +kernel
theorem d_Mo_isKind_0 : decode b_Mo_isKind 0 = .ok (.lload_n 0, 1) := by decide +kernel
theorem d_Mo_isKind_1 : decode b_Mo_isKind 1 = .ok (.lconst 0, 1) := by decide +kernel
theorem d_Mo_isKind_2 : decode b_Mo_isKind 2 = .ok (.ldc2_w 116, 3) := by decide +kernel
theorem d_Mo_isKind_5 : decode b_Mo_isKind 5 = .ok (.invokestatic 118, 3) := by decide +kernel
theorem d_Mo_isKind_8 : decode b_Mo_isKind 8 = .ok (.ireturn, 1) := by decide +kernel
theorem d_Mo_nominal_0 : decode b_Mo_nominal 0 = .ok (.ldc2_w 102, 3) := by decide +kernel
theorem d_Mo_nominal_3 : decode b_Mo_nominal 3 = .ok (.lload_n 0, 1) := by decide +kernel
theorem d_Mo_nominal_4 : decode b_Mo_nominal 4 = .ok (.l2i, 1) := by decide +kernel
theorem d_Mo_nominal_5 : decode b_Mo_nominal 5 = .ok (.invokestatic 122, 3) := by decide +kernel
theorem d_Mo_nominal_8 : decode b_Mo_nominal 8 = .ok (.lmul, 1) := by decide +kernel
theorem d_Mo_nominal_9 : decode b_Mo_nominal 9 = .ok (.lreturn, 1) := by decide +kernel
theorem d_Mo_ohmsOf_0 : decode b_Mo_ohmsOf 0 = .ok (.lload_n 1, 1) := by decide +kernel
theorem d_Mo_ohmsOf_1 : decode b_Mo_ohmsOf 1 = .ok (.invokestatic 126, 3) := by decide +kernel
theorem d_Mo_ohmsOf_4 : decode b_Mo_ohmsOf 4 = .ok (.lload_n 1, 1) := by decide +kernel
theorem d_Mo_ohmsOf_5 : decode b_Mo_ohmsOf 5 = .ok (.invokestatic 126, 3) := by decide +kernel
theorem d_Mo_ohmsOf_8 : decode b_Mo_ohmsOf 8 = .ok (.aload_n 0, 1) := by decide +kernel
theorem d_Mo_ohmsOf_9 : decode b_Mo_ohmsOf 9 = .ok (.getfield 7, 3) := by decide +kernel
theorem d_Mo_ohmsOf_12 : decode b_Mo_ohmsOf 12 = .ok (.bipush 7, 2) := by decide +kernel
theorem d_Mo_ohmsOf_14 : decode b_Mo_ohmsOf 14 = .ok (.lload_n 1, 1) := by decide +kernel
theorem d_Mo_ohmsOf_15 : decode b_Mo_ohmsOf 15 = .ok (.l2i, 1) := by decide +kernel
theorem d_Mo_ohmsOf_16 : decode b_Mo_ohmsOf 16 = .ok (.iadd, 1) := by decide +kernel
theorem d_Mo_ohmsOf_17 : decode b_Mo_ohmsOf 17 = .ok (.laload, 1) := by decide +kernel
theorem d_Mo_ohmsOf_18 : decode b_Mo_ohmsOf 18 = .ok (.lmul, 1) := by decide +kernel
theorem d_Mo_ohmsOf_19 : decode b_Mo_ohmsOf 19 = .ok (.ldc2_w 112, 3) := by decide +kernel
theorem d_Mo_ohmsOf_22 : decode b_Mo_ohmsOf 22 = .ok (.ldiv, 1) := by decide +kernel
theorem d_Mo_ohmsOf_23 : decode b_Mo_ohmsOf 23 = .ok (.ladd, 1) := by decide +kernel
theorem d_Mo_ohmsOf_24 : decode b_Mo_ohmsOf 24 = .ok (.lreturn, 1) := by decide +kernel
theorem d_Mo_decades_0 : decode b_Mo_decades 0 = .ok (.aload_n 0, 1) := by decide +kernel
theorem d_Mo_decades_1 : decode b_Mo_decades 1 = .ok (.getfield 7, 3) := by decide +kernel
theorem d_Mo_decades_4 : decode b_Mo_decades 4 = .ok (.iconst 0, 1) := by decide +kernel
theorem d_Mo_decades_5 : decode b_Mo_decades 5 = .ok (.laload, 1) := by decide +kernel
theorem d_Mo_decades_6 : decode b_Mo_decades 6 = .ok (.l2i, 1) := by decide +kernel
theorem d_Mo_decades_7 : decode b_Mo_decades 7 = .ok (.ireturn, 1) := by decide +kernel
theorem d_Mo_settings_0 : decode b_Mo_settings 0 = .ok (.aload_n 0, 1) := by decide +kernel
theorem d_Mo_settings_1 : decode b_Mo_settings 1 = .ok (.invokevirtual 130, 3) := by decide +kernel
theorem d_Mo_settings_4 : decode b_Mo_settings 4 = .ok (.invokestatic 122, 3) := by decide +kernel
theorem d_Mo_settings_7 : decode b_Mo_settings 7 = .ok (.l2i, 1) := by decide +kernel
theorem d_Mo_settings_8 : decode b_Mo_settings 8 = .ok (.ireturn, 1) := by decide +kernel
theorem d_Mo_stepOf_0 : decode b_Mo_stepOf 0 = .ok (.aload_n 0, 1) := by decide +kernel
theorem d_Mo_stepOf_1 : decode b_Mo_stepOf 1 = .ok (.getfield 7, 3) := by decide +kernel
theorem d_Mo_stepOf_4 : decode b_Mo_stepOf 4 = .ok (.iconst 1, 1) := by decide +kernel
theorem d_Mo_stepOf_5 : decode b_Mo_stepOf 5 = .ok (.laload, 1) := by decide +kernel
theorem d_Mo_stepOf_6 : decode b_Mo_stepOf 6 = .ok (.aload_n 0, 1) := by decide +kernel
theorem d_Mo_stepOf_7 : decode b_Mo_stepOf 7 = .ok (.invokevirtual 130, 3) := by decide +kernel
theorem d_Mo_stepOf_10 : decode b_Mo_stepOf 10 = .ok (.iconst 1, 1) := by decide +kernel
theorem d_Mo_stepOf_11 : decode b_Mo_stepOf 11 = .ok (.isub, 1) := by decide +kernel
theorem d_Mo_stepOf_12 : decode b_Mo_stepOf 12 = .ok (.iload_n 1, 1) := by decide +kernel
theorem d_Mo_stepOf_13 : decode b_Mo_stepOf 13 = .ok (.isub, 1) := by decide +kernel
theorem d_Mo_stepOf_14 : decode b_Mo_stepOf 14 = .ok (.invokestatic 122, 3) := by decide +kernel
theorem d_Mo_stepOf_17 : decode b_Mo_stepOf 17 = .ok (.lmul, 1) := by decide +kernel
theorem d_Mo_stepOf_18 : decode b_Mo_stepOf 18 = .ok (.lreturn, 1) := by decide +kernel
theorem d_Mo_setting_0 : decode b_Mo_setting 0 = .ok (.iconst 0, 1) := by decide +kernel
theorem d_Mo_setting_1 : decode b_Mo_setting 1 = .ok (.istore_n 1, 1) := by decide +kernel
theorem d_Mo_setting_2 : decode b_Mo_setting 2 = .ok (.iconst 0, 1) := by decide +kernel
theorem d_Mo_setting_3 : decode b_Mo_setting 3 = .ok (.istore_n 2, 1) := by decide +kernel
theorem d_Mo_setting_4 : decode b_Mo_setting 4 = .ok (.iload_n 2, 1) := by decide +kernel
theorem d_Mo_setting_5 : decode b_Mo_setting 5 = .ok (.aload_n 0, 1) := by decide +kernel
theorem d_Mo_setting_6 : decode b_Mo_setting 6 = .ok (.invokevirtual 130, 3) := by decide +kernel
theorem d_Mo_setting_9 : decode b_Mo_setting 9 = .ok (.if_icmp .ge 25, 3) := by decide +kernel
theorem d_Mo_setting_12 : decode b_Mo_setting 12 = .ok (.bipush 10, 2) := by decide +kernel
theorem d_Mo_setting_14 : decode b_Mo_setting 14 = .ok (.iload_n 1, 1) := by decide +kernel
theorem d_Mo_setting_15 : decode b_Mo_setting 15 = .ok (.imul, 1) := by decide +kernel
theorem d_Mo_setting_16 : decode b_Mo_setting 16 = .ok (.aload_n 0, 1) := by decide +kernel
theorem d_Mo_setting_17 : decode b_Mo_setting 17 = .ok (.getfield 7, 3) := by decide +kernel
theorem d_Mo_setting_20 : decode b_Mo_setting 20 = .ok (.bipush 33, 2) := by decide +kernel
theorem d_Mo_setting_22 : decode b_Mo_setting 22 = .ok (.iload_n 2, 1) := by decide +kernel
theorem d_Mo_setting_23 : decode b_Mo_setting 23 = .ok (.iadd, 1) := by decide +kernel
theorem d_Mo_setting_24 : decode b_Mo_setting 24 = .ok (.laload, 1) := by decide +kernel
theorem d_Mo_setting_25 : decode b_Mo_setting 25 = .ok (.l2i, 1) := by decide +kernel
theorem d_Mo_setting_26 : decode b_Mo_setting 26 = .ok (.iadd, 1) := by decide +kernel
theorem d_Mo_setting_27 : decode b_Mo_setting 27 = .ok (.istore_n 1, 1) := by decide +kernel
theorem d_Mo_setting_28 : decode b_Mo_setting 28 = .ok (.iinc 2 1, 3) := by decide +kernel
theorem d_Mo_setting_31 : decode b_Mo_setting 31 = .ok (.goto (-27), 3) := by decide +kernel
theorem d_Mo_setting_34 : decode b_Mo_setting 34 = .ok (.iload_n 1, 1) := by decide +kernel
theorem d_Mo_setting_35 : decode b_Mo_setting 35 = .ok (.ireturn, 1) := by decide +kernel
theorem d_Mo_laySetting_0 : decode b_Mo_laySetting 0 = .ok (.iload_n 1, 1) := by decide +kernel
theorem d_Mo_laySetting_1 : decode b_Mo_laySetting 1 = .ok (.istore_n 2, 1) := by decide +kernel
theorem d_Mo_laySetting_2 : decode b_Mo_laySetting 2 = .ok (.aload_n 0, 1) := by decide +kernel
theorem d_Mo_laySetting_3 : decode b_Mo_laySetting 3 = .ok (.invokevirtual 130, 3) := by decide +kernel
theorem d_Mo_laySetting_6 : decode b_Mo_laySetting 6 = .ok (.iconst 1, 1) := by decide +kernel
theorem d_Mo_laySetting_7 : decode b_Mo_laySetting 7 = .ok (.isub, 1) := by decide +kernel
theorem d_Mo_laySetting_8 : decode b_Mo_laySetting 8 = .ok (.istore_n 3, 1) := by decide +kernel
theorem d_Mo_laySetting_9 : decode b_Mo_laySetting 9 = .ok (.iload_n 3, 1) := by decide +kernel
theorem d_Mo_laySetting_10 : decode b_Mo_laySetting 10 = .ok (.ifCond .lt 28, 3) := by decide +kernel
theorem d_Mo_laySetting_13 : decode b_Mo_laySetting 13 = .ok (.aload_n 0, 1) := by decide +kernel
theorem d_Mo_laySetting_14 : decode b_Mo_laySetting 14 = .ok (.getfield 7, 3) := by decide +kernel
theorem d_Mo_laySetting_17 : decode b_Mo_laySetting 17 = .ok (.bipush 33, 2) := by decide +kernel
theorem d_Mo_laySetting_19 : decode b_Mo_laySetting 19 = .ok (.iload_n 3, 1) := by decide +kernel
theorem d_Mo_laySetting_20 : decode b_Mo_laySetting 20 = .ok (.iadd, 1) := by decide +kernel
theorem d_Mo_laySetting_21 : decode b_Mo_laySetting 21 = .ok (.iload_n 2, 1) := by decide +kernel
theorem d_Mo_laySetting_22 : decode b_Mo_laySetting 22 = .ok (.bipush 10, 2) := by decide +kernel
theorem d_Mo_laySetting_24 : decode b_Mo_laySetting 24 = .ok (.irem, 1) := by decide +kernel
theorem d_Mo_laySetting_25 : decode b_Mo_laySetting 25 = .ok (.i2l, 1) := by decide +kernel
theorem d_Mo_laySetting_26 : decode b_Mo_laySetting 26 = .ok (.lastore, 1) := by decide +kernel
theorem d_Mo_laySetting_27 : decode b_Mo_laySetting 27 = .ok (.iload_n 2, 1) := by decide +kernel
theorem d_Mo_laySetting_28 : decode b_Mo_laySetting 28 = .ok (.bipush 10, 2) := by decide +kernel
theorem d_Mo_laySetting_30 : decode b_Mo_laySetting 30 = .ok (.idiv, 1) := by decide +kernel
theorem d_Mo_laySetting_31 : decode b_Mo_laySetting 31 = .ok (.istore_n 2, 1) := by decide +kernel
theorem d_Mo_laySetting_32 : decode b_Mo_laySetting 32 = .ok (.iinc 3 (-1), 3) := by decide +kernel
theorem d_Mo_laySetting_35 : decode b_Mo_laySetting 35 = .ok (.goto (-26), 3) := by decide +kernel
theorem d_Mo_laySetting_38 : decode b_Mo_laySetting 38 = .ok (.return_, 1) := by decide +kernel
theorem d_Mo_coldBy_0 : decode b_Mo_coldBy 0 = .ok (.lconst 0, 1) := by decide +kernel
theorem d_Mo_coldBy_1 : decode b_Mo_coldBy 1 = .ok (.lstore_n 2, 1) := by decide +kernel
theorem d_Mo_coldBy_2 : decode b_Mo_coldBy 2 = .ok (.iload_n 1, 1) := by decide +kernel
theorem d_Mo_coldBy_3 : decode b_Mo_coldBy 3 = .ok (.istore 4, 2) := by decide +kernel
theorem d_Mo_coldBy_5 : decode b_Mo_coldBy 5 = .ok (.aload_n 0, 1) := by decide +kernel
theorem d_Mo_coldBy_6 : decode b_Mo_coldBy 6 = .ok (.invokevirtual 130, 3) := by decide +kernel
theorem d_Mo_coldBy_9 : decode b_Mo_coldBy 9 = .ok (.iconst 1, 1) := by decide +kernel
theorem d_Mo_coldBy_10 : decode b_Mo_coldBy 10 = .ok (.isub, 1) := by decide +kernel
theorem d_Mo_coldBy_11 : decode b_Mo_coldBy 11 = .ok (.istore 5, 2) := by decide +kernel
theorem d_Mo_coldBy_13 : decode b_Mo_coldBy 13 = .ok (.iload 5, 2) := by decide +kernel
theorem d_Mo_coldBy_15 : decode b_Mo_coldBy 15 = .ok (.ifCond .lt 46, 3) := by decide +kernel
theorem d_Mo_coldBy_18 : decode b_Mo_coldBy 18 = .ok (.lload_n 2, 1) := by decide +kernel
theorem d_Mo_coldBy_19 : decode b_Mo_coldBy 19 = .ok (.iload 4, 2) := by decide +kernel
theorem d_Mo_coldBy_21 : decode b_Mo_coldBy 21 = .ok (.bipush 10, 2) := by decide +kernel
theorem d_Mo_coldBy_23 : decode b_Mo_coldBy 23 = .ok (.irem, 1) := by decide +kernel
theorem d_Mo_coldBy_24 : decode b_Mo_coldBy 24 = .ok (.i2l, 1) := by decide +kernel
theorem d_Mo_coldBy_25 : decode b_Mo_coldBy 25 = .ok (.aload_n 0, 1) := by decide +kernel
theorem d_Mo_coldBy_26 : decode b_Mo_coldBy 26 = .ok (.iload 5, 2) := by decide +kernel
theorem d_Mo_coldBy_28 : decode b_Mo_coldBy 28 = .ok (.invokevirtual 134, 3) := by decide +kernel
theorem d_Mo_coldBy_31 : decode b_Mo_coldBy 31 = .ok (.lmul, 1) := by decide +kernel
theorem d_Mo_coldBy_32 : decode b_Mo_coldBy 32 = .ok (.ldc2_w 112, 3) := by decide +kernel
theorem d_Mo_coldBy_35 : decode b_Mo_coldBy 35 = .ok (.aload_n 0, 1) := by decide +kernel
theorem d_Mo_coldBy_36 : decode b_Mo_coldBy 36 = .ok (.getfield 7, 3) := by decide +kernel
theorem d_Mo_coldBy_39 : decode b_Mo_coldBy 39 = .ok (.iconst 3, 1) := by decide +kernel
theorem d_Mo_coldBy_40 : decode b_Mo_coldBy 40 = .ok (.iload 5, 2) := by decide +kernel
theorem d_Mo_coldBy_42 : decode b_Mo_coldBy 42 = .ok (.iadd, 1) := by decide +kernel
theorem d_Mo_coldBy_43 : decode b_Mo_coldBy 43 = .ok (.laload, 1) := by decide +kernel
theorem d_Mo_coldBy_44 : decode b_Mo_coldBy 44 = .ok (.ladd, 1) := by decide +kernel
theorem d_Mo_coldBy_45 : decode b_Mo_coldBy 45 = .ok (.lmul, 1) := by decide +kernel
theorem d_Mo_coldBy_46 : decode b_Mo_coldBy 46 = .ok (.ladd, 1) := by decide +kernel
theorem d_Mo_coldBy_47 : decode b_Mo_coldBy 47 = .ok (.lstore_n 2, 1) := by decide +kernel
theorem d_Mo_coldBy_48 : decode b_Mo_coldBy 48 = .ok (.iload 4, 2) := by decide +kernel
theorem d_Mo_coldBy_50 : decode b_Mo_coldBy 50 = .ok (.bipush 10, 2) := by decide +kernel
theorem d_Mo_coldBy_52 : decode b_Mo_coldBy 52 = .ok (.idiv, 1) := by decide +kernel
theorem d_Mo_coldBy_53 : decode b_Mo_coldBy 53 = .ok (.istore 4, 2) := by decide +kernel
theorem d_Mo_coldBy_55 : decode b_Mo_coldBy 55 = .ok (.iinc 5 (-1), 3) := by decide +kernel
theorem d_Mo_coldBy_58 : decode b_Mo_coldBy 58 = .ok (.goto (-45), 3) := by decide +kernel
theorem d_Mo_coldBy_61 : decode b_Mo_coldBy 61 = .ok (.lload_n 2, 1) := by decide +kernel
theorem d_Mo_coldBy_62 : decode b_Mo_coldBy 62 = .ok (.ldc2_w 112, 3) := by decide +kernel
theorem d_Mo_coldBy_65 : decode b_Mo_coldBy 65 = .ok (.ldiv, 1) := by decide +kernel
theorem d_Mo_coldBy_66 : decode b_Mo_coldBy 66 = .ok (.aload_n 0, 1) := by decide +kernel
theorem d_Mo_coldBy_67 : decode b_Mo_coldBy 67 = .ok (.getfield 7, 3) := by decide +kernel
theorem d_Mo_coldBy_70 : decode b_Mo_coldBy 70 = .ok (.iconst 2, 1) := by decide +kernel
theorem d_Mo_coldBy_71 : decode b_Mo_coldBy 71 = .ok (.laload, 1) := by decide +kernel
theorem d_Mo_coldBy_72 : decode b_Mo_coldBy 72 = .ok (.ladd, 1) := by decide +kernel
theorem d_Mo_coldBy_73 : decode b_Mo_coldBy 73 = .ok (.lreturn, 1) := by decide +kernel
theorem d_Mo_warm_0 : decode b_Mo_warm 0 = .ok (.lload_n 0, 1) := by decide +kernel
theorem d_Mo_warm_1 : decode b_Mo_warm 1 = .ok (.ldc2_w 137, 3) := by decide +kernel
theorem d_Mo_warm_4 : decode b_Mo_warm 4 = .ok (.lload_n 2, 1) := by decide +kernel
theorem d_Mo_warm_5 : decode b_Mo_warm 5 = .ok (.lload 4, 2) := by decide +kernel
theorem d_Mo_warm_7 : decode b_Mo_warm 7 = .ok (.lmul, 1) := by decide +kernel
theorem d_Mo_warm_8 : decode b_Mo_warm 8 = .ok (.ladd, 1) := by decide +kernel
theorem d_Mo_warm_9 : decode b_Mo_warm 9 = .ok (.lmul, 1) := by decide +kernel
theorem d_Mo_warm_10 : decode b_Mo_warm 10 = .ok (.ldc2_w 137, 3) := by decide +kernel
theorem d_Mo_warm_13 : decode b_Mo_warm 13 = .ok (.ldiv, 1) := by decide +kernel
theorem d_Mo_warm_14 : decode b_Mo_warm 14 = .ok (.lreturn, 1) := by decide +kernel
theorem d_Mo_unknownWarm_0 : decode b_Mo_unknownWarm 0 = .ok (.aload_n 0, 1) := by decide +kernel
theorem d_Mo_unknownWarm_1 : decode b_Mo_unknownWarm 1 = .ok (.getfield 7, 3) := by decide +kernel
theorem d_Mo_unknownWarm_4 : decode b_Mo_unknownWarm 4 = .ok (.bipush 12, 2) := by decide +kernel
theorem d_Mo_unknownWarm_6 : decode b_Mo_unknownWarm 6 = .ok (.laload, 1) := by decide +kernel
theorem d_Mo_unknownWarm_7 : decode b_Mo_unknownWarm 7 = .ok (.aload_n 0, 1) := by decide +kernel
theorem d_Mo_unknownWarm_8 : decode b_Mo_unknownWarm 8 = .ok (.getfield 7, 3) := by decide +kernel
theorem d_Mo_unknownWarm_11 : decode b_Mo_unknownWarm 11 = .ok (.bipush 13, 2) := by decide +kernel
theorem d_Mo_unknownWarm_13 : decode b_Mo_unknownWarm 13 = .ok (.laload, 1) := by decide +kernel
theorem d_Mo_unknownWarm_14 : decode b_Mo_unknownWarm 14 = .ok (.aload_n 0, 1) := by decide +kernel
theorem d_Mo_unknownWarm_15 : decode b_Mo_unknownWarm 15 = .ok (.getfield 7, 3) := by decide +kernel
theorem d_Mo_unknownWarm_18 : decode b_Mo_unknownWarm 18 = .ok (.bipush 37, 2) := by decide +kernel
theorem d_Mo_unknownWarm_20 : decode b_Mo_unknownWarm 20 = .ok (.laload, 1) := by decide +kernel
theorem d_Mo_unknownWarm_21 : decode b_Mo_unknownWarm 21 = .ok (.invokestatic 139, 3) := by decide +kernel
theorem d_Mo_unknownWarm_24 : decode b_Mo_unknownWarm 24 = .ok (.lreturn, 1) := by decide +kernel
theorem d_Mo_boxWarm_0 : decode b_Mo_boxWarm 0 = .ok (.aload_n 0, 1) := by decide +kernel
theorem d_Mo_boxWarm_1 : decode b_Mo_boxWarm 1 = .ok (.iload_n 1, 1) := by decide +kernel
theorem d_Mo_boxWarm_2 : decode b_Mo_boxWarm 2 = .ok (.invokevirtual 143, 3) := by decide +kernel
theorem d_Mo_boxWarm_5 : decode b_Mo_boxWarm 5 = .ok (.aload_n 0, 1) := by decide +kernel
theorem d_Mo_boxWarm_6 : decode b_Mo_boxWarm 6 = .ok (.getfield 7, 3) := by decide +kernel
theorem d_Mo_boxWarm_9 : decode b_Mo_boxWarm 9 = .ok (.bipush 16, 2) := by decide +kernel
theorem d_Mo_boxWarm_11 : decode b_Mo_boxWarm 11 = .ok (.laload, 1) := by decide +kernel
theorem d_Mo_boxWarm_12 : decode b_Mo_boxWarm 12 = .ok (.aload_n 0, 1) := by decide +kernel
theorem d_Mo_boxWarm_13 : decode b_Mo_boxWarm 13 = .ok (.getfield 7, 3) := by decide +kernel
theorem d_Mo_boxWarm_16 : decode b_Mo_boxWarm 16 = .ok (.bipush 38, 2) := by decide +kernel
theorem d_Mo_boxWarm_18 : decode b_Mo_boxWarm 18 = .ok (.laload, 1) := by decide +kernel
theorem d_Mo_boxWarm_19 : decode b_Mo_boxWarm 19 = .ok (.invokestatic 139, 3) := by decide +kernel
theorem d_Mo_boxWarm_22 : decode b_Mo_boxWarm 22 = .ok (.lreturn, 1) := by decide +kernel
theorem d_Mo_unknownSide_0 : decode b_Mo_unknownSide 0 = .ok (.aload_n 0, 1) := by decide +kernel
theorem d_Mo_unknownSide_1 : decode b_Mo_unknownSide 1 = .ok (.invokevirtual 146, 3) := by decide +kernel
theorem d_Mo_unknownSide_4 : decode b_Mo_unknownSide 4 = .ok (.aload_n 0, 1) := by decide +kernel
theorem d_Mo_unknownSide_5 : decode b_Mo_unknownSide 5 = .ok (.getfield 7, 3) := by decide +kernel
theorem d_Mo_unknownSide_8 : decode b_Mo_unknownSide 8 = .ok (.bipush 19, 2) := by decide +kernel
theorem d_Mo_unknownSide_10 : decode b_Mo_unknownSide 10 = .ok (.laload, 1) := by decide +kernel
theorem d_Mo_unknownSide_11 : decode b_Mo_unknownSide 11 = .ok (.ladd, 1) := by decide +kernel
theorem d_Mo_unknownSide_12 : decode b_Mo_unknownSide 12 = .ok (.lload_n 1, 1) := by decide +kernel
theorem d_Mo_unknownSide_13 : decode b_Mo_unknownSide 13 = .ok (.ldc2_w 100, 3) := by decide +kernel
theorem d_Mo_unknownSide_16 : decode b_Mo_unknownSide 16 = .ok (.lcmp, 1) := by decide +kernel
theorem d_Mo_unknownSide_17 : decode b_Mo_unknownSide 17 = .ok (.ifCond .ne 13, 3) := by decide +kernel
theorem d_Mo_unknownSide_20 : decode b_Mo_unknownSide 20 = .ok (.aload_n 0, 1) := by decide +kernel
theorem d_Mo_unknownSide_21 : decode b_Mo_unknownSide 21 = .ok (.getfield 7, 3) := by decide +kernel
theorem d_Mo_unknownSide_24 : decode b_Mo_unknownSide 24 = .ok (.bipush 20, 2) := by decide +kernel
theorem d_Mo_unknownSide_26 : decode b_Mo_unknownSide 26 = .ok (.laload, 1) := by decide +kernel
theorem d_Mo_unknownSide_27 : decode b_Mo_unknownSide 27 = .ok (.goto 4, 3) := by decide +kernel
theorem d_Mo_unknownSide_30 : decode b_Mo_unknownSide 30 = .ok (.lconst 0, 1) := by decide +kernel
theorem d_Mo_unknownSide_31 : decode b_Mo_unknownSide 31 = .ok (.ladd, 1) := by decide +kernel
theorem d_Mo_unknownSide_32 : decode b_Mo_unknownSide 32 = .ok (.lreturn, 1) := by decide +kernel
theorem d_Mo_boxSide_0 : decode b_Mo_boxSide 0 = .ok (.aload_n 0, 1) := by decide +kernel
theorem d_Mo_boxSide_1 : decode b_Mo_boxSide 1 = .ok (.iload_n 1, 1) := by decide +kernel
theorem d_Mo_boxSide_2 : decode b_Mo_boxSide 2 = .ok (.invokevirtual 150, 3) := by decide +kernel
theorem d_Mo_boxSide_5 : decode b_Mo_boxSide 5 = .ok (.lload_n 2, 1) := by decide +kernel
theorem d_Mo_boxSide_6 : decode b_Mo_boxSide 6 = .ok (.ldc2_w 153, 3) := by decide +kernel
theorem d_Mo_boxSide_9 : decode b_Mo_boxSide 9 = .ok (.lcmp, 1) := by decide +kernel
theorem d_Mo_boxSide_10 : decode b_Mo_boxSide 10 = .ok (.ifCond .ne 13, 3) := by decide +kernel
theorem d_Mo_boxSide_13 : decode b_Mo_boxSide 13 = .ok (.aload_n 0, 1) := by decide +kernel
theorem d_Mo_boxSide_14 : decode b_Mo_boxSide 14 = .ok (.getfield 7, 3) := by decide +kernel
theorem d_Mo_boxSide_17 : decode b_Mo_boxSide 17 = .ok (.bipush 20, 2) := by decide +kernel
theorem d_Mo_boxSide_19 : decode b_Mo_boxSide 19 = .ok (.laload, 1) := by decide +kernel
theorem d_Mo_boxSide_20 : decode b_Mo_boxSide 20 = .ok (.goto 4, 3) := by decide +kernel
theorem d_Mo_boxSide_23 : decode b_Mo_boxSide 23 = .ok (.lconst 0, 1) := by decide +kernel
theorem d_Mo_boxSide_24 : decode b_Mo_boxSide 24 = .ok (.ladd, 1) := by decide +kernel
theorem d_Mo_boxSide_25 : decode b_Mo_boxSide 25 = .ok (.lreturn, 1) := by decide +kernel
theorem d_Mo_unknownShare_0 : decode b_Mo_unknownShare 0 = .ok (.aload_n 0, 1) := by decide +kernel
theorem d_Mo_unknownShare_1 : decode b_Mo_unknownShare 1 = .ok (.lload_n 2, 1) := by decide +kernel
theorem d_Mo_unknownShare_2 : decode b_Mo_unknownShare 2 = .ok (.invokevirtual 155, 3) := by decide +kernel
theorem d_Mo_unknownShare_5 : decode b_Mo_unknownShare 5 = .ok (.lstore 4, 2) := by decide +kernel
theorem d_Mo_unknownShare_7 : decode b_Mo_unknownShare 7 = .ok (.ldc2_w 137, 3) := by decide +kernel
theorem d_Mo_unknownShare_10 : decode b_Mo_unknownShare 10 = .ok (.lload 4, 2) := by decide +kernel
theorem d_Mo_unknownShare_12 : decode b_Mo_unknownShare 12 = .ok (.lmul, 1) := by decide +kernel
theorem d_Mo_unknownShare_13 : decode b_Mo_unknownShare 13 = .ok (.aload_n 0, 1) := by decide +kernel
theorem d_Mo_unknownShare_14 : decode b_Mo_unknownShare 14 = .ok (.iload_n 1, 1) := by decide +kernel
theorem d_Mo_unknownShare_15 : decode b_Mo_unknownShare 15 = .ok (.lload_n 2, 1) := by decide +kernel
theorem d_Mo_unknownShare_16 : decode b_Mo_unknownShare 16 = .ok (.invokevirtual 158, 3) := by decide +kernel
theorem d_Mo_unknownShare_19 : decode b_Mo_unknownShare 19 = .ok (.lload 4, 2) := by decide +kernel
theorem d_Mo_unknownShare_21 : decode b_Mo_unknownShare 21 = .ok (.ladd, 1) := by decide +kernel
theorem d_Mo_unknownShare_22 : decode b_Mo_unknownShare 22 = .ok (.ldiv, 1) := by decide +kernel
theorem d_Mo_unknownShare_23 : decode b_Mo_unknownShare 23 = .ok (.lreturn, 1) := by decide +kernel
theorem d_Mo_armsShare_0 : decode b_Mo_armsShare 0 = .ok (.ldc2_w 137, 3) := by decide +kernel
theorem d_Mo_armsShare_3 : decode b_Mo_armsShare 3 = .ok (.aload_n 0, 1) := by decide +kernel
theorem d_Mo_armsShare_4 : decode b_Mo_armsShare 4 = .ok (.lload_n 3, 1) := by decide +kernel
theorem d_Mo_armsShare_5 : decode b_Mo_armsShare 5 = .ok (.invokevirtual 162, 3) := by decide +kernel
theorem d_Mo_armsShare_8 : decode b_Mo_armsShare 8 = .ok (.lmul, 1) := by decide +kernel
theorem d_Mo_armsShare_9 : decode b_Mo_armsShare 9 = .ok (.aload_n 0, 1) := by decide +kernel
theorem d_Mo_armsShare_10 : decode b_Mo_armsShare 10 = .ok (.lload_n 1, 1) := by decide +kernel
theorem d_Mo_armsShare_11 : decode b_Mo_armsShare 11 = .ok (.invokevirtual 162, 3) := by decide +kernel
theorem d_Mo_armsShare_14 : decode b_Mo_armsShare 14 = .ok (.aload_n 0, 1) := by decide +kernel
theorem d_Mo_armsShare_15 : decode b_Mo_armsShare 15 = .ok (.lload_n 3, 1) := by decide +kernel
theorem d_Mo_armsShare_16 : decode b_Mo_armsShare 16 = .ok (.invokevirtual 162, 3) := by decide +kernel
theorem d_Mo_armsShare_19 : decode b_Mo_armsShare 19 = .ok (.ladd, 1) := by decide +kernel
theorem d_Mo_armsShare_20 : decode b_Mo_armsShare 20 = .ok (.ldiv, 1) := by decide +kernel
theorem d_Mo_armsShare_21 : decode b_Mo_armsShare 21 = .ok (.lreturn, 1) := by decide +kernel
theorem d_Mo_plainDeflection_0 : decode b_Mo_plainDeflection 0 = .ok (.aload_n 0, 1) := by decide +kernel
theorem d_Mo_plainDeflection_1 : decode b_Mo_plainDeflection 1 = .ok (.getfield 7, 3) := by decide +kernel
theorem d_Mo_plainDeflection_4 : decode b_Mo_plainDeflection 4 = .ok (.bipush 22, 2) := by decide +kernel
theorem d_Mo_plainDeflection_6 : decode b_Mo_plainDeflection 6 = .ok (.laload, 1) := by decide +kernel
theorem d_Mo_plainDeflection_7 : decode b_Mo_plainDeflection 7 = .ok (.aload_n 0, 1) := by decide +kernel
theorem d_Mo_plainDeflection_8 : decode b_Mo_plainDeflection 8 = .ok (.iload_n 1, 1) := by decide +kernel
theorem d_Mo_plainDeflection_9 : decode b_Mo_plainDeflection 9 = .ok (.lload 6, 2) := by decide +kernel
theorem d_Mo_plainDeflection_11 : decode b_Mo_plainDeflection 11 = .ok (.invokevirtual 165, 3) := by decide +kernel
theorem d_Mo_plainDeflection_14 : decode b_Mo_plainDeflection 14 = .ok (.aload_n 0, 1) := by decide +kernel
theorem d_Mo_plainDeflection_15 : decode b_Mo_plainDeflection 15 = .ok (.lload_n 2, 1) := by decide +kernel
theorem d_Mo_plainDeflection_16 : decode b_Mo_plainDeflection 16 = .ok (.lload 4, 2) := by decide +kernel
theorem d_Mo_plainDeflection_18 : decode b_Mo_plainDeflection 18 = .ok (.invokevirtual 168, 3) := by decide +kernel
theorem d_Mo_plainDeflection_21 : decode b_Mo_plainDeflection 21 = .ok (.lsub, 1) := by decide +kernel
theorem d_Mo_plainDeflection_22 : decode b_Mo_plainDeflection 22 = .ok (.lmul, 1) := by decide +kernel
theorem d_Mo_plainDeflection_23 : decode b_Mo_plainDeflection 23 = .ok (.ldc2_w 102, 3) := by decide +kernel
theorem d_Mo_plainDeflection_26 : decode b_Mo_plainDeflection 26 = .ok (.ldiv, 1) := by decide +kernel
theorem d_Mo_plainDeflection_27 : decode b_Mo_plainDeflection 27 = .ok (.lreturn, 1) := by decide +kernel
theorem d_Mo_plainNow_0 : decode b_Mo_plainNow 0 = .ok (.aload_n 0, 1) := by decide +kernel
theorem d_Mo_plainNow_1 : decode b_Mo_plainNow 1 = .ok (.iload_n 1, 1) := by decide +kernel
theorem d_Mo_plainNow_2 : decode b_Mo_plainNow 2 = .ok (.aload_n 0, 1) := by decide +kernel
theorem d_Mo_plainNow_3 : decode b_Mo_plainNow 3 = .ok (.getfield 7, 3) := by decide +kernel
theorem d_Mo_plainNow_6 : decode b_Mo_plainNow 6 = .ok (.bipush 29, 2) := by decide +kernel
theorem d_Mo_plainNow_8 : decode b_Mo_plainNow 8 = .ok (.laload, 1) := by decide +kernel
theorem d_Mo_plainNow_9 : decode b_Mo_plainNow 9 = .ok (.aload_n 0, 1) := by decide +kernel
theorem d_Mo_plainNow_10 : decode b_Mo_plainNow 10 = .ok (.getfield 7, 3) := by decide +kernel
theorem d_Mo_plainNow_13 : decode b_Mo_plainNow 13 = .ok (.bipush 30, 2) := by decide +kernel
theorem d_Mo_plainNow_15 : decode b_Mo_plainNow 15 = .ok (.laload, 1) := by decide +kernel
theorem d_Mo_plainNow_16 : decode b_Mo_plainNow 16 = .ok (.aload_n 0, 1) := by decide +kernel
theorem d_Mo_plainNow_17 : decode b_Mo_plainNow 17 = .ok (.getfield 7, 3) := by decide +kernel
theorem d_Mo_plainNow_20 : decode b_Mo_plainNow 20 = .ok (.bipush 32, 2) := by decide +kernel
theorem d_Mo_plainNow_22 : decode b_Mo_plainNow 22 = .ok (.laload, 1) := by decide +kernel
theorem d_Mo_plainNow_23 : decode b_Mo_plainNow 23 = .ok (.invokevirtual 172, 3) := by decide +kernel
theorem d_Mo_plainNow_26 : decode b_Mo_plainNow 26 = .ok (.lreturn, 1) := by decide +kernel
theorem d_Mo_deflectionNow_0 : decode b_Mo_deflectionNow 0 = .ok (.aload_n 0, 1) := by decide +kernel
theorem d_Mo_deflectionNow_1 : decode b_Mo_deflectionNow 1 = .ok (.aload_n 0, 1) := by decide +kernel
theorem d_Mo_deflectionNow_2 : decode b_Mo_deflectionNow 2 = .ok (.invokevirtual 176, 3) := by decide +kernel
theorem d_Mo_deflectionNow_5 : decode b_Mo_deflectionNow 5 = .ok (.invokevirtual 179, 3) := by decide +kernel
theorem d_Mo_deflectionNow_8 : decode b_Mo_deflectionNow 8 = .ok (.lstore_n 1, 1) := by decide +kernel
theorem d_Mo_deflectionNow_9 : decode b_Mo_deflectionNow 9 = .ok (.aload_n 0, 1) := by decide +kernel
theorem d_Mo_deflectionNow_10 : decode b_Mo_deflectionNow 10 = .ok (.getfield 7, 3) := by decide +kernel
theorem d_Mo_deflectionNow_13 : decode b_Mo_deflectionNow 13 = .ok (.bipush 31, 2) := by decide +kernel
theorem d_Mo_deflectionNow_15 : decode b_Mo_deflectionNow 15 = .ok (.laload, 1) := by decide +kernel
theorem d_Mo_deflectionNow_16 : decode b_Mo_deflectionNow 16 = .ok (.lconst 1, 1) := by decide +kernel
theorem d_Mo_deflectionNow_17 : decode b_Mo_deflectionNow 17 = .ok (.lcmp, 1) := by decide +kernel
theorem d_Mo_deflectionNow_18 : decode b_Mo_deflectionNow 18 = .ok (.ifCond .ne 8, 3) := by decide +kernel
theorem d_Mo_deflectionNow_21 : decode b_Mo_deflectionNow 21 = .ok (.lload_n 1, 1) := by decide +kernel
theorem d_Mo_deflectionNow_22 : decode b_Mo_deflectionNow 22 = .ok (.lneg, 1) := by decide +kernel
theorem d_Mo_deflectionNow_23 : decode b_Mo_deflectionNow 23 = .ok (.goto 4, 3) := by decide +kernel
theorem d_Mo_deflectionNow_26 : decode b_Mo_deflectionNow 26 = .ok (.lload_n 1, 1) := by decide +kernel
theorem d_Mo_deflectionNow_27 : decode b_Mo_deflectionNow 27 = .ok (.lreturn, 1) := by decide +kernel
theorem d_Mo_currentNow_0 : decode b_Mo_currentNow 0 = .ok (.ldc2_w 112, 3) := by decide +kernel
theorem d_Mo_currentNow_3 : decode b_Mo_currentNow 3 = .ok (.aload_n 0, 1) := by decide +kernel
theorem d_Mo_currentNow_4 : decode b_Mo_currentNow 4 = .ok (.getfield 7, 3) := by decide +kernel
theorem d_Mo_currentNow_7 : decode b_Mo_currentNow 7 = .ok (.bipush 22, 2) := by decide +kernel
theorem d_Mo_currentNow_9 : decode b_Mo_currentNow 9 = .ok (.laload, 1) := by decide +kernel
theorem d_Mo_currentNow_10 : decode b_Mo_currentNow 10 = .ok (.lmul, 1) := by decide +kernel
theorem d_Mo_currentNow_11 : decode b_Mo_currentNow 11 = .ok (.aload_n 0, 1) := by decide +kernel
theorem d_Mo_currentNow_12 : decode b_Mo_currentNow 12 = .ok (.aload_n 0, 1) := by decide +kernel
theorem d_Mo_currentNow_13 : decode b_Mo_currentNow 13 = .ok (.invokevirtual 176, 3) := by decide +kernel
theorem d_Mo_currentNow_16 : decode b_Mo_currentNow 16 = .ok (.aload_n 0, 1) := by decide +kernel
theorem d_Mo_currentNow_17 : decode b_Mo_currentNow 17 = .ok (.getfield 7, 3) := by decide +kernel
theorem d_Mo_currentNow_20 : decode b_Mo_currentNow 20 = .ok (.bipush 32, 2) := by decide +kernel
theorem d_Mo_currentNow_22 : decode b_Mo_currentNow 22 = .ok (.laload, 1) := by decide +kernel
theorem d_Mo_currentNow_23 : decode b_Mo_currentNow 23 = .ok (.invokevirtual 158, 3) := by decide +kernel
theorem d_Mo_currentNow_26 : decode b_Mo_currentNow 26 = .ok (.aload_n 0, 1) := by decide +kernel
theorem d_Mo_currentNow_27 : decode b_Mo_currentNow 27 = .ok (.aload_n 0, 1) := by decide +kernel
theorem d_Mo_currentNow_28 : decode b_Mo_currentNow 28 = .ok (.getfield 7, 3) := by decide +kernel
theorem d_Mo_currentNow_31 : decode b_Mo_currentNow 31 = .ok (.bipush 32, 2) := by decide +kernel
theorem d_Mo_currentNow_33 : decode b_Mo_currentNow 33 = .ok (.laload, 1) := by decide +kernel
theorem d_Mo_currentNow_34 : decode b_Mo_currentNow 34 = .ok (.invokevirtual 155, 3) := by decide +kernel
theorem d_Mo_currentNow_37 : decode b_Mo_currentNow 37 = .ok (.ladd, 1) := by decide +kernel
theorem d_Mo_currentNow_38 : decode b_Mo_currentNow 38 = .ok (.ldiv, 1) := by decide +kernel
theorem d_Mo_currentNow_39 : decode b_Mo_currentNow 39 = .ok (.lreturn, 1) := by decide +kernel
theorem d_Mo_powerOf_0 : decode b_Mo_powerOf 0 = .ok (.ldc2_w 112, 3) := by decide +kernel
theorem d_Mo_powerOf_3 : decode b_Mo_powerOf 3 = .ok (.aload_n 0, 1) := by decide +kernel
theorem d_Mo_powerOf_4 : decode b_Mo_powerOf 4 = .ok (.invokevirtual 182, 3) := by decide +kernel
theorem d_Mo_powerOf_7 : decode b_Mo_powerOf 7 = .ok (.invokestatic 185, 3) := by decide +kernel
theorem d_Mo_powerOf_10 : decode b_Mo_powerOf 10 = .ok (.lstore_n 2, 1) := by decide +kernel
theorem d_Mo_powerOf_11 : decode b_Mo_powerOf 11 = .ok (.lload_n 2, 1) := by decide +kernel
theorem d_Mo_powerOf_12 : decode b_Mo_powerOf 12 = .ok (.lload_n 2, 1) := by decide +kernel
theorem d_Mo_powerOf_13 : decode b_Mo_powerOf 13 = .ok (.lmul, 1) := by decide +kernel
theorem d_Mo_powerOf_14 : decode b_Mo_powerOf 14 = .ok (.ldc2_w 102, 3) := by decide +kernel
theorem d_Mo_powerOf_17 : decode b_Mo_powerOf 17 = .ok (.ldiv, 1) := by decide +kernel
theorem d_Mo_powerOf_18 : decode b_Mo_powerOf 18 = .ok (.iload_n 1, 1) := by decide +kernel
theorem d_Mo_powerOf_19 : decode b_Mo_powerOf 19 = .ok (.ifCond .eq 14, 3) := by decide +kernel
theorem d_Mo_powerOf_22 : decode b_Mo_powerOf 22 = .ok (.aload_n 0, 1) := by decide +kernel
theorem d_Mo_powerOf_23 : decode b_Mo_powerOf 23 = .ok (.aload_n 0, 1) := by decide +kernel
theorem d_Mo_powerOf_24 : decode b_Mo_powerOf 24 = .ok (.invokevirtual 176, 3) := by decide +kernel
theorem d_Mo_powerOf_27 : decode b_Mo_powerOf 27 = .ok (.invokevirtual 150, 3) := by decide +kernel
theorem d_Mo_powerOf_30 : decode b_Mo_powerOf 30 = .ok (.goto 7, 3) := by decide +kernel
theorem d_Mo_powerOf_33 : decode b_Mo_powerOf 33 = .ok (.aload_n 0, 1) := by decide +kernel
theorem d_Mo_powerOf_34 : decode b_Mo_powerOf 34 = .ok (.invokevirtual 146, 3) := by decide +kernel
theorem d_Mo_powerOf_37 : decode b_Mo_powerOf 37 = .ok (.lmul, 1) := by decide +kernel
theorem d_Mo_powerOf_38 : decode b_Mo_powerOf 38 = .ok (.ldc2_w 112, 3) := by decide +kernel
theorem d_Mo_powerOf_41 : decode b_Mo_powerOf 41 = .ok (.ldiv, 1) := by decide +kernel
theorem d_Mo_powerOf_42 : decode b_Mo_powerOf 42 = .ok (.lreturn, 1) := by decide +kernel
theorem d_Mo_draw_0 : decode b_Mo_draw 0 = .ok (.aload_n 0, 1) := by decide +kernel
theorem d_Mo_draw_1 : decode b_Mo_draw 1 = .ok (.getfield 7, 3) := by decide +kernel
theorem d_Mo_draw_4 : decode b_Mo_draw 4 = .ok (.bipush 28, 2) := by decide +kernel
theorem d_Mo_draw_6 : decode b_Mo_draw 6 = .ok (.laload, 1) := by decide +kernel
theorem d_Mo_draw_7 : decode b_Mo_draw 7 = .ok (.l2i, 1) := by decide +kernel
theorem d_Mo_draw_8 : decode b_Mo_draw 8 = .ok (.ldc 190, 2) := by decide +kernel
theorem d_Mo_draw_10 : decode b_Mo_draw 10 = .ok (.imul, 1) := by decide +kernel
theorem d_Mo_draw_11 : decode b_Mo_draw 11 = .ok (.sipush 12345, 3) := by decide +kernel
theorem d_Mo_draw_14 : decode b_Mo_draw 14 = .ok (.iadd, 1) := by decide +kernel
theorem d_Mo_draw_15 : decode b_Mo_draw 15 = .ok (.istore_n 3, 1) := by decide +kernel
theorem d_Mo_draw_16 : decode b_Mo_draw 16 = .ok (.aload_n 0, 1) := by decide +kernel
theorem d_Mo_draw_17 : decode b_Mo_draw 17 = .ok (.getfield 7, 3) := by decide +kernel
theorem d_Mo_draw_20 : decode b_Mo_draw 20 = .ok (.bipush 28, 2) := by decide +kernel
theorem d_Mo_draw_22 : decode b_Mo_draw 22 = .ok (.iload_n 3, 1) := by decide +kernel
theorem d_Mo_draw_23 : decode b_Mo_draw 23 = .ok (.i2l, 1) := by decide +kernel
theorem d_Mo_draw_24 : decode b_Mo_draw 24 = .ok (.lastore, 1) := by decide +kernel
theorem d_Mo_draw_25 : decode b_Mo_draw 25 = .ok (.iload_n 3, 1) := by decide +kernel
theorem d_Mo_draw_26 : decode b_Mo_draw 26 = .ok (.bipush 16, 2) := by decide +kernel
theorem d_Mo_draw_28 : decode b_Mo_draw 28 = .ok (.iushr, 1) := by decide +kernel
theorem d_Mo_draw_29 : decode b_Mo_draw 29 = .ok (.i2l, 1) := by decide +kernel
theorem d_Mo_draw_30 : decode b_Mo_draw 30 = .ok (.lload_n 1, 1) := by decide +kernel
theorem d_Mo_draw_31 : decode b_Mo_draw 31 = .ok (.lrem, 1) := by decide +kernel
theorem d_Mo_draw_32 : decode b_Mo_draw 32 = .ok (.lreturn, 1) := by decide +kernel
theorem d_Mo_heated_0 : decode b_Mo_heated 0 = .ok (.lload_n 2, 1) := by decide +kernel
theorem d_Mo_heated_1 : decode b_Mo_heated 1 = .ok (.lload 4, 2) := by decide +kernel
theorem d_Mo_heated_3 : decode b_Mo_heated 3 = .ok (.aload_n 0, 1) := by decide +kernel
theorem d_Mo_heated_4 : decode b_Mo_heated 4 = .ok (.getfield 7, 3) := by decide +kernel
theorem d_Mo_heated_7 : decode b_Mo_heated 7 = .ok (.iload_n 1, 1) := by decide +kernel
theorem d_Mo_heated_8 : decode b_Mo_heated 8 = .ok (.iconst 1, 1) := by decide +kernel
theorem d_Mo_heated_9 : decode b_Mo_heated 9 = .ok (.iadd, 1) := by decide +kernel
theorem d_Mo_heated_10 : decode b_Mo_heated 10 = .ok (.laload, 1) := by decide +kernel
theorem d_Mo_heated_11 : decode b_Mo_heated 11 = .ok (.lmul, 1) := by decide +kernel
theorem d_Mo_heated_12 : decode b_Mo_heated 12 = .ok (.ldc2_w 102, 3) := by decide +kernel
theorem d_Mo_heated_15 : decode b_Mo_heated 15 = .ok (.ldiv, 1) := by decide +kernel
theorem d_Mo_heated_16 : decode b_Mo_heated 16 = .ok (.ladd, 1) := by decide +kernel
theorem d_Mo_heated_17 : decode b_Mo_heated 17 = .ok (.lload_n 2, 1) := by decide +kernel
theorem d_Mo_heated_18 : decode b_Mo_heated 18 = .ok (.aload_n 0, 1) := by decide +kernel
theorem d_Mo_heated_19 : decode b_Mo_heated 19 = .ok (.getfield 7, 3) := by decide +kernel
theorem d_Mo_heated_22 : decode b_Mo_heated 22 = .ok (.iload_n 1, 1) := by decide +kernel
theorem d_Mo_heated_23 : decode b_Mo_heated 23 = .ok (.iconst 2, 1) := by decide +kernel
theorem d_Mo_heated_24 : decode b_Mo_heated 24 = .ok (.iadd, 1) := by decide +kernel
theorem d_Mo_heated_25 : decode b_Mo_heated 25 = .ok (.laload, 1) := by decide +kernel
theorem d_Mo_heated_26 : decode b_Mo_heated 26 = .ok (.lmul, 1) := by decide +kernel
theorem d_Mo_heated_27 : decode b_Mo_heated 27 = .ok (.ldc2_w 191, 3) := by decide +kernel
theorem d_Mo_heated_30 : decode b_Mo_heated 30 = .ok (.ldiv, 1) := by decide +kernel
theorem d_Mo_heated_31 : decode b_Mo_heated 31 = .ok (.lsub, 1) := by decide +kernel
theorem d_Mo_heated_32 : decode b_Mo_heated 32 = .ok (.lconst 0, 1) := by decide +kernel
theorem d_Mo_heated_33 : decode b_Mo_heated 33 = .ok (.ldc2_w 193, 3) := by decide +kernel
theorem d_Mo_heated_36 : decode b_Mo_heated 36 = .ok (.invokestatic 195, 3) := by decide +kernel
theorem d_Mo_heated_39 : decode b_Mo_heated 39 = .ok (.lreturn, 1) := by decide +kernel
theorem d_Mo_heats_0 : decode b_Mo_heats 0 = .ok (.iload_n 1, 1) := by decide +kernel
theorem d_Mo_heats_1 : decode b_Mo_heats 1 = .ok (.ifCond .eq 11, 3) := by decide +kernel
theorem d_Mo_heats_4 : decode b_Mo_heats 4 = .ok (.aload_n 0, 1) := by decide +kernel
theorem d_Mo_heats_5 : decode b_Mo_heats 5 = .ok (.iconst 0, 1) := by decide +kernel
theorem d_Mo_heats_6 : decode b_Mo_heats 6 = .ok (.invokevirtual 198, 3) := by decide +kernel
theorem d_Mo_heats_9 : decode b_Mo_heats 9 = .ok (.goto 4, 3) := by decide +kernel
theorem d_Mo_heats_12 : decode b_Mo_heats 12 = .ok (.lconst 0, 1) := by decide +kernel
theorem d_Mo_heats_13 : decode b_Mo_heats 13 = .ok (.lstore_n 2, 1) := by decide +kernel
theorem d_Mo_heats_14 : decode b_Mo_heats 14 = .ok (.iload_n 1, 1) := by decide +kernel
theorem d_Mo_heats_15 : decode b_Mo_heats 15 = .ok (.ifCond .eq 11, 3) := by decide +kernel
theorem d_Mo_heats_18 : decode b_Mo_heats 18 = .ok (.aload_n 0, 1) := by decide +kernel
theorem d_Mo_heats_19 : decode b_Mo_heats 19 = .ok (.iconst 1, 1) := by decide +kernel
theorem d_Mo_heats_20 : decode b_Mo_heats 20 = .ok (.invokevirtual 198, 3) := by decide +kernel
theorem d_Mo_heats_23 : decode b_Mo_heats 23 = .ok (.goto 4, 3) := by decide +kernel
theorem d_Mo_heats_26 : decode b_Mo_heats 26 = .ok (.lconst 0, 1) := by decide +kernel
theorem d_Mo_heats_27 : decode b_Mo_heats 27 = .ok (.lstore 4, 2) := by decide +kernel
theorem d_Mo_heats_29 : decode b_Mo_heats 29 = .ok (.aload_n 0, 1) := by decide +kernel
theorem d_Mo_heats_30 : decode b_Mo_heats 30 = .ok (.getfield 7, 3) := by decide +kernel
theorem d_Mo_heats_33 : decode b_Mo_heats 33 = .ok (.bipush 37, 2) := by decide +kernel
theorem d_Mo_heats_35 : decode b_Mo_heats 35 = .ok (.laload, 1) := by decide +kernel
theorem d_Mo_heats_36 : decode b_Mo_heats 36 = .ok (.lstore 6, 2) := by decide +kernel
theorem d_Mo_heats_38 : decode b_Mo_heats 38 = .ok (.aload_n 0, 1) := by decide +kernel
theorem d_Mo_heats_39 : decode b_Mo_heats 39 = .ok (.getfield 7, 3) := by decide +kernel
theorem d_Mo_heats_42 : decode b_Mo_heats 42 = .ok (.bipush 38, 2) := by decide +kernel
theorem d_Mo_heats_44 : decode b_Mo_heats 44 = .ok (.laload, 1) := by decide +kernel
theorem d_Mo_heats_45 : decode b_Mo_heats 45 = .ok (.lstore 8, 2) := by decide +kernel
theorem d_Mo_heats_47 : decode b_Mo_heats 47 = .ok (.aload_n 0, 1) := by decide +kernel
theorem d_Mo_heats_48 : decode b_Mo_heats 48 = .ok (.getfield 7, 3) := by decide +kernel
theorem d_Mo_heats_51 : decode b_Mo_heats 51 = .ok (.bipush 37, 2) := by decide +kernel
theorem d_Mo_heats_53 : decode b_Mo_heats 53 = .ok (.aload_n 0, 1) := by decide +kernel
theorem d_Mo_heats_54 : decode b_Mo_heats 54 = .ok (.bipush 13, 2) := by decide +kernel
theorem d_Mo_heats_56 : decode b_Mo_heats 56 = .ok (.lload 6, 2) := by decide +kernel
theorem d_Mo_heats_58 : decode b_Mo_heats 58 = .ok (.lload_n 2, 1) := by decide +kernel
theorem d_Mo_heats_59 : decode b_Mo_heats 59 = .ok (.invokevirtual 202, 3) := by decide +kernel
theorem d_Mo_heats_62 : decode b_Mo_heats 62 = .ok (.lastore, 1) := by decide +kernel
theorem d_Mo_heats_63 : decode b_Mo_heats 63 = .ok (.aload_n 0, 1) := by decide +kernel
theorem d_Mo_heats_64 : decode b_Mo_heats 64 = .ok (.getfield 7, 3) := by decide +kernel
theorem d_Mo_heats_67 : decode b_Mo_heats 67 = .ok (.bipush 38, 2) := by decide +kernel
theorem d_Mo_heats_69 : decode b_Mo_heats 69 = .ok (.aload_n 0, 1) := by decide +kernel
theorem d_Mo_heats_70 : decode b_Mo_heats 70 = .ok (.bipush 16, 2) := by decide +kernel
theorem d_Mo_heats_72 : decode b_Mo_heats 72 = .ok (.lload 8, 2) := by decide +kernel
theorem d_Mo_heats_74 : decode b_Mo_heats 74 = .ok (.lload 4, 2) := by decide +kernel
theorem d_Mo_heats_76 : decode b_Mo_heats 76 = .ok (.invokevirtual 202, 3) := by decide +kernel
theorem d_Mo_heats_79 : decode b_Mo_heats 79 = .ok (.lastore, 1) := by decide +kernel
theorem d_Mo_heats_80 : decode b_Mo_heats 80 = .ok (.aload_n 0, 1) := by decide +kernel
theorem d_Mo_heats_81 : decode b_Mo_heats 81 = .ok (.getfield 7, 3) := by decide +kernel
theorem d_Mo_heats_84 : decode b_Mo_heats 84 = .ok (.bipush 37, 2) := by decide +kernel
theorem d_Mo_heats_86 : decode b_Mo_heats 86 = .ok (.laload, 1) := by decide +kernel
theorem d_Mo_heats_87 : decode b_Mo_heats 87 = .ok (.lload 6, 2) := by decide +kernel
theorem d_Mo_heats_89 : decode b_Mo_heats 89 = .ok (.lcmp, 1) := by decide +kernel
theorem d_Mo_heats_90 : decode b_Mo_heats 90 = .ok (.ifCond .ne 16, 3) := by decide +kernel
theorem d_Mo_heats_93 : decode b_Mo_heats 93 = .ok (.aload_n 0, 1) := by decide +kernel
theorem d_Mo_heats_94 : decode b_Mo_heats 94 = .ok (.getfield 7, 3) := by decide +kernel
theorem d_Mo_heats_97 : decode b_Mo_heats 97 = .ok (.bipush 38, 2) := by decide +kernel
theorem d_Mo_heats_99 : decode b_Mo_heats 99 = .ok (.laload, 1) := by decide +kernel
theorem d_Mo_heats_100 : decode b_Mo_heats 100 = .ok (.lload 8, 2) := by decide +kernel
theorem d_Mo_heats_102 : decode b_Mo_heats 102 = .ok (.lcmp, 1) := by decide +kernel
theorem d_Mo_heats_103 : decode b_Mo_heats 103 = .ok (.ifCond .eq 7, 3) := by decide +kernel
theorem d_Mo_heats_106 : decode b_Mo_heats 106 = .ok (.iconst 1, 1) := by decide +kernel
theorem d_Mo_heats_107 : decode b_Mo_heats 107 = .ok (.goto 4, 3) := by decide +kernel
theorem d_Mo_heats_110 : decode b_Mo_heats 110 = .ok (.iconst 0, 1) := by decide +kernel
theorem d_Mo_heats_111 : decode b_Mo_heats 111 = .ok (.ireturn, 1) := by decide +kernel
theorem d_Mo_tick_0 : decode b_Mo_tick 0 = .ok (.aload_n 0, 1) := by decide +kernel
theorem d_Mo_tick_1 : decode b_Mo_tick 1 = .ok (.getfield 7, 3) := by decide +kernel
theorem d_Mo_tick_4 : decode b_Mo_tick 4 = .ok (.bipush 40, 2) := by decide +kernel
theorem d_Mo_tick_6 : decode b_Mo_tick 6 = .ok (.dup2, 1) := by decide +kernel
theorem d_Mo_tick_7 : decode b_Mo_tick 7 = .ok (.laload, 1) := by decide +kernel
theorem d_Mo_tick_8 : decode b_Mo_tick 8 = .ok (.iload_n 1, 1) := by decide +kernel
theorem d_Mo_tick_9 : decode b_Mo_tick 9 = .ok (.ifCond .eq 11, 3) := by decide +kernel
theorem d_Mo_tick_12 : decode b_Mo_tick 12 = .ok (.aload_n 0, 1) := by decide +kernel
theorem d_Mo_tick_13 : decode b_Mo_tick 13 = .ok (.iconst 0, 1) := by decide +kernel
theorem d_Mo_tick_14 : decode b_Mo_tick 14 = .ok (.invokevirtual 198, 3) := by decide +kernel
theorem d_Mo_tick_17 : decode b_Mo_tick 17 = .ok (.goto 4, 3) := by decide +kernel
theorem d_Mo_tick_20 : decode b_Mo_tick 20 = .ok (.lconst 0, 1) := by decide +kernel
theorem d_Mo_tick_21 : decode b_Mo_tick 21 = .ok (.ladd, 1) := by decide +kernel
theorem d_Mo_tick_22 : decode b_Mo_tick 22 = .ok (.lastore, 1) := by decide +kernel
theorem d_Mo_tick_23 : decode b_Mo_tick 23 = .ok (.aload_n 0, 1) := by decide +kernel
theorem d_Mo_tick_24 : decode b_Mo_tick 24 = .ok (.iload_n 1, 1) := by decide +kernel
theorem d_Mo_tick_25 : decode b_Mo_tick 25 = .ok (.invokevirtual 206, 3) := by decide +kernel
theorem d_Mo_tick_28 : decode b_Mo_tick 28 = .ok (.istore_n 2, 1) := by decide +kernel
theorem d_Mo_tick_29 : decode b_Mo_tick 29 = .ok (.aload_n 0, 1) := by decide +kernel
theorem d_Mo_tick_30 : decode b_Mo_tick 30 = .ok (.getfield 7, 3) := by decide +kernel
theorem d_Mo_tick_33 : decode b_Mo_tick 33 = .ok (.bipush 27, 2) := by decide +kernel
theorem d_Mo_tick_35 : decode b_Mo_tick 35 = .ok (.aload_n 0, 1) := by decide +kernel
theorem d_Mo_tick_36 : decode b_Mo_tick 36 = .ok (.getfield 7, 3) := by decide +kernel
theorem d_Mo_tick_39 : decode b_Mo_tick 39 = .ok (.bipush 27, 2) := by decide +kernel
theorem d_Mo_tick_41 : decode b_Mo_tick 41 = .ok (.laload, 1) := by decide +kernel
theorem d_Mo_tick_42 : decode b_Mo_tick 42 = .ok (.aload_n 0, 1) := by decide +kernel
theorem d_Mo_tick_43 : decode b_Mo_tick 43 = .ok (.ldc2_w 100, 3) := by decide +kernel
theorem d_Mo_tick_46 : decode b_Mo_tick 46 = .ok (.aload_n 0, 1) := by decide +kernel
theorem d_Mo_tick_47 : decode b_Mo_tick 47 = .ok (.getfield 7, 3) := by decide +kernel
theorem d_Mo_tick_50 : decode b_Mo_tick 50 = .ok (.bipush 26, 2) := by decide +kernel
theorem d_Mo_tick_52 : decode b_Mo_tick 52 = .ok (.laload, 1) := by decide +kernel
theorem d_Mo_tick_53 : decode b_Mo_tick 53 = .ok (.lmul, 1) := by decide +kernel
theorem d_Mo_tick_54 : decode b_Mo_tick 54 = .ok (.lconst 1, 1) := by decide +kernel
theorem d_Mo_tick_55 : decode b_Mo_tick 55 = .ok (.ladd, 1) := by decide +kernel
theorem d_Mo_tick_56 : decode b_Mo_tick 56 = .ok (.invokevirtual 210, 3) := by decide +kernel
theorem d_Mo_tick_59 : decode b_Mo_tick 59 = .ok (.ladd, 1) := by decide +kernel
theorem d_Mo_tick_60 : decode b_Mo_tick 60 = .ok (.aload_n 0, 1) := by decide +kernel
theorem d_Mo_tick_61 : decode b_Mo_tick 61 = .ok (.getfield 7, 3) := by decide +kernel
theorem d_Mo_tick_64 : decode b_Mo_tick 64 = .ok (.bipush 26, 2) := by decide +kernel
theorem d_Mo_tick_66 : decode b_Mo_tick 66 = .ok (.laload, 1) := by decide +kernel
theorem d_Mo_tick_67 : decode b_Mo_tick 67 = .ok (.lsub, 1) := by decide +kernel
theorem d_Mo_tick_68 : decode b_Mo_tick 68 = .ok (.ldc2_w 213, 3) := by decide +kernel
theorem d_Mo_tick_71 : decode b_Mo_tick 71 = .ok (.ldc2_w 215, 3) := by decide +kernel
theorem d_Mo_tick_74 : decode b_Mo_tick 74 = .ok (.invokestatic 195, 3) := by decide +kernel
theorem d_Mo_tick_77 : decode b_Mo_tick 77 = .ok (.lastore, 1) := by decide +kernel
theorem d_Mo_tick_78 : decode b_Mo_tick 78 = .ok (.aload_n 0, 1) := by decide +kernel
theorem d_Mo_tick_79 : decode b_Mo_tick 79 = .ok (.getfield 7, 3) := by decide +kernel
theorem d_Mo_tick_82 : decode b_Mo_tick 82 = .ok (.bipush 39, 2) := by decide +kernel
theorem d_Mo_tick_84 : decode b_Mo_tick 84 = .ok (.dup2, 1) := by decide +kernel
theorem d_Mo_tick_85 : decode b_Mo_tick 85 = .ok (.laload, 1) := by decide +kernel
theorem d_Mo_tick_86 : decode b_Mo_tick 86 = .ok (.lconst 1, 1) := by decide +kernel
theorem d_Mo_tick_87 : decode b_Mo_tick 87 = .ok (.ladd, 1) := by decide +kernel
theorem d_Mo_tick_88 : decode b_Mo_tick 88 = .ok (.lastore, 1) := by decide +kernel
theorem d_Mo_tick_89 : decode b_Mo_tick 89 = .ok (.return_, 1) := by decide +kernel
theorem d_Mo_canRead_0 : decode b_Mo_canRead 0 = .ok (.aload_n 0, 1) := by decide +kernel
theorem d_Mo_canRead_1 : decode b_Mo_canRead 1 = .ok (.getfield 7, 3) := by decide +kernel
theorem d_Mo_canRead_4 : decode b_Mo_canRead 4 = .ok (.bipush 22, 2) := by decide +kernel
theorem d_Mo_canRead_6 : decode b_Mo_canRead 6 = .ok (.laload, 1) := by decide +kernel
theorem d_Mo_canRead_7 : decode b_Mo_canRead 7 = .ok (.lconst 0, 1) := by decide +kernel
theorem d_Mo_canRead_8 : decode b_Mo_canRead 8 = .ok (.lcmp, 1) := by decide +kernel
theorem d_Mo_canRead_9 : decode b_Mo_canRead 9 = .ok (.ifCond .eq 22, 3) := by decide +kernel
theorem d_Mo_canRead_12 : decode b_Mo_canRead 12 = .ok (.aload_n 0, 1) := by decide +kernel
theorem d_Mo_canRead_13 : decode b_Mo_canRead 13 = .ok (.invokevirtual 182, 3) := by decide +kernel
theorem d_Mo_canRead_16 : decode b_Mo_canRead 16 = .ok (.aload_n 0, 1) := by decide +kernel
theorem d_Mo_canRead_17 : decode b_Mo_canRead 17 = .ok (.getfield 7, 3) := by decide +kernel
theorem d_Mo_canRead_20 : decode b_Mo_canRead 20 = .ok (.bipush 23, 2) := by decide +kernel
theorem d_Mo_canRead_22 : decode b_Mo_canRead 22 = .ok (.laload, 1) := by decide +kernel
theorem d_Mo_canRead_23 : decode b_Mo_canRead 23 = .ok (.lcmp, 1) := by decide +kernel
theorem d_Mo_canRead_24 : decode b_Mo_canRead 24 = .ok (.ifCond .gt 7, 3) := by decide +kernel
theorem d_Mo_canRead_27 : decode b_Mo_canRead 27 = .ok (.iconst 1, 1) := by decide +kernel
theorem d_Mo_canRead_28 : decode b_Mo_canRead 28 = .ok (.goto 4, 3) := by decide +kernel
theorem d_Mo_canRead_31 : decode b_Mo_canRead 31 = .ok (.iconst 0, 1) := by decide +kernel
theorem d_Mo_canRead_32 : decode b_Mo_canRead 32 = .ok (.ireturn, 1) := by decide +kernel
theorem d_Mo_isNull_0 : decode b_Mo_isNull 0 = .ok (.lload_n 1, 1) := by decide +kernel
theorem d_Mo_isNull_1 : decode b_Mo_isNull 1 = .ok (.invokestatic 217, 3) := by decide +kernel
theorem d_Mo_isNull_4 : decode b_Mo_isNull 4 = .ok (.aload_n 0, 1) := by decide +kernel
theorem d_Mo_isNull_5 : decode b_Mo_isNull 5 = .ok (.getfield 7, 3) := by decide +kernel
theorem d_Mo_isNull_8 : decode b_Mo_isNull 8 = .ok (.bipush 25, 2) := by decide +kernel
theorem d_Mo_isNull_10 : decode b_Mo_isNull 10 = .ok (.laload, 1) := by decide +kernel
theorem d_Mo_isNull_11 : decode b_Mo_isNull 11 = .ok (.lcmp, 1) := by decide +kernel
theorem d_Mo_isNull_12 : decode b_Mo_isNull 12 = .ok (.ifCond .gt 7, 3) := by decide +kernel
theorem d_Mo_isNull_15 : decode b_Mo_isNull 15 = .ok (.iconst 1, 1) := by decide +kernel
theorem d_Mo_isNull_16 : decode b_Mo_isNull 16 = .ok (.goto 4, 3) := by decide +kernel
theorem d_Mo_isNull_19 : decode b_Mo_isNull 19 = .ok (.iconst 0, 1) := by decide +kernel
theorem d_Mo_isNull_20 : decode b_Mo_isNull 20 = .ok (.ireturn, 1) := by decide +kernel
theorem d_Mo_makeReading_0 : decode b_Mo_makeReading 0 = .ok (.aload_n 0, 1) := by decide +kernel
theorem d_Mo_makeReading_1 : decode b_Mo_makeReading 1 = .ok (.invokevirtual 220, 3) := by decide +kernel
theorem d_Mo_makeReading_4 : decode b_Mo_makeReading 4 = .ok (.aload_n 0, 1) := by decide +kernel
theorem d_Mo_makeReading_5 : decode b_Mo_makeReading 5 = .ok (.getfield 7, 3) := by decide +kernel
theorem d_Mo_makeReading_8 : decode b_Mo_makeReading 8 = .ok (.bipush 27, 2) := by decide +kernel
theorem d_Mo_makeReading_10 : decode b_Mo_makeReading 10 = .ok (.laload, 1) := by decide +kernel
theorem d_Mo_makeReading_11 : decode b_Mo_makeReading 11 = .ok (.ladd, 1) := by decide +kernel
theorem d_Mo_makeReading_12 : decode b_Mo_makeReading 12 = .ok (.aload_n 0, 1) := by decide +kernel
theorem d_Mo_makeReading_13 : decode b_Mo_makeReading 13 = .ok (.ldc2_w 100, 3) := by decide +kernel
theorem d_Mo_makeReading_16 : decode b_Mo_makeReading 16 = .ok (.aload_n 0, 1) := by decide +kernel
theorem d_Mo_makeReading_17 : decode b_Mo_makeReading 17 = .ok (.getfield 7, 3) := by decide +kernel
theorem d_Mo_makeReading_20 : decode b_Mo_makeReading 20 = .ok (.bipush 25, 2) := by decide +kernel
theorem d_Mo_makeReading_22 : decode b_Mo_makeReading 22 = .ok (.laload, 1) := by decide +kernel
theorem d_Mo_makeReading_23 : decode b_Mo_makeReading 23 = .ok (.lmul, 1) := by decide +kernel
theorem d_Mo_makeReading_24 : decode b_Mo_makeReading 24 = .ok (.lconst 1, 1) := by decide +kernel
theorem d_Mo_makeReading_25 : decode b_Mo_makeReading 25 = .ok (.ladd, 1) := by decide +kernel
theorem d_Mo_makeReading_26 : decode b_Mo_makeReading 26 = .ok (.invokevirtual 210, 3) := by decide +kernel
theorem d_Mo_makeReading_29 : decode b_Mo_makeReading 29 = .ok (.ladd, 1) := by decide +kernel
theorem d_Mo_makeReading_30 : decode b_Mo_makeReading 30 = .ok (.aload_n 0, 1) := by decide +kernel
theorem d_Mo_makeReading_31 : decode b_Mo_makeReading 31 = .ok (.getfield 7, 3) := by decide +kernel
theorem d_Mo_makeReading_34 : decode b_Mo_makeReading 34 = .ok (.bipush 25, 2) := by decide +kernel
theorem d_Mo_makeReading_36 : decode b_Mo_makeReading 36 = .ok (.laload, 1) := by decide +kernel
theorem d_Mo_makeReading_37 : decode b_Mo_makeReading 37 = .ok (.lsub, 1) := by decide +kernel
theorem d_Mo_makeReading_38 : decode b_Mo_makeReading 38 = .ok (.lstore_n 1, 1) := by decide +kernel
theorem d_Mo_makeReading_39 : decode b_Mo_makeReading 39 = .ok (.lload_n 1, 1) := by decide +kernel
theorem d_Mo_makeReading_40 : decode b_Mo_makeReading 40 = .ok (.aload_n 0, 1) := by decide +kernel
theorem d_Mo_makeReading_41 : decode b_Mo_makeReading 41 = .ok (.getfield 7, 3) := by decide +kernel
theorem d_Mo_makeReading_44 : decode b_Mo_makeReading 44 = .ok (.bipush 24, 2) := by decide +kernel
theorem d_Mo_makeReading_46 : decode b_Mo_makeReading 46 = .ok (.laload, 1) := by decide +kernel
theorem d_Mo_makeReading_47 : decode b_Mo_makeReading 47 = .ok (.lneg, 1) := by decide +kernel
theorem d_Mo_makeReading_48 : decode b_Mo_makeReading 48 = .ok (.aload_n 0, 1) := by decide +kernel
theorem d_Mo_makeReading_49 : decode b_Mo_makeReading 49 = .ok (.getfield 7, 3) := by decide +kernel
theorem d_Mo_makeReading_52 : decode b_Mo_makeReading 52 = .ok (.bipush 24, 2) := by decide +kernel
theorem d_Mo_makeReading_54 : decode b_Mo_makeReading 54 = .ok (.laload, 1) := by decide +kernel
theorem d_Mo_makeReading_55 : decode b_Mo_makeReading 55 = .ok (.invokestatic 195, 3) := by decide +kernel
theorem d_Mo_makeReading_58 : decode b_Mo_makeReading 58 = .ok (.lstore_n 3, 1) := by decide +kernel
theorem d_Mo_makeReading_59 : decode b_Mo_makeReading 59 = .ok (.bipush 9, 2) := by decide +kernel
theorem d_Mo_makeReading_61 : decode b_Mo_makeReading 61 = .ok (.istore 5, 2) := by decide +kernel
theorem d_Mo_makeReading_63 : decode b_Mo_makeReading 63 = .ok (.iload 5, 2) := by decide +kernel
theorem d_Mo_makeReading_65 : decode b_Mo_makeReading 65 = .ok (.ifCond .le 31, 3) := by decide +kernel
theorem d_Mo_makeReading_68 : decode b_Mo_makeReading 68 = .ok (.aload_n 0, 1) := by decide +kernel
theorem d_Mo_makeReading_69 : decode b_Mo_makeReading 69 = .ok (.getfield 7, 3) := by decide +kernel
theorem d_Mo_makeReading_72 : decode b_Mo_makeReading 72 = .ok (.bipush 44, 2) := by decide +kernel
theorem d_Mo_makeReading_74 : decode b_Mo_makeReading 74 = .ok (.iload 5, 2) := by decide +kernel
theorem d_Mo_makeReading_76 : decode b_Mo_makeReading 76 = .ok (.iadd, 1) := by decide +kernel
theorem d_Mo_makeReading_77 : decode b_Mo_makeReading 77 = .ok (.aload_n 0, 1) := by decide +kernel
theorem d_Mo_makeReading_78 : decode b_Mo_makeReading 78 = .ok (.getfield 7, 3) := by decide +kernel
theorem d_Mo_makeReading_81 : decode b_Mo_makeReading 81 = .ok (.bipush 44, 2) := by decide +kernel
theorem d_Mo_makeReading_83 : decode b_Mo_makeReading 83 = .ok (.iload 5, 2) := by decide +kernel
theorem d_Mo_makeReading_85 : decode b_Mo_makeReading 85 = .ok (.iadd, 1) := by decide +kernel
theorem d_Mo_makeReading_86 : decode b_Mo_makeReading 86 = .ok (.iconst 1, 1) := by decide +kernel
theorem d_Mo_makeReading_87 : decode b_Mo_makeReading 87 = .ok (.isub, 1) := by decide +kernel
theorem d_Mo_makeReading_88 : decode b_Mo_makeReading 88 = .ok (.laload, 1) := by decide +kernel
theorem d_Mo_makeReading_89 : decode b_Mo_makeReading 89 = .ok (.lastore, 1) := by decide +kernel
theorem d_Mo_makeReading_90 : decode b_Mo_makeReading 90 = .ok (.iinc 5 (-1), 3) := by decide +kernel
theorem d_Mo_makeReading_93 : decode b_Mo_makeReading 93 = .ok (.goto (-30), 3) := by decide +kernel
theorem d_Mo_makeReading_96 : decode b_Mo_makeReading 96 = .ok (.aload_n 0, 1) := by decide +kernel
theorem d_Mo_makeReading_97 : decode b_Mo_makeReading 97 = .ok (.getfield 7, 3) := by decide +kernel
theorem d_Mo_makeReading_100 : decode b_Mo_makeReading 100 = .ok (.bipush 44, 2) := by decide +kernel
theorem d_Mo_makeReading_102 : decode b_Mo_makeReading 102 = .ok (.lload_n 3, 1) := by decide +kernel
theorem d_Mo_makeReading_103 : decode b_Mo_makeReading 103 = .ok (.lastore, 1) := by decide +kernel
theorem d_Mo_makeReading_104 : decode b_Mo_makeReading 104 = .ok (.aload_n 0, 1) := by decide +kernel
theorem d_Mo_makeReading_105 : decode b_Mo_makeReading 105 = .ok (.getfield 7, 3) := by decide +kernel
theorem d_Mo_makeReading_108 : decode b_Mo_makeReading 108 = .ok (.bipush 43, 2) := by decide +kernel
theorem d_Mo_makeReading_110 : decode b_Mo_makeReading 110 = .ok (.ldc2_w 110, 3) := by decide +kernel
theorem d_Mo_makeReading_113 : decode b_Mo_makeReading 113 = .ok (.aload_n 0, 1) := by decide +kernel
theorem d_Mo_makeReading_114 : decode b_Mo_makeReading 114 = .ok (.getfield 7, 3) := by decide +kernel
theorem d_Mo_makeReading_117 : decode b_Mo_makeReading 117 = .ok (.bipush 43, 2) := by decide +kernel
theorem d_Mo_makeReading_119 : decode b_Mo_makeReading 119 = .ok (.laload, 1) := by decide +kernel
theorem d_Mo_makeReading_120 : decode b_Mo_makeReading 120 = .ok (.lconst 1, 1) := by decide +kernel
theorem d_Mo_makeReading_121 : decode b_Mo_makeReading 121 = .ok (.ladd, 1) := by decide +kernel
theorem d_Mo_makeReading_122 : decode b_Mo_makeReading 122 = .ok (.invokestatic 185, 3) := by decide +kernel
theorem d_Mo_makeReading_125 : decode b_Mo_makeReading 125 = .ok (.lastore, 1) := by decide +kernel
theorem d_Mo_makeReading_126 : decode b_Mo_makeReading 126 = .ok (.aload_n 0, 1) := by decide +kernel
theorem d_Mo_makeReading_127 : decode b_Mo_makeReading 127 = .ok (.getfield 7, 3) := by decide +kernel
theorem d_Mo_makeReading_130 : decode b_Mo_makeReading 130 = .ok (.bipush 41, 2) := by decide +kernel
theorem d_Mo_makeReading_132 : decode b_Mo_makeReading 132 = .ok (.dup2, 1) := by decide +kernel
theorem d_Mo_makeReading_133 : decode b_Mo_makeReading 133 = .ok (.laload, 1) := by decide +kernel
theorem d_Mo_makeReading_134 : decode b_Mo_makeReading 134 = .ok (.lconst 1, 1) := by decide +kernel
theorem d_Mo_makeReading_135 : decode b_Mo_makeReading 135 = .ok (.ladd, 1) := by decide +kernel
theorem d_Mo_makeReading_136 : decode b_Mo_makeReading 136 = .ok (.lastore, 1) := by decide +kernel
theorem d_Mo_makeReading_137 : decode b_Mo_makeReading 137 = .ok (.aload_n 0, 1) := by decide +kernel
theorem d_Mo_makeReading_138 : decode b_Mo_makeReading 138 = .ok (.getfield 7, 3) := by decide +kernel
theorem d_Mo_makeReading_141 : decode b_Mo_makeReading 141 = .ok (.bipush 42, 2) := by decide +kernel
theorem d_Mo_makeReading_143 : decode b_Mo_makeReading 143 = .ok (.dup2, 1) := by decide +kernel
theorem d_Mo_makeReading_144 : decode b_Mo_makeReading 144 = .ok (.laload, 1) := by decide +kernel
theorem d_Mo_makeReading_145 : decode b_Mo_makeReading 145 = .ok (.aload_n 0, 1) := by decide +kernel
theorem d_Mo_makeReading_146 : decode b_Mo_makeReading 146 = .ok (.lload_n 3, 1) := by decide +kernel
theorem d_Mo_makeReading_147 : decode b_Mo_makeReading 147 = .ok (.invokevirtual 223, 3) := by decide +kernel
theorem d_Mo_makeReading_150 : decode b_Mo_makeReading 150 = .ok (.ifCond .eq 7, 3) := by decide +kernel
theorem d_Mo_makeReading_153 : decode b_Mo_makeReading 153 = .ok (.lconst 1, 1) := by decide +kernel
theorem d_Mo_makeReading_154 : decode b_Mo_makeReading 154 = .ok (.goto 4, 3) := by decide +kernel
theorem d_Mo_makeReading_157 : decode b_Mo_makeReading 157 = .ok (.lconst 0, 1) := by decide +kernel
theorem d_Mo_makeReading_158 : decode b_Mo_makeReading 158 = .ok (.ladd, 1) := by decide +kernel
theorem d_Mo_makeReading_159 : decode b_Mo_makeReading 159 = .ok (.lastore, 1) := by decide +kernel
theorem d_Mo_makeReading_160 : decode b_Mo_makeReading 160 = .ok (.aload_n 0, 1) := by decide +kernel
theorem d_Mo_makeReading_161 : decode b_Mo_makeReading 161 = .ok (.iconst 1, 1) := by decide +kernel
theorem d_Mo_makeReading_162 : decode b_Mo_makeReading 162 = .ok (.invokevirtual 227, 3) := by decide +kernel
theorem d_Mo_makeReading_165 : decode b_Mo_makeReading 165 = .ok (.lload_n 3, 1) := by decide +kernel
theorem d_Mo_makeReading_166 : decode b_Mo_makeReading 166 = .ok (.lreturn, 1) := by decide +kernel
theorem d_Mo_look_0 : decode b_Mo_look 0 = .ok (.aload_n 0, 1) := by decide +kernel
theorem d_Mo_look_1 : decode b_Mo_look 1 = .ok (.invokevirtual 231, 3) := by decide +kernel
theorem d_Mo_look_4 : decode b_Mo_look 4 = .ok (.lstore_n 2, 1) := by decide +kernel
theorem d_Mo_look_5 : decode b_Mo_look 5 = .ok (.iload_n 1, 1) := by decide +kernel
theorem d_Mo_look_6 : decode b_Mo_look 6 = .ok (.ifCond .ne 5, 3) := by decide +kernel
theorem d_Mo_look_9 : decode b_Mo_look 9 = .ok (.lload_n 2, 1) := by decide +kernel
theorem d_Mo_look_10 : decode b_Mo_look 10 = .ok (.lreturn, 1) := by decide +kernel
theorem d_Mo_look_11 : decode b_Mo_look 11 = .ok (.aload_n 0, 1) := by decide +kernel
theorem d_Mo_look_12 : decode b_Mo_look 12 = .ok (.getfield 7, 3) := by decide +kernel
theorem d_Mo_look_15 : decode b_Mo_look 15 = .ok (.bipush 31, 2) := by decide +kernel
theorem d_Mo_look_17 : decode b_Mo_look 17 = .ok (.lconst 1, 1) := by decide +kernel
theorem d_Mo_look_18 : decode b_Mo_look 18 = .ok (.aload_n 0, 1) := by decide +kernel
theorem d_Mo_look_19 : decode b_Mo_look 19 = .ok (.getfield 7, 3) := by decide +kernel
theorem d_Mo_look_22 : decode b_Mo_look 22 = .ok (.bipush 31, 2) := by decide +kernel
theorem d_Mo_look_24 : decode b_Mo_look 24 = .ok (.laload, 1) := by decide +kernel
theorem d_Mo_look_25 : decode b_Mo_look 25 = .ok (.lsub, 1) := by decide +kernel
theorem d_Mo_look_26 : decode b_Mo_look 26 = .ok (.lastore, 1) := by decide +kernel
theorem d_Mo_look_27 : decode b_Mo_look 27 = .ok (.aload_n 0, 1) := by decide +kernel
theorem d_Mo_look_28 : decode b_Mo_look 28 = .ok (.invokevirtual 234, 3) := by decide +kernel
theorem d_Mo_look_31 : decode b_Mo_look 31 = .ok (.ifCond .eq 16, 3) := by decide +kernel
theorem d_Mo_look_34 : decode b_Mo_look 34 = .ok (.lload_n 2, 1) := by decide +kernel
theorem d_Mo_look_35 : decode b_Mo_look 35 = .ok (.aload_n 0, 1) := by decide +kernel
theorem d_Mo_look_36 : decode b_Mo_look 36 = .ok (.invokevirtual 231, 3) := by decide +kernel
theorem d_Mo_look_39 : decode b_Mo_look 39 = .ok (.lsub, 1) := by decide +kernel
theorem d_Mo_look_40 : decode b_Mo_look 40 = .ok (.ldc2_w 100, 3) := by decide +kernel
theorem d_Mo_look_43 : decode b_Mo_look 43 = .ok (.ldiv, 1) := by decide +kernel
theorem d_Mo_look_44 : decode b_Mo_look 44 = .ok (.goto 4, 3) := by decide +kernel
theorem d_Mo_look_47 : decode b_Mo_look 47 = .ok (.lload_n 2, 1) := by decide +kernel
theorem d_Mo_look_48 : decode b_Mo_look 48 = .ok (.lstore 4, 2) := by decide +kernel
theorem d_Mo_look_50 : decode b_Mo_look 50 = .ok (.aload_n 0, 1) := by decide +kernel
theorem d_Mo_look_51 : decode b_Mo_look 51 = .ok (.getfield 7, 3) := by decide +kernel
theorem d_Mo_look_54 : decode b_Mo_look 54 = .ok (.bipush 31, 2) := by decide +kernel
theorem d_Mo_look_56 : decode b_Mo_look 56 = .ok (.lconst 1, 1) := by decide +kernel
theorem d_Mo_look_57 : decode b_Mo_look 57 = .ok (.aload_n 0, 1) := by decide +kernel
theorem d_Mo_look_58 : decode b_Mo_look 58 = .ok (.getfield 7, 3) := by decide +kernel
theorem d_Mo_look_61 : decode b_Mo_look 61 = .ok (.bipush 31, 2) := by decide +kernel
theorem d_Mo_look_63 : decode b_Mo_look 63 = .ok (.laload, 1) := by decide +kernel
theorem d_Mo_look_64 : decode b_Mo_look 64 = .ok (.lsub, 1) := by decide +kernel
theorem d_Mo_look_65 : decode b_Mo_look 65 = .ok (.lastore, 1) := by decide +kernel
theorem d_Mo_look_66 : decode b_Mo_look 66 = .ok (.lload 4, 2) := by decide +kernel
theorem d_Mo_look_68 : decode b_Mo_look 68 = .ok (.lreturn, 1) := by decide +kernel
theorem d_Mo_balanceDecade_0 : decode b_Mo_balanceDecade 0 = .ok (.aload_n 0, 1) := by decide +kernel
theorem d_Mo_balanceDecade_1 : decode b_Mo_balanceDecade 1 = .ok (.getfield 7, 3) := by decide +kernel
theorem d_Mo_balanceDecade_4 : decode b_Mo_balanceDecade 4 = .ok (.bipush 33, 2) := by decide +kernel
theorem d_Mo_balanceDecade_6 : decode b_Mo_balanceDecade 6 = .ok (.iload_n 1, 1) := by decide +kernel
theorem d_Mo_balanceDecade_7 : decode b_Mo_balanceDecade 7 = .ok (.iadd, 1) := by decide +kernel
theorem d_Mo_balanceDecade_8 : decode b_Mo_balanceDecade 8 = .ok (.laload, 1) := by decide +kernel
theorem d_Mo_balanceDecade_9 : decode b_Mo_balanceDecade 9 = .ok (.ldc2_w 238, 3) := by decide +kernel
theorem d_Mo_balanceDecade_12 : decode b_Mo_balanceDecade 12 = .ok (.lcmp, 1) := by decide +kernel
theorem d_Mo_balanceDecade_13 : decode b_Mo_balanceDecade 13 = .ok (.ifCond .ge 90, 3) := by decide +kernel
theorem d_Mo_balanceDecade_16 : decode b_Mo_balanceDecade 16 = .ok (.aload_n 0, 1) := by decide +kernel
theorem d_Mo_balanceDecade_17 : decode b_Mo_balanceDecade 17 = .ok (.getfield 7, 3) := by decide +kernel
theorem d_Mo_balanceDecade_20 : decode b_Mo_balanceDecade 20 = .ok (.bipush 33, 2) := by decide +kernel
theorem d_Mo_balanceDecade_22 : decode b_Mo_balanceDecade 22 = .ok (.iload_n 1, 1) := by decide +kernel
theorem d_Mo_balanceDecade_23 : decode b_Mo_balanceDecade 23 = .ok (.iadd, 1) := by decide +kernel
theorem d_Mo_balanceDecade_24 : decode b_Mo_balanceDecade 24 = .ok (.dup2, 1) := by decide +kernel
theorem d_Mo_balanceDecade_25 : decode b_Mo_balanceDecade 25 = .ok (.laload, 1) := by decide +kernel
theorem d_Mo_balanceDecade_26 : decode b_Mo_balanceDecade 26 = .ok (.lconst 1, 1) := by decide +kernel
theorem d_Mo_balanceDecade_27 : decode b_Mo_balanceDecade 27 = .ok (.ladd, 1) := by decide +kernel
theorem d_Mo_balanceDecade_28 : decode b_Mo_balanceDecade 28 = .ok (.lastore, 1) := by decide +kernel
theorem d_Mo_balanceDecade_29 : decode b_Mo_balanceDecade 29 = .ok (.aload_n 0, 1) := by decide +kernel
theorem d_Mo_balanceDecade_30 : decode b_Mo_balanceDecade 30 = .ok (.invokevirtual 234, 3) := by decide +kernel
theorem d_Mo_balanceDecade_33 : decode b_Mo_balanceDecade 33 = .ok (.ifCond .ne 5, 3) := by decide +kernel
theorem d_Mo_balanceDecade_36 : decode b_Mo_balanceDecade 36 = .ok (.iconst 5, 1) := by decide +kernel
theorem d_Mo_balanceDecade_37 : decode b_Mo_balanceDecade 37 = .ok (.ireturn, 1) := by decide +kernel
theorem d_Mo_balanceDecade_38 : decode b_Mo_balanceDecade 38 = .ok (.aload_n 0, 1) := by decide +kernel
theorem d_Mo_balanceDecade_39 : decode b_Mo_balanceDecade 39 = .ok (.iload_n 2, 1) := by decide +kernel
theorem d_Mo_balanceDecade_40 : decode b_Mo_balanceDecade 40 = .ok (.invokevirtual 240, 3) := by decide +kernel
theorem d_Mo_balanceDecade_43 : decode b_Mo_balanceDecade 43 = .ok (.lstore_n 3, 1) := by decide +kernel
theorem d_Mo_balanceDecade_44 : decode b_Mo_balanceDecade 44 = .ok (.aload_n 0, 1) := by decide +kernel
theorem d_Mo_balanceDecade_45 : decode b_Mo_balanceDecade 45 = .ok (.lload_n 3, 1) := by decide +kernel
theorem d_Mo_balanceDecade_46 : decode b_Mo_balanceDecade 46 = .ok (.invokevirtual 223, 3) := by decide +kernel
theorem d_Mo_balanceDecade_49 : decode b_Mo_balanceDecade 49 = .ok (.ifCond .eq 5, 3) := by decide +kernel
theorem d_Mo_balanceDecade_52 : decode b_Mo_balanceDecade 52 = .ok (.iconst 1, 1) := by decide +kernel
theorem d_Mo_balanceDecade_53 : decode b_Mo_balanceDecade 53 = .ok (.ireturn, 1) := by decide +kernel
theorem d_Mo_balanceDecade_54 : decode b_Mo_balanceDecade 54 = .ok (.lload_n 3, 1) := by decide +kernel
theorem d_Mo_balanceDecade_55 : decode b_Mo_balanceDecade 55 = .ok (.lconst 0, 1) := by decide +kernel
theorem d_Mo_balanceDecade_56 : decode b_Mo_balanceDecade 56 = .ok (.lcmp, 1) := by decide +kernel
theorem d_Mo_balanceDecade_57 : decode b_Mo_balanceDecade 57 = .ok (.ifCond .le 7, 3) := by decide +kernel
theorem d_Mo_balanceDecade_60 : decode b_Mo_balanceDecade 60 = .ok (.iconst 1, 1) := by decide +kernel
theorem d_Mo_balanceDecade_61 : decode b_Mo_balanceDecade 61 = .ok (.goto 4, 3) := by decide +kernel
theorem d_Mo_balanceDecade_64 : decode b_Mo_balanceDecade 64 = .ok (.iconst 0, 1) := by decide +kernel
theorem d_Mo_balanceDecade_65 : decode b_Mo_balanceDecade 65 = .ok (.aload_n 0, 1) := by decide +kernel
theorem d_Mo_balanceDecade_66 : decode b_Mo_balanceDecade 66 = .ok (.getfield 7, 3) := by decide +kernel
theorem d_Mo_balanceDecade_69 : decode b_Mo_balanceDecade 69 = .ok (.bipush 31, 2) := by decide +kernel
theorem d_Mo_balanceDecade_71 : decode b_Mo_balanceDecade 71 = .ok (.laload, 1) := by decide +kernel
theorem d_Mo_balanceDecade_72 : decode b_Mo_balanceDecade 72 = .ok (.lconst 1, 1) := by decide +kernel
theorem d_Mo_balanceDecade_73 : decode b_Mo_balanceDecade 73 = .ok (.lcmp, 1) := by decide +kernel
theorem d_Mo_balanceDecade_74 : decode b_Mo_balanceDecade 74 = .ok (.ifCond .ne 7, 3) := by decide +kernel
theorem d_Mo_balanceDecade_77 : decode b_Mo_balanceDecade 77 = .ok (.iconst 1, 1) := by decide +kernel
theorem d_Mo_balanceDecade_78 : decode b_Mo_balanceDecade 78 = .ok (.goto 4, 3) := by decide +kernel
theorem d_Mo_balanceDecade_81 : decode b_Mo_balanceDecade 81 = .ok (.iconst 0, 1) := by decide +kernel
theorem d_Mo_balanceDecade_82 : decode b_Mo_balanceDecade 82 = .ok (.if_icmp .ne 18, 3) := by decide +kernel
theorem d_Mo_balanceDecade_85 : decode b_Mo_balanceDecade 85 = .ok (.aload_n 0, 1) := by decide +kernel
theorem d_Mo_balanceDecade_86 : decode b_Mo_balanceDecade 86 = .ok (.getfield 7, 3) := by decide +kernel
theorem d_Mo_balanceDecade_89 : decode b_Mo_balanceDecade 89 = .ok (.bipush 33, 2) := by decide +kernel
theorem d_Mo_balanceDecade_91 : decode b_Mo_balanceDecade 91 = .ok (.iload_n 1, 1) := by decide +kernel
theorem d_Mo_balanceDecade_92 : decode b_Mo_balanceDecade 92 = .ok (.iadd, 1) := by decide +kernel
theorem d_Mo_balanceDecade_93 : decode b_Mo_balanceDecade 93 = .ok (.dup2, 1) := by decide +kernel
theorem d_Mo_balanceDecade_94 : decode b_Mo_balanceDecade 94 = .ok (.laload, 1) := by decide +kernel
theorem d_Mo_balanceDecade_95 : decode b_Mo_balanceDecade 95 = .ok (.lconst 1, 1) := by decide +kernel
theorem d_Mo_balanceDecade_96 : decode b_Mo_balanceDecade 96 = .ok (.lsub, 1) := by decide +kernel
theorem d_Mo_balanceDecade_97 : decode b_Mo_balanceDecade 97 = .ok (.lastore, 1) := by decide +kernel
theorem d_Mo_balanceDecade_98 : decode b_Mo_balanceDecade 98 = .ok (.iconst 0, 1) := by decide +kernel
theorem d_Mo_balanceDecade_99 : decode b_Mo_balanceDecade 99 = .ok (.ireturn, 1) := by decide +kernel
theorem d_Mo_balanceDecade_100 : decode b_Mo_balanceDecade 100 = .ok (.goto (-100), 3) := by decide +kernel
theorem d_Mo_balanceDecade_103 : decode b_Mo_balanceDecade 103 = .ok (.iconst 0, 1) := by decide +kernel
theorem d_Mo_balanceDecade_104 : decode b_Mo_balanceDecade 104 = .ok (.ireturn, 1) := by decide +kernel
theorem d_Mo_correctedBy_0 : decode b_Mo_correctedBy 0 = .ok (.aload_n 0, 1) := by decide +kernel
theorem d_Mo_correctedBy_1 : decode b_Mo_correctedBy 1 = .ok (.iload_n 1, 1) := by decide +kernel
theorem d_Mo_correctedBy_2 : decode b_Mo_correctedBy 2 = .ok (.invokevirtual 143, 3) := by decide +kernel
theorem d_Mo_correctedBy_5 : decode b_Mo_correctedBy 5 = .ok (.lload 6, 2) := by decide +kernel
theorem d_Mo_correctedBy_7 : decode b_Mo_correctedBy 7 = .ok (.ldc2_w 153, 3) := by decide +kernel
theorem d_Mo_correctedBy_10 : decode b_Mo_correctedBy 10 = .ok (.lcmp, 1) := by decide +kernel
theorem d_Mo_correctedBy_11 : decode b_Mo_correctedBy 11 = .ok (.ifCond .ne 13, 3) := by decide +kernel
theorem d_Mo_correctedBy_14 : decode b_Mo_correctedBy 14 = .ok (.aload_n 0, 1) := by decide +kernel
theorem d_Mo_correctedBy_15 : decode b_Mo_correctedBy 15 = .ok (.getfield 7, 3) := by decide +kernel
theorem d_Mo_correctedBy_18 : decode b_Mo_correctedBy 18 = .ok (.bipush 20, 2) := by decide +kernel
theorem d_Mo_correctedBy_20 : decode b_Mo_correctedBy 20 = .ok (.laload, 1) := by decide +kernel
theorem d_Mo_correctedBy_21 : decode b_Mo_correctedBy 21 = .ok (.goto 4, 3) := by decide +kernel
theorem d_Mo_correctedBy_24 : decode b_Mo_correctedBy 24 = .ok (.lconst 0, 1) := by decide +kernel
theorem d_Mo_correctedBy_25 : decode b_Mo_correctedBy 25 = .ok (.ladd, 1) := by decide +kernel
theorem d_Mo_correctedBy_26 : decode b_Mo_correctedBy 26 = .ok (.lstore 8, 2) := by decide +kernel
theorem d_Mo_correctedBy_28 : decode b_Mo_correctedBy 28 = .ok (.lload 8, 2) := by decide +kernel
theorem d_Mo_correctedBy_30 : decode b_Mo_correctedBy 30 = .ok (.aload_n 0, 1) := by decide +kernel
theorem d_Mo_correctedBy_31 : decode b_Mo_correctedBy 31 = .ok (.lload 4, 2) := by decide +kernel
theorem d_Mo_correctedBy_33 : decode b_Mo_correctedBy 33 = .ok (.invokevirtual 162, 3) := by decide +kernel
theorem d_Mo_correctedBy_36 : decode b_Mo_correctedBy 36 = .ok (.lmul, 1) := by decide +kernel
theorem d_Mo_correctedBy_37 : decode b_Mo_correctedBy 37 = .ok (.aload_n 0, 1) := by decide +kernel
theorem d_Mo_correctedBy_38 : decode b_Mo_correctedBy 38 = .ok (.lload_n 2, 1) := by decide +kernel
theorem d_Mo_correctedBy_39 : decode b_Mo_correctedBy 39 = .ok (.invokevirtual 162, 3) := by decide +kernel
theorem d_Mo_correctedBy_42 : decode b_Mo_correctedBy 42 = .ok (.ldiv, 1) := by decide +kernel
theorem d_Mo_correctedBy_43 : decode b_Mo_correctedBy 43 = .ok (.aload_n 0, 1) := by decide +kernel
theorem d_Mo_correctedBy_44 : decode b_Mo_correctedBy 44 = .ok (.getfield 7, 3) := by decide +kernel
theorem d_Mo_correctedBy_47 : decode b_Mo_correctedBy 47 = .ok (.bipush 19, 2) := by decide +kernel
theorem d_Mo_correctedBy_49 : decode b_Mo_correctedBy 49 = .ok (.laload, 1) := by decide +kernel
theorem d_Mo_correctedBy_50 : decode b_Mo_correctedBy 50 = .ok (.lsub, 1) := by decide +kernel
theorem d_Mo_correctedBy_51 : decode b_Mo_correctedBy 51 = .ok (.lload 6, 2) := by decide +kernel
theorem d_Mo_correctedBy_53 : decode b_Mo_correctedBy 53 = .ok (.ldc2_w 100, 3) := by decide +kernel
theorem d_Mo_correctedBy_56 : decode b_Mo_correctedBy 56 = .ok (.lcmp, 1) := by decide +kernel
theorem d_Mo_correctedBy_57 : decode b_Mo_correctedBy 57 = .ok (.ifCond .ne 13, 3) := by decide +kernel
theorem d_Mo_correctedBy_60 : decode b_Mo_correctedBy 60 = .ok (.aload_n 0, 1) := by decide +kernel
theorem d_Mo_correctedBy_61 : decode b_Mo_correctedBy 61 = .ok (.getfield 7, 3) := by decide +kernel
theorem d_Mo_correctedBy_64 : decode b_Mo_correctedBy 64 = .ok (.bipush 20, 2) := by decide +kernel
theorem d_Mo_correctedBy_66 : decode b_Mo_correctedBy 66 = .ok (.laload, 1) := by decide +kernel
theorem d_Mo_correctedBy_67 : decode b_Mo_correctedBy 67 = .ok (.goto 4, 3) := by decide +kernel
theorem d_Mo_correctedBy_70 : decode b_Mo_correctedBy 70 = .ok (.lconst 0, 1) := by decide +kernel
theorem d_Mo_correctedBy_71 : decode b_Mo_correctedBy 71 = .ok (.lsub, 1) := by decide +kernel
theorem d_Mo_correctedBy_72 : decode b_Mo_correctedBy 72 = .ok (.lreturn, 1) := by decide +kernel
theorem d_Mo_ofResult_0 : decode b_Mo_ofResult 0 = .ok (.aload_n 0, 1) := by decide +kernel
theorem d_Mo_ofResult_1 : decode b_Mo_ofResult 1 = .ok (.getfield 7, 3) := by decide +kernel
theorem d_Mo_ofResult_4 : decode b_Mo_ofResult 4 = .ok (.bipush 55, 2) := by decide +kernel
theorem d_Mo_ofResult_6 : decode b_Mo_ofResult 6 = .ok (.bipush 8, 2) := by decide +kernel
theorem d_Mo_ofResult_8 : decode b_Mo_ofResult 8 = .ok (.iload_n 1, 1) := by decide +kernel
theorem d_Mo_ofResult_9 : decode b_Mo_ofResult 9 = .ok (.imul, 1) := by decide +kernel
theorem d_Mo_ofResult_10 : decode b_Mo_ofResult 10 = .ok (.iadd, 1) := by decide +kernel
theorem d_Mo_ofResult_11 : decode b_Mo_ofResult 11 = .ok (.iload_n 2, 1) := by decide +kernel
theorem d_Mo_ofResult_12 : decode b_Mo_ofResult 12 = .ok (.iadd, 1) := by decide +kernel
theorem d_Mo_ofResult_13 : decode b_Mo_ofResult 13 = .ok (.laload, 1) := by decide +kernel
theorem d_Mo_ofResult_14 : decode b_Mo_ofResult 14 = .ok (.lreturn, 1) := by decide +kernel
theorem d_Mo_addResult_0 : decode b_Mo_addResult 0 = .ok (.aload_n 0, 1) := by decide +kernel
theorem d_Mo_addResult_1 : decode b_Mo_addResult 1 = .ok (.getfield 7, 3) := by decide +kernel
theorem d_Mo_addResult_4 : decode b_Mo_addResult 4 = .ok (.bipush 54, 2) := by decide +kernel
theorem d_Mo_addResult_6 : decode b_Mo_addResult 6 = .ok (.laload, 1) := by decide +kernel
theorem d_Mo_addResult_7 : decode b_Mo_addResult 7 = .ok (.ldc2_w 243, 3) := by decide +kernel
theorem d_Mo_addResult_10 : decode b_Mo_addResult 10 = .ok (.lcmp, 1) := by decide +kernel
theorem d_Mo_addResult_11 : decode b_Mo_addResult 11 = .ok (.ifCond .ne 45, 3) := by decide +kernel
theorem d_Mo_addResult_14 : decode b_Mo_addResult 14 = .ok (.bipush 55, 2) := by decide +kernel
theorem d_Mo_addResult_16 : decode b_Mo_addResult 16 = .ok (.istore_n 2, 1) := by decide +kernel
theorem d_Mo_addResult_17 : decode b_Mo_addResult 17 = .ok (.iload_n 2, 1) := by decide +kernel
theorem d_Mo_addResult_18 : decode b_Mo_addResult 18 = .ok (.sipush 207, 3) := by decide +kernel
theorem d_Mo_addResult_21 : decode b_Mo_addResult 21 = .ok (.if_icmp .ge 24, 3) := by decide +kernel
theorem d_Mo_addResult_24 : decode b_Mo_addResult 24 = .ok (.aload_n 0, 1) := by decide +kernel
theorem d_Mo_addResult_25 : decode b_Mo_addResult 25 = .ok (.getfield 7, 3) := by decide +kernel
theorem d_Mo_addResult_28 : decode b_Mo_addResult 28 = .ok (.iload_n 2, 1) := by decide +kernel
theorem d_Mo_addResult_29 : decode b_Mo_addResult 29 = .ok (.aload_n 0, 1) := by decide +kernel
theorem d_Mo_addResult_30 : decode b_Mo_addResult 30 = .ok (.getfield 7, 3) := by decide +kernel
theorem d_Mo_addResult_33 : decode b_Mo_addResult 33 = .ok (.iload_n 2, 1) := by decide +kernel
theorem d_Mo_addResult_34 : decode b_Mo_addResult 34 = .ok (.bipush 8, 2) := by decide +kernel
theorem d_Mo_addResult_36 : decode b_Mo_addResult 36 = .ok (.iadd, 1) := by decide +kernel
theorem d_Mo_addResult_37 : decode b_Mo_addResult 37 = .ok (.laload, 1) := by decide +kernel
theorem d_Mo_addResult_38 : decode b_Mo_addResult 38 = .ok (.lastore, 1) := by decide +kernel
theorem d_Mo_addResult_39 : decode b_Mo_addResult 39 = .ok (.iinc 2 1, 3) := by decide +kernel
theorem d_Mo_addResult_42 : decode b_Mo_addResult 42 = .ok (.goto (-25), 3) := by decide +kernel
theorem d_Mo_addResult_45 : decode b_Mo_addResult 45 = .ok (.aload_n 0, 1) := by decide +kernel
theorem d_Mo_addResult_46 : decode b_Mo_addResult 46 = .ok (.getfield 7, 3) := by decide +kernel
theorem d_Mo_addResult_49 : decode b_Mo_addResult 49 = .ok (.bipush 54, 2) := by decide +kernel
theorem d_Mo_addResult_51 : decode b_Mo_addResult 51 = .ok (.dup2, 1) := by decide +kernel
theorem d_Mo_addResult_52 : decode b_Mo_addResult 52 = .ok (.laload, 1) := by decide +kernel
theorem d_Mo_addResult_53 : decode b_Mo_addResult 53 = .ok (.lconst 1, 1) := by decide +kernel
theorem d_Mo_addResult_54 : decode b_Mo_addResult 54 = .ok (.lsub, 1) := by decide +kernel
theorem d_Mo_addResult_55 : decode b_Mo_addResult 55 = .ok (.lastore, 1) := by decide +kernel
theorem d_Mo_addResult_56 : decode b_Mo_addResult 56 = .ok (.bipush 55, 2) := by decide +kernel
theorem d_Mo_addResult_58 : decode b_Mo_addResult 58 = .ok (.bipush 8, 2) := by decide +kernel
theorem d_Mo_addResult_60 : decode b_Mo_addResult 60 = .ok (.aload_n 0, 1) := by decide +kernel
theorem d_Mo_addResult_61 : decode b_Mo_addResult 61 = .ok (.getfield 7, 3) := by decide +kernel
theorem d_Mo_addResult_64 : decode b_Mo_addResult 64 = .ok (.bipush 54, 2) := by decide +kernel
theorem d_Mo_addResult_66 : decode b_Mo_addResult 66 = .ok (.laload, 1) := by decide +kernel
theorem d_Mo_addResult_67 : decode b_Mo_addResult 67 = .ok (.l2i, 1) := by decide +kernel
theorem d_Mo_addResult_68 : decode b_Mo_addResult 68 = .ok (.imul, 1) := by decide +kernel
theorem d_Mo_addResult_69 : decode b_Mo_addResult 69 = .ok (.iadd, 1) := by decide +kernel
theorem d_Mo_addResult_70 : decode b_Mo_addResult 70 = .ok (.istore_n 2, 1) := by decide +kernel
theorem d_Mo_addResult_71 : decode b_Mo_addResult 71 = .ok (.aload_n 0, 1) := by decide +kernel
theorem d_Mo_addResult_72 : decode b_Mo_addResult 72 = .ok (.getfield 7, 3) := by decide +kernel
theorem d_Mo_addResult_75 : decode b_Mo_addResult 75 = .ok (.iload_n 2, 1) := by decide +kernel
theorem d_Mo_addResult_76 : decode b_Mo_addResult 76 = .ok (.iconst 0, 1) := by decide +kernel
theorem d_Mo_addResult_77 : decode b_Mo_addResult 77 = .ok (.iadd, 1) := by decide +kernel
theorem d_Mo_addResult_78 : decode b_Mo_addResult 78 = .ok (.aload_n 0, 1) := by decide +kernel
theorem d_Mo_addResult_79 : decode b_Mo_addResult 79 = .ok (.getfield 7, 3) := by decide +kernel
theorem d_Mo_addResult_82 : decode b_Mo_addResult 82 = .ok (.bipush 29, 2) := by decide +kernel
theorem d_Mo_addResult_84 : decode b_Mo_addResult 84 = .ok (.laload, 1) := by decide +kernel
theorem d_Mo_addResult_85 : decode b_Mo_addResult 85 = .ok (.lastore, 1) := by decide +kernel
theorem d_Mo_addResult_86 : decode b_Mo_addResult 86 = .ok (.aload_n 0, 1) := by decide +kernel
theorem d_Mo_addResult_87 : decode b_Mo_addResult 87 = .ok (.getfield 7, 3) := by decide +kernel
theorem d_Mo_addResult_90 : decode b_Mo_addResult 90 = .ok (.iload_n 2, 1) := by decide +kernel
theorem d_Mo_addResult_91 : decode b_Mo_addResult 91 = .ok (.iconst 1, 1) := by decide +kernel
theorem d_Mo_addResult_92 : decode b_Mo_addResult 92 = .ok (.iadd, 1) := by decide +kernel
theorem d_Mo_addResult_93 : decode b_Mo_addResult 93 = .ok (.aload_n 0, 1) := by decide +kernel
theorem d_Mo_addResult_94 : decode b_Mo_addResult 94 = .ok (.getfield 7, 3) := by decide +kernel
theorem d_Mo_addResult_97 : decode b_Mo_addResult 97 = .ok (.bipush 30, 2) := by decide +kernel
theorem d_Mo_addResult_99 : decode b_Mo_addResult 99 = .ok (.laload, 1) := by decide +kernel
theorem d_Mo_addResult_100 : decode b_Mo_addResult 100 = .ok (.lastore, 1) := by decide +kernel
theorem d_Mo_addResult_101 : decode b_Mo_addResult 101 = .ok (.aload_n 0, 1) := by decide +kernel
theorem d_Mo_addResult_102 : decode b_Mo_addResult 102 = .ok (.getfield 7, 3) := by decide +kernel
theorem d_Mo_addResult_105 : decode b_Mo_addResult 105 = .ok (.iload_n 2, 1) := by decide +kernel
theorem d_Mo_addResult_106 : decode b_Mo_addResult 106 = .ok (.iconst 2, 1) := by decide +kernel
theorem d_Mo_addResult_107 : decode b_Mo_addResult 107 = .ok (.iadd, 1) := by decide +kernel
theorem d_Mo_addResult_108 : decode b_Mo_addResult 108 = .ok (.aload_n 0, 1) := by decide +kernel
theorem d_Mo_addResult_109 : decode b_Mo_addResult 109 = .ok (.getfield 7, 3) := by decide +kernel
theorem d_Mo_addResult_112 : decode b_Mo_addResult 112 = .ok (.bipush 32, 2) := by decide +kernel
theorem d_Mo_addResult_114 : decode b_Mo_addResult 114 = .ok (.laload, 1) := by decide +kernel
theorem d_Mo_addResult_115 : decode b_Mo_addResult 115 = .ok (.lastore, 1) := by decide +kernel
theorem d_Mo_addResult_116 : decode b_Mo_addResult 116 = .ok (.aload_n 0, 1) := by decide +kernel
theorem d_Mo_addResult_117 : decode b_Mo_addResult 117 = .ok (.getfield 7, 3) := by decide +kernel
theorem d_Mo_addResult_120 : decode b_Mo_addResult 120 = .ok (.iload_n 2, 1) := by decide +kernel
theorem d_Mo_addResult_121 : decode b_Mo_addResult 121 = .ok (.iconst 3, 1) := by decide +kernel
theorem d_Mo_addResult_122 : decode b_Mo_addResult 122 = .ok (.iadd, 1) := by decide +kernel
theorem d_Mo_addResult_123 : decode b_Mo_addResult 123 = .ok (.aload_n 0, 1) := by decide +kernel
theorem d_Mo_addResult_124 : decode b_Mo_addResult 124 = .ok (.invokevirtual 176, 3) := by decide +kernel
theorem d_Mo_addResult_127 : decode b_Mo_addResult 127 = .ok (.i2l, 1) := by decide +kernel
theorem d_Mo_addResult_128 : decode b_Mo_addResult 128 = .ok (.lastore, 1) := by decide +kernel
theorem d_Mo_addResult_129 : decode b_Mo_addResult 129 = .ok (.aload_n 0, 1) := by decide +kernel
theorem d_Mo_addResult_130 : decode b_Mo_addResult 130 = .ok (.getfield 7, 3) := by decide +kernel
theorem d_Mo_addResult_133 : decode b_Mo_addResult 133 = .ok (.iload_n 2, 1) := by decide +kernel
theorem d_Mo_addResult_134 : decode b_Mo_addResult 134 = .ok (.iconst 4, 1) := by decide +kernel
theorem d_Mo_addResult_135 : decode b_Mo_addResult 135 = .ok (.iadd, 1) := by decide +kernel
theorem d_Mo_addResult_136 : decode b_Mo_addResult 136 = .ok (.aload_n 0, 1) := by decide +kernel
theorem d_Mo_addResult_137 : decode b_Mo_addResult 137 = .ok (.getfield 7, 3) := by decide +kernel
theorem d_Mo_addResult_140 : decode b_Mo_addResult 140 = .ok (.bipush 39, 2) := by decide +kernel
theorem d_Mo_addResult_142 : decode b_Mo_addResult 142 = .ok (.laload, 1) := by decide +kernel
theorem d_Mo_addResult_143 : decode b_Mo_addResult 143 = .ok (.lastore, 1) := by decide +kernel
theorem d_Mo_addResult_144 : decode b_Mo_addResult 144 = .ok (.aload_n 0, 1) := by decide +kernel
theorem d_Mo_addResult_145 : decode b_Mo_addResult 145 = .ok (.getfield 7, 3) := by decide +kernel
theorem d_Mo_addResult_148 : decode b_Mo_addResult 148 = .ok (.iload_n 2, 1) := by decide +kernel
theorem d_Mo_addResult_149 : decode b_Mo_addResult 149 = .ok (.iconst 5, 1) := by decide +kernel
theorem d_Mo_addResult_150 : decode b_Mo_addResult 150 = .ok (.iadd, 1) := by decide +kernel
theorem d_Mo_addResult_151 : decode b_Mo_addResult 151 = .ok (.iload_n 1, 1) := by decide +kernel
theorem d_Mo_addResult_152 : decode b_Mo_addResult 152 = .ok (.i2l, 1) := by decide +kernel
theorem d_Mo_addResult_153 : decode b_Mo_addResult 153 = .ok (.lastore, 1) := by decide +kernel
theorem d_Mo_addResult_154 : decode b_Mo_addResult 154 = .ok (.aload_n 0, 1) := by decide +kernel
theorem d_Mo_addResult_155 : decode b_Mo_addResult 155 = .ok (.getfield 7, 3) := by decide +kernel
theorem d_Mo_addResult_158 : decode b_Mo_addResult 158 = .ok (.iload_n 2, 1) := by decide +kernel
theorem d_Mo_addResult_159 : decode b_Mo_addResult 159 = .ok (.bipush 6, 2) := by decide +kernel
theorem d_Mo_addResult_161 : decode b_Mo_addResult 161 = .ok (.iadd, 1) := by decide +kernel
theorem d_Mo_addResult_162 : decode b_Mo_addResult 162 = .ok (.aload_n 0, 1) := by decide +kernel
theorem d_Mo_addResult_163 : decode b_Mo_addResult 163 = .ok (.invokevirtual 176, 3) := by decide +kernel
theorem d_Mo_addResult_166 : decode b_Mo_addResult 166 = .ok (.i2l, 1) := by decide +kernel
theorem d_Mo_addResult_167 : decode b_Mo_addResult 167 = .ok (.aload_n 0, 1) := by decide +kernel
theorem d_Mo_addResult_168 : decode b_Mo_addResult 168 = .ok (.getfield 7, 3) := by decide +kernel
theorem d_Mo_addResult_171 : decode b_Mo_addResult 171 = .ok (.iconst 1, 1) := by decide +kernel
theorem d_Mo_addResult_172 : decode b_Mo_addResult 172 = .ok (.laload, 1) := by decide +kernel
theorem d_Mo_addResult_173 : decode b_Mo_addResult 173 = .ok (.lmul, 1) := by decide +kernel
theorem d_Mo_addResult_174 : decode b_Mo_addResult 174 = .ok (.aload_n 0, 1) := by decide +kernel
theorem d_Mo_addResult_175 : decode b_Mo_addResult 175 = .ok (.getfield 7, 3) := by decide +kernel
theorem d_Mo_addResult_178 : decode b_Mo_addResult 178 = .ok (.bipush 30, 2) := by decide +kernel
theorem d_Mo_addResult_180 : decode b_Mo_addResult 180 = .ok (.laload, 1) := by decide +kernel
theorem d_Mo_addResult_181 : decode b_Mo_addResult 181 = .ok (.invokestatic 126, 3) := by decide +kernel
theorem d_Mo_addResult_184 : decode b_Mo_addResult 184 = .ok (.lmul, 1) := by decide +kernel
theorem d_Mo_addResult_185 : decode b_Mo_addResult 185 = .ok (.aload_n 0, 1) := by decide +kernel
theorem d_Mo_addResult_186 : decode b_Mo_addResult 186 = .ok (.getfield 7, 3) := by decide +kernel
theorem d_Mo_addResult_189 : decode b_Mo_addResult 189 = .ok (.bipush 29, 2) := by decide +kernel
theorem d_Mo_addResult_191 : decode b_Mo_addResult 191 = .ok (.laload, 1) := by decide +kernel
theorem d_Mo_addResult_192 : decode b_Mo_addResult 192 = .ok (.invokestatic 126, 3) := by decide +kernel
theorem d_Mo_addResult_195 : decode b_Mo_addResult 195 = .ok (.ldiv, 1) := by decide +kernel
theorem d_Mo_addResult_196 : decode b_Mo_addResult 196 = .ok (.lastore, 1) := by decide +kernel
theorem d_Mo_addResult_197 : decode b_Mo_addResult 197 = .ok (.aload_n 0, 1) := by decide +kernel
theorem d_Mo_addResult_198 : decode b_Mo_addResult 198 = .ok (.getfield 7, 3) := by decide +kernel
theorem d_Mo_addResult_201 : decode b_Mo_addResult 201 = .ok (.iload_n 2, 1) := by decide +kernel
theorem d_Mo_addResult_202 : decode b_Mo_addResult 202 = .ok (.bipush 7, 2) := by decide +kernel
theorem d_Mo_addResult_204 : decode b_Mo_addResult 204 = .ok (.iadd, 1) := by decide +kernel
theorem d_Mo_addResult_205 : decode b_Mo_addResult 205 = .ok (.aload_n 0, 1) := by decide +kernel
theorem d_Mo_addResult_206 : decode b_Mo_addResult 206 = .ok (.aload_n 0, 1) := by decide +kernel
theorem d_Mo_addResult_207 : decode b_Mo_addResult 207 = .ok (.invokevirtual 176, 3) := by decide +kernel
theorem d_Mo_addResult_210 : decode b_Mo_addResult 210 = .ok (.aload_n 0, 1) := by decide +kernel
theorem d_Mo_addResult_211 : decode b_Mo_addResult 211 = .ok (.getfield 7, 3) := by decide +kernel
theorem d_Mo_addResult_214 : decode b_Mo_addResult 214 = .ok (.bipush 29, 2) := by decide +kernel
theorem d_Mo_addResult_216 : decode b_Mo_addResult 216 = .ok (.laload, 1) := by decide +kernel
theorem d_Mo_addResult_217 : decode b_Mo_addResult 217 = .ok (.aload_n 0, 1) := by decide +kernel
theorem d_Mo_addResult_218 : decode b_Mo_addResult 218 = .ok (.getfield 7, 3) := by decide +kernel
theorem d_Mo_addResult_221 : decode b_Mo_addResult 221 = .ok (.bipush 30, 2) := by decide +kernel
theorem d_Mo_addResult_223 : decode b_Mo_addResult 223 = .ok (.laload, 1) := by decide +kernel
theorem d_Mo_addResult_224 : decode b_Mo_addResult 224 = .ok (.aload_n 0, 1) := by decide +kernel
theorem d_Mo_addResult_225 : decode b_Mo_addResult 225 = .ok (.getfield 7, 3) := by decide +kernel
theorem d_Mo_addResult_228 : decode b_Mo_addResult 228 = .ok (.bipush 32, 2) := by decide +kernel
theorem d_Mo_addResult_230 : decode b_Mo_addResult 230 = .ok (.laload, 1) := by decide +kernel
theorem d_Mo_addResult_231 : decode b_Mo_addResult 231 = .ok (.invokevirtual 245, 3) := by decide +kernel
theorem d_Mo_addResult_234 : decode b_Mo_addResult 234 = .ok (.lastore, 1) := by decide +kernel
theorem d_Mo_addResult_235 : decode b_Mo_addResult 235 = .ok (.aload_n 0, 1) := by decide +kernel
theorem d_Mo_addResult_236 : decode b_Mo_addResult 236 = .ok (.getfield 7, 3) := by decide +kernel
theorem d_Mo_addResult_239 : decode b_Mo_addResult 239 = .ok (.bipush 54, 2) := by decide +kernel
theorem d_Mo_addResult_241 : decode b_Mo_addResult 241 = .ok (.dup2, 1) := by decide +kernel
theorem d_Mo_addResult_242 : decode b_Mo_addResult 242 = .ok (.laload, 1) := by decide +kernel
theorem d_Mo_addResult_243 : decode b_Mo_addResult 243 = .ok (.lconst 1, 1) := by decide +kernel
theorem d_Mo_addResult_244 : decode b_Mo_addResult 244 = .ok (.ladd, 1) := by decide +kernel
theorem d_Mo_addResult_245 : decode b_Mo_addResult 245 = .ok (.lastore, 1) := by decide +kernel
theorem d_Mo_addResult_246 : decode b_Mo_addResult 246 = .ok (.return_, 1) := by decide +kernel
theorem d_Mo_balanceNow_0 : decode b_Mo_balanceNow 0 = .ok (.aload_n 0, 1) := by decide +kernel
theorem d_Mo_balanceNow_1 : decode b_Mo_balanceNow 1 = .ok (.getfield 7, 3) := by decide +kernel
theorem d_Mo_balanceNow_4 : decode b_Mo_balanceNow 4 = .ok (.bipush 22, 2) := by decide +kernel
theorem d_Mo_balanceNow_6 : decode b_Mo_balanceNow 6 = .ok (.laload, 1) := by decide +kernel
theorem d_Mo_balanceNow_7 : decode b_Mo_balanceNow 7 = .ok (.lconst 0, 1) := by decide +kernel
theorem d_Mo_balanceNow_8 : decode b_Mo_balanceNow 8 = .ok (.lcmp, 1) := by decide +kernel
theorem d_Mo_balanceNow_9 : decode b_Mo_balanceNow 9 = .ok (.ifCond .ne 6, 3) := by decide +kernel
theorem d_Mo_balanceNow_12 : decode b_Mo_balanceNow 12 = .ok (.bipush (-2), 2) := by decide +kernel
theorem d_Mo_balanceNow_14 : decode b_Mo_balanceNow 14 = .ok (.ireturn, 1) := by decide +kernel
theorem d_Mo_balanceNow_15 : decode b_Mo_balanceNow 15 = .ok (.aload_n 0, 1) := by decide +kernel
theorem d_Mo_balanceNow_16 : decode b_Mo_balanceNow 16 = .ok (.iconst 0, 1) := by decide +kernel
theorem d_Mo_balanceNow_17 : decode b_Mo_balanceNow 17 = .ok (.invokevirtual 248, 3) := by decide +kernel
theorem d_Mo_balanceNow_20 : decode b_Mo_balanceNow 20 = .ok (.iconst 0, 1) := by decide +kernel
theorem d_Mo_balanceNow_21 : decode b_Mo_balanceNow 21 = .ok (.istore_n 2, 1) := by decide +kernel
theorem d_Mo_balanceNow_22 : decode b_Mo_balanceNow 22 = .ok (.iconst 0, 1) := by decide +kernel
theorem d_Mo_balanceNow_23 : decode b_Mo_balanceNow 23 = .ok (.istore_n 3, 1) := by decide +kernel
theorem d_Mo_balanceNow_24 : decode b_Mo_balanceNow 24 = .ok (.iload_n 3, 1) := by decide +kernel
theorem d_Mo_balanceNow_25 : decode b_Mo_balanceNow 25 = .ok (.aload_n 0, 1) := by decide +kernel
theorem d_Mo_balanceNow_26 : decode b_Mo_balanceNow 26 = .ok (.invokevirtual 130, 3) := by decide +kernel
theorem d_Mo_balanceNow_29 : decode b_Mo_balanceNow 29 = .ok (.if_icmp .ge 20, 3) := by decide +kernel
theorem d_Mo_balanceNow_32 : decode b_Mo_balanceNow 32 = .ok (.iload_n 2, 1) := by decide +kernel
theorem d_Mo_balanceNow_33 : decode b_Mo_balanceNow 33 = .ok (.ifCond .ne 16, 3) := by decide +kernel
theorem d_Mo_balanceNow_36 : decode b_Mo_balanceNow 36 = .ok (.aload_n 0, 1) := by decide +kernel
theorem d_Mo_balanceNow_37 : decode b_Mo_balanceNow 37 = .ok (.iload_n 3, 1) := by decide +kernel
theorem d_Mo_balanceNow_38 : decode b_Mo_balanceNow 38 = .ok (.iload_n 1, 1) := by decide +kernel
theorem d_Mo_balanceNow_39 : decode b_Mo_balanceNow 39 = .ok (.invokevirtual 252, 3) := by decide +kernel
theorem d_Mo_balanceNow_42 : decode b_Mo_balanceNow 42 = .ok (.istore_n 2, 1) := by decide +kernel
theorem d_Mo_balanceNow_43 : decode b_Mo_balanceNow 43 = .ok (.iinc 3 1, 3) := by decide +kernel
theorem d_Mo_balanceNow_46 : decode b_Mo_balanceNow 46 = .ok (.goto (-22), 3) := by decide +kernel
theorem d_Mo_balanceNow_49 : decode b_Mo_balanceNow 49 = .ok (.iload_n 2, 1) := by decide +kernel
theorem d_Mo_balanceNow_50 : decode b_Mo_balanceNow 50 = .ok (.ifCond .ne 33, 3) := by decide +kernel
theorem d_Mo_balanceNow_53 : decode b_Mo_balanceNow 53 = .ok (.aload_n 0, 1) := by decide +kernel
theorem d_Mo_balanceNow_54 : decode b_Mo_balanceNow 54 = .ok (.invokevirtual 176, 3) := by decide +kernel
theorem d_Mo_balanceNow_57 : decode b_Mo_balanceNow 57 = .ok (.ifCond .ne 7, 3) := by decide +kernel
theorem d_Mo_balanceNow_60 : decode b_Mo_balanceNow 60 = .ok (.iconst 4, 1) := by decide +kernel
theorem d_Mo_balanceNow_61 : decode b_Mo_balanceNow 61 = .ok (.goto 21, 3) := by decide +kernel
theorem d_Mo_balanceNow_64 : decode b_Mo_balanceNow 64 = .ok (.aload_n 0, 1) := by decide +kernel
theorem d_Mo_balanceNow_65 : decode b_Mo_balanceNow 65 = .ok (.invokevirtual 176, 3) := by decide +kernel
theorem d_Mo_balanceNow_68 : decode b_Mo_balanceNow 68 = .ok (.aload_n 0, 1) := by decide +kernel
theorem d_Mo_balanceNow_69 : decode b_Mo_balanceNow 69 = .ok (.invokevirtual 256, 3) := by decide +kernel
theorem d_Mo_balanceNow_72 : decode b_Mo_balanceNow 72 = .ok (.iconst 1, 1) := by decide +kernel
theorem d_Mo_balanceNow_73 : decode b_Mo_balanceNow 73 = .ok (.isub, 1) := by decide +kernel
theorem d_Mo_balanceNow_74 : decode b_Mo_balanceNow 74 = .ok (.if_icmp .ne 7, 3) := by decide +kernel
theorem d_Mo_balanceNow_77 : decode b_Mo_balanceNow 77 = .ok (.iconst 3, 1) := by decide +kernel
theorem d_Mo_balanceNow_78 : decode b_Mo_balanceNow 78 = .ok (.goto 4, 3) := by decide +kernel
theorem d_Mo_balanceNow_81 : decode b_Mo_balanceNow 81 = .ok (.iconst 2, 1) := by decide +kernel
theorem d_Mo_balanceNow_82 : decode b_Mo_balanceNow 82 = .ok (.istore_n 2, 1) := by decide +kernel
theorem d_Mo_balanceNow_83 : decode b_Mo_balanceNow 83 = .ok (.iload_n 2, 1) := by decide +kernel
theorem d_Mo_balanceNow_84 : decode b_Mo_balanceNow 84 = .ok (.iconst 2, 1) := by decide +kernel
theorem d_Mo_balanceNow_85 : decode b_Mo_balanceNow 85 = .ok (.if_icmp .gt 8, 3) := by decide +kernel
theorem d_Mo_balanceNow_88 : decode b_Mo_balanceNow 88 = .ok (.aload_n 0, 1) := by decide +kernel
theorem d_Mo_balanceNow_89 : decode b_Mo_balanceNow 89 = .ok (.iload_n 2, 1) := by decide +kernel
theorem d_Mo_balanceNow_90 : decode b_Mo_balanceNow 90 = .ok (.invokevirtual 259, 3) := by decide +kernel
theorem d_Mo_balanceNow_93 : decode b_Mo_balanceNow 93 = .ok (.iload_n 2, 1) := by decide +kernel
theorem d_Mo_balanceNow_94 : decode b_Mo_balanceNow 94 = .ok (.ireturn, 1) := by decide +kernel
theorem d_Mo_zeros_0 : decode b_Mo_zeros 0 = .ok (.iconst 0, 1) := by decide +kernel
theorem d_Mo_zeros_1 : decode b_Mo_zeros 1 = .ok (.istore_n 1, 1) := by decide +kernel
theorem d_Mo_zeros_2 : decode b_Mo_zeros 2 = .ok (.iconst 0, 1) := by decide +kernel
theorem d_Mo_zeros_3 : decode b_Mo_zeros 3 = .ok (.istore_n 2, 1) := by decide +kernel
theorem d_Mo_zeros_4 : decode b_Mo_zeros 4 = .ok (.iload_n 2, 1) := by decide +kernel
theorem d_Mo_zeros_5 : decode b_Mo_zeros 5 = .ok (.bipush 32, 2) := by decide +kernel
theorem d_Mo_zeros_7 : decode b_Mo_zeros 7 = .ok (.if_icmp .ge 27, 3) := by decide +kernel
theorem d_Mo_zeros_10 : decode b_Mo_zeros 10 = .ok (.iload_n 1, 1) := by decide +kernel
theorem d_Mo_zeros_11 : decode b_Mo_zeros 11 = .ok (.iload_n 0, 1) := by decide +kernel
theorem d_Mo_zeros_12 : decode b_Mo_zeros 12 = .ok (.iload_n 2, 1) := by decide +kernel
theorem d_Mo_zeros_13 : decode b_Mo_zeros 13 = .ok (.ishr, 1) := by decide +kernel
theorem d_Mo_zeros_14 : decode b_Mo_zeros 14 = .ok (.sipush 255, 3) := by decide +kernel
theorem d_Mo_zeros_17 : decode b_Mo_zeros 17 = .ok (.iand, 1) := by decide +kernel
theorem d_Mo_zeros_18 : decode b_Mo_zeros 18 = .ok (.ifCond .ne 7, 3) := by decide +kernel
theorem d_Mo_zeros_21 : decode b_Mo_zeros 21 = .ok (.iconst 1, 1) := by decide +kernel
theorem d_Mo_zeros_22 : decode b_Mo_zeros 22 = .ok (.goto 4, 3) := by decide +kernel
theorem d_Mo_zeros_25 : decode b_Mo_zeros 25 = .ok (.iconst 0, 1) := by decide +kernel
theorem d_Mo_zeros_26 : decode b_Mo_zeros 26 = .ok (.iadd, 1) := by decide +kernel
theorem d_Mo_zeros_27 : decode b_Mo_zeros 27 = .ok (.istore_n 1, 1) := by decide +kernel
theorem d_Mo_zeros_28 : decode b_Mo_zeros 28 = .ok (.iinc 2 8, 3) := by decide +kernel
theorem d_Mo_zeros_31 : decode b_Mo_zeros 31 = .ok (.goto (-27), 3) := by decide +kernel
theorem d_Mo_zeros_34 : decode b_Mo_zeros 34 = .ok (.iload_n 1, 1) := by decide +kernel
theorem d_Mo_zeros_35 : decode b_Mo_zeros 35 = .ok (.ireturn, 1) := by decide +kernel
theorem d_Mo_feedFour_0 : decode b_Mo_feedFour 0 = .ok (.bipush 24, 2) := by decide +kernel
theorem d_Mo_feedFour_2 : decode b_Mo_feedFour 2 = .ok (.istore_n 2, 1) := by decide +kernel
theorem d_Mo_feedFour_3 : decode b_Mo_feedFour 3 = .ok (.iload_n 2, 1) := by decide +kernel
theorem d_Mo_feedFour_4 : decode b_Mo_feedFour 4 = .ok (.ifCond .lt 45, 3) := by decide +kernel
theorem d_Mo_feedFour_7 : decode b_Mo_feedFour 7 = .ok (.iload_n 1, 1) := by decide +kernel
theorem d_Mo_feedFour_8 : decode b_Mo_feedFour 8 = .ok (.iload_n 2, 1) := by decide +kernel
theorem d_Mo_feedFour_9 : decode b_Mo_feedFour 9 = .ok (.ishr, 1) := by decide +kernel
theorem d_Mo_feedFour_10 : decode b_Mo_feedFour 10 = .ok (.sipush 255, 3) := by decide +kernel
theorem d_Mo_feedFour_13 : decode b_Mo_feedFour 13 = .ok (.iand, 1) := by decide +kernel
theorem d_Mo_feedFour_14 : decode b_Mo_feedFour 14 = .ok (.ifCond .eq 29, 3) := by decide +kernel
theorem d_Mo_feedFour_17 : decode b_Mo_feedFour 17 = .ok (.aload_n 0, 1) := by decide +kernel
theorem d_Mo_feedFour_18 : decode b_Mo_feedFour 18 = .ok (.getfield 26, 3) := by decide +kernel
theorem d_Mo_feedFour_21 : decode b_Mo_feedFour 21 = .ok (.aload_n 0, 1) := by decide +kernel
theorem d_Mo_feedFour_22 : decode b_Mo_feedFour 22 = .ok (.getfield 262, 3) := by decide +kernel
theorem d_Mo_feedFour_25 : decode b_Mo_feedFour 25 = .ok (.iload_n 1, 1) := by decide +kernel
theorem d_Mo_feedFour_26 : decode b_Mo_feedFour 26 = .ok (.iload_n 2, 1) := by decide +kernel
theorem d_Mo_feedFour_27 : decode b_Mo_feedFour 27 = .ok (.ishr, 1) := by decide +kernel
theorem d_Mo_feedFour_28 : decode b_Mo_feedFour 28 = .ok (.sipush 255, 3) := by decide +kernel
theorem d_Mo_feedFour_31 : decode b_Mo_feedFour 31 = .ok (.iand, 1) := by decide +kernel
theorem d_Mo_feedFour_32 : decode b_Mo_feedFour 32 = .ok (.iastore, 1) := by decide +kernel
theorem d_Mo_feedFour_33 : decode b_Mo_feedFour 33 = .ok (.aload_n 0, 1) := by decide +kernel
theorem d_Mo_feedFour_34 : decode b_Mo_feedFour 34 = .ok (.dup, 1) := by decide +kernel
theorem d_Mo_feedFour_35 : decode b_Mo_feedFour 35 = .ok (.getfield 262, 3) := by decide +kernel
theorem d_Mo_feedFour_38 : decode b_Mo_feedFour 38 = .ok (.iconst 1, 1) := by decide +kernel
theorem d_Mo_feedFour_39 : decode b_Mo_feedFour 39 = .ok (.iadd, 1) := by decide +kernel
theorem d_Mo_feedFour_40 : decode b_Mo_feedFour 40 = .ok (.putfield 262, 3) := by decide +kernel
theorem d_Mo_feedFour_43 : decode b_Mo_feedFour 43 = .ok (.iinc 2 (-8), 3) := by decide +kernel
theorem d_Mo_feedFour_46 : decode b_Mo_feedFour 46 = .ok (.goto (-43), 3) := by decide +kernel
theorem d_Mo_feedFour_49 : decode b_Mo_feedFour 49 = .ok (.return_, 1) := by decide +kernel
theorem d_Mo_feed_0 : decode b_Mo_feed 0 = .ok (.aload_n 0, 1) := by decide +kernel
theorem d_Mo_feed_1 : decode b_Mo_feed 1 = .ok (.iconst 0, 1) := by decide +kernel
theorem d_Mo_feed_2 : decode b_Mo_feed 2 = .ok (.putfield 107, 3) := by decide +kernel
theorem d_Mo_feed_5 : decode b_Mo_feed 5 = .ok (.aload_n 0, 1) := by decide +kernel
theorem d_Mo_feed_6 : decode b_Mo_feed 6 = .ok (.getfield 262, 3) := by decide +kernel
theorem d_Mo_feed_9 : decode b_Mo_feed 9 = .ok (.bipush 20, 2) := by decide +kernel
theorem d_Mo_feed_11 : decode b_Mo_feed 11 = .ok (.iadd, 1) := by decide +kernel
theorem d_Mo_feed_12 : decode b_Mo_feed 12 = .ok (.iload_n 1, 1) := by decide +kernel
theorem d_Mo_feed_13 : decode b_Mo_feed 13 = .ok (.invokestatic 265, 3) := by decide +kernel
theorem d_Mo_feed_16 : decode b_Mo_feed 16 = .ok (.isub, 1) := by decide +kernel
theorem d_Mo_feed_17 : decode b_Mo_feed 17 = .ok (.iload_n 2, 1) := by decide +kernel
theorem d_Mo_feed_18 : decode b_Mo_feed 18 = .ok (.invokestatic 265, 3) := by decide +kernel
theorem d_Mo_feed_21 : decode b_Mo_feed 21 = .ok (.isub, 1) := by decide +kernel
theorem d_Mo_feed_22 : decode b_Mo_feed 22 = .ok (.iload_n 3, 1) := by decide +kernel
theorem d_Mo_feed_23 : decode b_Mo_feed 23 = .ok (.invokestatic 265, 3) := by decide +kernel
theorem d_Mo_feed_26 : decode b_Mo_feed 26 = .ok (.isub, 1) := by decide +kernel
theorem d_Mo_feed_27 : decode b_Mo_feed 27 = .ok (.iload 4, 2) := by decide +kernel
theorem d_Mo_feed_29 : decode b_Mo_feed 29 = .ok (.invokestatic 265, 3) := by decide +kernel
theorem d_Mo_feed_32 : decode b_Mo_feed 32 = .ok (.isub, 1) := by decide +kernel
theorem d_Mo_feed_33 : decode b_Mo_feed 33 = .ok (.iload 5, 2) := by decide +kernel
theorem d_Mo_feed_35 : decode b_Mo_feed 35 = .ok (.invokestatic 265, 3) := by decide +kernel
theorem d_Mo_feed_38 : decode b_Mo_feed 38 = .ok (.isub, 1) := by decide +kernel
theorem d_Mo_feed_39 : decode b_Mo_feed 39 = .ok (.sipush 600, 3) := by decide +kernel
theorem d_Mo_feed_42 : decode b_Mo_feed 42 = .ok (.if_icmp .le 5, 3) := by decide +kernel
theorem d_Mo_feed_45 : decode b_Mo_feed 45 = .ok (.iconst (-1), 1) := by decide +kernel
theorem d_Mo_feed_46 : decode b_Mo_feed 46 = .ok (.ireturn, 1) := by decide +kernel
theorem d_Mo_feed_47 : decode b_Mo_feed 47 = .ok (.aload_n 0, 1) := by decide +kernel
theorem d_Mo_feed_48 : decode b_Mo_feed 48 = .ok (.iload_n 1, 1) := by decide +kernel
theorem d_Mo_feed_49 : decode b_Mo_feed 49 = .ok (.invokevirtual 269, 3) := by decide +kernel
theorem d_Mo_feed_52 : decode b_Mo_feed 52 = .ok (.aload_n 0, 1) := by decide +kernel
theorem d_Mo_feed_53 : decode b_Mo_feed 53 = .ok (.iload_n 2, 1) := by decide +kernel
theorem d_Mo_feed_54 : decode b_Mo_feed 54 = .ok (.invokevirtual 269, 3) := by decide +kernel
theorem d_Mo_feed_57 : decode b_Mo_feed 57 = .ok (.aload_n 0, 1) := by decide +kernel
theorem d_Mo_feed_58 : decode b_Mo_feed 58 = .ok (.iload_n 3, 1) := by decide +kernel
theorem d_Mo_feed_59 : decode b_Mo_feed 59 = .ok (.invokevirtual 269, 3) := by decide +kernel
theorem d_Mo_feed_62 : decode b_Mo_feed 62 = .ok (.aload_n 0, 1) := by decide +kernel
theorem d_Mo_feed_63 : decode b_Mo_feed 63 = .ok (.iload 4, 2) := by decide +kernel
theorem d_Mo_feed_65 : decode b_Mo_feed 65 = .ok (.invokevirtual 269, 3) := by decide +kernel
theorem d_Mo_feed_68 : decode b_Mo_feed 68 = .ok (.aload_n 0, 1) := by decide +kernel
theorem d_Mo_feed_69 : decode b_Mo_feed 69 = .ok (.iload 5, 2) := by decide +kernel
theorem d_Mo_feed_71 : decode b_Mo_feed 71 = .ok (.invokevirtual 269, 3) := by decide +kernel
theorem d_Mo_feed_74 : decode b_Mo_feed 74 = .ok (.aload_n 0, 1) := by decide +kernel
theorem d_Mo_feed_75 : decode b_Mo_feed 75 = .ok (.getfield 262, 3) := by decide +kernel
theorem d_Mo_feed_78 : decode b_Mo_feed 78 = .ok (.ireturn, 1) := by decide +kernel
theorem d_Mo_byteAt_0 : decode b_Mo_byteAt 0 = .ok (.iload_n 1, 1) := by decide +kernel
theorem d_Mo_byteAt_1 : decode b_Mo_byteAt 1 = .ok (.aload_n 0, 1) := by decide +kernel
theorem d_Mo_byteAt_2 : decode b_Mo_byteAt 2 = .ok (.getfield 262, 3) := by decide +kernel
theorem d_Mo_byteAt_5 : decode b_Mo_byteAt 5 = .ok (.if_icmp .ge 12, 3) := by decide +kernel
theorem d_Mo_byteAt_8 : decode b_Mo_byteAt 8 = .ok (.aload_n 0, 1) := by decide +kernel
theorem d_Mo_byteAt_9 : decode b_Mo_byteAt 9 = .ok (.getfield 26, 3) := by decide +kernel
theorem d_Mo_byteAt_12 : decode b_Mo_byteAt 12 = .ok (.iload_n 1, 1) := by decide +kernel
theorem d_Mo_byteAt_13 : decode b_Mo_byteAt 13 = .ok (.iaload, 1) := by decide +kernel
theorem d_Mo_byteAt_14 : decode b_Mo_byteAt 14 = .ok (.goto 4, 3) := by decide +kernel
theorem d_Mo_byteAt_17 : decode b_Mo_byteAt 17 = .ok (.iconst (-1), 1) := by decide +kernel
theorem d_Mo_byteAt_18 : decode b_Mo_byteAt 18 = .ok (.ireturn, 1) := by decide +kernel
theorem d_Mo_isLetter_0 : decode b_Mo_isLetter 0 = .ok (.iload_n 0, 1) := by decide +kernel
theorem d_Mo_isLetter_1 : decode b_Mo_isLetter 1 = .ok (.bipush 97, 2) := by decide +kernel
theorem d_Mo_isLetter_3 : decode b_Mo_isLetter 3 = .ok (.if_icmp .lt 13, 3) := by decide +kernel
theorem d_Mo_isLetter_6 : decode b_Mo_isLetter 6 = .ok (.iload_n 0, 1) := by decide +kernel
theorem d_Mo_isLetter_7 : decode b_Mo_isLetter 7 = .ok (.bipush 122, 2) := by decide +kernel
theorem d_Mo_isLetter_9 : decode b_Mo_isLetter 9 = .ok (.if_icmp .gt 7, 3) := by decide +kernel
theorem d_Mo_isLetter_12 : decode b_Mo_isLetter 12 = .ok (.iconst 1, 1) := by decide +kernel
theorem d_Mo_isLetter_13 : decode b_Mo_isLetter 13 = .ok (.goto 4, 3) := by decide +kernel
theorem d_Mo_isLetter_16 : decode b_Mo_isLetter 16 = .ok (.iconst 0, 1) := by decide +kernel
theorem d_Mo_isLetter_17 : decode b_Mo_isLetter 17 = .ok (.ireturn, 1) := by decide +kernel
theorem d_Mo_isDigit_0 : decode b_Mo_isDigit 0 = .ok (.iload_n 0, 1) := by decide +kernel
theorem d_Mo_isDigit_1 : decode b_Mo_isDigit 1 = .ok (.bipush 48, 2) := by decide +kernel
theorem d_Mo_isDigit_3 : decode b_Mo_isDigit 3 = .ok (.if_icmp .lt 13, 3) := by decide +kernel
theorem d_Mo_isDigit_6 : decode b_Mo_isDigit 6 = .ok (.iload_n 0, 1) := by decide +kernel
theorem d_Mo_isDigit_7 : decode b_Mo_isDigit 7 = .ok (.bipush 57, 2) := by decide +kernel
theorem d_Mo_isDigit_9 : decode b_Mo_isDigit 9 = .ok (.if_icmp .gt 7, 3) := by decide +kernel
theorem d_Mo_isDigit_12 : decode b_Mo_isDigit 12 = .ok (.iconst 1, 1) := by decide +kernel
theorem d_Mo_isDigit_13 : decode b_Mo_isDigit 13 = .ok (.goto 4, 3) := by decide +kernel
theorem d_Mo_isDigit_16 : decode b_Mo_isDigit 16 = .ok (.iconst 0, 1) := by decide +kernel
theorem d_Mo_isDigit_17 : decode b_Mo_isDigit 17 = .ok (.ireturn, 1) := by decide +kernel
theorem d_Mo_scan_0 : decode b_Mo_scan 0 = .ok (.aload_n 0, 1) := by decide +kernel
theorem d_Mo_scan_1 : decode b_Mo_scan 1 = .ok (.aload_n 0, 1) := by decide +kernel
theorem d_Mo_scan_2 : decode b_Mo_scan 2 = .ok (.getfield 272, 3) := by decide +kernel
theorem d_Mo_scan_5 : decode b_Mo_scan 5 = .ok (.invokevirtual 275, 3) := by decide +kernel
theorem d_Mo_scan_8 : decode b_Mo_scan 8 = .ok (.bipush 32, 2) := by decide +kernel
theorem d_Mo_scan_10 : decode b_Mo_scan 10 = .ok (.if_icmp .eq 16, 3) := by decide +kernel
theorem d_Mo_scan_13 : decode b_Mo_scan 13 = .ok (.aload_n 0, 1) := by decide +kernel
theorem d_Mo_scan_14 : decode b_Mo_scan 14 = .ok (.aload_n 0, 1) := by decide +kernel
theorem d_Mo_scan_15 : decode b_Mo_scan 15 = .ok (.getfield 272, 3) := by decide +kernel
theorem d_Mo_scan_18 : decode b_Mo_scan 18 = .ok (.invokevirtual 275, 3) := by decide +kernel
theorem d_Mo_scan_21 : decode b_Mo_scan 21 = .ok (.bipush 10, 2) := by decide +kernel
theorem d_Mo_scan_23 : decode b_Mo_scan 23 = .ok (.if_icmp .ne 16, 3) := by decide +kernel
theorem d_Mo_scan_26 : decode b_Mo_scan 26 = .ok (.aload_n 0, 1) := by decide +kernel
theorem d_Mo_scan_27 : decode b_Mo_scan 27 = .ok (.dup, 1) := by decide +kernel
theorem d_Mo_scan_28 : decode b_Mo_scan 28 = .ok (.getfield 272, 3) := by decide +kernel
theorem d_Mo_scan_31 : decode b_Mo_scan 31 = .ok (.iconst 1, 1) := by decide +kernel
theorem d_Mo_scan_32 : decode b_Mo_scan 32 = .ok (.iadd, 1) := by decide +kernel
theorem d_Mo_scan_33 : decode b_Mo_scan 33 = .ok (.putfield 272, 3) := by decide +kernel
theorem d_Mo_scan_36 : decode b_Mo_scan 36 = .ok (.goto (-36), 3) := by decide +kernel
theorem d_Mo_scan_39 : decode b_Mo_scan 39 = .ok (.aload_n 0, 1) := by decide +kernel
theorem d_Mo_scan_40 : decode b_Mo_scan 40 = .ok (.aload_n 0, 1) := by decide +kernel
theorem d_Mo_scan_41 : decode b_Mo_scan 41 = .ok (.getfield 272, 3) := by decide +kernel
theorem d_Mo_scan_44 : decode b_Mo_scan 44 = .ok (.putfield 278, 3) := by decide +kernel
theorem d_Mo_scan_47 : decode b_Mo_scan 47 = .ok (.aload_n 0, 1) := by decide +kernel
theorem d_Mo_scan_48 : decode b_Mo_scan 48 = .ok (.aload_n 0, 1) := by decide +kernel
theorem d_Mo_scan_49 : decode b_Mo_scan 49 = .ok (.getfield 278, 3) := by decide +kernel
theorem d_Mo_scan_52 : decode b_Mo_scan 52 = .ok (.invokevirtual 275, 3) := by decide +kernel
theorem d_Mo_scan_55 : decode b_Mo_scan 55 = .ok (.istore_n 1, 1) := by decide +kernel
theorem d_Mo_scan_56 : decode b_Mo_scan 56 = .ok (.aload_n 0, 1) := by decide +kernel
theorem d_Mo_scan_57 : decode b_Mo_scan 57 = .ok (.iload_n 1, 1) := by decide +kernel
theorem d_Mo_scan_58 : decode b_Mo_scan 58 = .ok (.iconst (-1), 1) := by decide +kernel
theorem d_Mo_scan_59 : decode b_Mo_scan 59 = .ok (.if_icmp .ne 7, 3) := by decide +kernel
theorem d_Mo_scan_62 : decode b_Mo_scan 62 = .ok (.iconst 0, 1) := by decide +kernel
theorem d_Mo_scan_63 : decode b_Mo_scan 63 = .ok (.goto 26, 3) := by decide +kernel
theorem d_Mo_scan_66 : decode b_Mo_scan 66 = .ok (.iload_n 1, 1) := by decide +kernel
theorem d_Mo_scan_67 : decode b_Mo_scan 67 = .ok (.invokestatic 281, 3) := by decide +kernel
theorem d_Mo_scan_70 : decode b_Mo_scan 70 = .ok (.ifCond .eq 7, 3) := by decide +kernel
theorem d_Mo_scan_73 : decode b_Mo_scan 73 = .ok (.iconst 1, 1) := by decide +kernel
theorem d_Mo_scan_74 : decode b_Mo_scan 74 = .ok (.goto 15, 3) := by decide +kernel
theorem d_Mo_scan_77 : decode b_Mo_scan 77 = .ok (.iload_n 1, 1) := by decide +kernel
theorem d_Mo_scan_78 : decode b_Mo_scan 78 = .ok (.invokestatic 285, 3) := by decide +kernel
theorem d_Mo_scan_81 : decode b_Mo_scan 81 = .ok (.ifCond .eq 7, 3) := by decide +kernel
theorem d_Mo_scan_84 : decode b_Mo_scan 84 = .ok (.iconst 2, 1) := by decide +kernel
theorem d_Mo_scan_85 : decode b_Mo_scan 85 = .ok (.goto 4, 3) := by decide +kernel
theorem d_Mo_scan_88 : decode b_Mo_scan 88 = .ok (.iconst 3, 1) := by decide +kernel
theorem d_Mo_scan_89 : decode b_Mo_scan 89 = .ok (.putfield 288, 3) := by decide +kernel
theorem d_Mo_scan_92 : decode b_Mo_scan 92 = .ok (.aload_n 0, 1) := by decide +kernel
theorem d_Mo_scan_93 : decode b_Mo_scan 93 = .ok (.getfield 288, 3) := by decide +kernel
theorem d_Mo_scan_96 : decode b_Mo_scan 96 = .ok (.iconst 1, 1) := by decide +kernel
theorem d_Mo_scan_97 : decode b_Mo_scan 97 = .ok (.if_icmp .ne 30, 3) := by decide +kernel
theorem d_Mo_scan_100 : decode b_Mo_scan 100 = .ok (.aload_n 0, 1) := by decide +kernel
theorem d_Mo_scan_101 : decode b_Mo_scan 101 = .ok (.aload_n 0, 1) := by decide +kernel
theorem d_Mo_scan_102 : decode b_Mo_scan 102 = .ok (.getfield 272, 3) := by decide +kernel
theorem d_Mo_scan_105 : decode b_Mo_scan 105 = .ok (.invokevirtual 275, 3) := by decide +kernel
theorem d_Mo_scan_108 : decode b_Mo_scan 108 = .ok (.invokestatic 281, 3) := by decide +kernel
theorem d_Mo_scan_111 : decode b_Mo_scan 111 = .ok (.ifCond .eq 16, 3) := by decide +kernel
theorem d_Mo_scan_114 : decode b_Mo_scan 114 = .ok (.aload_n 0, 1) := by decide +kernel
theorem d_Mo_scan_115 : decode b_Mo_scan 115 = .ok (.dup, 1) := by decide +kernel
theorem d_Mo_scan_116 : decode b_Mo_scan 116 = .ok (.getfield 272, 3) := by decide +kernel
theorem d_Mo_scan_119 : decode b_Mo_scan 119 = .ok (.iconst 1, 1) := by decide +kernel
theorem d_Mo_scan_120 : decode b_Mo_scan 120 = .ok (.iadd, 1) := by decide +kernel
theorem d_Mo_scan_121 : decode b_Mo_scan 121 = .ok (.putfield 272, 3) := by decide +kernel
theorem d_Mo_scan_124 : decode b_Mo_scan 124 = .ok (.goto (-32), 3) := by decide +kernel
theorem d_Mo_scan_127 : decode b_Mo_scan 127 = .ok (.aload_n 0, 1) := by decide +kernel
theorem d_Mo_scan_128 : decode b_Mo_scan 128 = .ok (.getfield 288, 3) := by decide +kernel
theorem d_Mo_scan_131 : decode b_Mo_scan 131 = .ok (.iconst 2, 1) := by decide +kernel
theorem d_Mo_scan_132 : decode b_Mo_scan 132 = .ok (.if_icmp .ne 30, 3) := by decide +kernel
theorem d_Mo_scan_135 : decode b_Mo_scan 135 = .ok (.aload_n 0, 1) := by decide +kernel
theorem d_Mo_scan_136 : decode b_Mo_scan 136 = .ok (.aload_n 0, 1) := by decide +kernel
theorem d_Mo_scan_137 : decode b_Mo_scan 137 = .ok (.getfield 272, 3) := by decide +kernel
theorem d_Mo_scan_140 : decode b_Mo_scan 140 = .ok (.invokevirtual 275, 3) := by decide +kernel
theorem d_Mo_scan_143 : decode b_Mo_scan 143 = .ok (.invokestatic 285, 3) := by decide +kernel
theorem d_Mo_scan_146 : decode b_Mo_scan 146 = .ok (.ifCond .eq 16, 3) := by decide +kernel
theorem d_Mo_scan_149 : decode b_Mo_scan 149 = .ok (.aload_n 0, 1) := by decide +kernel
theorem d_Mo_scan_150 : decode b_Mo_scan 150 = .ok (.dup, 1) := by decide +kernel
theorem d_Mo_scan_151 : decode b_Mo_scan 151 = .ok (.getfield 272, 3) := by decide +kernel
theorem d_Mo_scan_154 : decode b_Mo_scan 154 = .ok (.iconst 1, 1) := by decide +kernel
theorem d_Mo_scan_155 : decode b_Mo_scan 155 = .ok (.iadd, 1) := by decide +kernel
theorem d_Mo_scan_156 : decode b_Mo_scan 156 = .ok (.putfield 272, 3) := by decide +kernel
theorem d_Mo_scan_159 : decode b_Mo_scan 159 = .ok (.goto (-32), 3) := by decide +kernel
theorem d_Mo_scan_162 : decode b_Mo_scan 162 = .ok (.aload_n 0, 1) := by decide +kernel
theorem d_Mo_scan_163 : decode b_Mo_scan 163 = .ok (.dup, 1) := by decide +kernel
theorem d_Mo_scan_164 : decode b_Mo_scan 164 = .ok (.getfield 272, 3) := by decide +kernel
theorem d_Mo_scan_167 : decode b_Mo_scan 167 = .ok (.aload_n 0, 1) := by decide +kernel
theorem d_Mo_scan_168 : decode b_Mo_scan 168 = .ok (.getfield 288, 3) := by decide +kernel
theorem d_Mo_scan_171 : decode b_Mo_scan 171 = .ok (.iconst 3, 1) := by decide +kernel
theorem d_Mo_scan_172 : decode b_Mo_scan 172 = .ok (.if_icmp .ne 7, 3) := by decide +kernel
theorem d_Mo_scan_175 : decode b_Mo_scan 175 = .ok (.iconst 1, 1) := by decide +kernel
theorem d_Mo_scan_176 : decode b_Mo_scan 176 = .ok (.goto 4, 3) := by decide +kernel
theorem d_Mo_scan_179 : decode b_Mo_scan 179 = .ok (.iconst 0, 1) := by decide +kernel
theorem d_Mo_scan_180 : decode b_Mo_scan 180 = .ok (.iadd, 1) := by decide +kernel
theorem d_Mo_scan_181 : decode b_Mo_scan 181 = .ok (.putfield 272, 3) := by decide +kernel
theorem d_Mo_scan_184 : decode b_Mo_scan 184 = .ok (.return_, 1) := by decide +kernel
theorem d_Mo_startText_0 : decode b_Mo_startText 0 = .ok (.aload_n 0, 1) := by decide +kernel
theorem d_Mo_startText_1 : decode b_Mo_startText 1 = .ok (.iconst 0, 1) := by decide +kernel
theorem d_Mo_startText_2 : decode b_Mo_startText 2 = .ok (.putfield 291, 3) := by decide +kernel
theorem d_Mo_startText_5 : decode b_Mo_startText 5 = .ok (.aload_n 0, 1) := by decide +kernel
theorem d_Mo_startText_6 : decode b_Mo_startText 6 = .ok (.iconst (-1), 1) := by decide +kernel
theorem d_Mo_startText_7 : decode b_Mo_startText 7 = .ok (.putfield 30, 3) := by decide +kernel
theorem d_Mo_startText_10 : decode b_Mo_startText 10 = .ok (.aload_n 0, 1) := by decide +kernel
theorem d_Mo_startText_11 : decode b_Mo_startText 11 = .ok (.iconst 0, 1) := by decide +kernel
theorem d_Mo_startText_12 : decode b_Mo_startText 12 = .ok (.putfield 272, 3) := by decide +kernel
theorem d_Mo_startText_15 : decode b_Mo_startText 15 = .ok (.aload_n 0, 1) := by decide +kernel
theorem d_Mo_startText_16 : decode b_Mo_startText 16 = .ok (.invokevirtual 294, 3) := by decide +kernel
theorem d_Mo_startText_19 : decode b_Mo_startText 19 = .ok (.return_, 1) := by decide +kernel
theorem d_Mo_good_0 : decode b_Mo_good 0 = .ok (.aload_n 0, 1) := by decide +kernel
theorem d_Mo_good_1 : decode b_Mo_good 1 = .ok (.getfield 291, 3) := by decide +kernel
theorem d_Mo_good_4 : decode b_Mo_good 4 = .ok (.ifCond .ne 7, 3) := by decide +kernel
theorem d_Mo_good_7 : decode b_Mo_good 7 = .ok (.iconst 1, 1) := by decide +kernel
theorem d_Mo_good_8 : decode b_Mo_good 8 = .ok (.goto 4, 3) := by decide +kernel
theorem d_Mo_good_11 : decode b_Mo_good 11 = .ok (.iconst 0, 1) := by decide +kernel
theorem d_Mo_good_12 : decode b_Mo_good 12 = .ok (.ireturn, 1) := by decide +kernel
theorem d_Mo_must_0 : decode b_Mo_must 0 = .ok (.aload_n 0, 1) := by decide +kernel
theorem d_Mo_must_1 : decode b_Mo_must 1 = .ok (.invokevirtual 297, 3) := by decide +kernel
theorem d_Mo_must_4 : decode b_Mo_must 4 = .ok (.ifCond .eq 20, 3) := by decide +kernel
theorem d_Mo_must_7 : decode b_Mo_must 7 = .ok (.iload_n 1, 1) := by decide +kernel
theorem d_Mo_must_8 : decode b_Mo_must 8 = .ok (.ifCond .ne 16, 3) := by decide +kernel
theorem d_Mo_must_11 : decode b_Mo_must 11 = .ok (.aload_n 0, 1) := by decide +kernel
theorem d_Mo_must_12 : decode b_Mo_must 12 = .ok (.iload_n 2, 1) := by decide +kernel
theorem d_Mo_must_13 : decode b_Mo_must 13 = .ok (.putfield 291, 3) := by decide +kernel
theorem d_Mo_must_16 : decode b_Mo_must 16 = .ok (.aload_n 0, 1) := by decide +kernel
theorem d_Mo_must_17 : decode b_Mo_must 17 = .ok (.aload_n 0, 1) := by decide +kernel
theorem d_Mo_must_18 : decode b_Mo_must 18 = .ok (.getfield 278, 3) := by decide +kernel
theorem d_Mo_must_21 : decode b_Mo_must 21 = .ok (.putfield 30, 3) := by decide +kernel
theorem d_Mo_must_24 : decode b_Mo_must 24 = .ok (.return_, 1) := by decide +kernel
theorem d_Mo_goOn_0 : decode b_Mo_goOn 0 = .ok (.aload_n 0, 1) := by decide +kernel
theorem d_Mo_goOn_1 : decode b_Mo_goOn 1 = .ok (.invokevirtual 297, 3) := by decide +kernel
theorem d_Mo_goOn_4 : decode b_Mo_goOn 4 = .ok (.ifCond .eq 7, 3) := by decide +kernel
theorem d_Mo_goOn_7 : decode b_Mo_goOn 7 = .ok (.aload_n 0, 1) := by decide +kernel
theorem d_Mo_goOn_8 : decode b_Mo_goOn 8 = .ok (.invokevirtual 294, 3) := by decide +kernel
theorem d_Mo_goOn_11 : decode b_Mo_goOn 11 = .ok (.return_, 1) := by decide +kernel
theorem d_Mo_isSign_0 : decode b_Mo_isSign 0 = .ok (.aload_n 0, 1) := by decide +kernel
theorem d_Mo_isSign_1 : decode b_Mo_isSign 1 = .ok (.invokevirtual 297, 3) := by decide +kernel
theorem d_Mo_isSign_4 : decode b_Mo_isSign 4 = .ok (.ifCond .eq 28, 3) := by decide +kernel
theorem d_Mo_isSign_7 : decode b_Mo_isSign 7 = .ok (.aload_n 0, 1) := by decide +kernel
theorem d_Mo_isSign_8 : decode b_Mo_isSign 8 = .ok (.getfield 288, 3) := by decide +kernel
theorem d_Mo_isSign_11 : decode b_Mo_isSign 11 = .ok (.iconst 3, 1) := by decide +kernel
theorem d_Mo_isSign_12 : decode b_Mo_isSign 12 = .ok (.if_icmp .ne 20, 3) := by decide +kernel
theorem d_Mo_isSign_15 : decode b_Mo_isSign 15 = .ok (.aload_n 0, 1) := by decide +kernel
theorem d_Mo_isSign_16 : decode b_Mo_isSign 16 = .ok (.getfield 26, 3) := by decide +kernel
theorem d_Mo_isSign_19 : decode b_Mo_isSign 19 = .ok (.aload_n 0, 1) := by decide +kernel
theorem d_Mo_isSign_20 : decode b_Mo_isSign 20 = .ok (.getfield 278, 3) := by decide +kernel
theorem d_Mo_isSign_23 : decode b_Mo_isSign 23 = .ok (.iaload, 1) := by decide +kernel
theorem d_Mo_isSign_24 : decode b_Mo_isSign 24 = .ok (.iload_n 1, 1) := by decide +kernel
theorem d_Mo_isSign_25 : decode b_Mo_isSign 25 = .ok (.if_icmp .ne 7, 3) := by decide +kernel
theorem d_Mo_isSign_28 : decode b_Mo_isSign 28 = .ok (.iconst 1, 1) := by decide +kernel
theorem d_Mo_isSign_29 : decode b_Mo_isSign 29 = .ok (.goto 4, 3) := by decide +kernel
theorem d_Mo_isSign_32 : decode b_Mo_isSign 32 = .ok (.iconst 0, 1) := by decide +kernel
theorem d_Mo_isSign_33 : decode b_Mo_isSign 33 = .ok (.ireturn, 1) := by decide +kernel
theorem d_Mo_isWord_0 : decode b_Mo_isWord 0 = .ok (.aload_n 0, 1) := by decide +kernel
theorem d_Mo_isWord_1 : decode b_Mo_isWord 1 = .ok (.invokevirtual 297, 3) := by decide +kernel
theorem d_Mo_isWord_4 : decode b_Mo_isWord 4 = .ok (.ifCond .eq 31, 3) := by decide +kernel
theorem d_Mo_isWord_7 : decode b_Mo_isWord 7 = .ok (.aload_n 0, 1) := by decide +kernel
theorem d_Mo_isWord_8 : decode b_Mo_isWord 8 = .ok (.getfield 288, 3) := by decide +kernel
theorem d_Mo_isWord_11 : decode b_Mo_isWord 11 = .ok (.iconst 1, 1) := by decide +kernel
theorem d_Mo_isWord_12 : decode b_Mo_isWord 12 = .ok (.if_icmp .ne 23, 3) := by decide +kernel
theorem d_Mo_isWord_15 : decode b_Mo_isWord 15 = .ok (.aload_n 0, 1) := by decide +kernel
theorem d_Mo_isWord_16 : decode b_Mo_isWord 16 = .ok (.getfield 272, 3) := by decide +kernel
theorem d_Mo_isWord_19 : decode b_Mo_isWord 19 = .ok (.aload_n 0, 1) := by decide +kernel
theorem d_Mo_isWord_20 : decode b_Mo_isWord 20 = .ok (.getfield 278, 3) := by decide +kernel
theorem d_Mo_isWord_23 : decode b_Mo_isWord 23 = .ok (.isub, 1) := by decide +kernel
theorem d_Mo_isWord_24 : decode b_Mo_isWord 24 = .ok (.aload_n 1, 1) := by decide +kernel
theorem d_Mo_isWord_25 : decode b_Mo_isWord 25 = .ok (.invokevirtual 300, 3) := by decide +kernel
theorem d_Mo_isWord_28 : decode b_Mo_isWord 28 = .ok (.if_icmp .ne 7, 3) := by decide +kernel
theorem d_Mo_isWord_31 : decode b_Mo_isWord 31 = .ok (.iconst 1, 1) := by decide +kernel
theorem d_Mo_isWord_32 : decode b_Mo_isWord 32 = .ok (.goto 4, 3) := by decide +kernel
theorem d_Mo_isWord_35 : decode b_Mo_isWord 35 = .ok (.iconst 0, 1) := by decide +kernel
theorem d_Mo_isWord_36 : decode b_Mo_isWord 36 = .ok (.istore_n 2, 1) := by decide +kernel
theorem d_Mo_isWord_37 : decode b_Mo_isWord 37 = .ok (.iconst 0, 1) := by decide +kernel
theorem d_Mo_isWord_38 : decode b_Mo_isWord 38 = .ok (.istore_n 3, 1) := by decide +kernel
theorem d_Mo_isWord_39 : decode b_Mo_isWord 39 = .ok (.iload_n 2, 1) := by decide +kernel
theorem d_Mo_isWord_40 : decode b_Mo_isWord 40 = .ok (.ifCond .eq 42, 3) := by decide +kernel
theorem d_Mo_isWord_43 : decode b_Mo_isWord 43 = .ok (.iload_n 3, 1) := by decide +kernel
theorem d_Mo_isWord_44 : decode b_Mo_isWord 44 = .ok (.aload_n 1, 1) := by decide +kernel
theorem d_Mo_isWord_45 : decode b_Mo_isWord 45 = .ok (.invokevirtual 300, 3) := by decide +kernel
theorem d_Mo_isWord_48 : decode b_Mo_isWord 48 = .ok (.if_icmp .ge 34, 3) := by decide +kernel
theorem d_Mo_isWord_51 : decode b_Mo_isWord 51 = .ok (.aload_n 0, 1) := by decide +kernel
theorem d_Mo_isWord_52 : decode b_Mo_isWord 52 = .ok (.getfield 26, 3) := by decide +kernel
theorem d_Mo_isWord_55 : decode b_Mo_isWord 55 = .ok (.aload_n 0, 1) := by decide +kernel
theorem d_Mo_isWord_56 : decode b_Mo_isWord 56 = .ok (.getfield 278, 3) := by decide +kernel
theorem d_Mo_isWord_59 : decode b_Mo_isWord 59 = .ok (.iload_n 3, 1) := by decide +kernel
theorem d_Mo_isWord_60 : decode b_Mo_isWord 60 = .ok (.iadd, 1) := by decide +kernel
theorem d_Mo_isWord_61 : decode b_Mo_isWord 61 = .ok (.iaload, 1) := by decide +kernel
theorem d_Mo_isWord_62 : decode b_Mo_isWord 62 = .ok (.aload_n 1, 1) := by decide +kernel
theorem d_Mo_isWord_63 : decode b_Mo_isWord 63 = .ok (.iload_n 3, 1) := by decide +kernel
theorem d_Mo_isWord_64 : decode b_Mo_isWord 64 = .ok (.invokevirtual 303, 3) := by decide +kernel
theorem d_Mo_isWord_67 : decode b_Mo_isWord 67 = .ok (.if_icmp .ne 7, 3) := by decide +kernel
theorem d_Mo_isWord_70 : decode b_Mo_isWord 70 = .ok (.iconst 1, 1) := by decide +kernel
theorem d_Mo_isWord_71 : decode b_Mo_isWord 71 = .ok (.goto 4, 3) := by decide +kernel
theorem d_Mo_isWord_74 : decode b_Mo_isWord 74 = .ok (.iconst 0, 1) := by decide +kernel
theorem d_Mo_isWord_75 : decode b_Mo_isWord 75 = .ok (.istore_n 2, 1) := by decide +kernel
theorem d_Mo_isWord_76 : decode b_Mo_isWord 76 = .ok (.iinc 3 1, 3) := by decide +kernel
theorem d_Mo_isWord_79 : decode b_Mo_isWord 79 = .ok (.goto (-40), 3) := by decide +kernel
theorem d_Mo_isWord_82 : decode b_Mo_isWord 82 = .ok (.iload_n 2, 1) := by decide +kernel
theorem d_Mo_isWord_83 : decode b_Mo_isWord 83 = .ok (.ireturn, 1) := by decide +kernel
theorem d_Mo_takes_0 : decode b_Mo_takes 0 = .ok (.aload_n 0, 1) := by decide +kernel
theorem d_Mo_takes_1 : decode b_Mo_takes 1 = .ok (.aload_n 1, 1) := by decide +kernel
theorem d_Mo_takes_2 : decode b_Mo_takes 2 = .ok (.invokevirtual 307, 3) := by decide +kernel
theorem d_Mo_takes_5 : decode b_Mo_takes 5 = .ok (.istore_n 2, 1) := by decide +kernel
theorem d_Mo_takes_6 : decode b_Mo_takes 6 = .ok (.iload_n 2, 1) := by decide +kernel
theorem d_Mo_takes_7 : decode b_Mo_takes 7 = .ok (.ifCond .eq 7, 3) := by decide +kernel
theorem d_Mo_takes_10 : decode b_Mo_takes 10 = .ok (.aload_n 0, 1) := by decide +kernel
theorem d_Mo_takes_11 : decode b_Mo_takes 11 = .ok (.invokevirtual 294, 3) := by decide +kernel
theorem d_Mo_takes_14 : decode b_Mo_takes 14 = .ok (.iload_n 2, 1) := by decide +kernel
theorem d_Mo_takes_15 : decode b_Mo_takes 15 = .ok (.ireturn, 1) := by decide +kernel
theorem d_Mo_sign_0 : decode b_Mo_sign 0 = .ok (.aload_n 0, 1) := by decide +kernel
theorem d_Mo_sign_1 : decode b_Mo_sign 1 = .ok (.aload_n 0, 1) := by decide +kernel
theorem d_Mo_sign_2 : decode b_Mo_sign 2 = .ok (.iload_n 1, 1) := by decide +kernel
theorem d_Mo_sign_3 : decode b_Mo_sign 3 = .ok (.invokevirtual 311, 3) := by decide +kernel
theorem d_Mo_sign_6 : decode b_Mo_sign 6 = .ok (.iconst 1, 1) := by decide +kernel
theorem d_Mo_sign_7 : decode b_Mo_sign 7 = .ok (.invokevirtual 314, 3) := by decide +kernel
theorem d_Mo_sign_10 : decode b_Mo_sign 10 = .ok (.aload_n 0, 1) := by decide +kernel
theorem d_Mo_sign_11 : decode b_Mo_sign 11 = .ok (.invokevirtual 318, 3) := by decide +kernel
theorem d_Mo_sign_14 : decode b_Mo_sign 14 = .ok (.return_, 1) := by decide +kernel
theorem d_Mo_numberHere_0 : decode b_Mo_numberHere 0 = .ok (.lconst 0, 1) := by decide +kernel
theorem d_Mo_numberHere_1 : decode b_Mo_numberHere 1 = .ok (.lstore_n 1, 1) := by decide +kernel
theorem d_Mo_numberHere_2 : decode b_Mo_numberHere 2 = .ok (.aload_n 0, 1) := by decide +kernel
theorem d_Mo_numberHere_3 : decode b_Mo_numberHere 3 = .ok (.getfield 278, 3) := by decide +kernel
theorem d_Mo_numberHere_6 : decode b_Mo_numberHere 6 = .ok (.istore_n 3, 1) := by decide +kernel
theorem d_Mo_numberHere_7 : decode b_Mo_numberHere 7 = .ok (.iload_n 3, 1) := by decide +kernel
theorem d_Mo_numberHere_8 : decode b_Mo_numberHere 8 = .ok (.aload_n 0, 1) := by decide +kernel
theorem d_Mo_numberHere_9 : decode b_Mo_numberHere 9 = .ok (.getfield 272, 3) := by decide +kernel
theorem d_Mo_numberHere_12 : decode b_Mo_numberHere 12 = .ok (.if_icmp .ge 38, 3) := by decide +kernel
theorem d_Mo_numberHere_15 : decode b_Mo_numberHere 15 = .ok (.iload_n 3, 1) := by decide +kernel
theorem d_Mo_numberHere_16 : decode b_Mo_numberHere 16 = .ok (.aload_n 0, 1) := by decide +kernel
theorem d_Mo_numberHere_17 : decode b_Mo_numberHere 17 = .ok (.getfield 278, 3) := by decide +kernel
theorem d_Mo_numberHere_20 : decode b_Mo_numberHere 20 = .ok (.bipush 9, 2) := by decide +kernel
theorem d_Mo_numberHere_22 : decode b_Mo_numberHere 22 = .ok (.iadd, 1) := by decide +kernel
theorem d_Mo_numberHere_23 : decode b_Mo_numberHere 23 = .ok (.if_icmp .ge 27, 3) := by decide +kernel
theorem d_Mo_numberHere_26 : decode b_Mo_numberHere 26 = .ok (.ldc2_w 110, 3) := by decide +kernel
theorem d_Mo_numberHere_29 : decode b_Mo_numberHere 29 = .ok (.lload_n 1, 1) := by decide +kernel
theorem d_Mo_numberHere_30 : decode b_Mo_numberHere 30 = .ok (.lmul, 1) := by decide +kernel
theorem d_Mo_numberHere_31 : decode b_Mo_numberHere 31 = .ok (.aload_n 0, 1) := by decide +kernel
theorem d_Mo_numberHere_32 : decode b_Mo_numberHere 32 = .ok (.getfield 26, 3) := by decide +kernel
theorem d_Mo_numberHere_35 : decode b_Mo_numberHere 35 = .ok (.iload_n 3, 1) := by decide +kernel
theorem d_Mo_numberHere_36 : decode b_Mo_numberHere 36 = .ok (.iaload, 1) := by decide +kernel
theorem d_Mo_numberHere_37 : decode b_Mo_numberHere 37 = .ok (.i2l, 1) := by decide +kernel
theorem d_Mo_numberHere_38 : decode b_Mo_numberHere 38 = .ok (.ladd, 1) := by decide +kernel
theorem d_Mo_numberHere_39 : decode b_Mo_numberHere 39 = .ok (.ldc2_w 321, 3) := by decide +kernel
theorem d_Mo_numberHere_42 : decode b_Mo_numberHere 42 = .ok (.lsub, 1) := by decide +kernel
theorem d_Mo_numberHere_43 : decode b_Mo_numberHere 43 = .ok (.lstore_n 1, 1) := by decide +kernel
theorem d_Mo_numberHere_44 : decode b_Mo_numberHere 44 = .ok (.iinc 3 1, 3) := by decide +kernel
theorem d_Mo_numberHere_47 : decode b_Mo_numberHere 47 = .ok (.goto (-40), 3) := by decide +kernel
theorem d_Mo_numberHere_50 : decode b_Mo_numberHere 50 = .ok (.aload_n 0, 1) := by decide +kernel
theorem d_Mo_numberHere_51 : decode b_Mo_numberHere 51 = .ok (.getfield 272, 3) := by decide +kernel
theorem d_Mo_numberHere_54 : decode b_Mo_numberHere 54 = .ok (.aload_n 0, 1) := by decide +kernel
theorem d_Mo_numberHere_55 : decode b_Mo_numberHere 55 = .ok (.getfield 278, 3) := by decide +kernel
theorem d_Mo_numberHere_58 : decode b_Mo_numberHere 58 = .ok (.isub, 1) := by decide +kernel
theorem d_Mo_numberHere_59 : decode b_Mo_numberHere 59 = .ok (.bipush 9, 2) := by decide +kernel
theorem d_Mo_numberHere_61 : decode b_Mo_numberHere 61 = .ok (.if_icmp .le 9, 3) := by decide +kernel
theorem d_Mo_numberHere_64 : decode b_Mo_numberHere 64 = .ok (.ldc2_w 323, 3) := by decide +kernel
theorem d_Mo_numberHere_67 : decode b_Mo_numberHere 67 = .ok (.goto 4, 3) := by decide +kernel
theorem d_Mo_numberHere_70 : decode b_Mo_numberHere 70 = .ok (.lload_n 1, 1) := by decide +kernel
theorem d_Mo_numberHere_71 : decode b_Mo_numberHere 71 = .ok (.lreturn, 1) := by decide +kernel
theorem d_Mo_numberAhead_0 : decode b_Mo_numberAhead 0 = .ok (.aload_n 0, 1) := by decide +kernel
theorem d_Mo_numberAhead_1 : decode b_Mo_numberAhead 1 = .ok (.aload_n 0, 1) := by decide +kernel
theorem d_Mo_numberAhead_2 : decode b_Mo_numberAhead 2 = .ok (.getfield 288, 3) := by decide +kernel
theorem d_Mo_numberAhead_5 : decode b_Mo_numberAhead 5 = .ok (.iconst 2, 1) := by decide +kernel
theorem d_Mo_numberAhead_6 : decode b_Mo_numberAhead 6 = .ok (.if_icmp .ne 7, 3) := by decide +kernel
theorem d_Mo_numberAhead_9 : decode b_Mo_numberAhead 9 = .ok (.iconst 1, 1) := by decide +kernel
theorem d_Mo_numberAhead_10 : decode b_Mo_numberAhead 10 = .ok (.goto 4, 3) := by decide +kernel
theorem d_Mo_numberAhead_13 : decode b_Mo_numberAhead 13 = .ok (.iconst 0, 1) := by decide +kernel
theorem d_Mo_numberAhead_14 : decode b_Mo_numberAhead 14 = .ok (.iconst 1, 1) := by decide +kernel
theorem d_Mo_numberAhead_15 : decode b_Mo_numberAhead 15 = .ok (.invokevirtual 314, 3) := by decide +kernel
theorem d_Mo_numberAhead_18 : decode b_Mo_numberAhead 18 = .ok (.aload_n 0, 1) := by decide +kernel
theorem d_Mo_numberAhead_19 : decode b_Mo_numberAhead 19 = .ok (.aload_n 0, 1) := by decide +kernel
theorem d_Mo_numberAhead_20 : decode b_Mo_numberAhead 20 = .ok (.invokevirtual 297, 3) := by decide +kernel
theorem d_Mo_numberAhead_23 : decode b_Mo_numberAhead 23 = .ok (.ifCond .eq 15, 3) := by decide +kernel
theorem d_Mo_numberAhead_26 : decode b_Mo_numberAhead 26 = .ok (.aload_n 0, 1) := by decide +kernel
theorem d_Mo_numberAhead_27 : decode b_Mo_numberAhead 27 = .ok (.invokevirtual 325, 3) := by decide +kernel
theorem d_Mo_numberAhead_30 : decode b_Mo_numberAhead 30 = .ok (.lload_n 1, 1) := by decide +kernel
theorem d_Mo_numberAhead_31 : decode b_Mo_numberAhead 31 = .ok (.lload_n 3, 1) := by decide +kernel
theorem d_Mo_numberAhead_32 : decode b_Mo_numberAhead 32 = .ok (.invokestatic 118, 3) := by decide +kernel
theorem d_Mo_numberAhead_35 : decode b_Mo_numberAhead 35 = .ok (.ifCond .eq 7, 3) := by decide +kernel
theorem d_Mo_numberAhead_38 : decode b_Mo_numberAhead 38 = .ok (.iconst 1, 1) := by decide +kernel
theorem d_Mo_numberAhead_39 : decode b_Mo_numberAhead 39 = .ok (.goto 4, 3) := by decide +kernel
theorem d_Mo_numberAhead_42 : decode b_Mo_numberAhead 42 = .ok (.iconst 0, 1) := by decide +kernel
theorem d_Mo_numberAhead_43 : decode b_Mo_numberAhead 43 = .ok (.iconst 2, 1) := by decide +kernel
theorem d_Mo_numberAhead_44 : decode b_Mo_numberAhead 44 = .ok (.invokevirtual 314, 3) := by decide +kernel
theorem d_Mo_numberAhead_47 : decode b_Mo_numberAhead 47 = .ok (.aload_n 0, 1) := by decide +kernel
theorem d_Mo_numberAhead_48 : decode b_Mo_numberAhead 48 = .ok (.invokevirtual 297, 3) := by decide +kernel
theorem d_Mo_numberAhead_51 : decode b_Mo_numberAhead 51 = .ok (.ifCond .eq 10, 3) := by decide +kernel
theorem d_Mo_numberAhead_54 : decode b_Mo_numberAhead 54 = .ok (.aload_n 0, 1) := by decide +kernel
theorem d_Mo_numberAhead_55 : decode b_Mo_numberAhead 55 = .ok (.invokevirtual 325, 3) := by decide +kernel
theorem d_Mo_numberAhead_58 : decode b_Mo_numberAhead 58 = .ok (.goto 4, 3) := by decide +kernel
theorem d_Mo_numberAhead_61 : decode b_Mo_numberAhead 61 = .ok (.lload_n 1, 1) := by decide +kernel
theorem d_Mo_numberAhead_62 : decode b_Mo_numberAhead 62 = .ok (.lreturn, 1) := by decide +kernel
theorem d_Mo_number_0 : decode b_Mo_number 0 = .ok (.aload_n 0, 1) := by decide +kernel
theorem d_Mo_number_1 : decode b_Mo_number 1 = .ok (.lload_n 1, 1) := by decide +kernel
theorem d_Mo_number_2 : decode b_Mo_number 2 = .ok (.lload_n 3, 1) := by decide +kernel
theorem d_Mo_number_3 : decode b_Mo_number 3 = .ok (.invokevirtual 328, 3) := by decide +kernel
theorem d_Mo_number_6 : decode b_Mo_number 6 = .ok (.lstore 5, 2) := by decide +kernel
theorem d_Mo_number_8 : decode b_Mo_number 8 = .ok (.aload_n 0, 1) := by decide +kernel
theorem d_Mo_number_9 : decode b_Mo_number 9 = .ok (.invokevirtual 318, 3) := by decide +kernel
theorem d_Mo_number_12 : decode b_Mo_number 12 = .ok (.lload 5, 2) := by decide +kernel
theorem d_Mo_number_14 : decode b_Mo_number 14 = .ok (.lreturn, 1) := by decide +kernel
theorem d_Mo_signed_0 : decode b_Mo_signed 0 = .ok (.aload_n 0, 1) := by decide +kernel
theorem d_Mo_signed_1 : decode b_Mo_signed 1 = .ok (.bipush 45, 2) := by decide +kernel
theorem d_Mo_signed_3 : decode b_Mo_signed 3 = .ok (.invokevirtual 311, 3) := by decide +kernel
theorem d_Mo_signed_6 : decode b_Mo_signed 6 = .ok (.istore 5, 2) := by decide +kernel
theorem d_Mo_signed_8 : decode b_Mo_signed 8 = .ok (.iload 5, 2) := by decide +kernel
theorem d_Mo_signed_10 : decode b_Mo_signed 10 = .ok (.ifCond .eq 7, 3) := by decide +kernel
theorem d_Mo_signed_13 : decode b_Mo_signed 13 = .ok (.aload_n 0, 1) := by decide +kernel
theorem d_Mo_signed_14 : decode b_Mo_signed 14 = .ok (.invokevirtual 294, 3) := by decide +kernel
theorem d_Mo_signed_17 : decode b_Mo_signed 17 = .ok (.aload_n 0, 1) := by decide +kernel
theorem d_Mo_signed_18 : decode b_Mo_signed 18 = .ok (.aload_n 0, 1) := by decide +kernel
theorem d_Mo_signed_19 : decode b_Mo_signed 19 = .ok (.getfield 288, 3) := by decide +kernel
theorem d_Mo_signed_22 : decode b_Mo_signed 22 = .ok (.iconst 2, 1) := by decide +kernel
theorem d_Mo_signed_23 : decode b_Mo_signed 23 = .ok (.if_icmp .ne 7, 3) := by decide +kernel
theorem d_Mo_signed_26 : decode b_Mo_signed 26 = .ok (.iconst 1, 1) := by decide +kernel
theorem d_Mo_signed_27 : decode b_Mo_signed 27 = .ok (.goto 4, 3) := by decide +kernel
theorem d_Mo_signed_30 : decode b_Mo_signed 30 = .ok (.iconst 0, 1) := by decide +kernel
theorem d_Mo_signed_31 : decode b_Mo_signed 31 = .ok (.iconst 1, 1) := by decide +kernel
theorem d_Mo_signed_32 : decode b_Mo_signed 32 = .ok (.invokevirtual 314, 3) := by decide +kernel
theorem d_Mo_signed_35 : decode b_Mo_signed 35 = .ok (.iload 5, 2) := by decide +kernel
theorem d_Mo_signed_37 : decode b_Mo_signed 37 = .ok (.ifCond .eq 20, 3) := by decide +kernel
theorem d_Mo_signed_40 : decode b_Mo_signed 40 = .ok (.aload_n 0, 1) := by decide +kernel
theorem d_Mo_signed_41 : decode b_Mo_signed 41 = .ok (.invokevirtual 325, 3) := by decide +kernel
theorem d_Mo_signed_44 : decode b_Mo_signed 44 = .ok (.lconst 0, 1) := by decide +kernel
theorem d_Mo_signed_45 : decode b_Mo_signed 45 = .ok (.lcmp, 1) := by decide +kernel
theorem d_Mo_signed_46 : decode b_Mo_signed 46 = .ok (.ifCond .lt 11, 3) := by decide +kernel
theorem d_Mo_signed_49 : decode b_Mo_signed 49 = .ok (.aload_n 0, 1) := by decide +kernel
theorem d_Mo_signed_50 : decode b_Mo_signed 50 = .ok (.invokevirtual 325, 3) := by decide +kernel
theorem d_Mo_signed_53 : decode b_Mo_signed 53 = .ok (.lneg, 1) := by decide +kernel
theorem d_Mo_signed_54 : decode b_Mo_signed 54 = .ok (.goto 7, 3) := by decide +kernel
theorem d_Mo_signed_57 : decode b_Mo_signed 57 = .ok (.aload_n 0, 1) := by decide +kernel
theorem d_Mo_signed_58 : decode b_Mo_signed 58 = .ok (.invokevirtual 325, 3) := by decide +kernel
theorem d_Mo_signed_61 : decode b_Mo_signed 61 = .ok (.lstore 6, 2) := by decide +kernel
theorem d_Mo_signed_63 : decode b_Mo_signed 63 = .ok (.aload_n 0, 1) := by decide +kernel
theorem d_Mo_signed_64 : decode b_Mo_signed 64 = .ok (.aload_n 0, 1) := by decide +kernel
theorem d_Mo_signed_65 : decode b_Mo_signed 65 = .ok (.invokevirtual 297, 3) := by decide +kernel
theorem d_Mo_signed_68 : decode b_Mo_signed 68 = .ok (.ifCond .eq 13, 3) := by decide +kernel
theorem d_Mo_signed_71 : decode b_Mo_signed 71 = .ok (.lload 6, 2) := by decide +kernel
theorem d_Mo_signed_73 : decode b_Mo_signed 73 = .ok (.lload_n 1, 1) := by decide +kernel
theorem d_Mo_signed_74 : decode b_Mo_signed 74 = .ok (.lload_n 3, 1) := by decide +kernel
theorem d_Mo_signed_75 : decode b_Mo_signed 75 = .ok (.invokestatic 118, 3) := by decide +kernel
theorem d_Mo_signed_78 : decode b_Mo_signed 78 = .ok (.ifCond .eq 7, 3) := by decide +kernel
theorem d_Mo_signed_81 : decode b_Mo_signed 81 = .ok (.iconst 1, 1) := by decide +kernel
theorem d_Mo_signed_82 : decode b_Mo_signed 82 = .ok (.goto 4, 3) := by decide +kernel
theorem d_Mo_signed_85 : decode b_Mo_signed 85 = .ok (.iconst 0, 1) := by decide +kernel
theorem d_Mo_signed_86 : decode b_Mo_signed 86 = .ok (.iconst 2, 1) := by decide +kernel
theorem d_Mo_signed_87 : decode b_Mo_signed 87 = .ok (.invokevirtual 314, 3) := by decide +kernel
theorem d_Mo_signed_90 : decode b_Mo_signed 90 = .ok (.aload_n 0, 1) := by decide +kernel
theorem d_Mo_signed_91 : decode b_Mo_signed 91 = .ok (.invokevirtual 318, 3) := by decide +kernel
theorem d_Mo_signed_94 : decode b_Mo_signed 94 = .ok (.lload 6, 2) := by decide +kernel
theorem d_Mo_signed_96 : decode b_Mo_signed 96 = .ok (.lreturn, 1) := by decide +kernel
theorem d_Mo_once_0 : decode b_Mo_once 0 = .ok (.aload_n 0, 1) := by decide +kernel
theorem d_Mo_once_1 : decode b_Mo_once 1 = .ok (.aload_n 0, 1) := by decide +kernel
theorem d_Mo_once_2 : decode b_Mo_once 2 = .ok (.getfield 34, 3) := by decide +kernel
theorem d_Mo_once_5 : decode b_Mo_once 5 = .ok (.iload_n 1, 1) := by decide +kernel
theorem d_Mo_once_6 : decode b_Mo_once 6 = .ok (.baload, 1) := by decide +kernel
theorem d_Mo_once_7 : decode b_Mo_once 7 = .ok (.ifCond .ne 7, 3) := by decide +kernel
theorem d_Mo_once_10 : decode b_Mo_once 10 = .ok (.iconst 1, 1) := by decide +kernel
theorem d_Mo_once_11 : decode b_Mo_once 11 = .ok (.goto 4, 3) := by decide +kernel
theorem d_Mo_once_14 : decode b_Mo_once 14 = .ok (.iconst 0, 1) := by decide +kernel
theorem d_Mo_once_15 : decode b_Mo_once 15 = .ok (.iconst 3, 1) := by decide +kernel
theorem d_Mo_once_16 : decode b_Mo_once 16 = .ok (.invokevirtual 314, 3) := by decide +kernel
theorem d_Mo_once_19 : decode b_Mo_once 19 = .ok (.aload_n 0, 1) := by decide +kernel
theorem d_Mo_once_20 : decode b_Mo_once 20 = .ok (.getfield 34, 3) := by decide +kernel
theorem d_Mo_once_23 : decode b_Mo_once 23 = .ok (.iload_n 1, 1) := by decide +kernel
theorem d_Mo_once_24 : decode b_Mo_once 24 = .ok (.iconst 1, 1) := by decide +kernel
theorem d_Mo_once_25 : decode b_Mo_once 25 = .ok (.bastore, 1) := by decide +kernel
theorem d_Mo_once_26 : decode b_Mo_once 26 = .ok (.aload_n 0, 1) := by decide +kernel
theorem d_Mo_once_27 : decode b_Mo_once 27 = .ok (.invokevirtual 318, 3) := by decide +kernel
theorem d_Mo_once_30 : decode b_Mo_once 30 = .ok (.return_, 1) := by decide +kernel
theorem d_Mo_readBox_0 : decode b_Mo_readBox 0 = .ok (.aload_n 0, 1) := by decide +kernel
theorem d_Mo_readBox_1 : decode b_Mo_readBox 1 = .ok (.iconst 0, 1) := by decide +kernel
theorem d_Mo_readBox_2 : decode b_Mo_readBox 2 = .ok (.invokevirtual 331, 3) := by decide +kernel
theorem d_Mo_readBox_5 : decode b_Mo_readBox 5 = .ok (.aload_n 0, 1) := by decide +kernel
theorem d_Mo_readBox_6 : decode b_Mo_readBox 6 = .ok (.getfield 13, 3) := by decide +kernel
theorem d_Mo_readBox_9 : decode b_Mo_readBox 9 = .ok (.iconst 1, 1) := by decide +kernel
theorem d_Mo_readBox_10 : decode b_Mo_readBox 10 = .ok (.aload_n 0, 1) := by decide +kernel
theorem d_Mo_readBox_11 : decode b_Mo_readBox 11 = .ok (.lconst 0, 1) := by decide +kernel
theorem d_Mo_readBox_12 : decode b_Mo_readBox 12 = .ok (.ldc2_w 116, 3) := by decide +kernel
theorem d_Mo_readBox_15 : decode b_Mo_readBox 15 = .ok (.invokevirtual 334, 3) := by decide +kernel
theorem d_Mo_readBox_18 : decode b_Mo_readBox 18 = .ok (.l2i, 1) := by decide +kernel
theorem d_Mo_readBox_19 : decode b_Mo_readBox 19 = .ok (.invokestatic 122, 3) := by decide +kernel
theorem d_Mo_readBox_22 : decode b_Mo_readBox 22 = .ok (.lastore, 1) := by decide +kernel
theorem d_Mo_readBox_23 : decode b_Mo_readBox 23 = .ok (.aload_n 0, 1) := by decide +kernel
theorem d_Mo_readBox_24 : decode b_Mo_readBox 24 = .ok (.getfield 13, 3) := by decide +kernel
theorem d_Mo_readBox_27 : decode b_Mo_readBox 27 = .ok (.iconst 2, 1) := by decide +kernel
theorem d_Mo_readBox_28 : decode b_Mo_readBox 28 = .ok (.aload_n 0, 1) := by decide +kernel
theorem d_Mo_readBox_29 : decode b_Mo_readBox 29 = .ok (.lconst 0, 1) := by decide +kernel
theorem d_Mo_readBox_30 : decode b_Mo_readBox 30 = .ok (.ldc2_w 337, 3) := by decide +kernel
theorem d_Mo_readBox_33 : decode b_Mo_readBox 33 = .ok (.invokevirtual 334, 3) := by decide +kernel
theorem d_Mo_readBox_36 : decode b_Mo_readBox 36 = .ok (.lastore, 1) := by decide +kernel
theorem d_Mo_readBox_37 : decode b_Mo_readBox 37 = .ok (.aload_n 0, 1) := by decide +kernel
theorem d_Mo_readBox_38 : decode b_Mo_readBox 38 = .ok (.getfield 13, 3) := by decide +kernel
theorem d_Mo_readBox_41 : decode b_Mo_readBox 41 = .ok (.iconst 3, 1) := by decide +kernel
theorem d_Mo_readBox_42 : decode b_Mo_readBox 42 = .ok (.aload_n 0, 1) := by decide +kernel
theorem d_Mo_readBox_43 : decode b_Mo_readBox 43 = .ok (.ldc2_w 339, 3) := by decide +kernel
theorem d_Mo_readBox_46 : decode b_Mo_readBox 46 = .ok (.ldc2_w 341, 3) := by decide +kernel
theorem d_Mo_readBox_49 : decode b_Mo_readBox 49 = .ok (.invokevirtual 343, 3) := by decide +kernel
theorem d_Mo_readBox_52 : decode b_Mo_readBox 52 = .ok (.lastore, 1) := by decide +kernel
theorem d_Mo_readBox_53 : decode b_Mo_readBox 53 = .ok (.aload_n 0, 1) := by decide +kernel
theorem d_Mo_readBox_54 : decode b_Mo_readBox 54 = .ok (.getfield 13, 3) := by decide +kernel
theorem d_Mo_readBox_57 : decode b_Mo_readBox 57 = .ok (.iconst 4, 1) := by decide +kernel
theorem d_Mo_readBox_58 : decode b_Mo_readBox 58 = .ok (.aload_n 0, 1) := by decide +kernel
theorem d_Mo_readBox_59 : decode b_Mo_readBox 59 = .ok (.ldc2_w 339, 3) := by decide +kernel
theorem d_Mo_readBox_62 : decode b_Mo_readBox 62 = .ok (.ldc2_w 341, 3) := by decide +kernel
theorem d_Mo_readBox_65 : decode b_Mo_readBox 65 = .ok (.invokevirtual 343, 3) := by decide +kernel
theorem d_Mo_readBox_68 : decode b_Mo_readBox 68 = .ok (.lastore, 1) := by decide +kernel
theorem d_Mo_readBox_69 : decode b_Mo_readBox 69 = .ok (.iconst 2, 1) := by decide +kernel
theorem d_Mo_readBox_70 : decode b_Mo_readBox 70 = .ok (.istore_n 1, 1) := by decide +kernel
theorem d_Mo_readBox_71 : decode b_Mo_readBox 71 = .ok (.aload_n 0, 1) := by decide +kernel
theorem d_Mo_readBox_72 : decode b_Mo_readBox 72 = .ok (.invokevirtual 297, 3) := by decide +kernel
theorem d_Mo_readBox_75 : decode b_Mo_readBox 75 = .ok (.ifCond .eq 49, 3) := by decide +kernel
theorem d_Mo_readBox_78 : decode b_Mo_readBox 78 = .ok (.iload_n 1, 1) := by decide +kernel
theorem d_Mo_readBox_79 : decode b_Mo_readBox 79 = .ok (.iconst 4, 1) := by decide +kernel
theorem d_Mo_readBox_80 : decode b_Mo_readBox 80 = .ok (.if_icmp .ge 44, 3) := by decide +kernel
theorem d_Mo_readBox_83 : decode b_Mo_readBox 83 = .ok (.aload_n 0, 1) := by decide +kernel
theorem d_Mo_readBox_84 : decode b_Mo_readBox 84 = .ok (.getfield 288, 3) := by decide +kernel
theorem d_Mo_readBox_87 : decode b_Mo_readBox 87 = .ok (.iconst 2, 1) := by decide +kernel
theorem d_Mo_readBox_88 : decode b_Mo_readBox 88 = .ok (.if_icmp .eq 12, 3) := by decide +kernel
theorem d_Mo_readBox_91 : decode b_Mo_readBox 91 = .ok (.aload_n 0, 1) := by decide +kernel
theorem d_Mo_readBox_92 : decode b_Mo_readBox 92 = .ok (.bipush 45, 2) := by decide +kernel
theorem d_Mo_readBox_94 : decode b_Mo_readBox 94 = .ok (.invokevirtual 311, 3) := by decide +kernel
theorem d_Mo_readBox_97 : decode b_Mo_readBox 97 = .ok (.ifCond .eq 27, 3) := by decide +kernel
theorem d_Mo_readBox_100 : decode b_Mo_readBox 100 = .ok (.aload_n 0, 1) := by decide +kernel
theorem d_Mo_readBox_101 : decode b_Mo_readBox 101 = .ok (.getfield 13, 3) := by decide +kernel
theorem d_Mo_readBox_104 : decode b_Mo_readBox 104 = .ok (.iconst 3, 1) := by decide +kernel
theorem d_Mo_readBox_105 : decode b_Mo_readBox 105 = .ok (.iload_n 1, 1) := by decide +kernel
theorem d_Mo_readBox_106 : decode b_Mo_readBox 106 = .ok (.iadd, 1) := by decide +kernel
theorem d_Mo_readBox_107 : decode b_Mo_readBox 107 = .ok (.aload_n 0, 1) := by decide +kernel
theorem d_Mo_readBox_108 : decode b_Mo_readBox 108 = .ok (.ldc2_w 339, 3) := by decide +kernel
theorem d_Mo_readBox_111 : decode b_Mo_readBox 111 = .ok (.ldc2_w 341, 3) := by decide +kernel
theorem d_Mo_readBox_114 : decode b_Mo_readBox 114 = .ok (.invokevirtual 343, 3) := by decide +kernel
theorem d_Mo_readBox_117 : decode b_Mo_readBox 117 = .ok (.lastore, 1) := by decide +kernel
theorem d_Mo_readBox_118 : decode b_Mo_readBox 118 = .ok (.iinc 1 1, 3) := by decide +kernel
theorem d_Mo_readBox_121 : decode b_Mo_readBox 121 = .ok (.goto (-50), 3) := by decide +kernel
theorem d_Mo_readBox_124 : decode b_Mo_readBox 124 = .ok (.aload_n 0, 1) := by decide +kernel
theorem d_Mo_readBox_125 : decode b_Mo_readBox 125 = .ok (.getfield 13, 3) := by decide +kernel
theorem d_Mo_readBox_128 : decode b_Mo_readBox 128 = .ok (.iconst 0, 1) := by decide +kernel
theorem d_Mo_readBox_129 : decode b_Mo_readBox 129 = .ok (.iload_n 1, 1) := by decide +kernel
theorem d_Mo_readBox_130 : decode b_Mo_readBox 130 = .ok (.i2l, 1) := by decide +kernel
theorem d_Mo_readBox_131 : decode b_Mo_readBox 131 = .ok (.lastore, 1) := by decide +kernel
theorem d_Mo_readBox_132 : decode b_Mo_readBox 132 = .ok (.return_, 1) := by decide +kernel
theorem d_Mo_readRatio_0 : decode b_Mo_readRatio 0 = .ok (.aload_n 0, 1) := by decide +kernel
theorem d_Mo_readRatio_1 : decode b_Mo_readRatio 1 = .ok (.invokevirtual 318, 3) := by decide +kernel
theorem d_Mo_readRatio_4 : decode b_Mo_readRatio 4 = .ok (.aload_n 0, 1) := by decide +kernel
theorem d_Mo_readRatio_5 : decode b_Mo_readRatio 5 = .ok (.lconst 0, 1) := by decide +kernel
theorem d_Mo_readRatio_6 : decode b_Mo_readRatio 6 = .ok (.ldc2_w 116, 3) := by decide +kernel
theorem d_Mo_readRatio_9 : decode b_Mo_readRatio 9 = .ok (.invokevirtual 328, 3) := by decide +kernel
theorem d_Mo_readRatio_12 : decode b_Mo_readRatio 12 = .ok (.l2i, 1) := by decide +kernel
theorem d_Mo_readRatio_13 : decode b_Mo_readRatio 13 = .ok (.istore_n 1, 1) := by decide +kernel
theorem d_Mo_readRatio_14 : decode b_Mo_readRatio 14 = .ok (.aload_n 0, 1) := by decide +kernel
theorem d_Mo_readRatio_15 : decode b_Mo_readRatio 15 = .ok (.aload_n 0, 1) := by decide +kernel
theorem d_Mo_readRatio_16 : decode b_Mo_readRatio 16 = .ok (.getfield 37, 3) := by decide +kernel
theorem d_Mo_readRatio_19 : decode b_Mo_readRatio 19 = .ok (.iload_n 1, 1) := by decide +kernel
theorem d_Mo_readRatio_20 : decode b_Mo_readRatio 20 = .ok (.baload, 1) := by decide +kernel
theorem d_Mo_readRatio_21 : decode b_Mo_readRatio 21 = .ok (.ifCond .ne 7, 3) := by decide +kernel
theorem d_Mo_readRatio_24 : decode b_Mo_readRatio 24 = .ok (.iconst 1, 1) := by decide +kernel
theorem d_Mo_readRatio_25 : decode b_Mo_readRatio 25 = .ok (.goto 4, 3) := by decide +kernel
theorem d_Mo_readRatio_28 : decode b_Mo_readRatio 28 = .ok (.iconst 0, 1) := by decide +kernel
theorem d_Mo_readRatio_29 : decode b_Mo_readRatio 29 = .ok (.iconst 3, 1) := by decide +kernel
theorem d_Mo_readRatio_30 : decode b_Mo_readRatio 30 = .ok (.invokevirtual 314, 3) := by decide +kernel
theorem d_Mo_readRatio_33 : decode b_Mo_readRatio 33 = .ok (.aload_n 0, 1) := by decide +kernel
theorem d_Mo_readRatio_34 : decode b_Mo_readRatio 34 = .ok (.invokevirtual 318, 3) := by decide +kernel
theorem d_Mo_readRatio_37 : decode b_Mo_readRatio 37 = .ok (.aload_n 0, 1) := by decide +kernel
theorem d_Mo_readRatio_38 : decode b_Mo_readRatio 38 = .ok (.getfield 37, 3) := by decide +kernel
theorem d_Mo_readRatio_41 : decode b_Mo_readRatio 41 = .ok (.iload_n 1, 1) := by decide +kernel
theorem d_Mo_readRatio_42 : decode b_Mo_readRatio 42 = .ok (.iconst 1, 1) := by decide +kernel
theorem d_Mo_readRatio_43 : decode b_Mo_readRatio 43 = .ok (.bastore, 1) := by decide +kernel
theorem d_Mo_readRatio_44 : decode b_Mo_readRatio 44 = .ok (.aload_n 0, 1) := by decide +kernel
theorem d_Mo_readRatio_45 : decode b_Mo_readRatio 45 = .ok (.getfield 13, 3) := by decide +kernel
theorem d_Mo_readRatio_48 : decode b_Mo_readRatio 48 = .ok (.bipush 7, 2) := by decide +kernel
theorem d_Mo_readRatio_50 : decode b_Mo_readRatio 50 = .ok (.iload_n 1, 1) := by decide +kernel
theorem d_Mo_readRatio_51 : decode b_Mo_readRatio 51 = .ok (.iadd, 1) := by decide +kernel
theorem d_Mo_readRatio_52 : decode b_Mo_readRatio 52 = .ok (.aload_n 0, 1) := by decide +kernel
theorem d_Mo_readRatio_53 : decode b_Mo_readRatio 53 = .ok (.ldc2_w 339, 3) := by decide +kernel
theorem d_Mo_readRatio_56 : decode b_Mo_readRatio 56 = .ok (.ldc2_w 341, 3) := by decide +kernel
theorem d_Mo_readRatio_59 : decode b_Mo_readRatio 59 = .ok (.invokevirtual 343, 3) := by decide +kernel
theorem d_Mo_readRatio_62 : decode b_Mo_readRatio 62 = .ok (.lastore, 1) := by decide +kernel
theorem d_Mo_readRatio_63 : decode b_Mo_readRatio 63 = .ok (.return_, 1) := by decide +kernel
theorem d_Mo_readWarm_0 : decode b_Mo_readWarm 0 = .ok (.aload_n 0, 1) := by decide +kernel
theorem d_Mo_readWarm_1 : decode b_Mo_readWarm 1 = .ok (.invokevirtual 318, 3) := by decide +kernel
theorem d_Mo_readWarm_4 : decode b_Mo_readWarm 4 = .ok (.aload_n 0, 1) := by decide +kernel
theorem d_Mo_readWarm_5 : decode b_Mo_readWarm 5 = .ok (.ldc_w 346, 3) := by decide +kernel
theorem d_Mo_readWarm_8 : decode b_Mo_readWarm 8 = .ok (.invokevirtual 307, 3) := by decide +kernel
theorem d_Mo_readWarm_11 : decode b_Mo_readWarm 11 = .ok (.istore_n 1, 1) := by decide +kernel
theorem d_Mo_readWarm_12 : decode b_Mo_readWarm 12 = .ok (.aload_n 0, 1) := by decide +kernel
theorem d_Mo_readWarm_13 : decode b_Mo_readWarm 13 = .ok (.iload_n 1, 1) := by decide +kernel
theorem d_Mo_readWarm_14 : decode b_Mo_readWarm 14 = .ok (.ifCond .ne 13, 3) := by decide +kernel
theorem d_Mo_readWarm_17 : decode b_Mo_readWarm 17 = .ok (.aload_n 0, 1) := by decide +kernel
theorem d_Mo_readWarm_18 : decode b_Mo_readWarm 18 = .ok (.ldc_w 348, 3) := by decide +kernel
theorem d_Mo_readWarm_21 : decode b_Mo_readWarm 21 = .ok (.invokevirtual 307, 3) := by decide +kernel
theorem d_Mo_readWarm_24 : decode b_Mo_readWarm 24 = .ok (.ifCond .eq 7, 3) := by decide +kernel
theorem d_Mo_readWarm_27 : decode b_Mo_readWarm 27 = .ok (.iconst 1, 1) := by decide +kernel
theorem d_Mo_readWarm_28 : decode b_Mo_readWarm 28 = .ok (.goto 4, 3) := by decide +kernel
theorem d_Mo_readWarm_31 : decode b_Mo_readWarm 31 = .ok (.iconst 0, 1) := by decide +kernel
theorem d_Mo_readWarm_32 : decode b_Mo_readWarm 32 = .ok (.iconst 1, 1) := by decide +kernel
theorem d_Mo_readWarm_33 : decode b_Mo_readWarm 33 = .ok (.invokevirtual 314, 3) := by decide +kernel
theorem d_Mo_readWarm_36 : decode b_Mo_readWarm 36 = .ok (.aload_n 0, 1) := by decide +kernel
theorem d_Mo_readWarm_37 : decode b_Mo_readWarm 37 = .ok (.aload_n 0, 1) := by decide +kernel
theorem d_Mo_readWarm_38 : decode b_Mo_readWarm 38 = .ok (.getfield 40, 3) := by decide +kernel
theorem d_Mo_readWarm_41 : decode b_Mo_readWarm 41 = .ok (.iload_n 1, 1) := by decide +kernel
theorem d_Mo_readWarm_42 : decode b_Mo_readWarm 42 = .ok (.ifCond .eq 7, 3) := by decide +kernel
theorem d_Mo_readWarm_45 : decode b_Mo_readWarm 45 = .ok (.iconst 1, 1) := by decide +kernel
theorem d_Mo_readWarm_46 : decode b_Mo_readWarm 46 = .ok (.goto 4, 3) := by decide +kernel
theorem d_Mo_readWarm_49 : decode b_Mo_readWarm 49 = .ok (.iconst 0, 1) := by decide +kernel
theorem d_Mo_readWarm_50 : decode b_Mo_readWarm 50 = .ok (.baload, 1) := by decide +kernel
theorem d_Mo_readWarm_51 : decode b_Mo_readWarm 51 = .ok (.ifCond .ne 7, 3) := by decide +kernel
theorem d_Mo_readWarm_54 : decode b_Mo_readWarm 54 = .ok (.iconst 1, 1) := by decide +kernel
theorem d_Mo_readWarm_55 : decode b_Mo_readWarm 55 = .ok (.goto 4, 3) := by decide +kernel
theorem d_Mo_readWarm_58 : decode b_Mo_readWarm 58 = .ok (.iconst 0, 1) := by decide +kernel
theorem d_Mo_readWarm_59 : decode b_Mo_readWarm 59 = .ok (.iconst 3, 1) := by decide +kernel
theorem d_Mo_readWarm_60 : decode b_Mo_readWarm 60 = .ok (.invokevirtual 314, 3) := by decide +kernel
theorem d_Mo_readWarm_63 : decode b_Mo_readWarm 63 = .ok (.aload_n 0, 1) := by decide +kernel
theorem d_Mo_readWarm_64 : decode b_Mo_readWarm 64 = .ok (.getfield 40, 3) := by decide +kernel
theorem d_Mo_readWarm_67 : decode b_Mo_readWarm 67 = .ok (.iload_n 1, 1) := by decide +kernel
theorem d_Mo_readWarm_68 : decode b_Mo_readWarm 68 = .ok (.ifCond .eq 7, 3) := by decide +kernel
theorem d_Mo_readWarm_71 : decode b_Mo_readWarm 71 = .ok (.iconst 1, 1) := by decide +kernel
theorem d_Mo_readWarm_72 : decode b_Mo_readWarm 72 = .ok (.goto 4, 3) := by decide +kernel
theorem d_Mo_readWarm_75 : decode b_Mo_readWarm 75 = .ok (.iconst 0, 1) := by decide +kernel
theorem d_Mo_readWarm_76 : decode b_Mo_readWarm 76 = .ok (.iconst 1, 1) := by decide +kernel
theorem d_Mo_readWarm_77 : decode b_Mo_readWarm 77 = .ok (.bastore, 1) := by decide +kernel
theorem d_Mo_readWarm_78 : decode b_Mo_readWarm 78 = .ok (.aload_n 0, 1) := by decide +kernel
theorem d_Mo_readWarm_79 : decode b_Mo_readWarm 79 = .ok (.invokevirtual 318, 3) := by decide +kernel
theorem d_Mo_readWarm_82 : decode b_Mo_readWarm 82 = .ok (.iload_n 1, 1) := by decide +kernel
theorem d_Mo_readWarm_83 : decode b_Mo_readWarm 83 = .ok (.ifCond .eq 8, 3) := by decide +kernel
theorem d_Mo_readWarm_86 : decode b_Mo_readWarm 86 = .ok (.bipush 16, 2) := by decide +kernel
theorem d_Mo_readWarm_88 : decode b_Mo_readWarm 88 = .ok (.goto 5, 3) := by decide +kernel
theorem d_Mo_readWarm_91 : decode b_Mo_readWarm 91 = .ok (.bipush 13, 2) := by decide +kernel
theorem d_Mo_readWarm_93 : decode b_Mo_readWarm 93 = .ok (.istore_n 2, 1) := by decide +kernel
theorem d_Mo_readWarm_94 : decode b_Mo_readWarm 94 = .ok (.aload_n 0, 1) := by decide +kernel
theorem d_Mo_readWarm_95 : decode b_Mo_readWarm 95 = .ok (.getfield 13, 3) := by decide +kernel
theorem d_Mo_readWarm_98 : decode b_Mo_readWarm 98 = .ok (.iload_n 2, 1) := by decide +kernel
theorem d_Mo_readWarm_99 : decode b_Mo_readWarm 99 = .ok (.iconst 0, 1) := by decide +kernel
theorem d_Mo_readWarm_100 : decode b_Mo_readWarm 100 = .ok (.iadd, 1) := by decide +kernel
theorem d_Mo_readWarm_101 : decode b_Mo_readWarm 101 = .ok (.aload_n 0, 1) := by decide +kernel
theorem d_Mo_readWarm_102 : decode b_Mo_readWarm 102 = .ok (.ldc2_w 350, 3) := by decide +kernel
theorem d_Mo_readWarm_105 : decode b_Mo_readWarm 105 = .ok (.ldc2_w 352, 3) := by decide +kernel
theorem d_Mo_readWarm_108 : decode b_Mo_readWarm 108 = .ok (.invokevirtual 343, 3) := by decide +kernel
theorem d_Mo_readWarm_111 : decode b_Mo_readWarm 111 = .ok (.lastore, 1) := by decide +kernel
theorem d_Mo_readWarm_112 : decode b_Mo_readWarm 112 = .ok (.aload_n 0, 1) := by decide +kernel
theorem d_Mo_readWarm_113 : decode b_Mo_readWarm 113 = .ok (.getfield 13, 3) := by decide +kernel
theorem d_Mo_readWarm_116 : decode b_Mo_readWarm 116 = .ok (.iload_n 2, 1) := by decide +kernel
theorem d_Mo_readWarm_117 : decode b_Mo_readWarm 117 = .ok (.iconst 1, 1) := by decide +kernel
theorem d_Mo_readWarm_118 : decode b_Mo_readWarm 118 = .ok (.iadd, 1) := by decide +kernel
theorem d_Mo_readWarm_119 : decode b_Mo_readWarm 119 = .ok (.aload_n 0, 1) := by decide +kernel
theorem d_Mo_readWarm_120 : decode b_Mo_readWarm 120 = .ok (.lconst 0, 1) := by decide +kernel
theorem d_Mo_readWarm_121 : decode b_Mo_readWarm 121 = .ok (.ldc2_w 337, 3) := by decide +kernel
theorem d_Mo_readWarm_124 : decode b_Mo_readWarm 124 = .ok (.invokevirtual 334, 3) := by decide +kernel
theorem d_Mo_readWarm_127 : decode b_Mo_readWarm 127 = .ok (.lastore, 1) := by decide +kernel
theorem d_Mo_readWarm_128 : decode b_Mo_readWarm 128 = .ok (.aload_n 0, 1) := by decide +kernel
theorem d_Mo_readWarm_129 : decode b_Mo_readWarm 129 = .ok (.getfield 13, 3) := by decide +kernel
theorem d_Mo_readWarm_132 : decode b_Mo_readWarm 132 = .ok (.iload_n 2, 1) := by decide +kernel
theorem d_Mo_readWarm_133 : decode b_Mo_readWarm 133 = .ok (.iconst 2, 1) := by decide +kernel
theorem d_Mo_readWarm_134 : decode b_Mo_readWarm 134 = .ok (.iadd, 1) := by decide +kernel
theorem d_Mo_readWarm_135 : decode b_Mo_readWarm 135 = .ok (.aload_n 0, 1) := by decide +kernel
theorem d_Mo_readWarm_136 : decode b_Mo_readWarm 136 = .ok (.lconst 0, 1) := by decide +kernel
theorem d_Mo_readWarm_137 : decode b_Mo_readWarm 137 = .ok (.ldc2_w 354, 3) := by decide +kernel
theorem d_Mo_readWarm_140 : decode b_Mo_readWarm 140 = .ok (.invokevirtual 334, 3) := by decide +kernel
theorem d_Mo_readWarm_143 : decode b_Mo_readWarm 143 = .ok (.lastore, 1) := by decide +kernel
theorem d_Mo_readWarm_144 : decode b_Mo_readWarm 144 = .ok (.return_, 1) := by decide +kernel
theorem d_Mo_readLeads_0 : decode b_Mo_readLeads 0 = .ok (.aload_n 0, 1) := by decide +kernel
theorem d_Mo_readLeads_1 : decode b_Mo_readLeads 1 = .ok (.iconst 2, 1) := by decide +kernel
theorem d_Mo_readLeads_2 : decode b_Mo_readLeads 2 = .ok (.invokevirtual 331, 3) := by decide +kernel
theorem d_Mo_readLeads_5 : decode b_Mo_readLeads 5 = .ok (.iconst 0, 1) := by decide +kernel
theorem d_Mo_readLeads_6 : decode b_Mo_readLeads 6 = .ok (.istore_n 1, 1) := by decide +kernel
theorem d_Mo_readLeads_7 : decode b_Mo_readLeads 7 = .ok (.iload_n 1, 1) := by decide +kernel
theorem d_Mo_readLeads_8 : decode b_Mo_readLeads 8 = .ok (.iconst 3, 1) := by decide +kernel
theorem d_Mo_readLeads_9 : decode b_Mo_readLeads 9 = .ok (.if_icmp .ge 26, 3) := by decide +kernel
theorem d_Mo_readLeads_12 : decode b_Mo_readLeads 12 = .ok (.aload_n 0, 1) := by decide +kernel
theorem d_Mo_readLeads_13 : decode b_Mo_readLeads 13 = .ok (.getfield 13, 3) := by decide +kernel
theorem d_Mo_readLeads_16 : decode b_Mo_readLeads 16 = .ok (.bipush 19, 2) := by decide +kernel
theorem d_Mo_readLeads_18 : decode b_Mo_readLeads 18 = .ok (.iload_n 1, 1) := by decide +kernel
theorem d_Mo_readLeads_19 : decode b_Mo_readLeads 19 = .ok (.iadd, 1) := by decide +kernel
theorem d_Mo_readLeads_20 : decode b_Mo_readLeads 20 = .ok (.aload_n 0, 1) := by decide +kernel
theorem d_Mo_readLeads_21 : decode b_Mo_readLeads 21 = .ok (.lconst 0, 1) := by decide +kernel
theorem d_Mo_readLeads_22 : decode b_Mo_readLeads 22 = .ok (.ldc2_w 215, 3) := by decide +kernel
theorem d_Mo_readLeads_25 : decode b_Mo_readLeads 25 = .ok (.invokevirtual 334, 3) := by decide +kernel
theorem d_Mo_readLeads_28 : decode b_Mo_readLeads 28 = .ok (.lastore, 1) := by decide +kernel
theorem d_Mo_readLeads_29 : decode b_Mo_readLeads 29 = .ok (.iinc 1 1, 3) := by decide +kernel
theorem d_Mo_readLeads_32 : decode b_Mo_readLeads 32 = .ok (.goto (-25), 3) := by decide +kernel
theorem d_Mo_readLeads_35 : decode b_Mo_readLeads 35 = .ok (.return_, 1) := by decide +kernel
theorem d_Mo_readSupply_0 : decode b_Mo_readSupply 0 = .ok (.aload_n 0, 1) := by decide +kernel
theorem d_Mo_readSupply_1 : decode b_Mo_readSupply 1 = .ok (.iconst 3, 1) := by decide +kernel
theorem d_Mo_readSupply_2 : decode b_Mo_readSupply 2 = .ok (.invokevirtual 331, 3) := by decide +kernel
theorem d_Mo_readSupply_5 : decode b_Mo_readSupply 5 = .ok (.aload_n 0, 1) := by decide +kernel
theorem d_Mo_readSupply_6 : decode b_Mo_readSupply 6 = .ok (.getfield 13, 3) := by decide +kernel
theorem d_Mo_readSupply_9 : decode b_Mo_readSupply 9 = .ok (.bipush 22, 2) := by decide +kernel
theorem d_Mo_readSupply_11 : decode b_Mo_readSupply 11 = .ok (.aload_n 0, 1) := by decide +kernel
theorem d_Mo_readSupply_12 : decode b_Mo_readSupply 12 = .ok (.lconst 0, 1) := by decide +kernel
theorem d_Mo_readSupply_13 : decode b_Mo_readSupply 13 = .ok (.ldc2_w 356, 3) := by decide +kernel
theorem d_Mo_readSupply_16 : decode b_Mo_readSupply 16 = .ok (.invokevirtual 334, 3) := by decide +kernel
theorem d_Mo_readSupply_19 : decode b_Mo_readSupply 19 = .ok (.lastore, 1) := by decide +kernel
theorem d_Mo_readSupply_20 : decode b_Mo_readSupply 20 = .ok (.aload_n 0, 1) := by decide +kernel
theorem d_Mo_readSupply_21 : decode b_Mo_readSupply 21 = .ok (.getfield 13, 3) := by decide +kernel
theorem d_Mo_readSupply_24 : decode b_Mo_readSupply 24 = .ok (.bipush 23, 2) := by decide +kernel
theorem d_Mo_readSupply_26 : decode b_Mo_readSupply 26 = .ok (.aload_n 0, 1) := by decide +kernel
theorem d_Mo_readSupply_27 : decode b_Mo_readSupply 27 = .ok (.lconst 1, 1) := by decide +kernel
theorem d_Mo_readSupply_28 : decode b_Mo_readSupply 28 = .ok (.ldc2_w 112, 3) := by decide +kernel
theorem d_Mo_readSupply_31 : decode b_Mo_readSupply 31 = .ok (.invokevirtual 334, 3) := by decide +kernel
theorem d_Mo_readSupply_34 : decode b_Mo_readSupply 34 = .ok (.lastore, 1) := by decide +kernel
theorem d_Mo_readSupply_35 : decode b_Mo_readSupply 35 = .ok (.return_, 1) := by decide +kernel
theorem d_Mo_readDetector_0 : decode b_Mo_readDetector 0 = .ok (.aload_n 0, 1) := by decide +kernel
theorem d_Mo_readDetector_1 : decode b_Mo_readDetector 1 = .ok (.iconst 4, 1) := by decide +kernel
theorem d_Mo_readDetector_2 : decode b_Mo_readDetector 2 = .ok (.invokevirtual 331, 3) := by decide +kernel
theorem d_Mo_readDetector_5 : decode b_Mo_readDetector 5 = .ok (.aload_n 0, 1) := by decide +kernel
theorem d_Mo_readDetector_6 : decode b_Mo_readDetector 6 = .ok (.getfield 13, 3) := by decide +kernel
theorem d_Mo_readDetector_9 : decode b_Mo_readDetector 9 = .ok (.bipush 24, 2) := by decide +kernel
theorem d_Mo_readDetector_11 : decode b_Mo_readDetector 11 = .ok (.aload_n 0, 1) := by decide +kernel
theorem d_Mo_readDetector_12 : decode b_Mo_readDetector 12 = .ok (.lconst 1, 1) := by decide +kernel
theorem d_Mo_readDetector_13 : decode b_Mo_readDetector 13 = .ok (.ldc2_w 114, 3) := by decide +kernel
theorem d_Mo_readDetector_16 : decode b_Mo_readDetector 16 = .ok (.invokevirtual 334, 3) := by decide +kernel
theorem d_Mo_readDetector_19 : decode b_Mo_readDetector 19 = .ok (.lastore, 1) := by decide +kernel
theorem d_Mo_readDetector_20 : decode b_Mo_readDetector 20 = .ok (.aload_n 0, 1) := by decide +kernel
theorem d_Mo_readDetector_21 : decode b_Mo_readDetector 21 = .ok (.getfield 13, 3) := by decide +kernel
theorem d_Mo_readDetector_24 : decode b_Mo_readDetector 24 = .ok (.bipush 25, 2) := by decide +kernel
theorem d_Mo_readDetector_26 : decode b_Mo_readDetector 26 = .ok (.aload_n 0, 1) := by decide +kernel
theorem d_Mo_readDetector_27 : decode b_Mo_readDetector 27 = .ok (.lconst 0, 1) := by decide +kernel
theorem d_Mo_readDetector_28 : decode b_Mo_readDetector 28 = .ok (.ldc2_w 358, 3) := by decide +kernel
theorem d_Mo_readDetector_31 : decode b_Mo_readDetector 31 = .ok (.invokevirtual 334, 3) := by decide +kernel
theorem d_Mo_readDetector_34 : decode b_Mo_readDetector 34 = .ok (.lastore, 1) := by decide +kernel
theorem d_Mo_readDetector_35 : decode b_Mo_readDetector 35 = .ok (.aload_n 0, 1) := by decide +kernel
theorem d_Mo_readDetector_36 : decode b_Mo_readDetector 36 = .ok (.getfield 13, 3) := by decide +kernel
theorem d_Mo_readDetector_39 : decode b_Mo_readDetector 39 = .ok (.bipush 26, 2) := by decide +kernel
theorem d_Mo_readDetector_41 : decode b_Mo_readDetector 41 = .ok (.aload_n 0, 1) := by decide +kernel
theorem d_Mo_readDetector_42 : decode b_Mo_readDetector 42 = .ok (.lconst 0, 1) := by decide +kernel
theorem d_Mo_readDetector_43 : decode b_Mo_readDetector 43 = .ok (.ldc2_w 337, 3) := by decide +kernel
theorem d_Mo_readDetector_46 : decode b_Mo_readDetector 46 = .ok (.invokevirtual 334, 3) := by decide +kernel
theorem d_Mo_readDetector_49 : decode b_Mo_readDetector 49 = .ok (.lastore, 1) := by decide +kernel
theorem d_Mo_readDetector_50 : decode b_Mo_readDetector 50 = .ok (.aload_n 0, 1) := by decide +kernel
theorem d_Mo_readDetector_51 : decode b_Mo_readDetector 51 = .ok (.getfield 13, 3) := by decide +kernel
theorem d_Mo_readDetector_54 : decode b_Mo_readDetector 54 = .ok (.bipush 27, 2) := by decide +kernel
theorem d_Mo_readDetector_56 : decode b_Mo_readDetector 56 = .ok (.aload_n 0, 1) := by decide +kernel
theorem d_Mo_readDetector_57 : decode b_Mo_readDetector 57 = .ok (.ldc2_w 213, 3) := by decide +kernel
theorem d_Mo_readDetector_60 : decode b_Mo_readDetector 60 = .ok (.ldc2_w 215, 3) := by decide +kernel
theorem d_Mo_readDetector_63 : decode b_Mo_readDetector 63 = .ok (.invokevirtual 343, 3) := by decide +kernel
theorem d_Mo_readDetector_66 : decode b_Mo_readDetector 66 = .ok (.lastore, 1) := by decide +kernel
theorem d_Mo_readDetector_67 : decode b_Mo_readDetector 67 = .ok (.return_, 1) := by decide +kernel
theorem d_Mo_readStatement_0 : decode b_Mo_readStatement 0 = .ok (.aload_n 0, 1) := by decide +kernel
theorem d_Mo_readStatement_1 : decode b_Mo_readStatement 1 = .ok (.ldc_w 346, 3) := by decide +kernel
theorem d_Mo_readStatement_4 : decode b_Mo_readStatement 4 = .ok (.invokevirtual 307, 3) := by decide +kernel
theorem d_Mo_readStatement_7 : decode b_Mo_readStatement 7 = .ok (.ifCond .eq 10, 3) := by decide +kernel
theorem d_Mo_readStatement_10 : decode b_Mo_readStatement 10 = .ok (.aload_n 0, 1) := by decide +kernel
theorem d_Mo_readStatement_11 : decode b_Mo_readStatement 11 = .ok (.invokevirtual 360, 3) := by decide +kernel
theorem d_Mo_readStatement_14 : decode b_Mo_readStatement 14 = .ok (.goto 155, 3) := by decide +kernel
theorem d_Mo_readStatement_17 : decode b_Mo_readStatement 17 = .ok (.aload_n 0, 1) := by decide +kernel
theorem d_Mo_readStatement_18 : decode b_Mo_readStatement 18 = .ok (.ldc_w 363, 3) := by decide +kernel
theorem d_Mo_readStatement_21 : decode b_Mo_readStatement 21 = .ok (.invokevirtual 307, 3) := by decide +kernel
theorem d_Mo_readStatement_24 : decode b_Mo_readStatement 24 = .ok (.ifCond .eq 10, 3) := by decide +kernel
theorem d_Mo_readStatement_27 : decode b_Mo_readStatement 27 = .ok (.aload_n 0, 1) := by decide +kernel
theorem d_Mo_readStatement_28 : decode b_Mo_readStatement 28 = .ok (.invokevirtual 365, 3) := by decide +kernel
theorem d_Mo_readStatement_31 : decode b_Mo_readStatement 31 = .ok (.goto 138, 3) := by decide +kernel
theorem d_Mo_readStatement_34 : decode b_Mo_readStatement 34 = .ok (.aload_n 0, 1) := by decide +kernel
theorem d_Mo_readStatement_35 : decode b_Mo_readStatement 35 = .ok (.ldc_w 348, 3) := by decide +kernel
theorem d_Mo_readStatement_38 : decode b_Mo_readStatement 38 = .ok (.invokevirtual 307, 3) := by decide +kernel
theorem d_Mo_readStatement_41 : decode b_Mo_readStatement 41 = .ok (.ifCond .eq 28, 3) := by decide +kernel
theorem d_Mo_readStatement_44 : decode b_Mo_readStatement 44 = .ok (.aload_n 0, 1) := by decide +kernel
theorem d_Mo_readStatement_45 : decode b_Mo_readStatement 45 = .ok (.iconst 1, 1) := by decide +kernel
theorem d_Mo_readStatement_46 : decode b_Mo_readStatement 46 = .ok (.invokevirtual 331, 3) := by decide +kernel
theorem d_Mo_readStatement_49 : decode b_Mo_readStatement 49 = .ok (.aload_n 0, 1) := by decide +kernel
theorem d_Mo_readStatement_50 : decode b_Mo_readStatement 50 = .ok (.getfield 13, 3) := by decide +kernel
theorem d_Mo_readStatement_53 : decode b_Mo_readStatement 53 = .ok (.bipush 12, 2) := by decide +kernel
theorem d_Mo_readStatement_55 : decode b_Mo_readStatement 55 = .ok (.aload_n 0, 1) := by decide +kernel
theorem d_Mo_readStatement_56 : decode b_Mo_readStatement 56 = .ok (.ldc2_w 102, 3) := by decide +kernel
theorem d_Mo_readStatement_59 : decode b_Mo_readStatement 59 = .ok (.ldc2_w 368, 3) := by decide +kernel
theorem d_Mo_readStatement_62 : decode b_Mo_readStatement 62 = .ok (.invokevirtual 334, 3) := by decide +kernel
theorem d_Mo_readStatement_65 : decode b_Mo_readStatement 65 = .ok (.lastore, 1) := by decide +kernel
theorem d_Mo_readStatement_66 : decode b_Mo_readStatement 66 = .ok (.goto 103, 3) := by decide +kernel
theorem d_Mo_readStatement_69 : decode b_Mo_readStatement 69 = .ok (.aload_n 0, 1) := by decide +kernel
theorem d_Mo_readStatement_70 : decode b_Mo_readStatement 70 = .ok (.ldc_w 370, 3) := by decide +kernel
theorem d_Mo_readStatement_73 : decode b_Mo_readStatement 73 = .ok (.invokevirtual 307, 3) := by decide +kernel
theorem d_Mo_readStatement_76 : decode b_Mo_readStatement 76 = .ok (.ifCond .eq 10, 3) := by decide +kernel
theorem d_Mo_readStatement_79 : decode b_Mo_readStatement 79 = .ok (.aload_n 0, 1) := by decide +kernel
theorem d_Mo_readStatement_80 : decode b_Mo_readStatement 80 = .ok (.invokevirtual 371, 3) := by decide +kernel
theorem d_Mo_readStatement_83 : decode b_Mo_readStatement 83 = .ok (.goto 86, 3) := by decide +kernel
theorem d_Mo_readStatement_86 : decode b_Mo_readStatement 86 = .ok (.aload_n 0, 1) := by decide +kernel
theorem d_Mo_readStatement_87 : decode b_Mo_readStatement 87 = .ok (.ldc_w 374, 3) := by decide +kernel
theorem d_Mo_readStatement_90 : decode b_Mo_readStatement 90 = .ok (.invokevirtual 307, 3) := by decide +kernel
theorem d_Mo_readStatement_93 : decode b_Mo_readStatement 93 = .ok (.ifCond .eq 10, 3) := by decide +kernel
theorem d_Mo_readStatement_96 : decode b_Mo_readStatement 96 = .ok (.aload_n 0, 1) := by decide +kernel
theorem d_Mo_readStatement_97 : decode b_Mo_readStatement 97 = .ok (.invokevirtual 376, 3) := by decide +kernel
theorem d_Mo_readStatement_100 : decode b_Mo_readStatement 100 = .ok (.goto 69, 3) := by decide +kernel
theorem d_Mo_readStatement_103 : decode b_Mo_readStatement 103 = .ok (.aload_n 0, 1) := by decide +kernel
theorem d_Mo_readStatement_104 : decode b_Mo_readStatement 104 = .ok (.ldc_w 379, 3) := by decide +kernel
theorem d_Mo_readStatement_107 : decode b_Mo_readStatement 107 = .ok (.invokevirtual 307, 3) := by decide +kernel
theorem d_Mo_readStatement_110 : decode b_Mo_readStatement 110 = .ok (.ifCond .eq 10, 3) := by decide +kernel
theorem d_Mo_readStatement_113 : decode b_Mo_readStatement 113 = .ok (.aload_n 0, 1) := by decide +kernel
theorem d_Mo_readStatement_114 : decode b_Mo_readStatement 114 = .ok (.invokevirtual 381, 3) := by decide +kernel
theorem d_Mo_readStatement_117 : decode b_Mo_readStatement 117 = .ok (.goto 52, 3) := by decide +kernel
theorem d_Mo_readStatement_120 : decode b_Mo_readStatement 120 = .ok (.aload_n 0, 1) := by decide +kernel
theorem d_Mo_readStatement_121 : decode b_Mo_readStatement 121 = .ok (.ldc_w 384, 3) := by decide +kernel
theorem d_Mo_readStatement_124 : decode b_Mo_readStatement 124 = .ok (.invokevirtual 307, 3) := by decide +kernel
theorem d_Mo_readStatement_127 : decode b_Mo_readStatement 127 = .ok (.ifCond .eq 10, 3) := by decide +kernel
theorem d_Mo_readStatement_130 : decode b_Mo_readStatement 130 = .ok (.aload_n 0, 1) := by decide +kernel
theorem d_Mo_readStatement_131 : decode b_Mo_readStatement 131 = .ok (.invokevirtual 386, 3) := by decide +kernel
theorem d_Mo_readStatement_134 : decode b_Mo_readStatement 134 = .ok (.goto 35, 3) := by decide +kernel
theorem d_Mo_readStatement_137 : decode b_Mo_readStatement 137 = .ok (.aload_n 0, 1) := by decide +kernel
theorem d_Mo_readStatement_138 : decode b_Mo_readStatement 138 = .ok (.aload_n 0, 1) := by decide +kernel
theorem d_Mo_readStatement_139 : decode b_Mo_readStatement 139 = .ok (.ldc_w 389, 3) := by decide +kernel
theorem d_Mo_readStatement_142 : decode b_Mo_readStatement 142 = .ok (.invokevirtual 307, 3) := by decide +kernel
theorem d_Mo_readStatement_145 : decode b_Mo_readStatement 145 = .ok (.iconst 1, 1) := by decide +kernel
theorem d_Mo_readStatement_146 : decode b_Mo_readStatement 146 = .ok (.invokevirtual 314, 3) := by decide +kernel
theorem d_Mo_readStatement_149 : decode b_Mo_readStatement 149 = .ok (.aload_n 0, 1) := by decide +kernel
theorem d_Mo_readStatement_150 : decode b_Mo_readStatement 150 = .ok (.iconst 5, 1) := by decide +kernel
theorem d_Mo_readStatement_151 : decode b_Mo_readStatement 151 = .ok (.invokevirtual 331, 3) := by decide +kernel
theorem d_Mo_readStatement_154 : decode b_Mo_readStatement 154 = .ok (.aload_n 0, 1) := by decide +kernel
theorem d_Mo_readStatement_155 : decode b_Mo_readStatement 155 = .ok (.getfield 13, 3) := by decide +kernel
theorem d_Mo_readStatement_158 : decode b_Mo_readStatement 158 = .ok (.bipush 28, 2) := by decide +kernel
theorem d_Mo_readStatement_160 : decode b_Mo_readStatement 160 = .ok (.aload_n 0, 1) := by decide +kernel
theorem d_Mo_readStatement_161 : decode b_Mo_readStatement 161 = .ok (.lconst 0, 1) := by decide +kernel
theorem d_Mo_readStatement_162 : decode b_Mo_readStatement 162 = .ok (.ldc2_w 215, 3) := by decide +kernel
theorem d_Mo_readStatement_165 : decode b_Mo_readStatement 165 = .ok (.invokevirtual 334, 3) := by decide +kernel
theorem d_Mo_readStatement_168 : decode b_Mo_readStatement 168 = .ok (.lastore, 1) := by decide +kernel
theorem d_Mo_readStatement_169 : decode b_Mo_readStatement 169 = .ok (.return_, 1) := by decide +kernel
theorem d_Mo_forgetTold_0 : decode b_Mo_forgetTold 0 = .ok (.iconst 0, 1) := by decide +kernel
theorem d_Mo_forgetTold_1 : decode b_Mo_forgetTold 1 = .ok (.istore_n 1, 1) := by decide +kernel
theorem d_Mo_forgetTold_2 : decode b_Mo_forgetTold 2 = .ok (.iload_n 1, 1) := by decide +kernel
theorem d_Mo_forgetTold_3 : decode b_Mo_forgetTold 3 = .ok (.bipush 6, 2) := by decide +kernel
theorem d_Mo_forgetTold_5 : decode b_Mo_forgetTold 5 = .ok (.if_icmp .ge 16, 3) := by decide +kernel
theorem d_Mo_forgetTold_8 : decode b_Mo_forgetTold 8 = .ok (.aload_n 0, 1) := by decide +kernel
theorem d_Mo_forgetTold_9 : decode b_Mo_forgetTold 9 = .ok (.getfield 34, 3) := by decide +kernel
theorem d_Mo_forgetTold_12 : decode b_Mo_forgetTold 12 = .ok (.iload_n 1, 1) := by decide +kernel
theorem d_Mo_forgetTold_13 : decode b_Mo_forgetTold 13 = .ok (.iconst 0, 1) := by decide +kernel
theorem d_Mo_forgetTold_14 : decode b_Mo_forgetTold 14 = .ok (.bastore, 1) := by decide +kernel
theorem d_Mo_forgetTold_15 : decode b_Mo_forgetTold 15 = .ok (.iinc 1 1, 3) := by decide +kernel
theorem d_Mo_forgetTold_18 : decode b_Mo_forgetTold 18 = .ok (.goto (-16), 3) := by decide +kernel
theorem d_Mo_forgetTold_21 : decode b_Mo_forgetTold 21 = .ok (.iconst 0, 1) := by decide +kernel
theorem d_Mo_forgetTold_22 : decode b_Mo_forgetTold 22 = .ok (.istore_n 1, 1) := by decide +kernel
theorem d_Mo_forgetTold_23 : decode b_Mo_forgetTold 23 = .ok (.iload_n 1, 1) := by decide +kernel
theorem d_Mo_forgetTold_24 : decode b_Mo_forgetTold 24 = .ok (.iconst 5, 1) := by decide +kernel
theorem d_Mo_forgetTold_25 : decode b_Mo_forgetTold 25 = .ok (.if_icmp .ge 16, 3) := by decide +kernel
theorem d_Mo_forgetTold_28 : decode b_Mo_forgetTold 28 = .ok (.aload_n 0, 1) := by decide +kernel
theorem d_Mo_forgetTold_29 : decode b_Mo_forgetTold 29 = .ok (.getfield 37, 3) := by decide +kernel
theorem d_Mo_forgetTold_32 : decode b_Mo_forgetTold 32 = .ok (.iload_n 1, 1) := by decide +kernel
theorem d_Mo_forgetTold_33 : decode b_Mo_forgetTold 33 = .ok (.iconst 0, 1) := by decide +kernel
theorem d_Mo_forgetTold_34 : decode b_Mo_forgetTold 34 = .ok (.bastore, 1) := by decide +kernel
theorem d_Mo_forgetTold_35 : decode b_Mo_forgetTold 35 = .ok (.iinc 1 1, 3) := by decide +kernel
theorem d_Mo_forgetTold_38 : decode b_Mo_forgetTold 38 = .ok (.goto (-15), 3) := by decide +kernel
theorem d_Mo_forgetTold_41 : decode b_Mo_forgetTold 41 = .ok (.aload_n 0, 1) := by decide +kernel
theorem d_Mo_forgetTold_42 : decode b_Mo_forgetTold 42 = .ok (.getfield 40, 3) := by decide +kernel
theorem d_Mo_forgetTold_45 : decode b_Mo_forgetTold 45 = .ok (.iconst 0, 1) := by decide +kernel
theorem d_Mo_forgetTold_46 : decode b_Mo_forgetTold 46 = .ok (.iconst 0, 1) := by decide +kernel
theorem d_Mo_forgetTold_47 : decode b_Mo_forgetTold 47 = .ok (.bastore, 1) := by decide +kernel
theorem d_Mo_forgetTold_48 : decode b_Mo_forgetTold 48 = .ok (.aload_n 0, 1) := by decide +kernel
theorem d_Mo_forgetTold_49 : decode b_Mo_forgetTold 49 = .ok (.getfield 40, 3) := by decide +kernel
theorem d_Mo_forgetTold_52 : decode b_Mo_forgetTold 52 = .ok (.iconst 1, 1) := by decide +kernel
theorem d_Mo_forgetTold_53 : decode b_Mo_forgetTold 53 = .ok (.iconst 0, 1) := by decide +kernel
theorem d_Mo_forgetTold_54 : decode b_Mo_forgetTold 54 = .ok (.bastore, 1) := by decide +kernel
theorem d_Mo_forgetTold_55 : decode b_Mo_forgetTold 55 = .ok (.return_, 1) := by decide +kernel
theorem d_Mo_load_0 : decode b_Mo_load 0 = .ok (.aload_n 0, 1) := by decide +kernel
theorem d_Mo_load_1 : decode b_Mo_load 1 = .ok (.iconst 0, 1) := by decide +kernel
theorem d_Mo_load_2 : decode b_Mo_load 2 = .ok (.putfield 107, 3) := by decide +kernel
theorem d_Mo_load_5 : decode b_Mo_load 5 = .ok (.aload_n 0, 1) := by decide +kernel
theorem d_Mo_load_6 : decode b_Mo_load 6 = .ok (.invokevirtual 391, 3) := by decide +kernel
theorem d_Mo_load_9 : decode b_Mo_load 9 = .ok (.aload_n 0, 1) := by decide +kernel
theorem d_Mo_load_10 : decode b_Mo_load 10 = .ok (.invokevirtual 97, 3) := by decide +kernel
theorem d_Mo_load_13 : decode b_Mo_load 13 = .ok (.aload_n 0, 1) := by decide +kernel
theorem d_Mo_load_14 : decode b_Mo_load 14 = .ok (.invokevirtual 394, 3) := by decide +kernel
theorem d_Mo_load_17 : decode b_Mo_load 17 = .ok (.aload_n 0, 1) := by decide +kernel
theorem d_Mo_load_18 : decode b_Mo_load 18 = .ok (.invokevirtual 397, 3) := by decide +kernel
theorem d_Mo_load_21 : decode b_Mo_load 21 = .ok (.aload_n 0, 1) := by decide +kernel
theorem d_Mo_load_22 : decode b_Mo_load 22 = .ok (.bipush 59, 2) := by decide +kernel
theorem d_Mo_load_24 : decode b_Mo_load 24 = .ok (.invokevirtual 311, 3) := by decide +kernel
theorem d_Mo_load_27 : decode b_Mo_load 27 = .ok (.ifCond .eq 14, 3) := by decide +kernel
theorem d_Mo_load_30 : decode b_Mo_load 30 = .ok (.aload_n 0, 1) := by decide +kernel
theorem d_Mo_load_31 : decode b_Mo_load 31 = .ok (.invokevirtual 294, 3) := by decide +kernel
theorem d_Mo_load_34 : decode b_Mo_load 34 = .ok (.aload_n 0, 1) := by decide +kernel
theorem d_Mo_load_35 : decode b_Mo_load 35 = .ok (.invokevirtual 397, 3) := by decide +kernel
theorem d_Mo_load_38 : decode b_Mo_load 38 = .ok (.goto (-17), 3) := by decide +kernel
theorem d_Mo_load_41 : decode b_Mo_load 41 = .ok (.aload_n 0, 1) := by decide +kernel
theorem d_Mo_load_42 : decode b_Mo_load 42 = .ok (.aload_n 0, 1) := by decide +kernel
theorem d_Mo_load_43 : decode b_Mo_load 43 = .ok (.getfield 288, 3) := by decide +kernel
theorem d_Mo_load_46 : decode b_Mo_load 46 = .ok (.ifCond .ne 7, 3) := by decide +kernel
theorem d_Mo_load_49 : decode b_Mo_load 49 = .ok (.iconst 1, 1) := by decide +kernel
theorem d_Mo_load_50 : decode b_Mo_load 50 = .ok (.goto 4, 3) := by decide +kernel
theorem d_Mo_load_53 : decode b_Mo_load 53 = .ok (.iconst 0, 1) := by decide +kernel
theorem d_Mo_load_54 : decode b_Mo_load 54 = .ok (.iconst 1, 1) := by decide +kernel
theorem d_Mo_load_55 : decode b_Mo_load 55 = .ok (.invokevirtual 314, 3) := by decide +kernel
theorem d_Mo_load_58 : decode b_Mo_load 58 = .ok (.aload_n 0, 1) := by decide +kernel
theorem d_Mo_load_59 : decode b_Mo_load 59 = .ok (.aload_n 0, 1) := by decide +kernel
theorem d_Mo_load_60 : decode b_Mo_load 60 = .ok (.getfield 34, 3) := by decide +kernel
theorem d_Mo_load_63 : decode b_Mo_load 63 = .ok (.iconst 0, 1) := by decide +kernel
theorem d_Mo_load_64 : decode b_Mo_load 64 = .ok (.baload, 1) := by decide +kernel
theorem d_Mo_load_65 : decode b_Mo_load 65 = .ok (.ifCond .eq 16, 3) := by decide +kernel
theorem d_Mo_load_68 : decode b_Mo_load 68 = .ok (.aload_n 0, 1) := by decide +kernel
theorem d_Mo_load_69 : decode b_Mo_load 69 = .ok (.getfield 34, 3) := by decide +kernel
theorem d_Mo_load_72 : decode b_Mo_load 72 = .ok (.iconst 1, 1) := by decide +kernel
theorem d_Mo_load_73 : decode b_Mo_load 73 = .ok (.baload, 1) := by decide +kernel
theorem d_Mo_load_74 : decode b_Mo_load 74 = .ok (.ifCond .eq 7, 3) := by decide +kernel
theorem d_Mo_load_77 : decode b_Mo_load 77 = .ok (.iconst 1, 1) := by decide +kernel
theorem d_Mo_load_78 : decode b_Mo_load 78 = .ok (.goto 4, 3) := by decide +kernel
theorem d_Mo_load_81 : decode b_Mo_load 81 = .ok (.iconst 0, 1) := by decide +kernel
theorem d_Mo_load_82 : decode b_Mo_load 82 = .ok (.iconst 4, 1) := by decide +kernel
theorem d_Mo_load_83 : decode b_Mo_load 83 = .ok (.invokevirtual 314, 3) := by decide +kernel
theorem d_Mo_load_86 : decode b_Mo_load 86 = .ok (.aload_n 0, 1) := by decide +kernel
theorem d_Mo_load_87 : decode b_Mo_load 87 = .ok (.iconst 0, 1) := by decide +kernel
theorem d_Mo_load_88 : decode b_Mo_load 88 = .ok (.putfield 262, 3) := by decide +kernel
theorem d_Mo_load_91 : decode b_Mo_load 91 = .ok (.aload_n 0, 1) := by decide +kernel
theorem d_Mo_load_92 : decode b_Mo_load 92 = .ok (.invokevirtual 297, 3) := by decide +kernel
theorem d_Mo_load_95 : decode b_Mo_load 95 = .ok (.ifCond .ne 11, 3) := by decide +kernel
theorem d_Mo_load_98 : decode b_Mo_load 98 = .ok (.bipush (-10), 2) := by decide +kernel
theorem d_Mo_load_100 : decode b_Mo_load 100 = .ok (.aload_n 0, 1) := by decide +kernel
theorem d_Mo_load_101 : decode b_Mo_load 101 = .ok (.getfield 291, 3) := by decide +kernel
theorem d_Mo_load_104 : decode b_Mo_load 104 = .ok (.isub, 1) := by decide +kernel
theorem d_Mo_load_105 : decode b_Mo_load 105 = .ok (.ireturn, 1) := by decide +kernel
theorem d_Mo_load_106 : decode b_Mo_load 106 = .ok (.aload_n 0, 1) := by decide +kernel
theorem d_Mo_load_107 : decode b_Mo_load 107 = .ok (.invokevirtual 104, 3) := by decide +kernel
theorem d_Mo_load_110 : decode b_Mo_load 110 = .ok (.aload_n 0, 1) := by decide +kernel
theorem d_Mo_load_111 : decode b_Mo_load 111 = .ok (.iconst 0, 1) := by decide +kernel
theorem d_Mo_load_112 : decode b_Mo_load 112 = .ok (.putfield 400, 3) := by decide +kernel
theorem d_Mo_load_115 : decode b_Mo_load 115 = .ok (.aload_n 0, 1) := by decide +kernel
theorem d_Mo_load_116 : decode b_Mo_load 116 = .ok (.getfield 22, 3) := by decide +kernel
theorem d_Mo_load_119 : decode b_Mo_load 119 = .ok (.iconst 0, 1) := by decide +kernel
theorem d_Mo_load_120 : decode b_Mo_load 120 = .ok (.iconst 0, 1) := by decide +kernel
theorem d_Mo_load_121 : decode b_Mo_load 121 = .ok (.bastore, 1) := by decide +kernel
theorem d_Mo_load_122 : decode b_Mo_load 122 = .ok (.aload_n 0, 1) := by decide +kernel
theorem d_Mo_load_123 : decode b_Mo_load 123 = .ok (.getfield 22, 3) := by decide +kernel
theorem d_Mo_load_126 : decode b_Mo_load 126 = .ok (.iconst 1, 1) := by decide +kernel
theorem d_Mo_load_127 : decode b_Mo_load 127 = .ok (.iconst 0, 1) := by decide +kernel
theorem d_Mo_load_128 : decode b_Mo_load 128 = .ok (.bastore, 1) := by decide +kernel
theorem d_Mo_load_129 : decode b_Mo_load 129 = .ok (.aload_n 0, 1) := by decide +kernel
theorem d_Mo_load_130 : decode b_Mo_load 130 = .ok (.invokevirtual 130, 3) := by decide +kernel
theorem d_Mo_load_133 : decode b_Mo_load 133 = .ok (.ireturn, 1) := by decide +kernel
theorem d_Mo_errorPosition_0 : decode b_Mo_errorPosition 0 = .ok (.aload_n 0, 1) := by decide +kernel
theorem d_Mo_errorPosition_1 : decode b_Mo_errorPosition 1 = .ok (.iconst 0, 1) := by decide +kernel
theorem d_Mo_errorPosition_2 : decode b_Mo_errorPosition 2 = .ok (.putfield 107, 3) := by decide +kernel
theorem d_Mo_errorPosition_5 : decode b_Mo_errorPosition 5 = .ok (.aload_n 0, 1) := by decide +kernel
theorem d_Mo_errorPosition_6 : decode b_Mo_errorPosition 6 = .ok (.getfield 30, 3) := by decide +kernel
theorem d_Mo_errorPosition_9 : decode b_Mo_errorPosition 9 = .ok (.ireturn, 1) := by decide +kernel
theorem d_Mo_manners_0 : decode b_Mo_manners 0 = .ok (.iconst 0, 1) := by decide +kernel
theorem d_Mo_manners_1 : decode b_Mo_manners 1 = .ok (.istore_n 1, 1) := by decide +kernel
theorem d_Mo_manners_2 : decode b_Mo_manners 2 = .ok (.iconst 0, 1) := by decide +kernel
theorem d_Mo_manners_3 : decode b_Mo_manners 3 = .ok (.istore_n 2, 1) := by decide +kernel
theorem d_Mo_manners_4 : decode b_Mo_manners 4 = .ok (.iload_n 2, 1) := by decide +kernel
theorem d_Mo_manners_5 : decode b_Mo_manners 5 = .ok (.i2l, 1) := by decide +kernel
theorem d_Mo_manners_6 : decode b_Mo_manners 6 = .ok (.aload_n 0, 1) := by decide +kernel
theorem d_Mo_manners_7 : decode b_Mo_manners 7 = .ok (.getfield 7, 3) := by decide +kernel
theorem d_Mo_manners_10 : decode b_Mo_manners 10 = .ok (.bipush 54, 2) := by decide +kernel
theorem d_Mo_manners_12 : decode b_Mo_manners 12 = .ok (.laload, 1) := by decide +kernel
theorem d_Mo_manners_13 : decode b_Mo_manners 13 = .ok (.lcmp, 1) := by decide +kernel
theorem d_Mo_manners_14 : decode b_Mo_manners 14 = .ok (.ifCond .ge 25, 3) := by decide +kernel
theorem d_Mo_manners_17 : decode b_Mo_manners 17 = .ok (.iload_n 1, 1) := by decide +kernel
theorem d_Mo_manners_18 : decode b_Mo_manners 18 = .ok (.aload_n 0, 1) := by decide +kernel
theorem d_Mo_manners_19 : decode b_Mo_manners 19 = .ok (.iload_n 2, 1) := by decide +kernel
theorem d_Mo_manners_20 : decode b_Mo_manners 20 = .ok (.invokevirtual 403, 3) := by decide +kernel
theorem d_Mo_manners_23 : decode b_Mo_manners 23 = .ok (.ifCond .eq 7, 3) := by decide +kernel
theorem d_Mo_manners_26 : decode b_Mo_manners 26 = .ok (.iconst 1, 1) := by decide +kernel
theorem d_Mo_manners_27 : decode b_Mo_manners 27 = .ok (.goto 4, 3) := by decide +kernel
theorem d_Mo_manners_30 : decode b_Mo_manners 30 = .ok (.iconst 0, 1) := by decide +kernel
theorem d_Mo_manners_31 : decode b_Mo_manners 31 = .ok (.iadd, 1) := by decide +kernel
theorem d_Mo_manners_32 : decode b_Mo_manners 32 = .ok (.istore_n 1, 1) := by decide +kernel
theorem d_Mo_manners_33 : decode b_Mo_manners 33 = .ok (.iinc 2 1, 3) := by decide +kernel
theorem d_Mo_manners_36 : decode b_Mo_manners 36 = .ok (.goto (-32), 3) := by decide +kernel
theorem d_Mo_manners_39 : decode b_Mo_manners 39 = .ok (.iload_n 1, 1) := by decide +kernel
theorem d_Mo_manners_40 : decode b_Mo_manners 40 = .ok (.ireturn, 1) := by decide +kernel
theorem d_Mo_isAlike_0 : decode b_Mo_isAlike 0 = .ok (.aload_n 0, 1) := by decide +kernel
theorem d_Mo_isAlike_1 : decode b_Mo_isAlike 1 = .ok (.iload_n 1, 1) := by decide +kernel
theorem d_Mo_isAlike_2 : decode b_Mo_isAlike 2 = .ok (.iconst 0, 1) := by decide +kernel
theorem d_Mo_isAlike_3 : decode b_Mo_isAlike 3 = .ok (.invokevirtual 406, 3) := by decide +kernel
theorem d_Mo_isAlike_6 : decode b_Mo_isAlike 6 = .ok (.aload_n 0, 1) := by decide +kernel
theorem d_Mo_isAlike_7 : decode b_Mo_isAlike 7 = .ok (.iload_n 2, 1) := by decide +kernel
theorem d_Mo_isAlike_8 : decode b_Mo_isAlike 8 = .ok (.iconst 0, 1) := by decide +kernel
theorem d_Mo_isAlike_9 : decode b_Mo_isAlike 9 = .ok (.invokevirtual 406, 3) := by decide +kernel
theorem d_Mo_isAlike_12 : decode b_Mo_isAlike 12 = .ok (.lcmp, 1) := by decide +kernel
theorem d_Mo_isAlike_13 : decode b_Mo_isAlike 13 = .ok (.ifCond .ne 39, 3) := by decide +kernel
theorem d_Mo_isAlike_16 : decode b_Mo_isAlike 16 = .ok (.aload_n 0, 1) := by decide +kernel
theorem d_Mo_isAlike_17 : decode b_Mo_isAlike 17 = .ok (.iload_n 1, 1) := by decide +kernel
theorem d_Mo_isAlike_18 : decode b_Mo_isAlike 18 = .ok (.iconst 1, 1) := by decide +kernel
theorem d_Mo_isAlike_19 : decode b_Mo_isAlike 19 = .ok (.invokevirtual 406, 3) := by decide +kernel
theorem d_Mo_isAlike_22 : decode b_Mo_isAlike 22 = .ok (.aload_n 0, 1) := by decide +kernel
theorem d_Mo_isAlike_23 : decode b_Mo_isAlike 23 = .ok (.iload_n 2, 1) := by decide +kernel
theorem d_Mo_isAlike_24 : decode b_Mo_isAlike 24 = .ok (.iconst 1, 1) := by decide +kernel
theorem d_Mo_isAlike_25 : decode b_Mo_isAlike 25 = .ok (.invokevirtual 406, 3) := by decide +kernel
theorem d_Mo_isAlike_28 : decode b_Mo_isAlike 28 = .ok (.lcmp, 1) := by decide +kernel
theorem d_Mo_isAlike_29 : decode b_Mo_isAlike 29 = .ok (.ifCond .ne 23, 3) := by decide +kernel
theorem d_Mo_isAlike_32 : decode b_Mo_isAlike 32 = .ok (.aload_n 0, 1) := by decide +kernel
theorem d_Mo_isAlike_33 : decode b_Mo_isAlike 33 = .ok (.iload_n 1, 1) := by decide +kernel
theorem d_Mo_isAlike_34 : decode b_Mo_isAlike 34 = .ok (.iconst 2, 1) := by decide +kernel
theorem d_Mo_isAlike_35 : decode b_Mo_isAlike 35 = .ok (.invokevirtual 406, 3) := by decide +kernel
theorem d_Mo_isAlike_38 : decode b_Mo_isAlike 38 = .ok (.aload_n 0, 1) := by decide +kernel
theorem d_Mo_isAlike_39 : decode b_Mo_isAlike 39 = .ok (.iload_n 2, 1) := by decide +kernel
theorem d_Mo_isAlike_40 : decode b_Mo_isAlike 40 = .ok (.iconst 2, 1) := by decide +kernel
theorem d_Mo_isAlike_41 : decode b_Mo_isAlike 41 = .ok (.invokevirtual 406, 3) := by decide +kernel
theorem d_Mo_isAlike_44 : decode b_Mo_isAlike 44 = .ok (.lcmp, 1) := by decide +kernel
theorem d_Mo_isAlike_45 : decode b_Mo_isAlike 45 = .ok (.ifCond .ne 7, 3) := by decide +kernel
theorem d_Mo_isAlike_48 : decode b_Mo_isAlike 48 = .ok (.iconst 1, 1) := by decide +kernel
theorem d_Mo_isAlike_49 : decode b_Mo_isAlike 49 = .ok (.goto 4, 3) := by decide +kernel
theorem d_Mo_isAlike_52 : decode b_Mo_isAlike 52 = .ok (.iconst 0, 1) := by decide +kernel
theorem d_Mo_isAlike_53 : decode b_Mo_isAlike 53 = .ok (.ireturn, 1) := by decide +kernel
theorem d_Mo_earliest_0 : decode b_Mo_earliest 0 = .ok (.iconst 0, 1) := by decide +kernel
theorem d_Mo_earliest_1 : decode b_Mo_earliest 1 = .ok (.istore_n 2, 1) := by decide +kernel
theorem d_Mo_earliest_2 : decode b_Mo_earliest 2 = .ok (.aload_n 0, 1) := by decide +kernel
theorem d_Mo_earliest_3 : decode b_Mo_earliest 3 = .ok (.iload_n 2, 1) := by decide +kernel
theorem d_Mo_earliest_4 : decode b_Mo_earliest 4 = .ok (.iload_n 1, 1) := by decide +kernel
theorem d_Mo_earliest_5 : decode b_Mo_earliest 5 = .ok (.invokevirtual 410, 3) := by decide +kernel
theorem d_Mo_earliest_8 : decode b_Mo_earliest 8 = .ok (.ifCond .ne 9, 3) := by decide +kernel
theorem d_Mo_earliest_11 : decode b_Mo_earliest 11 = .ok (.iinc 2 1, 3) := by decide +kernel
theorem d_Mo_earliest_14 : decode b_Mo_earliest 14 = .ok (.goto (-12), 3) := by decide +kernel
theorem d_Mo_earliest_17 : decode b_Mo_earliest 17 = .ok (.iload_n 2, 1) := by decide +kernel
theorem d_Mo_earliest_18 : decode b_Mo_earliest 18 = .ok (.ireturn, 1) := by decide +kernel
theorem d_Mo_isEarliest_0 : decode b_Mo_isEarliest 0 = .ok (.aload_n 0, 1) := by decide +kernel
theorem d_Mo_isEarliest_1 : decode b_Mo_isEarliest 1 = .ok (.iload_n 1, 1) := by decide +kernel
theorem d_Mo_isEarliest_2 : decode b_Mo_isEarliest 2 = .ok (.invokevirtual 414, 3) := by decide +kernel
theorem d_Mo_isEarliest_5 : decode b_Mo_isEarliest 5 = .ok (.iload_n 1, 1) := by decide +kernel
theorem d_Mo_isEarliest_6 : decode b_Mo_isEarliest 6 = .ok (.if_icmp .ne 7, 3) := by decide +kernel
theorem d_Mo_isEarliest_9 : decode b_Mo_isEarliest 9 = .ok (.iconst 1, 1) := by decide +kernel
theorem d_Mo_isEarliest_10 : decode b_Mo_isEarliest 10 = .ok (.goto 4, 3) := by decide +kernel
theorem d_Mo_isEarliest_13 : decode b_Mo_isEarliest 13 = .ok (.iconst 0, 1) := by decide +kernel
theorem d_Mo_isEarliest_14 : decode b_Mo_isEarliest 14 = .ok (.ireturn, 1) := by decide +kernel
theorem d_Mo_earliestOf_0 : decode b_Mo_earliestOf 0 = .ok (.iconst 0, 1) := by decide +kernel
theorem d_Mo_earliestOf_1 : decode b_Mo_earliestOf 1 = .ok (.istore_n 2, 1) := by decide +kernel
theorem d_Mo_earliestOf_2 : decode b_Mo_earliestOf 2 = .ok (.iconst 0, 1) := by decide +kernel
theorem d_Mo_earliestOf_3 : decode b_Mo_earliestOf 3 = .ok (.istore_n 3, 1) := by decide +kernel
theorem d_Mo_earliestOf_4 : decode b_Mo_earliestOf 4 = .ok (.iload_n 3, 1) := by decide +kernel
theorem d_Mo_earliestOf_5 : decode b_Mo_earliestOf 5 = .ok (.iload_n 1, 1) := by decide +kernel
theorem d_Mo_earliestOf_6 : decode b_Mo_earliestOf 6 = .ok (.if_icmp .gt 25, 3) := by decide +kernel
theorem d_Mo_earliestOf_9 : decode b_Mo_earliestOf 9 = .ok (.iload_n 3, 1) := by decide +kernel
theorem d_Mo_earliestOf_10 : decode b_Mo_earliestOf 10 = .ok (.aload_n 0, 1) := by decide +kernel
theorem d_Mo_earliestOf_11 : decode b_Mo_earliestOf 11 = .ok (.iload_n 2, 1) := by decide +kernel
theorem d_Mo_earliestOf_12 : decode b_Mo_earliestOf 12 = .ok (.invokevirtual 403, 3) := by decide +kernel
theorem d_Mo_earliestOf_15 : decode b_Mo_earliestOf 15 = .ok (.ifCond .eq 7, 3) := by decide +kernel
theorem d_Mo_earliestOf_18 : decode b_Mo_earliestOf 18 = .ok (.iconst 1, 1) := by decide +kernel
theorem d_Mo_earliestOf_19 : decode b_Mo_earliestOf 19 = .ok (.goto 4, 3) := by decide +kernel
theorem d_Mo_earliestOf_22 : decode b_Mo_earliestOf 22 = .ok (.iconst 0, 1) := by decide +kernel
theorem d_Mo_earliestOf_23 : decode b_Mo_earliestOf 23 = .ok (.iadd, 1) := by decide +kernel
theorem d_Mo_earliestOf_24 : decode b_Mo_earliestOf 24 = .ok (.istore_n 3, 1) := by decide +kernel
theorem d_Mo_earliestOf_25 : decode b_Mo_earliestOf 25 = .ok (.iinc 2 1, 3) := by decide +kernel
theorem d_Mo_earliestOf_28 : decode b_Mo_earliestOf 28 = .ok (.goto (-24), 3) := by decide +kernel
theorem d_Mo_earliestOf_31 : decode b_Mo_earliestOf 31 = .ok (.iload_n 2, 1) := by decide +kernel
theorem d_Mo_earliestOf_32 : decode b_Mo_earliestOf 32 = .ok (.iconst 1, 1) := by decide +kernel
theorem d_Mo_earliestOf_33 : decode b_Mo_earliestOf 33 = .ok (.isub, 1) := by decide +kernel
theorem d_Mo_earliestOf_34 : decode b_Mo_earliestOf 34 = .ok (.ireturn, 1) := by decide +kernel
theorem d_Mo_mannerOf_0 : decode b_Mo_mannerOf 0 = .ok (.iconst 0, 1) := by decide +kernel
theorem d_Mo_mannerOf_1 : decode b_Mo_mannerOf 1 = .ok (.istore_n 2, 1) := by decide +kernel
theorem d_Mo_mannerOf_2 : decode b_Mo_mannerOf 2 = .ok (.iconst 0, 1) := by decide +kernel
theorem d_Mo_mannerOf_3 : decode b_Mo_mannerOf 3 = .ok (.istore_n 3, 1) := by decide +kernel
theorem d_Mo_mannerOf_4 : decode b_Mo_mannerOf 4 = .ok (.iload_n 3, 1) := by decide +kernel
theorem d_Mo_mannerOf_5 : decode b_Mo_mannerOf 5 = .ok (.aload_n 0, 1) := by decide +kernel
theorem d_Mo_mannerOf_6 : decode b_Mo_mannerOf 6 = .ok (.iload_n 1, 1) := by decide +kernel
theorem d_Mo_mannerOf_7 : decode b_Mo_mannerOf 7 = .ok (.invokevirtual 414, 3) := by decide +kernel
theorem d_Mo_mannerOf_10 : decode b_Mo_mannerOf 10 = .ok (.if_icmp .ge 25, 3) := by decide +kernel
theorem d_Mo_mannerOf_13 : decode b_Mo_mannerOf 13 = .ok (.iload_n 2, 1) := by decide +kernel
theorem d_Mo_mannerOf_14 : decode b_Mo_mannerOf 14 = .ok (.aload_n 0, 1) := by decide +kernel
theorem d_Mo_mannerOf_15 : decode b_Mo_mannerOf 15 = .ok (.iload_n 3, 1) := by decide +kernel
theorem d_Mo_mannerOf_16 : decode b_Mo_mannerOf 16 = .ok (.invokevirtual 403, 3) := by decide +kernel
theorem d_Mo_mannerOf_19 : decode b_Mo_mannerOf 19 = .ok (.ifCond .eq 7, 3) := by decide +kernel
theorem d_Mo_mannerOf_22 : decode b_Mo_mannerOf 22 = .ok (.iconst 1, 1) := by decide +kernel
theorem d_Mo_mannerOf_23 : decode b_Mo_mannerOf 23 = .ok (.goto 4, 3) := by decide +kernel
theorem d_Mo_mannerOf_26 : decode b_Mo_mannerOf 26 = .ok (.iconst 0, 1) := by decide +kernel
theorem d_Mo_mannerOf_27 : decode b_Mo_mannerOf 27 = .ok (.iadd, 1) := by decide +kernel
theorem d_Mo_mannerOf_28 : decode b_Mo_mannerOf 28 = .ok (.istore_n 2, 1) := by decide +kernel
theorem d_Mo_mannerOf_29 : decode b_Mo_mannerOf 29 = .ok (.iinc 3 1, 3) := by decide +kernel
theorem d_Mo_mannerOf_32 : decode b_Mo_mannerOf 32 = .ok (.goto (-28), 3) := by decide +kernel
theorem d_Mo_mannerOf_35 : decode b_Mo_mannerOf 35 = .ok (.iload_n 2, 1) := by decide +kernel
theorem d_Mo_mannerOf_36 : decode b_Mo_mannerOf 36 = .ok (.ireturn, 1) := by decide +kernel
theorem d_Mo_size_0 : decode b_Mo_size 0 = .ok (.aload_n 0, 1) := by decide +kernel
theorem d_Mo_size_1 : decode b_Mo_size 1 = .ok (.iconst 0, 1) := by decide +kernel
theorem d_Mo_size_2 : decode b_Mo_size 2 = .ok (.putfield 107, 3) := by decide +kernel
theorem d_Mo_size_5 : decode b_Mo_size 5 = .ok (.iload_n 1, 1) := by decide +kernel
theorem d_Mo_size_6 : decode b_Mo_size 6 = .ok (.tableswitch 215 0 19 #[94, 99, 107, 115, 115, 115, 115, 115, 115, 128, 137, 146, 155, 164, 173, 178, 187, 196, 205, 210], 94) := by decide +kernel
theorem d_Mo_size_100 : decode b_Mo_size 100 = .ok (.aload_n 0, 1) := by decide +kernel
theorem d_Mo_size_101 : decode b_Mo_size 101 = .ok (.invokevirtual 130, 3) := by decide +kernel
theorem d_Mo_size_104 : decode b_Mo_size 104 = .ok (.ireturn, 1) := by decide +kernel
theorem d_Mo_size_105 : decode b_Mo_size 105 = .ok (.aload_n 0, 1) := by decide +kernel
theorem d_Mo_size_106 : decode b_Mo_size 106 = .ok (.getfield 7, 3) := by decide +kernel
theorem d_Mo_size_109 : decode b_Mo_size 109 = .ok (.iconst 1, 1) := by decide +kernel
theorem d_Mo_size_110 : decode b_Mo_size 110 = .ok (.laload, 1) := by decide +kernel
theorem d_Mo_size_111 : decode b_Mo_size 111 = .ok (.l2i, 1) := by decide +kernel
theorem d_Mo_size_112 : decode b_Mo_size 112 = .ok (.ireturn, 1) := by decide +kernel
theorem d_Mo_size_113 : decode b_Mo_size 113 = .ok (.aload_n 0, 1) := by decide +kernel
theorem d_Mo_size_114 : decode b_Mo_size 114 = .ok (.getfield 7, 3) := by decide +kernel
theorem d_Mo_size_117 : decode b_Mo_size 117 = .ok (.iconst 2, 1) := by decide +kernel
theorem d_Mo_size_118 : decode b_Mo_size 118 = .ok (.laload, 1) := by decide +kernel
theorem d_Mo_size_119 : decode b_Mo_size 119 = .ok (.l2i, 1) := by decide +kernel
theorem d_Mo_size_120 : decode b_Mo_size 120 = .ok (.ireturn, 1) := by decide +kernel
theorem d_Mo_size_121 : decode b_Mo_size 121 = .ok (.aload_n 0, 1) := by decide +kernel
theorem d_Mo_size_122 : decode b_Mo_size 122 = .ok (.getfield 7, 3) := by decide +kernel
theorem d_Mo_size_125 : decode b_Mo_size 125 = .ok (.bipush 22, 2) := by decide +kernel
theorem d_Mo_size_127 : decode b_Mo_size 127 = .ok (.iload_n 1, 1) := by decide +kernel
theorem d_Mo_size_128 : decode b_Mo_size 128 = .ok (.iadd, 1) := by decide +kernel
theorem d_Mo_size_129 : decode b_Mo_size 129 = .ok (.iconst 3, 1) := by decide +kernel
theorem d_Mo_size_130 : decode b_Mo_size 130 = .ok (.isub, 1) := by decide +kernel
theorem d_Mo_size_131 : decode b_Mo_size 131 = .ok (.laload, 1) := by decide +kernel
theorem d_Mo_size_132 : decode b_Mo_size 132 = .ok (.l2i, 1) := by decide +kernel
theorem d_Mo_size_133 : decode b_Mo_size 133 = .ok (.ireturn, 1) := by decide +kernel
theorem d_Mo_size_134 : decode b_Mo_size 134 = .ok (.aload_n 0, 1) := by decide +kernel
theorem d_Mo_size_135 : decode b_Mo_size 135 = .ok (.getfield 7, 3) := by decide +kernel
theorem d_Mo_size_138 : decode b_Mo_size 138 = .ok (.bipush 39, 2) := by decide +kernel
theorem d_Mo_size_140 : decode b_Mo_size 140 = .ok (.laload, 1) := by decide +kernel
theorem d_Mo_size_141 : decode b_Mo_size 141 = .ok (.l2i, 1) := by decide +kernel
theorem d_Mo_size_142 : decode b_Mo_size 142 = .ok (.ireturn, 1) := by decide +kernel
theorem d_Mo_size_143 : decode b_Mo_size 143 = .ok (.aload_n 0, 1) := by decide +kernel
theorem d_Mo_size_144 : decode b_Mo_size 144 = .ok (.getfield 7, 3) := by decide +kernel
theorem d_Mo_size_147 : decode b_Mo_size 147 = .ok (.bipush 29, 2) := by decide +kernel
theorem d_Mo_size_149 : decode b_Mo_size 149 = .ok (.laload, 1) := by decide +kernel
theorem d_Mo_size_150 : decode b_Mo_size 150 = .ok (.l2i, 1) := by decide +kernel
theorem d_Mo_size_151 : decode b_Mo_size 151 = .ok (.ireturn, 1) := by decide +kernel
theorem d_Mo_size_152 : decode b_Mo_size 152 = .ok (.aload_n 0, 1) := by decide +kernel
theorem d_Mo_size_153 : decode b_Mo_size 153 = .ok (.getfield 7, 3) := by decide +kernel
theorem d_Mo_size_156 : decode b_Mo_size 156 = .ok (.bipush 30, 2) := by decide +kernel
theorem d_Mo_size_158 : decode b_Mo_size 158 = .ok (.laload, 1) := by decide +kernel
theorem d_Mo_size_159 : decode b_Mo_size 159 = .ok (.l2i, 1) := by decide +kernel
theorem d_Mo_size_160 : decode b_Mo_size 160 = .ok (.ireturn, 1) := by decide +kernel
theorem d_Mo_size_161 : decode b_Mo_size 161 = .ok (.aload_n 0, 1) := by decide +kernel
theorem d_Mo_size_162 : decode b_Mo_size 162 = .ok (.getfield 7, 3) := by decide +kernel
theorem d_Mo_size_165 : decode b_Mo_size 165 = .ok (.bipush 31, 2) := by decide +kernel
theorem d_Mo_size_167 : decode b_Mo_size 167 = .ok (.laload, 1) := by decide +kernel
theorem d_Mo_size_168 : decode b_Mo_size 168 = .ok (.l2i, 1) := by decide +kernel
theorem d_Mo_size_169 : decode b_Mo_size 169 = .ok (.ireturn, 1) := by decide +kernel
theorem d_Mo_size_170 : decode b_Mo_size 170 = .ok (.aload_n 0, 1) := by decide +kernel
theorem d_Mo_size_171 : decode b_Mo_size 171 = .ok (.getfield 7, 3) := by decide +kernel
theorem d_Mo_size_174 : decode b_Mo_size 174 = .ok (.bipush 32, 2) := by decide +kernel
theorem d_Mo_size_176 : decode b_Mo_size 176 = .ok (.laload, 1) := by decide +kernel
theorem d_Mo_size_177 : decode b_Mo_size 177 = .ok (.l2i, 1) := by decide +kernel
theorem d_Mo_size_178 : decode b_Mo_size 178 = .ok (.ireturn, 1) := by decide +kernel
theorem d_Mo_size_179 : decode b_Mo_size 179 = .ok (.aload_n 0, 1) := by decide +kernel
theorem d_Mo_size_180 : decode b_Mo_size 180 = .ok (.invokevirtual 176, 3) := by decide +kernel
theorem d_Mo_size_183 : decode b_Mo_size 183 = .ok (.ireturn, 1) := by decide +kernel
theorem d_Mo_size_184 : decode b_Mo_size 184 = .ok (.aload_n 0, 1) := by decide +kernel
theorem d_Mo_size_185 : decode b_Mo_size 185 = .ok (.getfield 7, 3) := by decide +kernel
theorem d_Mo_size_188 : decode b_Mo_size 188 = .ok (.bipush 41, 2) := by decide +kernel
theorem d_Mo_size_190 : decode b_Mo_size 190 = .ok (.laload, 1) := by decide +kernel
theorem d_Mo_size_191 : decode b_Mo_size 191 = .ok (.l2i, 1) := by decide +kernel
theorem d_Mo_size_192 : decode b_Mo_size 192 = .ok (.ireturn, 1) := by decide +kernel
theorem d_Mo_size_193 : decode b_Mo_size 193 = .ok (.aload_n 0, 1) := by decide +kernel
theorem d_Mo_size_194 : decode b_Mo_size 194 = .ok (.getfield 7, 3) := by decide +kernel
theorem d_Mo_size_197 : decode b_Mo_size 197 = .ok (.bipush 42, 2) := by decide +kernel
theorem d_Mo_size_199 : decode b_Mo_size 199 = .ok (.laload, 1) := by decide +kernel
theorem d_Mo_size_200 : decode b_Mo_size 200 = .ok (.l2i, 1) := by decide +kernel
theorem d_Mo_size_201 : decode b_Mo_size 201 = .ok (.ireturn, 1) := by decide +kernel
theorem d_Mo_size_202 : decode b_Mo_size 202 = .ok (.aload_n 0, 1) := by decide +kernel
theorem d_Mo_size_203 : decode b_Mo_size 203 = .ok (.getfield 7, 3) := by decide +kernel
theorem d_Mo_size_206 : decode b_Mo_size 206 = .ok (.bipush 54, 2) := by decide +kernel
theorem d_Mo_size_208 : decode b_Mo_size 208 = .ok (.laload, 1) := by decide +kernel
theorem d_Mo_size_209 : decode b_Mo_size 209 = .ok (.l2i, 1) := by decide +kernel
theorem d_Mo_size_210 : decode b_Mo_size 210 = .ok (.ireturn, 1) := by decide +kernel
theorem d_Mo_size_211 : decode b_Mo_size 211 = .ok (.aload_n 0, 1) := by decide +kernel
theorem d_Mo_size_212 : decode b_Mo_size 212 = .ok (.invokevirtual 417, 3) := by decide +kernel
theorem d_Mo_size_215 : decode b_Mo_size 215 = .ok (.ireturn, 1) := by decide +kernel
theorem d_Mo_size_216 : decode b_Mo_size 216 = .ok (.aload_n 0, 1) := by decide +kernel
theorem d_Mo_size_217 : decode b_Mo_size 217 = .ok (.getfield 400, 3) := by decide +kernel
theorem d_Mo_size_220 : decode b_Mo_size 220 = .ok (.ireturn, 1) := by decide +kernel
theorem d_Mo_size_221 : decode b_Mo_size 221 = .ok (.aload_n 0, 1) := by decide +kernel
theorem d_Mo_size_222 : decode b_Mo_size 222 = .ok (.iconst 1, 1) := by decide +kernel
theorem d_Mo_size_223 : decode b_Mo_size 223 = .ok (.invokevirtual 420, 3) := by decide +kernel
theorem d_Mo_size_226 : decode b_Mo_size 226 = .ok (.ireturn, 1) := by decide +kernel
theorem d_Mo_ratio_0 : decode b_Mo_ratio 0 = .ok (.aload_n 0, 1) := by decide +kernel
theorem d_Mo_ratio_1 : decode b_Mo_ratio 1 = .ok (.iload_n 1, 1) := by decide +kernel
theorem d_Mo_ratio_2 : decode b_Mo_ratio 2 = .ok (.i2l, 1) := by decide +kernel
theorem d_Mo_ratio_3 : decode b_Mo_ratio 3 = .ok (.invokestatic 423, 3) := by decide +kernel
theorem d_Mo_ratio_6 : decode b_Mo_ratio 6 = .ok (.ifCond .ne 7, 3) := by decide +kernel
theorem d_Mo_ratio_9 : decode b_Mo_ratio 9 = .ok (.iconst 1, 1) := by decide +kernel
theorem d_Mo_ratio_10 : decode b_Mo_ratio 10 = .ok (.goto 20, 3) := by decide +kernel
theorem d_Mo_ratio_13 : decode b_Mo_ratio 13 = .ok (.iload_n 2, 1) := by decide +kernel
theorem d_Mo_ratio_14 : decode b_Mo_ratio 14 = .ok (.i2l, 1) := by decide +kernel
theorem d_Mo_ratio_15 : decode b_Mo_ratio 15 = .ok (.lconst 0, 1) := by decide +kernel
theorem d_Mo_ratio_16 : decode b_Mo_ratio 16 = .ok (.ldc2_w 100, 3) := by decide +kernel
theorem d_Mo_ratio_19 : decode b_Mo_ratio 19 = .ok (.invokestatic 118, 3) := by decide +kernel
theorem d_Mo_ratio_22 : decode b_Mo_ratio 22 = .ok (.ifCond .eq 7, 3) := by decide +kernel
theorem d_Mo_ratio_25 : decode b_Mo_ratio 25 = .ok (.iconst 0, 1) := by decide +kernel
theorem d_Mo_ratio_26 : decode b_Mo_ratio 26 = .ok (.goto 4, 3) := by decide +kernel
theorem d_Mo_ratio_29 : decode b_Mo_ratio 29 = .ok (.iconst 2, 1) := by decide +kernel
theorem d_Mo_ratio_30 : decode b_Mo_ratio 30 = .ok (.putfield 107, 3) := by decide +kernel
theorem d_Mo_ratio_33 : decode b_Mo_ratio 33 = .ok (.aload_n 0, 1) := by decide +kernel
theorem d_Mo_ratio_34 : decode b_Mo_ratio 34 = .ok (.getfield 107, 3) := by decide +kernel
theorem d_Mo_ratio_37 : decode b_Mo_ratio 37 = .ok (.ifCond .le 5, 3) := by decide +kernel
theorem d_Mo_ratio_40 : decode b_Mo_ratio 40 = .ok (.iconst 0, 1) := by decide +kernel
theorem d_Mo_ratio_41 : decode b_Mo_ratio 41 = .ok (.ireturn, 1) := by decide +kernel
theorem d_Mo_ratio_42 : decode b_Mo_ratio 42 = .ok (.iload_n 2, 1) := by decide +kernel
theorem d_Mo_ratio_43 : decode b_Mo_ratio 43 = .ok (.ifCond .ne 11, 3) := by decide +kernel
theorem d_Mo_ratio_46 : decode b_Mo_ratio 46 = .ok (.iload_n 1, 1) := by decide +kernel
theorem d_Mo_ratio_47 : decode b_Mo_ratio 47 = .ok (.i2l, 1) := by decide +kernel
theorem d_Mo_ratio_48 : decode b_Mo_ratio 48 = .ok (.invokestatic 126, 3) := by decide +kernel
theorem d_Mo_ratio_51 : decode b_Mo_ratio 51 = .ok (.goto 26, 3) := by decide +kernel
theorem d_Mo_ratio_54 : decode b_Mo_ratio 54 = .ok (.iload_n 2, 1) := by decide +kernel
theorem d_Mo_ratio_55 : decode b_Mo_ratio 55 = .ok (.iconst 1, 1) := by decide +kernel
theorem d_Mo_ratio_56 : decode b_Mo_ratio 56 = .ok (.if_icmp .ne 15, 3) := by decide +kernel
theorem d_Mo_ratio_59 : decode b_Mo_ratio 59 = .ok (.aload_n 0, 1) := by decide +kernel
theorem d_Mo_ratio_60 : decode b_Mo_ratio 60 = .ok (.getfield 7, 3) := by decide +kernel
theorem d_Mo_ratio_63 : decode b_Mo_ratio 63 = .ok (.bipush 7, 2) := by decide +kernel
theorem d_Mo_ratio_65 : decode b_Mo_ratio 65 = .ok (.iload_n 1, 1) := by decide +kernel
theorem d_Mo_ratio_66 : decode b_Mo_ratio 66 = .ok (.iadd, 1) := by decide +kernel
theorem d_Mo_ratio_67 : decode b_Mo_ratio 67 = .ok (.laload, 1) := by decide +kernel
theorem d_Mo_ratio_68 : decode b_Mo_ratio 68 = .ok (.goto 9, 3) := by decide +kernel
theorem d_Mo_ratio_71 : decode b_Mo_ratio 71 = .ok (.aload_n 0, 1) := by decide +kernel
theorem d_Mo_ratio_72 : decode b_Mo_ratio 72 = .ok (.iload_n 1, 1) := by decide +kernel
theorem d_Mo_ratio_73 : decode b_Mo_ratio 73 = .ok (.i2l, 1) := by decide +kernel
theorem d_Mo_ratio_74 : decode b_Mo_ratio 74 = .ok (.invokevirtual 162, 3) := by decide +kernel
theorem d_Mo_ratio_77 : decode b_Mo_ratio 77 = .ok (.l2i, 1) := by decide +kernel
theorem d_Mo_ratio_78 : decode b_Mo_ratio 78 = .ok (.ireturn, 1) := by decide +kernel
theorem d_Mo_decade_0 : decode b_Mo_decade 0 = .ok (.aload_n 0, 1) := by decide +kernel
theorem d_Mo_decade_1 : decode b_Mo_decade 1 = .ok (.iload_n 1, 1) := by decide +kernel
theorem d_Mo_decade_2 : decode b_Mo_decade 2 = .ok (.i2l, 1) := by decide +kernel
theorem d_Mo_decade_3 : decode b_Mo_decade 3 = .ok (.lconst 0, 1) := by decide +kernel
theorem d_Mo_decade_4 : decode b_Mo_decade 4 = .ok (.aload_n 0, 1) := by decide +kernel
theorem d_Mo_decade_5 : decode b_Mo_decade 5 = .ok (.invokevirtual 130, 3) := by decide +kernel
theorem d_Mo_decade_8 : decode b_Mo_decade 8 = .ok (.i2l, 1) := by decide +kernel
theorem d_Mo_decade_9 : decode b_Mo_decade 9 = .ok (.lconst 1, 1) := by decide +kernel
theorem d_Mo_decade_10 : decode b_Mo_decade 10 = .ok (.lsub, 1) := by decide +kernel
theorem d_Mo_decade_11 : decode b_Mo_decade 11 = .ok (.invokestatic 118, 3) := by decide +kernel
theorem d_Mo_decade_14 : decode b_Mo_decade 14 = .ok (.ifCond .ne 7, 3) := by decide +kernel
theorem d_Mo_decade_17 : decode b_Mo_decade 17 = .ok (.iconst 1, 1) := by decide +kernel
theorem d_Mo_decade_18 : decode b_Mo_decade 18 = .ok (.goto 20, 3) := by decide +kernel
theorem d_Mo_decade_21 : decode b_Mo_decade 21 = .ok (.iload_n 2, 1) := by decide +kernel
theorem d_Mo_decade_22 : decode b_Mo_decade 22 = .ok (.i2l, 1) := by decide +kernel
theorem d_Mo_decade_23 : decode b_Mo_decade 23 = .ok (.lconst 0, 1) := by decide +kernel
theorem d_Mo_decade_24 : decode b_Mo_decade 24 = .ok (.ldc2_w 100, 3) := by decide +kernel
theorem d_Mo_decade_27 : decode b_Mo_decade 27 = .ok (.invokestatic 118, 3) := by decide +kernel
theorem d_Mo_decade_30 : decode b_Mo_decade 30 = .ok (.ifCond .eq 7, 3) := by decide +kernel
theorem d_Mo_decade_33 : decode b_Mo_decade 33 = .ok (.iconst 0, 1) := by decide +kernel
theorem d_Mo_decade_34 : decode b_Mo_decade 34 = .ok (.goto 4, 3) := by decide +kernel
theorem d_Mo_decade_37 : decode b_Mo_decade 37 = .ok (.iconst 2, 1) := by decide +kernel
theorem d_Mo_decade_38 : decode b_Mo_decade 38 = .ok (.putfield 107, 3) := by decide +kernel
theorem d_Mo_decade_41 : decode b_Mo_decade 41 = .ok (.aload_n 0, 1) := by decide +kernel
theorem d_Mo_decade_42 : decode b_Mo_decade 42 = .ok (.getfield 107, 3) := by decide +kernel
theorem d_Mo_decade_45 : decode b_Mo_decade 45 = .ok (.ifCond .le 5, 3) := by decide +kernel
theorem d_Mo_decade_48 : decode b_Mo_decade 48 = .ok (.iconst 0, 1) := by decide +kernel
theorem d_Mo_decade_49 : decode b_Mo_decade 49 = .ok (.ireturn, 1) := by decide +kernel
theorem d_Mo_decade_50 : decode b_Mo_decade 50 = .ok (.iload_n 2, 1) := by decide +kernel
theorem d_Mo_decade_51 : decode b_Mo_decade 51 = .ok (.ifCond .ne 11, 3) := by decide +kernel
theorem d_Mo_decade_54 : decode b_Mo_decade 54 = .ok (.aload_n 0, 1) := by decide +kernel
theorem d_Mo_decade_55 : decode b_Mo_decade 55 = .ok (.iload_n 1, 1) := by decide +kernel
theorem d_Mo_decade_56 : decode b_Mo_decade 56 = .ok (.invokevirtual 134, 3) := by decide +kernel
theorem d_Mo_decade_59 : decode b_Mo_decade 59 = .ok (.goto 28, 3) := by decide +kernel
theorem d_Mo_decade_62 : decode b_Mo_decade 62 = .ok (.iload_n 2, 1) := by decide +kernel
theorem d_Mo_decade_63 : decode b_Mo_decade 63 = .ok (.iconst 1, 1) := by decide +kernel
theorem d_Mo_decade_64 : decode b_Mo_decade 64 = .ok (.if_icmp .ne 14, 3) := by decide +kernel
theorem d_Mo_decade_67 : decode b_Mo_decade 67 = .ok (.aload_n 0, 1) := by decide +kernel
theorem d_Mo_decade_68 : decode b_Mo_decade 68 = .ok (.getfield 7, 3) := by decide +kernel
theorem d_Mo_decade_71 : decode b_Mo_decade 71 = .ok (.iconst 3, 1) := by decide +kernel
theorem d_Mo_decade_72 : decode b_Mo_decade 72 = .ok (.iload_n 1, 1) := by decide +kernel
theorem d_Mo_decade_73 : decode b_Mo_decade 73 = .ok (.iadd, 1) := by decide +kernel
theorem d_Mo_decade_74 : decode b_Mo_decade 74 = .ok (.laload, 1) := by decide +kernel
theorem d_Mo_decade_75 : decode b_Mo_decade 75 = .ok (.goto 12, 3) := by decide +kernel
theorem d_Mo_decade_78 : decode b_Mo_decade 78 = .ok (.aload_n 0, 1) := by decide +kernel
theorem d_Mo_decade_79 : decode b_Mo_decade 79 = .ok (.getfield 7, 3) := by decide +kernel
theorem d_Mo_decade_82 : decode b_Mo_decade 82 = .ok (.bipush 33, 2) := by decide +kernel
theorem d_Mo_decade_84 : decode b_Mo_decade 84 = .ok (.iload_n 1, 1) := by decide +kernel
theorem d_Mo_decade_85 : decode b_Mo_decade 85 = .ok (.iadd, 1) := by decide +kernel
theorem d_Mo_decade_86 : decode b_Mo_decade 86 = .ok (.laload, 1) := by decide +kernel
theorem d_Mo_decade_87 : decode b_Mo_decade 87 = .ok (.l2i, 1) := by decide +kernel
theorem d_Mo_decade_88 : decode b_Mo_decade 88 = .ok (.ireturn, 1) := by decide +kernel
theorem d_Mo_lead_0 : decode b_Mo_lead 0 = .ok (.aload_n 0, 1) := by decide +kernel
theorem d_Mo_lead_1 : decode b_Mo_lead 1 = .ok (.iload_n 1, 1) := by decide +kernel
theorem d_Mo_lead_2 : decode b_Mo_lead 2 = .ok (.i2l, 1) := by decide +kernel
theorem d_Mo_lead_3 : decode b_Mo_lead 3 = .ok (.lconst 0, 1) := by decide +kernel
theorem d_Mo_lead_4 : decode b_Mo_lead 4 = .ok (.ldc2_w 100, 3) := by decide +kernel
theorem d_Mo_lead_7 : decode b_Mo_lead 7 = .ok (.invokestatic 118, 3) := by decide +kernel
theorem d_Mo_lead_10 : decode b_Mo_lead 10 = .ok (.ifCond .eq 7, 3) := by decide +kernel
theorem d_Mo_lead_13 : decode b_Mo_lead 13 = .ok (.iconst 0, 1) := by decide +kernel
theorem d_Mo_lead_14 : decode b_Mo_lead 14 = .ok (.goto 4, 3) := by decide +kernel
theorem d_Mo_lead_17 : decode b_Mo_lead 17 = .ok (.iconst 1, 1) := by decide +kernel
theorem d_Mo_lead_18 : decode b_Mo_lead 18 = .ok (.putfield 107, 3) := by decide +kernel
theorem d_Mo_lead_21 : decode b_Mo_lead 21 = .ok (.aload_n 0, 1) := by decide +kernel
theorem d_Mo_lead_22 : decode b_Mo_lead 22 = .ok (.getfield 107, 3) := by decide +kernel
theorem d_Mo_lead_25 : decode b_Mo_lead 25 = .ok (.ifCond .le 7, 3) := by decide +kernel
theorem d_Mo_lead_28 : decode b_Mo_lead 28 = .ok (.iconst 0, 1) := by decide +kernel
theorem d_Mo_lead_29 : decode b_Mo_lead 29 = .ok (.goto 13, 3) := by decide +kernel
theorem d_Mo_lead_32 : decode b_Mo_lead 32 = .ok (.aload_n 0, 1) := by decide +kernel
theorem d_Mo_lead_33 : decode b_Mo_lead 33 = .ok (.getfield 7, 3) := by decide +kernel
theorem d_Mo_lead_36 : decode b_Mo_lead 36 = .ok (.bipush 19, 2) := by decide +kernel
theorem d_Mo_lead_38 : decode b_Mo_lead 38 = .ok (.iload_n 1, 1) := by decide +kernel
theorem d_Mo_lead_39 : decode b_Mo_lead 39 = .ok (.iadd, 1) := by decide +kernel
theorem d_Mo_lead_40 : decode b_Mo_lead 40 = .ok (.laload, 1) := by decide +kernel
theorem d_Mo_lead_41 : decode b_Mo_lead 41 = .ok (.l2i, 1) := by decide +kernel
theorem d_Mo_lead_42 : decode b_Mo_lead 42 = .ok (.ireturn, 1) := by decide +kernel
theorem d_Mo_part_0 : decode b_Mo_part 0 = .ok (.aload_n 0, 1) := by decide +kernel
theorem d_Mo_part_1 : decode b_Mo_part 1 = .ok (.iconst 0, 1) := by decide +kernel
theorem d_Mo_part_2 : decode b_Mo_part 2 = .ok (.putfield 107, 3) := by decide +kernel
theorem d_Mo_part_5 : decode b_Mo_part 5 = .ok (.iload_n 1, 1) := by decide +kernel
theorem d_Mo_part_6 : decode b_Mo_part 6 = .ok (.ifCond .eq 8, 3) := by decide +kernel
theorem d_Mo_part_9 : decode b_Mo_part 9 = .ok (.bipush 16, 2) := by decide +kernel
theorem d_Mo_part_11 : decode b_Mo_part 11 = .ok (.goto 5, 3) := by decide +kernel
theorem d_Mo_part_14 : decode b_Mo_part 14 = .ok (.bipush 13, 2) := by decide +kernel
theorem d_Mo_part_16 : decode b_Mo_part 16 = .ok (.istore_n 3, 1) := by decide +kernel
theorem d_Mo_part_17 : decode b_Mo_part 17 = .ok (.iload_n 2, 1) := by decide +kernel
theorem d_Mo_part_18 : decode b_Mo_part 18 = .ok (.tableswitch 152 0 6 #[42, 66, 87, 87, 87, 99, 117], 42) := by decide +kernel
theorem d_Mo_part_60 : decode b_Mo_part 60 = .ok (.iload_n 1, 1) := by decide +kernel
theorem d_Mo_part_61 : decode b_Mo_part 61 = .ok (.ifCond .eq 14, 3) := by decide +kernel
theorem d_Mo_part_64 : decode b_Mo_part 64 = .ok (.aload_n 0, 1) := by decide +kernel
theorem d_Mo_part_65 : decode b_Mo_part 65 = .ok (.aload_n 0, 1) := by decide +kernel
theorem d_Mo_part_66 : decode b_Mo_part 66 = .ok (.invokevirtual 176, 3) := by decide +kernel
theorem d_Mo_part_69 : decode b_Mo_part 69 = .ok (.invokevirtual 143, 3) := by decide +kernel
theorem d_Mo_part_72 : decode b_Mo_part 72 = .ok (.goto 10, 3) := by decide +kernel
theorem d_Mo_part_75 : decode b_Mo_part 75 = .ok (.aload_n 0, 1) := by decide +kernel
theorem d_Mo_part_76 : decode b_Mo_part 76 = .ok (.getfield 7, 3) := by decide +kernel
theorem d_Mo_part_79 : decode b_Mo_part 79 = .ok (.bipush 12, 2) := by decide +kernel
theorem d_Mo_part_81 : decode b_Mo_part 81 = .ok (.laload, 1) := by decide +kernel
theorem d_Mo_part_82 : decode b_Mo_part 82 = .ok (.l2i, 1) := by decide +kernel
theorem d_Mo_part_83 : decode b_Mo_part 83 = .ok (.ireturn, 1) := by decide +kernel
theorem d_Mo_part_84 : decode b_Mo_part 84 = .ok (.iload_n 1, 1) := by decide +kernel
theorem d_Mo_part_85 : decode b_Mo_part 85 = .ok (.ifCond .eq 14, 3) := by decide +kernel
theorem d_Mo_part_88 : decode b_Mo_part 88 = .ok (.aload_n 0, 1) := by decide +kernel
theorem d_Mo_part_89 : decode b_Mo_part 89 = .ok (.aload_n 0, 1) := by decide +kernel
theorem d_Mo_part_90 : decode b_Mo_part 90 = .ok (.invokevirtual 176, 3) := by decide +kernel
theorem d_Mo_part_93 : decode b_Mo_part 93 = .ok (.invokevirtual 150, 3) := by decide +kernel
theorem d_Mo_part_96 : decode b_Mo_part 96 = .ok (.goto 7, 3) := by decide +kernel
theorem d_Mo_part_99 : decode b_Mo_part 99 = .ok (.aload_n 0, 1) := by decide +kernel
theorem d_Mo_part_100 : decode b_Mo_part 100 = .ok (.invokevirtual 146, 3) := by decide +kernel
theorem d_Mo_part_103 : decode b_Mo_part 103 = .ok (.l2i, 1) := by decide +kernel
theorem d_Mo_part_104 : decode b_Mo_part 104 = .ok (.ireturn, 1) := by decide +kernel
theorem d_Mo_part_105 : decode b_Mo_part 105 = .ok (.aload_n 0, 1) := by decide +kernel
theorem d_Mo_part_106 : decode b_Mo_part 106 = .ok (.getfield 7, 3) := by decide +kernel
theorem d_Mo_part_109 : decode b_Mo_part 109 = .ok (.iload_n 3, 1) := by decide +kernel
theorem d_Mo_part_110 : decode b_Mo_part 110 = .ok (.iload_n 2, 1) := by decide +kernel
theorem d_Mo_part_111 : decode b_Mo_part 111 = .ok (.iadd, 1) := by decide +kernel
theorem d_Mo_part_112 : decode b_Mo_part 112 = .ok (.iconst 2, 1) := by decide +kernel
theorem d_Mo_part_113 : decode b_Mo_part 113 = .ok (.isub, 1) := by decide +kernel
theorem d_Mo_part_114 : decode b_Mo_part 114 = .ok (.laload, 1) := by decide +kernel
theorem d_Mo_part_115 : decode b_Mo_part 115 = .ok (.l2i, 1) := by decide +kernel
theorem d_Mo_part_116 : decode b_Mo_part 116 = .ok (.ireturn, 1) := by decide +kernel
theorem d_Mo_part_117 : decode b_Mo_part 117 = .ok (.aload_n 0, 1) := by decide +kernel
theorem d_Mo_part_118 : decode b_Mo_part 118 = .ok (.getfield 7, 3) := by decide +kernel
theorem d_Mo_part_121 : decode b_Mo_part 121 = .ok (.iload_n 1, 1) := by decide +kernel
theorem d_Mo_part_122 : decode b_Mo_part 122 = .ok (.ifCond .eq 8, 3) := by decide +kernel
theorem d_Mo_part_125 : decode b_Mo_part 125 = .ok (.bipush 38, 2) := by decide +kernel
theorem d_Mo_part_127 : decode b_Mo_part 127 = .ok (.goto 5, 3) := by decide +kernel
theorem d_Mo_part_130 : decode b_Mo_part 130 = .ok (.bipush 37, 2) := by decide +kernel
theorem d_Mo_part_132 : decode b_Mo_part 132 = .ok (.laload, 1) := by decide +kernel
theorem d_Mo_part_133 : decode b_Mo_part 133 = .ok (.l2i, 1) := by decide +kernel
theorem d_Mo_part_134 : decode b_Mo_part 134 = .ok (.ireturn, 1) := by decide +kernel
theorem d_Mo_part_135 : decode b_Mo_part 135 = .ok (.iload_n 1, 1) := by decide +kernel
theorem d_Mo_part_136 : decode b_Mo_part 136 = .ok (.ifCond .eq 21, 3) := by decide +kernel
theorem d_Mo_part_139 : decode b_Mo_part 139 = .ok (.aload_n 0, 1) := by decide +kernel
theorem d_Mo_part_140 : decode b_Mo_part 140 = .ok (.aload_n 0, 1) := by decide +kernel
theorem d_Mo_part_141 : decode b_Mo_part 141 = .ok (.invokevirtual 176, 3) := by decide +kernel
theorem d_Mo_part_144 : decode b_Mo_part 144 = .ok (.aload_n 0, 1) := by decide +kernel
theorem d_Mo_part_145 : decode b_Mo_part 145 = .ok (.getfield 7, 3) := by decide +kernel
theorem d_Mo_part_148 : decode b_Mo_part 148 = .ok (.bipush 32, 2) := by decide +kernel
theorem d_Mo_part_150 : decode b_Mo_part 150 = .ok (.laload, 1) := by decide +kernel
theorem d_Mo_part_151 : decode b_Mo_part 151 = .ok (.invokevirtual 158, 3) := by decide +kernel
theorem d_Mo_part_154 : decode b_Mo_part 154 = .ok (.goto 14, 3) := by decide +kernel
theorem d_Mo_part_157 : decode b_Mo_part 157 = .ok (.aload_n 0, 1) := by decide +kernel
theorem d_Mo_part_158 : decode b_Mo_part 158 = .ok (.aload_n 0, 1) := by decide +kernel
theorem d_Mo_part_159 : decode b_Mo_part 159 = .ok (.getfield 7, 3) := by decide +kernel
theorem d_Mo_part_162 : decode b_Mo_part 162 = .ok (.bipush 32, 2) := by decide +kernel
theorem d_Mo_part_164 : decode b_Mo_part 164 = .ok (.laload, 1) := by decide +kernel
theorem d_Mo_part_165 : decode b_Mo_part 165 = .ok (.invokevirtual 155, 3) := by decide +kernel
theorem d_Mo_part_168 : decode b_Mo_part 168 = .ok (.l2i, 1) := by decide +kernel
theorem d_Mo_part_169 : decode b_Mo_part 169 = .ok (.ireturn, 1) := by decide +kernel
theorem d_Mo_part_170 : decode b_Mo_part 170 = .ok (.aload_n 0, 1) := by decide +kernel
theorem d_Mo_part_171 : decode b_Mo_part 171 = .ok (.iconst 1, 1) := by decide +kernel
theorem d_Mo_part_172 : decode b_Mo_part 172 = .ok (.invokevirtual 420, 3) := by decide +kernel
theorem d_Mo_part_175 : decode b_Mo_part 175 = .ok (.ireturn, 1) := by decide +kernel
theorem d_Mo_isSetting_0 : decode b_Mo_isSetting 0 = .ok (.iload_n 1, 1) := by decide +kernel
theorem d_Mo_isSetting_1 : decode b_Mo_isSetting 1 = .ok (.i2l, 1) := by decide +kernel
theorem d_Mo_isSetting_2 : decode b_Mo_isSetting 2 = .ok (.lconst 0, 1) := by decide +kernel
theorem d_Mo_isSetting_3 : decode b_Mo_isSetting 3 = .ok (.aload_n 0, 1) := by decide +kernel
theorem d_Mo_isSetting_4 : decode b_Mo_isSetting 4 = .ok (.invokevirtual 256, 3) := by decide +kernel
theorem d_Mo_isSetting_7 : decode b_Mo_isSetting 7 = .ok (.i2l, 1) := by decide +kernel
theorem d_Mo_isSetting_8 : decode b_Mo_isSetting 8 = .ok (.lconst 1, 1) := by decide +kernel
theorem d_Mo_isSetting_9 : decode b_Mo_isSetting 9 = .ok (.lsub, 1) := by decide +kernel
theorem d_Mo_isSetting_10 : decode b_Mo_isSetting 10 = .ok (.invokestatic 118, 3) := by decide +kernel
theorem d_Mo_isSetting_13 : decode b_Mo_isSetting 13 = .ok (.ireturn, 1) := by decide +kernel
theorem d_Mo_coldOf_0 : decode b_Mo_coldOf 0 = .ok (.aload_n 0, 1) := by decide +kernel
theorem d_Mo_coldOf_1 : decode b_Mo_coldOf 1 = .ok (.aload_n 0, 1) := by decide +kernel
theorem d_Mo_coldOf_2 : decode b_Mo_coldOf 2 = .ok (.iload_n 1, 1) := by decide +kernel
theorem d_Mo_coldOf_3 : decode b_Mo_coldOf 3 = .ok (.invokevirtual 426, 3) := by decide +kernel
theorem d_Mo_coldOf_6 : decode b_Mo_coldOf 6 = .ok (.ifCond .eq 7, 3) := by decide +kernel
theorem d_Mo_coldOf_9 : decode b_Mo_coldOf 9 = .ok (.iconst 0, 1) := by decide +kernel
theorem d_Mo_coldOf_10 : decode b_Mo_coldOf 10 = .ok (.goto 4, 3) := by decide +kernel
theorem d_Mo_coldOf_13 : decode b_Mo_coldOf 13 = .ok (.iconst 1, 1) := by decide +kernel
theorem d_Mo_coldOf_14 : decode b_Mo_coldOf 14 = .ok (.putfield 107, 3) := by decide +kernel
theorem d_Mo_coldOf_17 : decode b_Mo_coldOf 17 = .ok (.aload_n 0, 1) := by decide +kernel
theorem d_Mo_coldOf_18 : decode b_Mo_coldOf 18 = .ok (.getfield 107, 3) := by decide +kernel
theorem d_Mo_coldOf_21 : decode b_Mo_coldOf 21 = .ok (.ifCond .le 7, 3) := by decide +kernel
theorem d_Mo_coldOf_24 : decode b_Mo_coldOf 24 = .ok (.iconst 0, 1) := by decide +kernel
theorem d_Mo_coldOf_25 : decode b_Mo_coldOf 25 = .ok (.goto 9, 3) := by decide +kernel
theorem d_Mo_coldOf_28 : decode b_Mo_coldOf 28 = .ok (.aload_n 0, 1) := by decide +kernel
theorem d_Mo_coldOf_29 : decode b_Mo_coldOf 29 = .ok (.iload_n 1, 1) := by decide +kernel
theorem d_Mo_coldOf_30 : decode b_Mo_coldOf 30 = .ok (.invokevirtual 143, 3) := by decide +kernel
theorem d_Mo_coldOf_33 : decode b_Mo_coldOf 33 = .ok (.l2i, 1) := by decide +kernel
theorem d_Mo_coldOf_34 : decode b_Mo_coldOf 34 = .ok (.ireturn, 1) := by decide +kernel
theorem d_Mo_share_0 : decode b_Mo_share 0 = .ok (.aload_n 0, 1) := by decide +kernel
theorem d_Mo_share_1 : decode b_Mo_share 1 = .ok (.iconst 0, 1) := by decide +kernel
theorem d_Mo_share_2 : decode b_Mo_share 2 = .ok (.putfield 107, 3) := by decide +kernel
theorem d_Mo_share_5 : decode b_Mo_share 5 = .ok (.iload_n 1, 1) := by decide +kernel
theorem d_Mo_share_6 : decode b_Mo_share 6 = .ok (.ifCond .eq 24, 3) := by decide +kernel
theorem d_Mo_share_9 : decode b_Mo_share 9 = .ok (.aload_n 0, 1) := by decide +kernel
theorem d_Mo_share_10 : decode b_Mo_share 10 = .ok (.aload_n 0, 1) := by decide +kernel
theorem d_Mo_share_11 : decode b_Mo_share 11 = .ok (.getfield 7, 3) := by decide +kernel
theorem d_Mo_share_14 : decode b_Mo_share 14 = .ok (.bipush 29, 2) := by decide +kernel
theorem d_Mo_share_16 : decode b_Mo_share 16 = .ok (.laload, 1) := by decide +kernel
theorem d_Mo_share_17 : decode b_Mo_share 17 = .ok (.aload_n 0, 1) := by decide +kernel
theorem d_Mo_share_18 : decode b_Mo_share 18 = .ok (.getfield 7, 3) := by decide +kernel
theorem d_Mo_share_21 : decode b_Mo_share 21 = .ok (.bipush 30, 2) := by decide +kernel
theorem d_Mo_share_23 : decode b_Mo_share 23 = .ok (.laload, 1) := by decide +kernel
theorem d_Mo_share_24 : decode b_Mo_share 24 = .ok (.invokevirtual 168, 3) := by decide +kernel
theorem d_Mo_share_27 : decode b_Mo_share 27 = .ok (.goto 18, 3) := by decide +kernel
theorem d_Mo_share_30 : decode b_Mo_share 30 = .ok (.aload_n 0, 1) := by decide +kernel
theorem d_Mo_share_31 : decode b_Mo_share 31 = .ok (.aload_n 0, 1) := by decide +kernel
theorem d_Mo_share_32 : decode b_Mo_share 32 = .ok (.invokevirtual 176, 3) := by decide +kernel
theorem d_Mo_share_35 : decode b_Mo_share 35 = .ok (.aload_n 0, 1) := by decide +kernel
theorem d_Mo_share_36 : decode b_Mo_share 36 = .ok (.getfield 7, 3) := by decide +kernel
theorem d_Mo_share_39 : decode b_Mo_share 39 = .ok (.bipush 32, 2) := by decide +kernel
theorem d_Mo_share_41 : decode b_Mo_share 41 = .ok (.laload, 1) := by decide +kernel
theorem d_Mo_share_42 : decode b_Mo_share 42 = .ok (.invokevirtual 165, 3) := by decide +kernel
theorem d_Mo_share_45 : decode b_Mo_share 45 = .ok (.l2i, 1) := by decide +kernel
theorem d_Mo_share_46 : decode b_Mo_share 46 = .ok (.ireturn, 1) := by decide +kernel
theorem d_Mo_deflection_0 : decode b_Mo_deflection 0 = .ok (.aload_n 0, 1) := by decide +kernel
theorem d_Mo_deflection_1 : decode b_Mo_deflection 1 = .ok (.iconst 0, 1) := by decide +kernel
theorem d_Mo_deflection_2 : decode b_Mo_deflection 2 = .ok (.putfield 107, 3) := by decide +kernel
theorem d_Mo_deflection_5 : decode b_Mo_deflection 5 = .ok (.aload_n 0, 1) := by decide +kernel
theorem d_Mo_deflection_6 : decode b_Mo_deflection 6 = .ok (.invokevirtual 220, 3) := by decide +kernel
theorem d_Mo_deflection_9 : decode b_Mo_deflection 9 = .ok (.lreturn, 1) := by decide +kernel
theorem d_Mo_current_0 : decode b_Mo_current 0 = .ok (.aload_n 0, 1) := by decide +kernel
theorem d_Mo_current_1 : decode b_Mo_current 1 = .ok (.iconst 0, 1) := by decide +kernel
theorem d_Mo_current_2 : decode b_Mo_current 2 = .ok (.putfield 107, 3) := by decide +kernel
theorem d_Mo_current_5 : decode b_Mo_current 5 = .ok (.aload_n 0, 1) := by decide +kernel
theorem d_Mo_current_6 : decode b_Mo_current 6 = .ok (.invokevirtual 182, 3) := by decide +kernel
theorem d_Mo_current_9 : decode b_Mo_current 9 = .ok (.lreturn, 1) := by decide +kernel
theorem d_Mo_power_0 : decode b_Mo_power 0 = .ok (.aload_n 0, 1) := by decide +kernel
theorem d_Mo_power_1 : decode b_Mo_power 1 = .ok (.iconst 0, 1) := by decide +kernel
theorem d_Mo_power_2 : decode b_Mo_power 2 = .ok (.putfield 107, 3) := by decide +kernel
theorem d_Mo_power_5 : decode b_Mo_power 5 = .ok (.aload_n 0, 1) := by decide +kernel
theorem d_Mo_power_6 : decode b_Mo_power 6 = .ok (.iload_n 1, 1) := by decide +kernel
theorem d_Mo_power_7 : decode b_Mo_power 7 = .ok (.invokevirtual 198, 3) := by decide +kernel
theorem d_Mo_power_10 : decode b_Mo_power 10 = .ok (.lreturn, 1) := by decide +kernel
theorem d_Mo_whyNot_0 : decode b_Mo_whyNot 0 = .ok (.aload_n 0, 1) := by decide +kernel
theorem d_Mo_whyNot_1 : decode b_Mo_whyNot 1 = .ok (.iconst 0, 1) := by decide +kernel
theorem d_Mo_whyNot_2 : decode b_Mo_whyNot 2 = .ok (.putfield 107, 3) := by decide +kernel
theorem d_Mo_whyNot_5 : decode b_Mo_whyNot 5 = .ok (.aload_n 0, 1) := by decide +kernel
theorem d_Mo_whyNot_6 : decode b_Mo_whyNot 6 = .ok (.getfield 7, 3) := by decide +kernel
theorem d_Mo_whyNot_9 : decode b_Mo_whyNot 9 = .ok (.bipush 22, 2) := by decide +kernel
theorem d_Mo_whyNot_11 : decode b_Mo_whyNot 11 = .ok (.laload, 1) := by decide +kernel
theorem d_Mo_whyNot_12 : decode b_Mo_whyNot 12 = .ok (.lconst 0, 1) := by decide +kernel
theorem d_Mo_whyNot_13 : decode b_Mo_whyNot 13 = .ok (.lcmp, 1) := by decide +kernel
theorem d_Mo_whyNot_14 : decode b_Mo_whyNot 14 = .ok (.ifCond .ne 7, 3) := by decide +kernel
theorem d_Mo_whyNot_17 : decode b_Mo_whyNot 17 = .ok (.iconst 1, 1) := by decide +kernel
theorem d_Mo_whyNot_18 : decode b_Mo_whyNot 18 = .ok (.goto 15, 3) := by decide +kernel
theorem d_Mo_whyNot_21 : decode b_Mo_whyNot 21 = .ok (.aload_n 0, 1) := by decide +kernel
theorem d_Mo_whyNot_22 : decode b_Mo_whyNot 22 = .ok (.invokevirtual 234, 3) := by decide +kernel
theorem d_Mo_whyNot_25 : decode b_Mo_whyNot 25 = .ok (.ifCond .eq 7, 3) := by decide +kernel
theorem d_Mo_whyNot_28 : decode b_Mo_whyNot 28 = .ok (.iconst 0, 1) := by decide +kernel
theorem d_Mo_whyNot_29 : decode b_Mo_whyNot 29 = .ok (.goto 4, 3) := by decide +kernel
theorem d_Mo_whyNot_32 : decode b_Mo_whyNot 32 = .ok (.iconst 2, 1) := by decide +kernel
theorem d_Mo_whyNot_33 : decode b_Mo_whyNot 33 = .ok (.ireturn, 1) := by decide +kernel
theorem d_Mo_energy_0 : decode b_Mo_energy 0 = .ok (.aload_n 0, 1) := by decide +kernel
theorem d_Mo_energy_1 : decode b_Mo_energy 1 = .ok (.iconst 0, 1) := by decide +kernel
theorem d_Mo_energy_2 : decode b_Mo_energy 2 = .ok (.putfield 107, 3) := by decide +kernel
theorem d_Mo_energy_5 : decode b_Mo_energy 5 = .ok (.aload_n 0, 1) := by decide +kernel
theorem d_Mo_energy_6 : decode b_Mo_energy 6 = .ok (.getfield 7, 3) := by decide +kernel
theorem d_Mo_energy_9 : decode b_Mo_energy 9 = .ok (.bipush 40, 2) := by decide +kernel
theorem d_Mo_energy_11 : decode b_Mo_energy 11 = .ok (.laload, 1) := by decide +kernel
theorem d_Mo_energy_12 : decode b_Mo_energy 12 = .ok (.lreturn, 1) := by decide +kernel
theorem d_Mo_reading_0 : decode b_Mo_reading 0 = .ok (.aload_n 0, 1) := by decide +kernel
theorem d_Mo_reading_1 : decode b_Mo_reading 1 = .ok (.iconst 0, 1) := by decide +kernel
theorem d_Mo_reading_2 : decode b_Mo_reading 2 = .ok (.putfield 107, 3) := by decide +kernel
theorem d_Mo_reading_5 : decode b_Mo_reading 5 = .ok (.iload_n 1, 1) := by decide +kernel
theorem d_Mo_reading_6 : decode b_Mo_reading 6 = .ok (.i2l, 1) := by decide +kernel
theorem d_Mo_reading_7 : decode b_Mo_reading 7 = .ok (.lconst 0, 1) := by decide +kernel
theorem d_Mo_reading_8 : decode b_Mo_reading 8 = .ok (.aload_n 0, 1) := by decide +kernel
theorem d_Mo_reading_9 : decode b_Mo_reading 9 = .ok (.getfield 7, 3) := by decide +kernel
theorem d_Mo_reading_12 : decode b_Mo_reading 12 = .ok (.bipush 43, 2) := by decide +kernel
theorem d_Mo_reading_14 : decode b_Mo_reading 14 = .ok (.laload, 1) := by decide +kernel
theorem d_Mo_reading_15 : decode b_Mo_reading 15 = .ok (.lconst 1, 1) := by decide +kernel
theorem d_Mo_reading_16 : decode b_Mo_reading 16 = .ok (.lsub, 1) := by decide +kernel
theorem d_Mo_reading_17 : decode b_Mo_reading 17 = .ok (.invokestatic 118, 3) := by decide +kernel
theorem d_Mo_reading_20 : decode b_Mo_reading 20 = .ok (.ifCond .eq 16, 3) := by decide +kernel
theorem d_Mo_reading_23 : decode b_Mo_reading 23 = .ok (.aload_n 0, 1) := by decide +kernel
theorem d_Mo_reading_24 : decode b_Mo_reading 24 = .ok (.getfield 7, 3) := by decide +kernel
theorem d_Mo_reading_27 : decode b_Mo_reading 27 = .ok (.bipush 44, 2) := by decide +kernel
theorem d_Mo_reading_29 : decode b_Mo_reading 29 = .ok (.iload_n 1, 1) := by decide +kernel
theorem d_Mo_reading_30 : decode b_Mo_reading 30 = .ok (.iadd, 1) := by decide +kernel
theorem d_Mo_reading_31 : decode b_Mo_reading 31 = .ok (.laload, 1) := by decide +kernel
theorem d_Mo_reading_32 : decode b_Mo_reading 32 = .ok (.l2i, 1) := by decide +kernel
theorem d_Mo_reading_33 : decode b_Mo_reading 33 = .ok (.goto 6, 3) := by decide +kernel
theorem d_Mo_reading_36 : decode b_Mo_reading 36 = .ok (.ldc_w 429, 3) := by decide +kernel
theorem d_Mo_reading_39 : decode b_Mo_reading 39 = .ok (.ireturn, 1) := by decide +kernel
theorem d_Mo_meanReading_0 : decode b_Mo_meanReading 0 = .ok (.aload_n 0, 1) := by decide +kernel
theorem d_Mo_meanReading_1 : decode b_Mo_meanReading 1 = .ok (.iconst 0, 1) := by decide +kernel
theorem d_Mo_meanReading_2 : decode b_Mo_meanReading 2 = .ok (.putfield 107, 3) := by decide +kernel
theorem d_Mo_meanReading_5 : decode b_Mo_meanReading 5 = .ok (.lconst 0, 1) := by decide +kernel
theorem d_Mo_meanReading_6 : decode b_Mo_meanReading 6 = .ok (.lstore_n 1, 1) := by decide +kernel
theorem d_Mo_meanReading_7 : decode b_Mo_meanReading 7 = .ok (.iconst 0, 1) := by decide +kernel
theorem d_Mo_meanReading_8 : decode b_Mo_meanReading 8 = .ok (.istore_n 3, 1) := by decide +kernel
theorem d_Mo_meanReading_9 : decode b_Mo_meanReading 9 = .ok (.iload_n 3, 1) := by decide +kernel
theorem d_Mo_meanReading_10 : decode b_Mo_meanReading 10 = .ok (.i2l, 1) := by decide +kernel
theorem d_Mo_meanReading_11 : decode b_Mo_meanReading 11 = .ok (.aload_n 0, 1) := by decide +kernel
theorem d_Mo_meanReading_12 : decode b_Mo_meanReading 12 = .ok (.getfield 7, 3) := by decide +kernel
theorem d_Mo_meanReading_15 : decode b_Mo_meanReading 15 = .ok (.bipush 43, 2) := by decide +kernel
theorem d_Mo_meanReading_17 : decode b_Mo_meanReading 17 = .ok (.laload, 1) := by decide +kernel
theorem d_Mo_meanReading_18 : decode b_Mo_meanReading 18 = .ok (.lcmp, 1) := by decide +kernel
theorem d_Mo_meanReading_19 : decode b_Mo_meanReading 19 = .ok (.ifCond .ge 21, 3) := by decide +kernel
theorem d_Mo_meanReading_22 : decode b_Mo_meanReading 22 = .ok (.lload_n 1, 1) := by decide +kernel
theorem d_Mo_meanReading_23 : decode b_Mo_meanReading 23 = .ok (.aload_n 0, 1) := by decide +kernel
theorem d_Mo_meanReading_24 : decode b_Mo_meanReading 24 = .ok (.getfield 7, 3) := by decide +kernel
theorem d_Mo_meanReading_27 : decode b_Mo_meanReading 27 = .ok (.bipush 44, 2) := by decide +kernel
theorem d_Mo_meanReading_29 : decode b_Mo_meanReading 29 = .ok (.iload_n 3, 1) := by decide +kernel
theorem d_Mo_meanReading_30 : decode b_Mo_meanReading 30 = .ok (.iadd, 1) := by decide +kernel
theorem d_Mo_meanReading_31 : decode b_Mo_meanReading 31 = .ok (.laload, 1) := by decide +kernel
theorem d_Mo_meanReading_32 : decode b_Mo_meanReading 32 = .ok (.ladd, 1) := by decide +kernel
theorem d_Mo_meanReading_33 : decode b_Mo_meanReading 33 = .ok (.lstore_n 1, 1) := by decide +kernel
theorem d_Mo_meanReading_34 : decode b_Mo_meanReading 34 = .ok (.iinc 3 1, 3) := by decide +kernel
theorem d_Mo_meanReading_37 : decode b_Mo_meanReading 37 = .ok (.goto (-28), 3) := by decide +kernel
theorem d_Mo_meanReading_40 : decode b_Mo_meanReading 40 = .ok (.aload_n 0, 1) := by decide +kernel
theorem d_Mo_meanReading_41 : decode b_Mo_meanReading 41 = .ok (.getfield 7, 3) := by decide +kernel
theorem d_Mo_meanReading_44 : decode b_Mo_meanReading 44 = .ok (.bipush 43, 2) := by decide +kernel
theorem d_Mo_meanReading_46 : decode b_Mo_meanReading 46 = .ok (.laload, 1) := by decide +kernel
theorem d_Mo_meanReading_47 : decode b_Mo_meanReading 47 = .ok (.lconst 0, 1) := by decide +kernel
theorem d_Mo_meanReading_48 : decode b_Mo_meanReading 48 = .ok (.lcmp, 1) := by decide +kernel
theorem d_Mo_meanReading_49 : decode b_Mo_meanReading 49 = .ok (.ifCond .ne 7, 3) := by decide +kernel
theorem d_Mo_meanReading_52 : decode b_Mo_meanReading 52 = .ok (.dconst 0, 1) := by decide +kernel
theorem d_Mo_meanReading_53 : decode b_Mo_meanReading 53 = .ok (.goto 14, 3) := by decide +kernel
theorem d_Mo_meanReading_56 : decode b_Mo_meanReading 56 = .ok (.lload_n 1, 1) := by decide +kernel
theorem d_Mo_meanReading_57 : decode b_Mo_meanReading 57 = .ok (.l2d, 1) := by decide +kernel
theorem d_Mo_meanReading_58 : decode b_Mo_meanReading 58 = .ok (.aload_n 0, 1) := by decide +kernel
theorem d_Mo_meanReading_59 : decode b_Mo_meanReading 59 = .ok (.getfield 7, 3) := by decide +kernel
theorem d_Mo_meanReading_62 : decode b_Mo_meanReading 62 = .ok (.bipush 43, 2) := by decide +kernel
theorem d_Mo_meanReading_64 : decode b_Mo_meanReading 64 = .ok (.laload, 1) := by decide +kernel
theorem d_Mo_meanReading_65 : decode b_Mo_meanReading 65 = .ok (.l2d, 1) := by decide +kernel
theorem d_Mo_meanReading_66 : decode b_Mo_meanReading 66 = .ok (.ddiv, 1) := by decide +kernel
theorem d_Mo_meanReading_67 : decode b_Mo_meanReading 67 = .ok (.dreturn, 1) := by decide +kernel
theorem d_Mo_spread_0 : decode b_Mo_spread 0 = .ok (.aload_n 0, 1) := by decide +kernel
theorem d_Mo_spread_1 : decode b_Mo_spread 1 = .ok (.iconst 0, 1) := by decide +kernel
theorem d_Mo_spread_2 : decode b_Mo_spread 2 = .ok (.putfield 107, 3) := by decide +kernel
theorem d_Mo_spread_5 : decode b_Mo_spread 5 = .ok (.aload_n 0, 1) := by decide +kernel
theorem d_Mo_spread_6 : decode b_Mo_spread 6 = .ok (.getfield 7, 3) := by decide +kernel
theorem d_Mo_spread_9 : decode b_Mo_spread 9 = .ok (.bipush 44, 2) := by decide +kernel
theorem d_Mo_spread_11 : decode b_Mo_spread 11 = .ok (.laload, 1) := by decide +kernel
theorem d_Mo_spread_12 : decode b_Mo_spread 12 = .ok (.lstore_n 1, 1) := by decide +kernel
theorem d_Mo_spread_13 : decode b_Mo_spread 13 = .ok (.aload_n 0, 1) := by decide +kernel
theorem d_Mo_spread_14 : decode b_Mo_spread 14 = .ok (.getfield 7, 3) := by decide +kernel
theorem d_Mo_spread_17 : decode b_Mo_spread 17 = .ok (.bipush 44, 2) := by decide +kernel
theorem d_Mo_spread_19 : decode b_Mo_spread 19 = .ok (.laload, 1) := by decide +kernel
theorem d_Mo_spread_20 : decode b_Mo_spread 20 = .ok (.lstore_n 3, 1) := by decide +kernel
theorem d_Mo_spread_21 : decode b_Mo_spread 21 = .ok (.iconst 0, 1) := by decide +kernel
theorem d_Mo_spread_22 : decode b_Mo_spread 22 = .ok (.istore 5, 2) := by decide +kernel
theorem d_Mo_spread_24 : decode b_Mo_spread 24 = .ok (.iload 5, 2) := by decide +kernel
theorem d_Mo_spread_26 : decode b_Mo_spread 26 = .ok (.i2l, 1) := by decide +kernel
theorem d_Mo_spread_27 : decode b_Mo_spread 27 = .ok (.aload_n 0, 1) := by decide +kernel
theorem d_Mo_spread_28 : decode b_Mo_spread 28 = .ok (.getfield 7, 3) := by decide +kernel
theorem d_Mo_spread_31 : decode b_Mo_spread 31 = .ok (.bipush 43, 2) := by decide +kernel
theorem d_Mo_spread_33 : decode b_Mo_spread 33 = .ok (.laload, 1) := by decide +kernel
theorem d_Mo_spread_34 : decode b_Mo_spread 34 = .ok (.lcmp, 1) := by decide +kernel
theorem d_Mo_spread_35 : decode b_Mo_spread 35 = .ok (.ifCond .ge 39, 3) := by decide +kernel
theorem d_Mo_spread_38 : decode b_Mo_spread 38 = .ok (.lload_n 1, 1) := by decide +kernel
theorem d_Mo_spread_39 : decode b_Mo_spread 39 = .ok (.aload_n 0, 1) := by decide +kernel
theorem d_Mo_spread_40 : decode b_Mo_spread 40 = .ok (.getfield 7, 3) := by decide +kernel
theorem d_Mo_spread_43 : decode b_Mo_spread 43 = .ok (.bipush 44, 2) := by decide +kernel
theorem d_Mo_spread_45 : decode b_Mo_spread 45 = .ok (.iload 5, 2) := by decide +kernel
theorem d_Mo_spread_47 : decode b_Mo_spread 47 = .ok (.iadd, 1) := by decide +kernel
theorem d_Mo_spread_48 : decode b_Mo_spread 48 = .ok (.laload, 1) := by decide +kernel
theorem d_Mo_spread_49 : decode b_Mo_spread 49 = .ok (.invokestatic 430, 3) := by decide +kernel
theorem d_Mo_spread_52 : decode b_Mo_spread 52 = .ok (.lstore_n 1, 1) := by decide +kernel
theorem d_Mo_spread_53 : decode b_Mo_spread 53 = .ok (.lload_n 3, 1) := by decide +kernel
theorem d_Mo_spread_54 : decode b_Mo_spread 54 = .ok (.aload_n 0, 1) := by decide +kernel
theorem d_Mo_spread_55 : decode b_Mo_spread 55 = .ok (.getfield 7, 3) := by decide +kernel
theorem d_Mo_spread_58 : decode b_Mo_spread 58 = .ok (.bipush 44, 2) := by decide +kernel
theorem d_Mo_spread_60 : decode b_Mo_spread 60 = .ok (.iload 5, 2) := by decide +kernel
theorem d_Mo_spread_62 : decode b_Mo_spread 62 = .ok (.iadd, 1) := by decide +kernel
theorem d_Mo_spread_63 : decode b_Mo_spread 63 = .ok (.laload, 1) := by decide +kernel
theorem d_Mo_spread_64 : decode b_Mo_spread 64 = .ok (.invokestatic 185, 3) := by decide +kernel
theorem d_Mo_spread_67 : decode b_Mo_spread 67 = .ok (.lstore_n 3, 1) := by decide +kernel
theorem d_Mo_spread_68 : decode b_Mo_spread 68 = .ok (.iinc 5 1, 3) := by decide +kernel
theorem d_Mo_spread_71 : decode b_Mo_spread 71 = .ok (.goto (-47), 3) := by decide +kernel
theorem d_Mo_spread_74 : decode b_Mo_spread 74 = .ok (.aload_n 0, 1) := by decide +kernel
theorem d_Mo_spread_75 : decode b_Mo_spread 75 = .ok (.getfield 7, 3) := by decide +kernel
theorem d_Mo_spread_78 : decode b_Mo_spread 78 = .ok (.bipush 43, 2) := by decide +kernel
theorem d_Mo_spread_80 : decode b_Mo_spread 80 = .ok (.laload, 1) := by decide +kernel
theorem d_Mo_spread_81 : decode b_Mo_spread 81 = .ok (.lconst 0, 1) := by decide +kernel
theorem d_Mo_spread_82 : decode b_Mo_spread 82 = .ok (.lcmp, 1) := by decide +kernel
theorem d_Mo_spread_83 : decode b_Mo_spread 83 = .ok (.ifCond .ne 7, 3) := by decide +kernel
theorem d_Mo_spread_86 : decode b_Mo_spread 86 = .ok (.fconst 0, 1) := by decide +kernel
theorem d_Mo_spread_87 : decode b_Mo_spread 87 = .ok (.goto 7, 3) := by decide +kernel
theorem d_Mo_spread_90 : decode b_Mo_spread 90 = .ok (.lload_n 1, 1) := by decide +kernel
theorem d_Mo_spread_91 : decode b_Mo_spread 91 = .ok (.lload_n 3, 1) := by decide +kernel
theorem d_Mo_spread_92 : decode b_Mo_spread 92 = .ok (.lsub, 1) := by decide +kernel
theorem d_Mo_spread_93 : decode b_Mo_spread 93 = .ok (.l2f, 1) := by decide +kernel
theorem d_Mo_spread_94 : decode b_Mo_spread 94 = .ok (.freturn, 1) := by decide +kernel
theorem d_Mo_isResult_0 : decode b_Mo_isResult 0 = .ok (.iload_n 1, 1) := by decide +kernel
theorem d_Mo_isResult_1 : decode b_Mo_isResult 1 = .ok (.i2l, 1) := by decide +kernel
theorem d_Mo_isResult_2 : decode b_Mo_isResult 2 = .ok (.lconst 0, 1) := by decide +kernel
theorem d_Mo_isResult_3 : decode b_Mo_isResult 3 = .ok (.aload_n 0, 1) := by decide +kernel
theorem d_Mo_isResult_4 : decode b_Mo_isResult 4 = .ok (.getfield 7, 3) := by decide +kernel
theorem d_Mo_isResult_7 : decode b_Mo_isResult 7 = .ok (.bipush 54, 2) := by decide +kernel
theorem d_Mo_isResult_9 : decode b_Mo_isResult 9 = .ok (.laload, 1) := by decide +kernel
theorem d_Mo_isResult_10 : decode b_Mo_isResult 10 = .ok (.lconst 1, 1) := by decide +kernel
theorem d_Mo_isResult_11 : decode b_Mo_isResult 11 = .ok (.lsub, 1) := by decide +kernel
theorem d_Mo_isResult_12 : decode b_Mo_isResult 12 = .ok (.invokestatic 118, 3) := by decide +kernel
theorem d_Mo_isResult_15 : decode b_Mo_isResult 15 = .ok (.ireturn, 1) := by decide +kernel
theorem d_Mo_result_0 : decode b_Mo_result 0 = .ok (.aload_n 0, 1) := by decide +kernel
theorem d_Mo_result_1 : decode b_Mo_result 1 = .ok (.aload_n 0, 1) := by decide +kernel
theorem d_Mo_result_2 : decode b_Mo_result 2 = .ok (.iload_n 1, 1) := by decide +kernel
theorem d_Mo_result_3 : decode b_Mo_result 3 = .ok (.invokevirtual 433, 3) := by decide +kernel
theorem d_Mo_result_6 : decode b_Mo_result 6 = .ok (.ifCond .ne 7, 3) := by decide +kernel
theorem d_Mo_result_9 : decode b_Mo_result 9 = .ok (.iconst 1, 1) := by decide +kernel
theorem d_Mo_result_10 : decode b_Mo_result 10 = .ok (.goto 20, 3) := by decide +kernel
theorem d_Mo_result_13 : decode b_Mo_result 13 = .ok (.iload_n 2, 1) := by decide +kernel
theorem d_Mo_result_14 : decode b_Mo_result 14 = .ok (.i2l, 1) := by decide +kernel
theorem d_Mo_result_15 : decode b_Mo_result 15 = .ok (.lconst 0, 1) := by decide +kernel
theorem d_Mo_result_16 : decode b_Mo_result 16 = .ok (.ldc2_w 436, 3) := by decide +kernel
theorem d_Mo_result_19 : decode b_Mo_result 19 = .ok (.invokestatic 118, 3) := by decide +kernel
theorem d_Mo_result_22 : decode b_Mo_result 22 = .ok (.ifCond .eq 7, 3) := by decide +kernel
theorem d_Mo_result_25 : decode b_Mo_result 25 = .ok (.iconst 0, 1) := by decide +kernel
theorem d_Mo_result_26 : decode b_Mo_result 26 = .ok (.goto 4, 3) := by decide +kernel
theorem d_Mo_result_29 : decode b_Mo_result 29 = .ok (.iconst 2, 1) := by decide +kernel
theorem d_Mo_result_30 : decode b_Mo_result 30 = .ok (.putfield 107, 3) := by decide +kernel
theorem d_Mo_result_33 : decode b_Mo_result 33 = .ok (.aload_n 0, 1) := by decide +kernel
theorem d_Mo_result_34 : decode b_Mo_result 34 = .ok (.getfield 107, 3) := by decide +kernel
theorem d_Mo_result_37 : decode b_Mo_result 37 = .ok (.ifCond .le 5, 3) := by decide +kernel
theorem d_Mo_result_40 : decode b_Mo_result 40 = .ok (.iconst 0, 1) := by decide +kernel
theorem d_Mo_result_41 : decode b_Mo_result 41 = .ok (.ireturn, 1) := by decide +kernel
theorem d_Mo_result_42 : decode b_Mo_result 42 = .ok (.iload_n 2, 1) := by decide +kernel
theorem d_Mo_result_43 : decode b_Mo_result 43 = .ok (.bipush 6, 2) := by decide +kernel
theorem d_Mo_result_45 : decode b_Mo_result 45 = .ok (.if_icmp .ne 11, 3) := by decide +kernel
theorem d_Mo_result_48 : decode b_Mo_result 48 = .ok (.aload_n 0, 1) := by decide +kernel
theorem d_Mo_result_49 : decode b_Mo_result 49 = .ok (.iload_n 1, 1) := by decide +kernel
theorem d_Mo_result_50 : decode b_Mo_result 50 = .ok (.invokevirtual 438, 3) := by decide +kernel
theorem d_Mo_result_53 : decode b_Mo_result 53 = .ok (.goto 10, 3) := by decide +kernel
theorem d_Mo_result_56 : decode b_Mo_result 56 = .ok (.aload_n 0, 1) := by decide +kernel
theorem d_Mo_result_57 : decode b_Mo_result 57 = .ok (.iload_n 1, 1) := by decide +kernel
theorem d_Mo_result_58 : decode b_Mo_result 58 = .ok (.iload_n 2, 1) := by decide +kernel
theorem d_Mo_result_59 : decode b_Mo_result 59 = .ok (.invokevirtual 406, 3) := by decide +kernel
theorem d_Mo_result_62 : decode b_Mo_result 62 = .ok (.l2i, 1) := by decide +kernel
theorem d_Mo_result_63 : decode b_Mo_result 63 = .ok (.ireturn, 1) := by decide +kernel
theorem d_Mo_valueOf_0 : decode b_Mo_valueOf 0 = .ok (.aload_n 0, 1) := by decide +kernel
theorem d_Mo_valueOf_1 : decode b_Mo_valueOf 1 = .ok (.aload_n 0, 1) := by decide +kernel
theorem d_Mo_valueOf_2 : decode b_Mo_valueOf 2 = .ok (.iload_n 1, 1) := by decide +kernel
theorem d_Mo_valueOf_3 : decode b_Mo_valueOf 3 = .ok (.invokevirtual 433, 3) := by decide +kernel
theorem d_Mo_valueOf_6 : decode b_Mo_valueOf 6 = .ok (.ifCond .eq 7, 3) := by decide +kernel
theorem d_Mo_valueOf_9 : decode b_Mo_valueOf 9 = .ok (.iconst 0, 1) := by decide +kernel
theorem d_Mo_valueOf_10 : decode b_Mo_valueOf 10 = .ok (.goto 4, 3) := by decide +kernel
theorem d_Mo_valueOf_13 : decode b_Mo_valueOf 13 = .ok (.iconst 1, 1) := by decide +kernel
theorem d_Mo_valueOf_14 : decode b_Mo_valueOf 14 = .ok (.putfield 107, 3) := by decide +kernel
theorem d_Mo_valueOf_17 : decode b_Mo_valueOf 17 = .ok (.aload_n 0, 1) := by decide +kernel
theorem d_Mo_valueOf_18 : decode b_Mo_valueOf 18 = .ok (.getfield 107, 3) := by decide +kernel
theorem d_Mo_valueOf_21 : decode b_Mo_valueOf 21 = .ok (.ifCond .le 7, 3) := by decide +kernel
theorem d_Mo_valueOf_24 : decode b_Mo_valueOf 24 = .ok (.lconst 0, 1) := by decide +kernel
theorem d_Mo_valueOf_25 : decode b_Mo_valueOf 25 = .ok (.goto 19, 3) := by decide +kernel
theorem d_Mo_valueOf_28 : decode b_Mo_valueOf 28 = .ok (.aload_n 0, 1) := by decide +kernel
theorem d_Mo_valueOf_29 : decode b_Mo_valueOf 29 = .ok (.iload_n 1, 1) := by decide +kernel
theorem d_Mo_valueOf_30 : decode b_Mo_valueOf 30 = .ok (.iload_n 2, 1) := by decide +kernel
theorem d_Mo_valueOf_31 : decode b_Mo_valueOf 31 = .ok (.ifCond .eq 8, 3) := by decide +kernel
theorem d_Mo_valueOf_34 : decode b_Mo_valueOf 34 = .ok (.bipush 7, 2) := by decide +kernel
theorem d_Mo_valueOf_36 : decode b_Mo_valueOf 36 = .ok (.goto 5, 3) := by decide +kernel
theorem d_Mo_valueOf_39 : decode b_Mo_valueOf 39 = .ok (.bipush 6, 2) := by decide +kernel
theorem d_Mo_valueOf_41 : decode b_Mo_valueOf 41 = .ok (.invokevirtual 406, 3) := by decide +kernel
theorem d_Mo_valueOf_44 : decode b_Mo_valueOf 44 = .ok (.lreturn, 1) := by decide +kernel
theorem d_Mo_isManner_0 : decode b_Mo_isManner 0 = .ok (.iload_n 1, 1) := by decide +kernel
theorem d_Mo_isManner_1 : decode b_Mo_isManner 1 = .ok (.i2l, 1) := by decide +kernel
theorem d_Mo_isManner_2 : decode b_Mo_isManner 2 = .ok (.lconst 0, 1) := by decide +kernel
theorem d_Mo_isManner_3 : decode b_Mo_isManner 3 = .ok (.aload_n 0, 1) := by decide +kernel
theorem d_Mo_isManner_4 : decode b_Mo_isManner 4 = .ok (.invokevirtual 417, 3) := by decide +kernel
theorem d_Mo_isManner_7 : decode b_Mo_isManner 7 = .ok (.i2l, 1) := by decide +kernel
theorem d_Mo_isManner_8 : decode b_Mo_isManner 8 = .ok (.lconst 1, 1) := by decide +kernel
theorem d_Mo_isManner_9 : decode b_Mo_isManner 9 = .ok (.lsub, 1) := by decide +kernel
theorem d_Mo_isManner_10 : decode b_Mo_isManner 10 = .ok (.invokestatic 118, 3) := by decide +kernel
theorem d_Mo_isManner_13 : decode b_Mo_isManner 13 = .ok (.ireturn, 1) := by decide +kernel
theorem d_Mo_resultsOf_0 : decode b_Mo_resultsOf 0 = .ok (.iconst 0, 1) := by decide +kernel
theorem d_Mo_resultsOf_1 : decode b_Mo_resultsOf 1 = .ok (.istore_n 2, 1) := by decide +kernel
theorem d_Mo_resultsOf_2 : decode b_Mo_resultsOf 2 = .ok (.iload_n 1, 1) := by decide +kernel
theorem d_Mo_resultsOf_3 : decode b_Mo_resultsOf 3 = .ok (.istore_n 3, 1) := by decide +kernel
theorem d_Mo_resultsOf_4 : decode b_Mo_resultsOf 4 = .ok (.iload_n 3, 1) := by decide +kernel
theorem d_Mo_resultsOf_5 : decode b_Mo_resultsOf 5 = .ok (.i2l, 1) := by decide +kernel
theorem d_Mo_resultsOf_6 : decode b_Mo_resultsOf 6 = .ok (.aload_n 0, 1) := by decide +kernel
theorem d_Mo_resultsOf_7 : decode b_Mo_resultsOf 7 = .ok (.getfield 7, 3) := by decide +kernel
theorem d_Mo_resultsOf_10 : decode b_Mo_resultsOf 10 = .ok (.bipush 54, 2) := by decide +kernel
theorem d_Mo_resultsOf_12 : decode b_Mo_resultsOf 12 = .ok (.laload, 1) := by decide +kernel
theorem d_Mo_resultsOf_13 : decode b_Mo_resultsOf 13 = .ok (.lcmp, 1) := by decide +kernel
theorem d_Mo_resultsOf_14 : decode b_Mo_resultsOf 14 = .ok (.ifCond .ge 26, 3) := by decide +kernel
theorem d_Mo_resultsOf_17 : decode b_Mo_resultsOf 17 = .ok (.iload_n 2, 1) := by decide +kernel
theorem d_Mo_resultsOf_18 : decode b_Mo_resultsOf 18 = .ok (.aload_n 0, 1) := by decide +kernel
theorem d_Mo_resultsOf_19 : decode b_Mo_resultsOf 19 = .ok (.iload_n 1, 1) := by decide +kernel
theorem d_Mo_resultsOf_20 : decode b_Mo_resultsOf 20 = .ok (.iload_n 3, 1) := by decide +kernel
theorem d_Mo_resultsOf_21 : decode b_Mo_resultsOf 21 = .ok (.invokevirtual 410, 3) := by decide +kernel
theorem d_Mo_resultsOf_24 : decode b_Mo_resultsOf 24 = .ok (.ifCond .eq 7, 3) := by decide +kernel
theorem d_Mo_resultsOf_27 : decode b_Mo_resultsOf 27 = .ok (.iconst 1, 1) := by decide +kernel
theorem d_Mo_resultsOf_28 : decode b_Mo_resultsOf 28 = .ok (.goto 4, 3) := by decide +kernel
theorem d_Mo_resultsOf_31 : decode b_Mo_resultsOf 31 = .ok (.iconst 0, 1) := by decide +kernel
theorem d_Mo_resultsOf_32 : decode b_Mo_resultsOf 32 = .ok (.iadd, 1) := by decide +kernel
theorem d_Mo_resultsOf_33 : decode b_Mo_resultsOf 33 = .ok (.istore_n 2, 1) := by decide +kernel
theorem d_Mo_resultsOf_34 : decode b_Mo_resultsOf 34 = .ok (.iinc 3 1, 3) := by decide +kernel
theorem d_Mo_resultsOf_37 : decode b_Mo_resultsOf 37 = .ok (.goto (-33), 3) := by decide +kernel
theorem d_Mo_resultsOf_40 : decode b_Mo_resultsOf 40 = .ok (.iload_n 2, 1) := by decide +kernel
theorem d_Mo_resultsOf_41 : decode b_Mo_resultsOf 41 = .ok (.ireturn, 1) := by decide +kernel
theorem d_Mo_latest_0 : decode b_Mo_latest 0 = .ok (.aload_n 0, 1) := by decide +kernel
theorem d_Mo_latest_1 : decode b_Mo_latest 1 = .ok (.getfield 7, 3) := by decide +kernel
theorem d_Mo_latest_4 : decode b_Mo_latest 4 = .ok (.bipush 54, 2) := by decide +kernel
theorem d_Mo_latest_6 : decode b_Mo_latest 6 = .ok (.laload, 1) := by decide +kernel
theorem d_Mo_latest_7 : decode b_Mo_latest 7 = .ok (.l2i, 1) := by decide +kernel
theorem d_Mo_latest_8 : decode b_Mo_latest 8 = .ok (.iconst 1, 1) := by decide +kernel
theorem d_Mo_latest_9 : decode b_Mo_latest 9 = .ok (.isub, 1) := by decide +kernel
theorem d_Mo_latest_10 : decode b_Mo_latest 10 = .ok (.istore_n 2, 1) := by decide +kernel
theorem d_Mo_latest_11 : decode b_Mo_latest 11 = .ok (.aload_n 0, 1) := by decide +kernel
theorem d_Mo_latest_12 : decode b_Mo_latest 12 = .ok (.iload_n 1, 1) := by decide +kernel
theorem d_Mo_latest_13 : decode b_Mo_latest 13 = .ok (.iload_n 2, 1) := by decide +kernel
theorem d_Mo_latest_14 : decode b_Mo_latest 14 = .ok (.invokevirtual 410, 3) := by decide +kernel
theorem d_Mo_latest_17 : decode b_Mo_latest 17 = .ok (.ifCond .ne 9, 3) := by decide +kernel
theorem d_Mo_latest_20 : decode b_Mo_latest 20 = .ok (.iinc 2 (-1), 3) := by decide +kernel
theorem d_Mo_latest_23 : decode b_Mo_latest 23 = .ok (.goto (-12), 3) := by decide +kernel
theorem d_Mo_latest_26 : decode b_Mo_latest 26 = .ok (.iload_n 2, 1) := by decide +kernel
theorem d_Mo_latest_27 : decode b_Mo_latest 27 = .ok (.ireturn, 1) := by decide +kernel
theorem d_Mo_manner_0 : decode b_Mo_manner 0 = .ok (.aload_n 0, 1) := by decide +kernel
theorem d_Mo_manner_1 : decode b_Mo_manner 1 = .ok (.aload_n 0, 1) := by decide +kernel
theorem d_Mo_manner_2 : decode b_Mo_manner 2 = .ok (.iload_n 1, 1) := by decide +kernel
theorem d_Mo_manner_3 : decode b_Mo_manner 3 = .ok (.invokevirtual 441, 3) := by decide +kernel
theorem d_Mo_manner_6 : decode b_Mo_manner 6 = .ok (.ifCond .ne 7, 3) := by decide +kernel
theorem d_Mo_manner_9 : decode b_Mo_manner 9 = .ok (.iconst 1, 1) := by decide +kernel
theorem d_Mo_manner_10 : decode b_Mo_manner 10 = .ok (.goto 20, 3) := by decide +kernel
theorem d_Mo_manner_13 : decode b_Mo_manner 13 = .ok (.iload_n 2, 1) := by decide +kernel
theorem d_Mo_manner_14 : decode b_Mo_manner 14 = .ok (.i2l, 1) := by decide +kernel
theorem d_Mo_manner_15 : decode b_Mo_manner 15 = .ok (.lconst 0, 1) := by decide +kernel
theorem d_Mo_manner_16 : decode b_Mo_manner 16 = .ok (.ldc2_w 444, 3) := by decide +kernel
theorem d_Mo_manner_19 : decode b_Mo_manner 19 = .ok (.invokestatic 118, 3) := by decide +kernel
theorem d_Mo_manner_22 : decode b_Mo_manner 22 = .ok (.ifCond .eq 7, 3) := by decide +kernel
theorem d_Mo_manner_25 : decode b_Mo_manner 25 = .ok (.iconst 0, 1) := by decide +kernel
theorem d_Mo_manner_26 : decode b_Mo_manner 26 = .ok (.goto 4, 3) := by decide +kernel
theorem d_Mo_manner_29 : decode b_Mo_manner 29 = .ok (.iconst 2, 1) := by decide +kernel
theorem d_Mo_manner_30 : decode b_Mo_manner 30 = .ok (.putfield 107, 3) := by decide +kernel
theorem d_Mo_manner_33 : decode b_Mo_manner 33 = .ok (.aload_n 0, 1) := by decide +kernel
theorem d_Mo_manner_34 : decode b_Mo_manner 34 = .ok (.getfield 107, 3) := by decide +kernel
theorem d_Mo_manner_37 : decode b_Mo_manner 37 = .ok (.ifCond .le 5, 3) := by decide +kernel
theorem d_Mo_manner_40 : decode b_Mo_manner 40 = .ok (.iconst 0, 1) := by decide +kernel
theorem d_Mo_manner_41 : decode b_Mo_manner 41 = .ok (.ireturn, 1) := by decide +kernel
theorem d_Mo_manner_42 : decode b_Mo_manner 42 = .ok (.aload_n 0, 1) := by decide +kernel
theorem d_Mo_manner_43 : decode b_Mo_manner 43 = .ok (.iload_n 1, 1) := by decide +kernel
theorem d_Mo_manner_44 : decode b_Mo_manner 44 = .ok (.invokevirtual 446, 3) := by decide +kernel
theorem d_Mo_manner_47 : decode b_Mo_manner 47 = .ok (.istore_n 3, 1) := by decide +kernel
theorem d_Mo_manner_48 : decode b_Mo_manner 48 = .ok (.iload_n 2, 1) := by decide +kernel
theorem d_Mo_manner_49 : decode b_Mo_manner 49 = .ok (.tableswitch 41 3 5 #[27, 33, 35], 27) := by decide +kernel
theorem d_Mo_manner_76 : decode b_Mo_manner 76 = .ok (.aload_n 0, 1) := by decide +kernel
theorem d_Mo_manner_77 : decode b_Mo_manner 77 = .ok (.iload_n 3, 1) := by decide +kernel
theorem d_Mo_manner_78 : decode b_Mo_manner 78 = .ok (.invokevirtual 449, 3) := by decide +kernel
theorem d_Mo_manner_81 : decode b_Mo_manner 81 = .ok (.ireturn, 1) := by decide +kernel
theorem d_Mo_manner_82 : decode b_Mo_manner 82 = .ok (.iload_n 3, 1) := by decide +kernel
theorem d_Mo_manner_83 : decode b_Mo_manner 83 = .ok (.ireturn, 1) := by decide +kernel
theorem d_Mo_manner_84 : decode b_Mo_manner 84 = .ok (.aload_n 0, 1) := by decide +kernel
theorem d_Mo_manner_85 : decode b_Mo_manner 85 = .ok (.iload_n 3, 1) := by decide +kernel
theorem d_Mo_manner_86 : decode b_Mo_manner 86 = .ok (.invokevirtual 452, 3) := by decide +kernel
theorem d_Mo_manner_89 : decode b_Mo_manner 89 = .ok (.ireturn, 1) := by decide +kernel
theorem d_Mo_manner_90 : decode b_Mo_manner 90 = .ok (.aload_n 0, 1) := by decide +kernel
theorem d_Mo_manner_91 : decode b_Mo_manner 91 = .ok (.iload_n 3, 1) := by decide +kernel
theorem d_Mo_manner_92 : decode b_Mo_manner 92 = .ok (.iload_n 2, 1) := by decide +kernel
theorem d_Mo_manner_93 : decode b_Mo_manner 93 = .ok (.invokevirtual 406, 3) := by decide +kernel
theorem d_Mo_manner_96 : decode b_Mo_manner 96 = .ok (.l2i, 1) := by decide +kernel
theorem d_Mo_manner_97 : decode b_Mo_manner 97 = .ok (.ireturn, 1) := by decide +kernel
theorem d_Mo_meanOf_0 : decode b_Mo_meanOf 0 = .ok (.aload_n 0, 1) := by decide +kernel
theorem d_Mo_meanOf_1 : decode b_Mo_meanOf 1 = .ok (.aload_n 0, 1) := by decide +kernel
theorem d_Mo_meanOf_2 : decode b_Mo_meanOf 2 = .ok (.iload_n 1, 1) := by decide +kernel
theorem d_Mo_meanOf_3 : decode b_Mo_meanOf 3 = .ok (.invokevirtual 441, 3) := by decide +kernel
theorem d_Mo_meanOf_6 : decode b_Mo_meanOf 6 = .ok (.ifCond .eq 7, 3) := by decide +kernel
theorem d_Mo_meanOf_9 : decode b_Mo_meanOf 9 = .ok (.iconst 0, 1) := by decide +kernel
theorem d_Mo_meanOf_10 : decode b_Mo_meanOf 10 = .ok (.goto 4, 3) := by decide +kernel
theorem d_Mo_meanOf_13 : decode b_Mo_meanOf 13 = .ok (.iconst 1, 1) := by decide +kernel
theorem d_Mo_meanOf_14 : decode b_Mo_meanOf 14 = .ok (.putfield 107, 3) := by decide +kernel
theorem d_Mo_meanOf_17 : decode b_Mo_meanOf 17 = .ok (.aload_n 0, 1) := by decide +kernel
theorem d_Mo_meanOf_18 : decode b_Mo_meanOf 18 = .ok (.getfield 107, 3) := by decide +kernel
theorem d_Mo_meanOf_21 : decode b_Mo_meanOf 21 = .ok (.ifCond .le 5, 3) := by decide +kernel
theorem d_Mo_meanOf_24 : decode b_Mo_meanOf 24 = .ok (.dconst 0, 1) := by decide +kernel
theorem d_Mo_meanOf_25 : decode b_Mo_meanOf 25 = .ok (.dreturn, 1) := by decide +kernel
theorem d_Mo_meanOf_26 : decode b_Mo_meanOf 26 = .ok (.aload_n 0, 1) := by decide +kernel
theorem d_Mo_meanOf_27 : decode b_Mo_meanOf 27 = .ok (.iload_n 1, 1) := by decide +kernel
theorem d_Mo_meanOf_28 : decode b_Mo_meanOf 28 = .ok (.invokevirtual 446, 3) := by decide +kernel
theorem d_Mo_meanOf_31 : decode b_Mo_meanOf 31 = .ok (.istore_n 2, 1) := by decide +kernel
theorem d_Mo_meanOf_32 : decode b_Mo_meanOf 32 = .ok (.lconst 0, 1) := by decide +kernel
theorem d_Mo_meanOf_33 : decode b_Mo_meanOf 33 = .ok (.lstore_n 3, 1) := by decide +kernel
theorem d_Mo_meanOf_34 : decode b_Mo_meanOf 34 = .ok (.iload_n 2, 1) := by decide +kernel
theorem d_Mo_meanOf_35 : decode b_Mo_meanOf 35 = .ok (.istore 5, 2) := by decide +kernel
theorem d_Mo_meanOf_37 : decode b_Mo_meanOf 37 = .ok (.iload 5, 2) := by decide +kernel
theorem d_Mo_meanOf_39 : decode b_Mo_meanOf 39 = .ok (.i2l, 1) := by decide +kernel
theorem d_Mo_meanOf_40 : decode b_Mo_meanOf 40 = .ok (.aload_n 0, 1) := by decide +kernel
theorem d_Mo_meanOf_41 : decode b_Mo_meanOf 41 = .ok (.getfield 7, 3) := by decide +kernel
theorem d_Mo_meanOf_44 : decode b_Mo_meanOf 44 = .ok (.bipush 54, 2) := by decide +kernel
theorem d_Mo_meanOf_46 : decode b_Mo_meanOf 46 = .ok (.laload, 1) := by decide +kernel
theorem d_Mo_meanOf_47 : decode b_Mo_meanOf 47 = .ok (.lcmp, 1) := by decide +kernel
theorem d_Mo_meanOf_48 : decode b_Mo_meanOf 48 = .ok (.ifCond .ge 34, 3) := by decide +kernel
theorem d_Mo_meanOf_51 : decode b_Mo_meanOf 51 = .ok (.lload_n 3, 1) := by decide +kernel
theorem d_Mo_meanOf_52 : decode b_Mo_meanOf 52 = .ok (.aload_n 0, 1) := by decide +kernel
theorem d_Mo_meanOf_53 : decode b_Mo_meanOf 53 = .ok (.iload_n 2, 1) := by decide +kernel
theorem d_Mo_meanOf_54 : decode b_Mo_meanOf 54 = .ok (.iload 5, 2) := by decide +kernel
theorem d_Mo_meanOf_56 : decode b_Mo_meanOf 56 = .ok (.invokevirtual 410, 3) := by decide +kernel
theorem d_Mo_meanOf_59 : decode b_Mo_meanOf 59 = .ok (.ifCond .eq 14, 3) := by decide +kernel
theorem d_Mo_meanOf_62 : decode b_Mo_meanOf 62 = .ok (.aload_n 0, 1) := by decide +kernel
theorem d_Mo_meanOf_63 : decode b_Mo_meanOf 63 = .ok (.iload 5, 2) := by decide +kernel
theorem d_Mo_meanOf_65 : decode b_Mo_meanOf 65 = .ok (.bipush 7, 2) := by decide +kernel
theorem d_Mo_meanOf_67 : decode b_Mo_meanOf 67 = .ok (.invokevirtual 406, 3) := by decide +kernel
theorem d_Mo_meanOf_70 : decode b_Mo_meanOf 70 = .ok (.goto 4, 3) := by decide +kernel
theorem d_Mo_meanOf_73 : decode b_Mo_meanOf 73 = .ok (.lconst 0, 1) := by decide +kernel
theorem d_Mo_meanOf_74 : decode b_Mo_meanOf 74 = .ok (.ladd, 1) := by decide +kernel
theorem d_Mo_meanOf_75 : decode b_Mo_meanOf 75 = .ok (.lstore_n 3, 1) := by decide +kernel
theorem d_Mo_meanOf_76 : decode b_Mo_meanOf 76 = .ok (.iinc 5 1, 3) := by decide +kernel
theorem d_Mo_meanOf_79 : decode b_Mo_meanOf 79 = .ok (.goto (-42), 3) := by decide +kernel
theorem d_Mo_meanOf_82 : decode b_Mo_meanOf 82 = .ok (.lload_n 3, 1) := by decide +kernel
theorem d_Mo_meanOf_83 : decode b_Mo_meanOf 83 = .ok (.l2d, 1) := by decide +kernel
theorem d_Mo_meanOf_84 : decode b_Mo_meanOf 84 = .ok (.aload_n 0, 1) := by decide +kernel
theorem d_Mo_meanOf_85 : decode b_Mo_meanOf 85 = .ok (.iload_n 2, 1) := by decide +kernel
theorem d_Mo_meanOf_86 : decode b_Mo_meanOf 86 = .ok (.invokevirtual 449, 3) := by decide +kernel
theorem d_Mo_meanOf_89 : decode b_Mo_meanOf 89 = .ok (.i2d, 1) := by decide +kernel
theorem d_Mo_meanOf_90 : decode b_Mo_meanOf 90 = .ok (.ddiv, 1) := by decide +kernel
theorem d_Mo_meanOf_91 : decode b_Mo_meanOf 91 = .ok (.dreturn, 1) := by decide +kernel
theorem d_Mo_spreadFrom_0 : decode b_Mo_spreadFrom 0 = .ok (.aload_n 0, 1) := by decide +kernel
theorem d_Mo_spreadFrom_1 : decode b_Mo_spreadFrom 1 = .ok (.iload_n 1, 1) := by decide +kernel
theorem d_Mo_spreadFrom_2 : decode b_Mo_spreadFrom 2 = .ok (.bipush 7, 2) := by decide +kernel
theorem d_Mo_spreadFrom_4 : decode b_Mo_spreadFrom 4 = .ok (.invokevirtual 406, 3) := by decide +kernel
theorem d_Mo_spreadFrom_7 : decode b_Mo_spreadFrom 7 = .ok (.lstore_n 2, 1) := by decide +kernel
theorem d_Mo_spreadFrom_8 : decode b_Mo_spreadFrom 8 = .ok (.lload_n 2, 1) := by decide +kernel
theorem d_Mo_spreadFrom_9 : decode b_Mo_spreadFrom 9 = .ok (.lstore 4, 2) := by decide +kernel
theorem d_Mo_spreadFrom_11 : decode b_Mo_spreadFrom 11 = .ok (.iload_n 1, 1) := by decide +kernel
theorem d_Mo_spreadFrom_12 : decode b_Mo_spreadFrom 12 = .ok (.istore 6, 2) := by decide +kernel
theorem d_Mo_spreadFrom_14 : decode b_Mo_spreadFrom 14 = .ok (.iload 6, 2) := by decide +kernel
theorem d_Mo_spreadFrom_16 : decode b_Mo_spreadFrom 16 = .ok (.i2l, 1) := by decide +kernel
theorem d_Mo_spreadFrom_17 : decode b_Mo_spreadFrom 17 = .ok (.aload_n 0, 1) := by decide +kernel
theorem d_Mo_spreadFrom_18 : decode b_Mo_spreadFrom 18 = .ok (.getfield 7, 3) := by decide +kernel
theorem d_Mo_spreadFrom_21 : decode b_Mo_spreadFrom 21 = .ok (.bipush 54, 2) := by decide +kernel
theorem d_Mo_spreadFrom_23 : decode b_Mo_spreadFrom 23 = .ok (.laload, 1) := by decide +kernel
theorem d_Mo_spreadFrom_24 : decode b_Mo_spreadFrom 24 = .ok (.lcmp, 1) := by decide +kernel
theorem d_Mo_spreadFrom_25 : decode b_Mo_spreadFrom 25 = .ok (.ifCond .ge 47, 3) := by decide +kernel
theorem d_Mo_spreadFrom_28 : decode b_Mo_spreadFrom 28 = .ok (.aload_n 0, 1) := by decide +kernel
theorem d_Mo_spreadFrom_29 : decode b_Mo_spreadFrom 29 = .ok (.iload_n 1, 1) := by decide +kernel
theorem d_Mo_spreadFrom_30 : decode b_Mo_spreadFrom 30 = .ok (.iload 6, 2) := by decide +kernel
theorem d_Mo_spreadFrom_32 : decode b_Mo_spreadFrom 32 = .ok (.invokevirtual 410, 3) := by decide +kernel
theorem d_Mo_spreadFrom_35 : decode b_Mo_spreadFrom 35 = .ok (.ifCond .eq 31, 3) := by decide +kernel
theorem d_Mo_spreadFrom_38 : decode b_Mo_spreadFrom 38 = .ok (.lload_n 2, 1) := by decide +kernel
theorem d_Mo_spreadFrom_39 : decode b_Mo_spreadFrom 39 = .ok (.aload_n 0, 1) := by decide +kernel
theorem d_Mo_spreadFrom_40 : decode b_Mo_spreadFrom 40 = .ok (.iload 6, 2) := by decide +kernel
theorem d_Mo_spreadFrom_42 : decode b_Mo_spreadFrom 42 = .ok (.bipush 7, 2) := by decide +kernel
theorem d_Mo_spreadFrom_44 : decode b_Mo_spreadFrom 44 = .ok (.invokevirtual 406, 3) := by decide +kernel
theorem d_Mo_spreadFrom_47 : decode b_Mo_spreadFrom 47 = .ok (.invokestatic 430, 3) := by decide +kernel
theorem d_Mo_spreadFrom_50 : decode b_Mo_spreadFrom 50 = .ok (.lstore_n 2, 1) := by decide +kernel
theorem d_Mo_spreadFrom_51 : decode b_Mo_spreadFrom 51 = .ok (.lload 4, 2) := by decide +kernel
theorem d_Mo_spreadFrom_53 : decode b_Mo_spreadFrom 53 = .ok (.aload_n 0, 1) := by decide +kernel
theorem d_Mo_spreadFrom_54 : decode b_Mo_spreadFrom 54 = .ok (.iload 6, 2) := by decide +kernel
theorem d_Mo_spreadFrom_56 : decode b_Mo_spreadFrom 56 = .ok (.bipush 7, 2) := by decide +kernel
theorem d_Mo_spreadFrom_58 : decode b_Mo_spreadFrom 58 = .ok (.invokevirtual 406, 3) := by decide +kernel
theorem d_Mo_spreadFrom_61 : decode b_Mo_spreadFrom 61 = .ok (.invokestatic 185, 3) := by decide +kernel
theorem d_Mo_spreadFrom_64 : decode b_Mo_spreadFrom 64 = .ok (.lstore 4, 2) := by decide +kernel
theorem d_Mo_spreadFrom_66 : decode b_Mo_spreadFrom 66 = .ok (.iinc 6 1, 3) := by decide +kernel
theorem d_Mo_spreadFrom_69 : decode b_Mo_spreadFrom 69 = .ok (.goto (-55), 3) := by decide +kernel
theorem d_Mo_spreadFrom_72 : decode b_Mo_spreadFrom 72 = .ok (.lload_n 2, 1) := by decide +kernel
theorem d_Mo_spreadFrom_73 : decode b_Mo_spreadFrom 73 = .ok (.lload 4, 2) := by decide +kernel
theorem d_Mo_spreadFrom_75 : decode b_Mo_spreadFrom 75 = .ok (.lsub, 1) := by decide +kernel
theorem d_Mo_spreadFrom_76 : decode b_Mo_spreadFrom 76 = .ok (.lreturn, 1) := by decide +kernel
theorem d_Mo_spreadOf_0 : decode b_Mo_spreadOf 0 = .ok (.aload_n 0, 1) := by decide +kernel
theorem d_Mo_spreadOf_1 : decode b_Mo_spreadOf 1 = .ok (.aload_n 0, 1) := by decide +kernel
theorem d_Mo_spreadOf_2 : decode b_Mo_spreadOf 2 = .ok (.iload_n 1, 1) := by decide +kernel
theorem d_Mo_spreadOf_3 : decode b_Mo_spreadOf 3 = .ok (.invokevirtual 441, 3) := by decide +kernel
theorem d_Mo_spreadOf_6 : decode b_Mo_spreadOf 6 = .ok (.ifCond .eq 7, 3) := by decide +kernel
theorem d_Mo_spreadOf_9 : decode b_Mo_spreadOf 9 = .ok (.iconst 0, 1) := by decide +kernel
theorem d_Mo_spreadOf_10 : decode b_Mo_spreadOf 10 = .ok (.goto 4, 3) := by decide +kernel
theorem d_Mo_spreadOf_13 : decode b_Mo_spreadOf 13 = .ok (.iconst 1, 1) := by decide +kernel
theorem d_Mo_spreadOf_14 : decode b_Mo_spreadOf 14 = .ok (.putfield 107, 3) := by decide +kernel
theorem d_Mo_spreadOf_17 : decode b_Mo_spreadOf 17 = .ok (.aload_n 0, 1) := by decide +kernel
theorem d_Mo_spreadOf_18 : decode b_Mo_spreadOf 18 = .ok (.getfield 107, 3) := by decide +kernel
theorem d_Mo_spreadOf_21 : decode b_Mo_spreadOf 21 = .ok (.ifCond .le 7, 3) := by decide +kernel
theorem d_Mo_spreadOf_24 : decode b_Mo_spreadOf 24 = .ok (.lconst 0, 1) := by decide +kernel
theorem d_Mo_spreadOf_25 : decode b_Mo_spreadOf 25 = .ok (.goto 12, 3) := by decide +kernel
theorem d_Mo_spreadOf_28 : decode b_Mo_spreadOf 28 = .ok (.aload_n 0, 1) := by decide +kernel
theorem d_Mo_spreadOf_29 : decode b_Mo_spreadOf 29 = .ok (.aload_n 0, 1) := by decide +kernel
theorem d_Mo_spreadOf_30 : decode b_Mo_spreadOf 30 = .ok (.iload_n 1, 1) := by decide +kernel
theorem d_Mo_spreadOf_31 : decode b_Mo_spreadOf 31 = .ok (.invokevirtual 446, 3) := by decide +kernel
theorem d_Mo_spreadOf_34 : decode b_Mo_spreadOf 34 = .ok (.invokevirtual 455, 3) := by decide +kernel
theorem d_Mo_spreadOf_37 : decode b_Mo_spreadOf 37 = .ok (.lreturn, 1) := by decide +kernel
theorem d_Mo_steadiest_0 : decode b_Mo_steadiest 0 = .ok (.aload_n 0, 1) := by decide +kernel
theorem d_Mo_steadiest_1 : decode b_Mo_steadiest 1 = .ok (.iconst 0, 1) := by decide +kernel
theorem d_Mo_steadiest_2 : decode b_Mo_steadiest 2 = .ok (.putfield 107, 3) := by decide +kernel
theorem d_Mo_steadiest_5 : decode b_Mo_steadiest 5 = .ok (.iconst (-1), 1) := by decide +kernel
theorem d_Mo_steadiest_6 : decode b_Mo_steadiest 6 = .ok (.istore_n 1, 1) := by decide +kernel
theorem d_Mo_steadiest_7 : decode b_Mo_steadiest 7 = .ok (.iconst 0, 1) := by decide +kernel
theorem d_Mo_steadiest_8 : decode b_Mo_steadiest 8 = .ok (.istore_n 2, 1) := by decide +kernel
theorem d_Mo_steadiest_9 : decode b_Mo_steadiest 9 = .ok (.iload_n 2, 1) := by decide +kernel
theorem d_Mo_steadiest_10 : decode b_Mo_steadiest 10 = .ok (.aload_n 0, 1) := by decide +kernel
theorem d_Mo_steadiest_11 : decode b_Mo_steadiest 11 = .ok (.invokevirtual 417, 3) := by decide +kernel
theorem d_Mo_steadiest_14 : decode b_Mo_steadiest 14 = .ok (.if_icmp .ge 65, 3) := by decide +kernel
theorem d_Mo_steadiest_17 : decode b_Mo_steadiest 17 = .ok (.aload_n 0, 1) := by decide +kernel
theorem d_Mo_steadiest_18 : decode b_Mo_steadiest 18 = .ok (.aload_n 0, 1) := by decide +kernel
theorem d_Mo_steadiest_19 : decode b_Mo_steadiest 19 = .ok (.iload_n 2, 1) := by decide +kernel
theorem d_Mo_steadiest_20 : decode b_Mo_steadiest 20 = .ok (.invokevirtual 446, 3) := by decide +kernel
theorem d_Mo_steadiest_23 : decode b_Mo_steadiest 23 = .ok (.invokevirtual 449, 3) := by decide +kernel
theorem d_Mo_steadiest_26 : decode b_Mo_steadiest 26 = .ok (.iconst 1, 1) := by decide +kernel
theorem d_Mo_steadiest_27 : decode b_Mo_steadiest 27 = .ok (.if_icmp .le 7, 3) := by decide +kernel
theorem d_Mo_steadiest_30 : decode b_Mo_steadiest 30 = .ok (.iconst 1, 1) := by decide +kernel
theorem d_Mo_steadiest_31 : decode b_Mo_steadiest 31 = .ok (.goto 4, 3) := by decide +kernel
theorem d_Mo_steadiest_34 : decode b_Mo_steadiest 34 = .ok (.iconst 0, 1) := by decide +kernel
theorem d_Mo_steadiest_35 : decode b_Mo_steadiest 35 = .ok (.istore_n 3, 1) := by decide +kernel
theorem d_Mo_steadiest_36 : decode b_Mo_steadiest 36 = .ok (.iload_n 3, 1) := by decide +kernel
theorem d_Mo_steadiest_37 : decode b_Mo_steadiest 37 = .ok (.ifCond .eq 34, 3) := by decide +kernel
theorem d_Mo_steadiest_40 : decode b_Mo_steadiest 40 = .ok (.iload_n 1, 1) := by decide +kernel
theorem d_Mo_steadiest_41 : decode b_Mo_steadiest 41 = .ok (.iconst (-1), 1) := by decide +kernel
theorem d_Mo_steadiest_42 : decode b_Mo_steadiest 42 = .ok (.if_icmp .eq 25, 3) := by decide +kernel
theorem d_Mo_steadiest_45 : decode b_Mo_steadiest 45 = .ok (.aload_n 0, 1) := by decide +kernel
theorem d_Mo_steadiest_46 : decode b_Mo_steadiest 46 = .ok (.aload_n 0, 1) := by decide +kernel
theorem d_Mo_steadiest_47 : decode b_Mo_steadiest 47 = .ok (.iload_n 2, 1) := by decide +kernel
theorem d_Mo_steadiest_48 : decode b_Mo_steadiest 48 = .ok (.invokevirtual 446, 3) := by decide +kernel
theorem d_Mo_steadiest_51 : decode b_Mo_steadiest 51 = .ok (.invokevirtual 455, 3) := by decide +kernel
theorem d_Mo_steadiest_54 : decode b_Mo_steadiest 54 = .ok (.aload_n 0, 1) := by decide +kernel
theorem d_Mo_steadiest_55 : decode b_Mo_steadiest 55 = .ok (.aload_n 0, 1) := by decide +kernel
theorem d_Mo_steadiest_56 : decode b_Mo_steadiest 56 = .ok (.iload_n 1, 1) := by decide +kernel
theorem d_Mo_steadiest_57 : decode b_Mo_steadiest 57 = .ok (.invokevirtual 446, 3) := by decide +kernel
theorem d_Mo_steadiest_60 : decode b_Mo_steadiest 60 = .ok (.invokevirtual 455, 3) := by decide +kernel
theorem d_Mo_steadiest_63 : decode b_Mo_steadiest 63 = .ok (.lcmp, 1) := by decide +kernel
theorem d_Mo_steadiest_64 : decode b_Mo_steadiest 64 = .ok (.ifCond .ge 7, 3) := by decide +kernel
theorem d_Mo_steadiest_67 : decode b_Mo_steadiest 67 = .ok (.iload_n 2, 1) := by decide +kernel
theorem d_Mo_steadiest_68 : decode b_Mo_steadiest 68 = .ok (.goto 4, 3) := by decide +kernel
theorem d_Mo_steadiest_71 : decode b_Mo_steadiest 71 = .ok (.iload_n 1, 1) := by decide +kernel
theorem d_Mo_steadiest_72 : decode b_Mo_steadiest 72 = .ok (.istore_n 1, 1) := by decide +kernel
theorem d_Mo_steadiest_73 : decode b_Mo_steadiest 73 = .ok (.iinc 2 1, 3) := by decide +kernel
theorem d_Mo_steadiest_76 : decode b_Mo_steadiest 76 = .ok (.goto (-67), 3) := by decide +kernel
theorem d_Mo_steadiest_79 : decode b_Mo_steadiest 79 = .ok (.iload_n 1, 1) := by decide +kernel
theorem d_Mo_steadiest_80 : decode b_Mo_steadiest 80 = .ok (.ireturn, 1) := by decide +kernel
theorem d_Mo_bestOf_0 : decode b_Mo_bestOf 0 = .ok (.iconst 0, 1) := by decide +kernel
theorem d_Mo_bestOf_1 : decode b_Mo_bestOf 1 = .ok (.istore 7, 2) := by decide +kernel
theorem d_Mo_bestOf_3 : decode b_Mo_bestOf 3 = .ok (.aload_n 0, 1) := by decide +kernel
theorem d_Mo_bestOf_4 : decode b_Mo_bestOf 4 = .ok (.iconst 0, 1) := by decide +kernel
theorem d_Mo_bestOf_5 : decode b_Mo_bestOf 5 = .ok (.lload_n 1, 1) := by decide +kernel
theorem d_Mo_bestOf_6 : decode b_Mo_bestOf 6 = .ok (.lload_n 3, 1) := by decide +kernel
theorem d_Mo_bestOf_7 : decode b_Mo_bestOf 7 = .ok (.lload 5, 2) := by decide +kernel
theorem d_Mo_bestOf_9 : decode b_Mo_bestOf 9 = .ok (.invokevirtual 172, 3) := by decide +kernel
theorem d_Mo_bestOf_12 : decode b_Mo_bestOf 12 = .ok (.invokestatic 217, 3) := by decide +kernel
theorem d_Mo_bestOf_15 : decode b_Mo_bestOf 15 = .ok (.lstore 8, 2) := by decide +kernel
theorem d_Mo_bestOf_17 : decode b_Mo_bestOf 17 = .ok (.iconst 1, 1) := by decide +kernel
theorem d_Mo_bestOf_18 : decode b_Mo_bestOf 18 = .ok (.istore 10, 2) := by decide +kernel
theorem d_Mo_bestOf_20 : decode b_Mo_bestOf 20 = .ok (.iload 10, 2) := by decide +kernel
theorem d_Mo_bestOf_22 : decode b_Mo_bestOf 22 = .ok (.aload_n 0, 1) := by decide +kernel
theorem d_Mo_bestOf_23 : decode b_Mo_bestOf 23 = .ok (.invokevirtual 256, 3) := by decide +kernel
theorem d_Mo_bestOf_26 : decode b_Mo_bestOf 26 = .ok (.if_icmp .ge 50, 3) := by decide +kernel
theorem d_Mo_bestOf_29 : decode b_Mo_bestOf 29 = .ok (.aload_n 0, 1) := by decide +kernel
theorem d_Mo_bestOf_30 : decode b_Mo_bestOf 30 = .ok (.iload 10, 2) := by decide +kernel
theorem d_Mo_bestOf_32 : decode b_Mo_bestOf 32 = .ok (.lload_n 1, 1) := by decide +kernel
theorem d_Mo_bestOf_33 : decode b_Mo_bestOf 33 = .ok (.lload_n 3, 1) := by decide +kernel
theorem d_Mo_bestOf_34 : decode b_Mo_bestOf 34 = .ok (.lload 5, 2) := by decide +kernel
theorem d_Mo_bestOf_36 : decode b_Mo_bestOf 36 = .ok (.invokevirtual 172, 3) := by decide +kernel
theorem d_Mo_bestOf_39 : decode b_Mo_bestOf 39 = .ok (.invokestatic 217, 3) := by decide +kernel
theorem d_Mo_bestOf_42 : decode b_Mo_bestOf 42 = .ok (.lstore 11, 2) := by decide +kernel
theorem d_Mo_bestOf_44 : decode b_Mo_bestOf 44 = .ok (.lload 11, 2) := by decide +kernel
theorem d_Mo_bestOf_46 : decode b_Mo_bestOf 46 = .ok (.lload 8, 2) := by decide +kernel
theorem d_Mo_bestOf_48 : decode b_Mo_bestOf 48 = .ok (.lcmp, 1) := by decide +kernel
theorem d_Mo_bestOf_49 : decode b_Mo_bestOf 49 = .ok (.ifCond .ge 8, 3) := by decide +kernel
theorem d_Mo_bestOf_52 : decode b_Mo_bestOf 52 = .ok (.iload 10, 2) := by decide +kernel
theorem d_Mo_bestOf_54 : decode b_Mo_bestOf 54 = .ok (.goto 5, 3) := by decide +kernel
theorem d_Mo_bestOf_57 : decode b_Mo_bestOf 57 = .ok (.iload 7, 2) := by decide +kernel
theorem d_Mo_bestOf_59 : decode b_Mo_bestOf 59 = .ok (.istore 7, 2) := by decide +kernel
theorem d_Mo_bestOf_61 : decode b_Mo_bestOf 61 = .ok (.lload 8, 2) := by decide +kernel
theorem d_Mo_bestOf_63 : decode b_Mo_bestOf 63 = .ok (.lload 11, 2) := by decide +kernel
theorem d_Mo_bestOf_65 : decode b_Mo_bestOf 65 = .ok (.invokestatic 185, 3) := by decide +kernel
theorem d_Mo_bestOf_68 : decode b_Mo_bestOf 68 = .ok (.lstore 8, 2) := by decide +kernel
theorem d_Mo_bestOf_70 : decode b_Mo_bestOf 70 = .ok (.iinc 10 1, 3) := by decide +kernel
theorem d_Mo_bestOf_73 : decode b_Mo_bestOf 73 = .ok (.goto (-53), 3) := by decide +kernel
theorem d_Mo_bestOf_76 : decode b_Mo_bestOf 76 = .ok (.iload 7, 2) := by decide +kernel
theorem d_Mo_bestOf_78 : decode b_Mo_bestOf 78 = .ok (.ireturn, 1) := by decide +kernel
theorem d_Mo_best_0 : decode b_Mo_best 0 = .ok (.aload_n 0, 1) := by decide +kernel
theorem d_Mo_best_1 : decode b_Mo_best 1 = .ok (.iconst 0, 1) := by decide +kernel
theorem d_Mo_best_2 : decode b_Mo_best 2 = .ok (.putfield 107, 3) := by decide +kernel
theorem d_Mo_best_5 : decode b_Mo_best 5 = .ok (.aload_n 0, 1) := by decide +kernel
theorem d_Mo_best_6 : decode b_Mo_best 6 = .ok (.aload_n 0, 1) := by decide +kernel
theorem d_Mo_best_7 : decode b_Mo_best 7 = .ok (.getfield 7, 3) := by decide +kernel
theorem d_Mo_best_10 : decode b_Mo_best 10 = .ok (.bipush 29, 2) := by decide +kernel
theorem d_Mo_best_12 : decode b_Mo_best 12 = .ok (.laload, 1) := by decide +kernel
theorem d_Mo_best_13 : decode b_Mo_best 13 = .ok (.aload_n 0, 1) := by decide +kernel
theorem d_Mo_best_14 : decode b_Mo_best 14 = .ok (.getfield 7, 3) := by decide +kernel
theorem d_Mo_best_17 : decode b_Mo_best 17 = .ok (.bipush 30, 2) := by decide +kernel
theorem d_Mo_best_19 : decode b_Mo_best 19 = .ok (.laload, 1) := by decide +kernel
theorem d_Mo_best_20 : decode b_Mo_best 20 = .ok (.aload_n 0, 1) := by decide +kernel
theorem d_Mo_best_21 : decode b_Mo_best 21 = .ok (.getfield 7, 3) := by decide +kernel
theorem d_Mo_best_24 : decode b_Mo_best 24 = .ok (.bipush 32, 2) := by decide +kernel
theorem d_Mo_best_26 : decode b_Mo_best 26 = .ok (.laload, 1) := by decide +kernel
theorem d_Mo_best_27 : decode b_Mo_best 27 = .ok (.invokevirtual 458, 3) := by decide +kernel
theorem d_Mo_best_30 : decode b_Mo_best 30 = .ok (.ireturn, 1) := by decide +kernel
theorem d_Mo_idealNow_0 : decode b_Mo_idealNow 0 = .ok (.iconst 0, 1) := by decide +kernel
theorem d_Mo_idealNow_1 : decode b_Mo_idealNow 1 = .ok (.istore_n 1, 1) := by decide +kernel
theorem d_Mo_idealNow_2 : decode b_Mo_idealNow 2 = .ok (.iconst 0, 1) := by decide +kernel
theorem d_Mo_idealNow_3 : decode b_Mo_idealNow 3 = .ok (.istore_n 2, 1) := by decide +kernel
theorem d_Mo_idealNow_4 : decode b_Mo_idealNow 4 = .ok (.iload_n 2, 1) := by decide +kernel
theorem d_Mo_idealNow_5 : decode b_Mo_idealNow 5 = .ok (.aload_n 0, 1) := by decide +kernel
theorem d_Mo_idealNow_6 : decode b_Mo_idealNow 6 = .ok (.invokevirtual 130, 3) := by decide +kernel
theorem d_Mo_idealNow_9 : decode b_Mo_idealNow 9 = .ok (.if_icmp .ge 93, 3) := by decide +kernel
theorem d_Mo_idealNow_12 : decode b_Mo_idealNow 12 = .ok (.aload_n 0, 1) := by decide +kernel
theorem d_Mo_idealNow_13 : decode b_Mo_idealNow 13 = .ok (.invokevirtual 130, 3) := by decide +kernel
theorem d_Mo_idealNow_16 : decode b_Mo_idealNow 16 = .ok (.iconst 1, 1) := by decide +kernel
theorem d_Mo_idealNow_17 : decode b_Mo_idealNow 17 = .ok (.isub, 1) := by decide +kernel
theorem d_Mo_idealNow_18 : decode b_Mo_idealNow 18 = .ok (.iload_n 2, 1) := by decide +kernel
theorem d_Mo_idealNow_19 : decode b_Mo_idealNow 19 = .ok (.isub, 1) := by decide +kernel
theorem d_Mo_idealNow_20 : decode b_Mo_idealNow 20 = .ok (.invokestatic 122, 3) := by decide +kernel
theorem d_Mo_idealNow_23 : decode b_Mo_idealNow 23 = .ok (.l2i, 1) := by decide +kernel
theorem d_Mo_idealNow_24 : decode b_Mo_idealNow 24 = .ok (.istore_n 3, 1) := by decide +kernel
theorem d_Mo_idealNow_25 : decode b_Mo_idealNow 25 = .ok (.iconst 1, 1) := by decide +kernel
theorem d_Mo_idealNow_26 : decode b_Mo_idealNow 26 = .ok (.istore 4, 2) := by decide +kernel
theorem d_Mo_idealNow_28 : decode b_Mo_idealNow 28 = .ok (.iconst 0, 1) := by decide +kernel
theorem d_Mo_idealNow_29 : decode b_Mo_idealNow 29 = .ok (.istore 5, 2) := by decide +kernel
theorem d_Mo_idealNow_31 : decode b_Mo_idealNow 31 = .ok (.iload 5, 2) := by decide +kernel
theorem d_Mo_idealNow_33 : decode b_Mo_idealNow 33 = .ok (.bipush 9, 2) := by decide +kernel
theorem d_Mo_idealNow_35 : decode b_Mo_idealNow 35 = .ok (.if_icmp .ge 48, 3) := by decide +kernel
theorem d_Mo_idealNow_38 : decode b_Mo_idealNow 38 = .ok (.iload 4, 2) := by decide +kernel
theorem d_Mo_idealNow_40 : decode b_Mo_idealNow 40 = .ok (.ifCond .eq 43, 3) := by decide +kernel
theorem d_Mo_idealNow_43 : decode b_Mo_idealNow 43 = .ok (.iload_n 1, 1) := by decide +kernel
theorem d_Mo_idealNow_44 : decode b_Mo_idealNow 44 = .ok (.iload_n 3, 1) := by decide +kernel
theorem d_Mo_idealNow_45 : decode b_Mo_idealNow 45 = .ok (.iadd, 1) := by decide +kernel
theorem d_Mo_idealNow_46 : decode b_Mo_idealNow 46 = .ok (.istore_n 1, 1) := by decide +kernel
theorem d_Mo_idealNow_47 : decode b_Mo_idealNow 47 = .ok (.aload_n 0, 1) := by decide +kernel
theorem d_Mo_idealNow_48 : decode b_Mo_idealNow 48 = .ok (.iload_n 1, 1) := by decide +kernel
theorem d_Mo_idealNow_49 : decode b_Mo_idealNow 49 = .ok (.invokevirtual 179, 3) := by decide +kernel
theorem d_Mo_idealNow_52 : decode b_Mo_idealNow 52 = .ok (.lstore 6, 2) := by decide +kernel
theorem d_Mo_idealNow_54 : decode b_Mo_idealNow 54 = .ok (.lload 6, 2) := by decide +kernel
theorem d_Mo_idealNow_56 : decode b_Mo_idealNow 56 = .ok (.lconst 0, 1) := by decide +kernel
theorem d_Mo_idealNow_57 : decode b_Mo_idealNow 57 = .ok (.lcmp, 1) := by decide +kernel
theorem d_Mo_idealNow_58 : decode b_Mo_idealNow 58 = .ok (.ifCond .ne 5, 3) := by decide +kernel
theorem d_Mo_idealNow_61 : decode b_Mo_idealNow 61 = .ok (.iload_n 1, 1) := by decide +kernel
theorem d_Mo_idealNow_62 : decode b_Mo_idealNow 62 = .ok (.ireturn, 1) := by decide +kernel
theorem d_Mo_idealNow_63 : decode b_Mo_idealNow 63 = .ok (.lload 6, 2) := by decide +kernel
theorem d_Mo_idealNow_65 : decode b_Mo_idealNow 65 = .ok (.lconst 0, 1) := by decide +kernel
theorem d_Mo_idealNow_66 : decode b_Mo_idealNow 66 = .ok (.lcmp, 1) := by decide +kernel
theorem d_Mo_idealNow_67 : decode b_Mo_idealNow 67 = .ok (.ifCond .le 7, 3) := by decide +kernel
theorem d_Mo_idealNow_70 : decode b_Mo_idealNow 70 = .ok (.iconst 1, 1) := by decide +kernel
theorem d_Mo_idealNow_71 : decode b_Mo_idealNow 71 = .ok (.goto 4, 3) := by decide +kernel
theorem d_Mo_idealNow_74 : decode b_Mo_idealNow 74 = .ok (.iconst 0, 1) := by decide +kernel
theorem d_Mo_idealNow_75 : decode b_Mo_idealNow 75 = .ok (.istore 4, 2) := by decide +kernel
theorem d_Mo_idealNow_77 : decode b_Mo_idealNow 77 = .ok (.iinc 5 1, 3) := by decide +kernel
theorem d_Mo_idealNow_80 : decode b_Mo_idealNow 80 = .ok (.goto (-49), 3) := by decide +kernel
theorem d_Mo_idealNow_83 : decode b_Mo_idealNow 83 = .ok (.iload_n 1, 1) := by decide +kernel
theorem d_Mo_idealNow_84 : decode b_Mo_idealNow 84 = .ok (.iload 4, 2) := by decide +kernel
theorem d_Mo_idealNow_86 : decode b_Mo_idealNow 86 = .ok (.ifCond .eq 7, 3) := by decide +kernel
theorem d_Mo_idealNow_89 : decode b_Mo_idealNow 89 = .ok (.iconst 0, 1) := by decide +kernel
theorem d_Mo_idealNow_90 : decode b_Mo_idealNow 90 = .ok (.goto 4, 3) := by decide +kernel
theorem d_Mo_idealNow_93 : decode b_Mo_idealNow 93 = .ok (.iload_n 3, 1) := by decide +kernel
theorem d_Mo_idealNow_94 : decode b_Mo_idealNow 94 = .ok (.isub, 1) := by decide +kernel
theorem d_Mo_idealNow_95 : decode b_Mo_idealNow 95 = .ok (.istore_n 1, 1) := by decide +kernel
theorem d_Mo_idealNow_96 : decode b_Mo_idealNow 96 = .ok (.iinc 2 1, 3) := by decide +kernel
theorem d_Mo_idealNow_99 : decode b_Mo_idealNow 99 = .ok (.goto (-95), 3) := by decide +kernel
theorem d_Mo_idealNow_102 : decode b_Mo_idealNow 102 = .ok (.iload_n 1, 1) := by decide +kernel
theorem d_Mo_idealNow_103 : decode b_Mo_idealNow 103 = .ok (.ireturn, 1) := by decide +kernel
theorem d_Mo_ideal_0 : decode b_Mo_ideal 0 = .ok (.aload_n 0, 1) := by decide +kernel
theorem d_Mo_ideal_1 : decode b_Mo_ideal 1 = .ok (.iconst 0, 1) := by decide +kernel
theorem d_Mo_ideal_2 : decode b_Mo_ideal 2 = .ok (.putfield 107, 3) := by decide +kernel
theorem d_Mo_ideal_5 : decode b_Mo_ideal 5 = .ok (.aload_n 0, 1) := by decide +kernel
theorem d_Mo_ideal_6 : decode b_Mo_ideal 6 = .ok (.invokevirtual 462, 3) := by decide +kernel
theorem d_Mo_ideal_9 : decode b_Mo_ideal 9 = .ok (.ireturn, 1) := by decide +kernel
theorem d_Mo_miss_0 : decode b_Mo_miss 0 = .ok (.aload_n 0, 1) := by decide +kernel
theorem d_Mo_miss_1 : decode b_Mo_miss 1 = .ok (.iconst 0, 1) := by decide +kernel
theorem d_Mo_miss_2 : decode b_Mo_miss 2 = .ok (.putfield 107, 3) := by decide +kernel
theorem d_Mo_miss_5 : decode b_Mo_miss 5 = .ok (.aload_n 0, 1) := by decide +kernel
theorem d_Mo_miss_6 : decode b_Mo_miss 6 = .ok (.aload_n 0, 1) := by decide +kernel
theorem d_Mo_miss_7 : decode b_Mo_miss 7 = .ok (.invokevirtual 462, 3) := by decide +kernel
theorem d_Mo_miss_10 : decode b_Mo_miss 10 = .ok (.invokevirtual 179, 3) := by decide +kernel
theorem d_Mo_miss_13 : decode b_Mo_miss 13 = .ok (.invokestatic 217, 3) := by decide +kernel
theorem d_Mo_miss_16 : decode b_Mo_miss 16 = .ok (.aload_n 0, 1) := by decide +kernel
theorem d_Mo_miss_17 : decode b_Mo_miss 17 = .ok (.aload_n 0, 1) := by decide +kernel
theorem d_Mo_miss_18 : decode b_Mo_miss 18 = .ok (.aload_n 0, 1) := by decide +kernel
theorem d_Mo_miss_19 : decode b_Mo_miss 19 = .ok (.getfield 7, 3) := by decide +kernel
theorem d_Mo_miss_22 : decode b_Mo_miss 22 = .ok (.bipush 29, 2) := by decide +kernel
theorem d_Mo_miss_24 : decode b_Mo_miss 24 = .ok (.laload, 1) := by decide +kernel
theorem d_Mo_miss_25 : decode b_Mo_miss 25 = .ok (.aload_n 0, 1) := by decide +kernel
theorem d_Mo_miss_26 : decode b_Mo_miss 26 = .ok (.getfield 7, 3) := by decide +kernel
theorem d_Mo_miss_29 : decode b_Mo_miss 29 = .ok (.bipush 30, 2) := by decide +kernel
theorem d_Mo_miss_31 : decode b_Mo_miss 31 = .ok (.laload, 1) := by decide +kernel
theorem d_Mo_miss_32 : decode b_Mo_miss 32 = .ok (.aload_n 0, 1) := by decide +kernel
theorem d_Mo_miss_33 : decode b_Mo_miss 33 = .ok (.getfield 7, 3) := by decide +kernel
theorem d_Mo_miss_36 : decode b_Mo_miss 36 = .ok (.bipush 32, 2) := by decide +kernel
theorem d_Mo_miss_38 : decode b_Mo_miss 38 = .ok (.laload, 1) := by decide +kernel
theorem d_Mo_miss_39 : decode b_Mo_miss 39 = .ok (.invokevirtual 458, 3) := by decide +kernel
theorem d_Mo_miss_42 : decode b_Mo_miss 42 = .ok (.invokevirtual 179, 3) := by decide +kernel
theorem d_Mo_miss_45 : decode b_Mo_miss 45 = .ok (.invokestatic 217, 3) := by decide +kernel
theorem d_Mo_miss_48 : decode b_Mo_miss 48 = .ok (.lsub, 1) := by decide +kernel
theorem d_Mo_miss_49 : decode b_Mo_miss 49 = .ok (.lreturn, 1) := by decide +kernel
theorem d_Mo_better_0 : decode b_Mo_better 0 = .ok (.aload_n 0, 1) := by decide +kernel
theorem d_Mo_better_1 : decode b_Mo_better 1 = .ok (.iconst 0, 1) := by decide +kernel
theorem d_Mo_better_2 : decode b_Mo_better 2 = .ok (.putfield 107, 3) := by decide +kernel
theorem d_Mo_better_5 : decode b_Mo_better 5 = .ok (.aload_n 0, 1) := by decide +kernel
theorem d_Mo_better_6 : decode b_Mo_better 6 = .ok (.aload_n 0, 1) := by decide +kernel
theorem d_Mo_better_7 : decode b_Mo_better 7 = .ok (.invokevirtual 176, 3) := by decide +kernel
theorem d_Mo_better_10 : decode b_Mo_better 10 = .ok (.invokevirtual 179, 3) := by decide +kernel
theorem d_Mo_better_13 : decode b_Mo_better 13 = .ok (.invokestatic 217, 3) := by decide +kernel
theorem d_Mo_better_16 : decode b_Mo_better 16 = .ok (.lstore_n 1, 1) := by decide +kernel
theorem d_Mo_better_17 : decode b_Mo_better 17 = .ok (.iconst 0, 1) := by decide +kernel
theorem d_Mo_better_18 : decode b_Mo_better 18 = .ok (.istore_n 3, 1) := by decide +kernel
theorem d_Mo_better_19 : decode b_Mo_better 19 = .ok (.iconst 0, 1) := by decide +kernel
theorem d_Mo_better_20 : decode b_Mo_better 20 = .ok (.istore 4, 2) := by decide +kernel
theorem d_Mo_better_22 : decode b_Mo_better 22 = .ok (.iload 4, 2) := by decide +kernel
theorem d_Mo_better_24 : decode b_Mo_better 24 = .ok (.aload_n 0, 1) := by decide +kernel
theorem d_Mo_better_25 : decode b_Mo_better 25 = .ok (.invokevirtual 256, 3) := by decide +kernel
theorem d_Mo_better_28 : decode b_Mo_better 28 = .ok (.if_icmp .ge 31, 3) := by decide +kernel
theorem d_Mo_better_31 : decode b_Mo_better 31 = .ok (.iload_n 3, 1) := by decide +kernel
theorem d_Mo_better_32 : decode b_Mo_better 32 = .ok (.aload_n 0, 1) := by decide +kernel
theorem d_Mo_better_33 : decode b_Mo_better 33 = .ok (.iload 4, 2) := by decide +kernel
theorem d_Mo_better_35 : decode b_Mo_better 35 = .ok (.invokevirtual 179, 3) := by decide +kernel
theorem d_Mo_better_38 : decode b_Mo_better 38 = .ok (.invokestatic 217, 3) := by decide +kernel
theorem d_Mo_better_41 : decode b_Mo_better 41 = .ok (.lload_n 1, 1) := by decide +kernel
theorem d_Mo_better_42 : decode b_Mo_better 42 = .ok (.lcmp, 1) := by decide +kernel
theorem d_Mo_better_43 : decode b_Mo_better 43 = .ok (.ifCond .ge 7, 3) := by decide +kernel
theorem d_Mo_better_46 : decode b_Mo_better 46 = .ok (.iconst 1, 1) := by decide +kernel
theorem d_Mo_better_47 : decode b_Mo_better 47 = .ok (.goto 4, 3) := by decide +kernel
theorem d_Mo_better_50 : decode b_Mo_better 50 = .ok (.iconst 0, 1) := by decide +kernel
theorem d_Mo_better_51 : decode b_Mo_better 51 = .ok (.iadd, 1) := by decide +kernel
theorem d_Mo_better_52 : decode b_Mo_better 52 = .ok (.istore_n 3, 1) := by decide +kernel
theorem d_Mo_better_53 : decode b_Mo_better 53 = .ok (.iinc 4 1, 3) := by decide +kernel
theorem d_Mo_better_56 : decode b_Mo_better 56 = .ok (.goto (-34), 3) := by decide +kernel
theorem d_Mo_better_59 : decode b_Mo_better 59 = .ok (.iload_n 3, 1) := by decide +kernel
theorem d_Mo_better_60 : decode b_Mo_better 60 = .ok (.ireturn, 1) := by decide +kernel
theorem d_Mo_bestWith_0 : decode b_Mo_bestWith 0 = .ok (.aload_n 0, 1) := by decide +kernel
theorem d_Mo_bestWith_1 : decode b_Mo_bestWith 1 = .ok (.iload_n 1, 1) := by decide +kernel
theorem d_Mo_bestWith_2 : decode b_Mo_bestWith 2 = .ok (.i2l, 1) := by decide +kernel
theorem d_Mo_bestWith_3 : decode b_Mo_bestWith 3 = .ok (.invokestatic 423, 3) := by decide +kernel
theorem d_Mo_bestWith_6 : decode b_Mo_bestWith 6 = .ok (.ifCond .eq 15, 3) := by decide +kernel
theorem d_Mo_bestWith_9 : decode b_Mo_bestWith 9 = .ok (.iload_n 2, 1) := by decide +kernel
theorem d_Mo_bestWith_10 : decode b_Mo_bestWith 10 = .ok (.i2l, 1) := by decide +kernel
theorem d_Mo_bestWith_11 : decode b_Mo_bestWith 11 = .ok (.invokestatic 423, 3) := by decide +kernel
theorem d_Mo_bestWith_14 : decode b_Mo_bestWith 14 = .ok (.ifCond .eq 7, 3) := by decide +kernel
theorem d_Mo_bestWith_17 : decode b_Mo_bestWith 17 = .ok (.iconst 0, 1) := by decide +kernel
theorem d_Mo_bestWith_18 : decode b_Mo_bestWith 18 = .ok (.goto 4, 3) := by decide +kernel
theorem d_Mo_bestWith_21 : decode b_Mo_bestWith 21 = .ok (.iconst 1, 1) := by decide +kernel
theorem d_Mo_bestWith_22 : decode b_Mo_bestWith 22 = .ok (.putfield 107, 3) := by decide +kernel
theorem d_Mo_bestWith_25 : decode b_Mo_bestWith 25 = .ok (.aload_n 0, 1) := by decide +kernel
theorem d_Mo_bestWith_26 : decode b_Mo_bestWith 26 = .ok (.getfield 107, 3) := by decide +kernel
theorem d_Mo_bestWith_29 : decode b_Mo_bestWith 29 = .ok (.ifCond .le 7, 3) := by decide +kernel
theorem d_Mo_bestWith_32 : decode b_Mo_bestWith 32 = .ok (.iconst 0, 1) := by decide +kernel
theorem d_Mo_bestWith_33 : decode b_Mo_bestWith 33 = .ok (.goto 18, 3) := by decide +kernel
theorem d_Mo_bestWith_36 : decode b_Mo_bestWith 36 = .ok (.aload_n 0, 1) := by decide +kernel
theorem d_Mo_bestWith_37 : decode b_Mo_bestWith 37 = .ok (.iload_n 1, 1) := by decide +kernel
theorem d_Mo_bestWith_38 : decode b_Mo_bestWith 38 = .ok (.i2l, 1) := by decide +kernel
theorem d_Mo_bestWith_39 : decode b_Mo_bestWith 39 = .ok (.iload_n 2, 1) := by decide +kernel
theorem d_Mo_bestWith_40 : decode b_Mo_bestWith 40 = .ok (.i2l, 1) := by decide +kernel
theorem d_Mo_bestWith_41 : decode b_Mo_bestWith 41 = .ok (.aload_n 0, 1) := by decide +kernel
theorem d_Mo_bestWith_42 : decode b_Mo_bestWith 42 = .ok (.getfield 7, 3) := by decide +kernel
theorem d_Mo_bestWith_45 : decode b_Mo_bestWith 45 = .ok (.bipush 32, 2) := by decide +kernel
theorem d_Mo_bestWith_47 : decode b_Mo_bestWith 47 = .ok (.laload, 1) := by decide +kernel
theorem d_Mo_bestWith_48 : decode b_Mo_bestWith 48 = .ok (.invokevirtual 458, 3) := by decide +kernel
theorem d_Mo_bestWith_51 : decode b_Mo_bestWith 51 = .ok (.ireturn, 1) := by decide +kernel
theorem d_Mo_bestArms_0 : decode b_Mo_bestArms 0 = .ok (.aload_n 0, 1) := by decide +kernel
theorem d_Mo_bestArms_1 : decode b_Mo_bestArms 1 = .ok (.iconst 0, 1) := by decide +kernel
theorem d_Mo_bestArms_2 : decode b_Mo_bestArms 2 = .ok (.putfield 107, 3) := by decide +kernel
theorem d_Mo_bestArms_5 : decode b_Mo_bestArms 5 = .ok (.iconst 0, 1) := by decide +kernel
theorem d_Mo_bestArms_6 : decode b_Mo_bestArms 6 = .ok (.istore_n 1, 1) := by decide +kernel
theorem d_Mo_bestArms_7 : decode b_Mo_bestArms 7 = .ok (.lconst 0, 1) := by decide +kernel
theorem d_Mo_bestArms_8 : decode b_Mo_bestArms 8 = .ok (.lstore_n 2, 1) := by decide +kernel
theorem d_Mo_bestArms_9 : decode b_Mo_bestArms 9 = .ok (.iconst 0, 1) := by decide +kernel
theorem d_Mo_bestArms_10 : decode b_Mo_bestArms 10 = .ok (.istore 4, 2) := by decide +kernel
theorem d_Mo_bestArms_12 : decode b_Mo_bestArms 12 = .ok (.iload 4, 2) := by decide +kernel
theorem d_Mo_bestArms_14 : decode b_Mo_bestArms 14 = .ok (.bipush 25, 2) := by decide +kernel
theorem d_Mo_bestArms_16 : decode b_Mo_bestArms 16 = .ok (.if_icmp .ge 111, 3) := by decide +kernel
theorem d_Mo_bestArms_19 : decode b_Mo_bestArms 19 = .ok (.aload_n 0, 1) := by decide +kernel
theorem d_Mo_bestArms_20 : decode b_Mo_bestArms 20 = .ok (.iload 4, 2) := by decide +kernel
theorem d_Mo_bestArms_22 : decode b_Mo_bestArms 22 = .ok (.iconst 5, 1) := by decide +kernel
theorem d_Mo_bestArms_23 : decode b_Mo_bestArms 23 = .ok (.idiv, 1) := by decide +kernel
theorem d_Mo_bestArms_24 : decode b_Mo_bestArms 24 = .ok (.i2l, 1) := by decide +kernel
theorem d_Mo_bestArms_25 : decode b_Mo_bestArms 25 = .ok (.iload 4, 2) := by decide +kernel
theorem d_Mo_bestArms_27 : decode b_Mo_bestArms 27 = .ok (.iconst 5, 1) := by decide +kernel
theorem d_Mo_bestArms_28 : decode b_Mo_bestArms 28 = .ok (.irem, 1) := by decide +kernel
theorem d_Mo_bestArms_29 : decode b_Mo_bestArms 29 = .ok (.i2l, 1) := by decide +kernel
theorem d_Mo_bestArms_30 : decode b_Mo_bestArms 30 = .ok (.aload_n 0, 1) := by decide +kernel
theorem d_Mo_bestArms_31 : decode b_Mo_bestArms 31 = .ok (.getfield 7, 3) := by decide +kernel
theorem d_Mo_bestArms_34 : decode b_Mo_bestArms 34 = .ok (.bipush 32, 2) := by decide +kernel
theorem d_Mo_bestArms_36 : decode b_Mo_bestArms 36 = .ok (.laload, 1) := by decide +kernel
theorem d_Mo_bestArms_37 : decode b_Mo_bestArms 37 = .ok (.invokevirtual 458, 3) := by decide +kernel
theorem d_Mo_bestArms_40 : decode b_Mo_bestArms 40 = .ok (.istore 5, 2) := by decide +kernel
theorem d_Mo_bestArms_42 : decode b_Mo_bestArms 42 = .ok (.aload_n 0, 1) := by decide +kernel
theorem d_Mo_bestArms_43 : decode b_Mo_bestArms 43 = .ok (.iload 5, 2) := by decide +kernel
theorem d_Mo_bestArms_45 : decode b_Mo_bestArms 45 = .ok (.iload 4, 2) := by decide +kernel
theorem d_Mo_bestArms_47 : decode b_Mo_bestArms 47 = .ok (.iconst 5, 1) := by decide +kernel
theorem d_Mo_bestArms_48 : decode b_Mo_bestArms 48 = .ok (.idiv, 1) := by decide +kernel
theorem d_Mo_bestArms_49 : decode b_Mo_bestArms 49 = .ok (.i2l, 1) := by decide +kernel
theorem d_Mo_bestArms_50 : decode b_Mo_bestArms 50 = .ok (.iload 4, 2) := by decide +kernel
theorem d_Mo_bestArms_52 : decode b_Mo_bestArms 52 = .ok (.iconst 5, 1) := by decide +kernel
theorem d_Mo_bestArms_53 : decode b_Mo_bestArms 53 = .ok (.irem, 1) := by decide +kernel
theorem d_Mo_bestArms_54 : decode b_Mo_bestArms 54 = .ok (.i2l, 1) := by decide +kernel
theorem d_Mo_bestArms_55 : decode b_Mo_bestArms 55 = .ok (.aload_n 0, 1) := by decide +kernel
theorem d_Mo_bestArms_56 : decode b_Mo_bestArms 56 = .ok (.getfield 7, 3) := by decide +kernel
theorem d_Mo_bestArms_59 : decode b_Mo_bestArms 59 = .ok (.bipush 32, 2) := by decide +kernel
theorem d_Mo_bestArms_61 : decode b_Mo_bestArms 61 = .ok (.laload, 1) := by decide +kernel
theorem d_Mo_bestArms_62 : decode b_Mo_bestArms 62 = .ok (.invokevirtual 245, 3) := by decide +kernel
theorem d_Mo_bestArms_65 : decode b_Mo_bestArms 65 = .ok (.aload_n 0, 1) := by decide +kernel
theorem d_Mo_bestArms_66 : decode b_Mo_bestArms 66 = .ok (.invokevirtual 146, 3) := by decide +kernel
theorem d_Mo_bestArms_69 : decode b_Mo_bestArms 69 = .ok (.lsub, 1) := by decide +kernel
theorem d_Mo_bestArms_70 : decode b_Mo_bestArms 70 = .ok (.invokestatic 217, 3) := by decide +kernel
theorem d_Mo_bestArms_73 : decode b_Mo_bestArms 73 = .ok (.lstore 6, 2) := by decide +kernel
theorem d_Mo_bestArms_75 : decode b_Mo_bestArms 75 = .ok (.iload 4, 2) := by decide +kernel
theorem d_Mo_bestArms_77 : decode b_Mo_bestArms 77 = .ok (.ifCond .eq 10, 3) := by decide +kernel
theorem d_Mo_bestArms_80 : decode b_Mo_bestArms 80 = .ok (.lload 6, 2) := by decide +kernel
theorem d_Mo_bestArms_82 : decode b_Mo_bestArms 82 = .ok (.lload_n 2, 1) := by decide +kernel
theorem d_Mo_bestArms_83 : decode b_Mo_bestArms 83 = .ok (.lcmp, 1) := by decide +kernel
theorem d_Mo_bestArms_84 : decode b_Mo_bestArms 84 = .ok (.ifCond .ge 18, 3) := by decide +kernel
theorem d_Mo_bestArms_87 : decode b_Mo_bestArms 87 = .ok (.bipush 10, 2) := by decide +kernel
theorem d_Mo_bestArms_89 : decode b_Mo_bestArms 89 = .ok (.iload 4, 2) := by decide +kernel
theorem d_Mo_bestArms_91 : decode b_Mo_bestArms 91 = .ok (.iconst 5, 1) := by decide +kernel
theorem d_Mo_bestArms_92 : decode b_Mo_bestArms 92 = .ok (.idiv, 1) := by decide +kernel
theorem d_Mo_bestArms_93 : decode b_Mo_bestArms 93 = .ok (.imul, 1) := by decide +kernel
theorem d_Mo_bestArms_94 : decode b_Mo_bestArms 94 = .ok (.iload 4, 2) := by decide +kernel
theorem d_Mo_bestArms_96 : decode b_Mo_bestArms 96 = .ok (.iconst 5, 1) := by decide +kernel
theorem d_Mo_bestArms_97 : decode b_Mo_bestArms 97 = .ok (.irem, 1) := by decide +kernel
theorem d_Mo_bestArms_98 : decode b_Mo_bestArms 98 = .ok (.iadd, 1) := by decide +kernel
theorem d_Mo_bestArms_99 : decode b_Mo_bestArms 99 = .ok (.goto 4, 3) := by decide +kernel
theorem d_Mo_bestArms_102 : decode b_Mo_bestArms 102 = .ok (.iload_n 1, 1) := by decide +kernel
theorem d_Mo_bestArms_103 : decode b_Mo_bestArms 103 = .ok (.istore_n 1, 1) := by decide +kernel
theorem d_Mo_bestArms_104 : decode b_Mo_bestArms 104 = .ok (.iload 4, 2) := by decide +kernel
theorem d_Mo_bestArms_106 : decode b_Mo_bestArms 106 = .ok (.ifCond .ne 8, 3) := by decide +kernel
theorem d_Mo_bestArms_109 : decode b_Mo_bestArms 109 = .ok (.lload 6, 2) := by decide +kernel
theorem d_Mo_bestArms_111 : decode b_Mo_bestArms 111 = .ok (.goto 9, 3) := by decide +kernel
theorem d_Mo_bestArms_114 : decode b_Mo_bestArms 114 = .ok (.lload_n 2, 1) := by decide +kernel
theorem d_Mo_bestArms_115 : decode b_Mo_bestArms 115 = .ok (.lload 6, 2) := by decide +kernel
theorem d_Mo_bestArms_117 : decode b_Mo_bestArms 117 = .ok (.invokestatic 185, 3) := by decide +kernel
theorem d_Mo_bestArms_120 : decode b_Mo_bestArms 120 = .ok (.lstore_n 2, 1) := by decide +kernel
theorem d_Mo_bestArms_121 : decode b_Mo_bestArms 121 = .ok (.iinc 4 1, 3) := by decide +kernel
theorem d_Mo_bestArms_124 : decode b_Mo_bestArms 124 = .ok (.goto (-112), 3) := by decide +kernel
theorem d_Mo_bestArms_127 : decode b_Mo_bestArms 127 = .ok (.iload_n 1, 1) := by decide +kernel
theorem d_Mo_bestArms_128 : decode b_Mo_bestArms 128 = .ok (.ireturn, 1) := by decide +kernel
theorem d_Mo_apparent_0 : decode b_Mo_apparent 0 = .ok (.aload_n 0, 1) := by decide +kernel
theorem d_Mo_apparent_1 : decode b_Mo_apparent 1 = .ok (.iload_n 1, 1) := by decide +kernel
theorem d_Mo_apparent_2 : decode b_Mo_apparent 2 = .ok (.i2l, 1) := by decide +kernel
theorem d_Mo_apparent_3 : decode b_Mo_apparent 3 = .ok (.ldc2_w 100, 3) := by decide +kernel
theorem d_Mo_apparent_6 : decode b_Mo_apparent 6 = .ok (.ldc2_w 153, 3) := by decide +kernel
theorem d_Mo_apparent_9 : decode b_Mo_apparent 9 = .ok (.invokestatic 118, 3) := by decide +kernel
theorem d_Mo_apparent_12 : decode b_Mo_apparent 12 = .ok (.ifCond .eq 7, 3) := by decide +kernel
theorem d_Mo_apparent_15 : decode b_Mo_apparent 15 = .ok (.iconst 0, 1) := by decide +kernel
theorem d_Mo_apparent_16 : decode b_Mo_apparent 16 = .ok (.goto 4, 3) := by decide +kernel
theorem d_Mo_apparent_19 : decode b_Mo_apparent 19 = .ok (.iconst 1, 1) := by decide +kernel
theorem d_Mo_apparent_20 : decode b_Mo_apparent 20 = .ok (.putfield 107, 3) := by decide +kernel
theorem d_Mo_apparent_23 : decode b_Mo_apparent 23 = .ok (.aload_n 0, 1) := by decide +kernel
theorem d_Mo_apparent_24 : decode b_Mo_apparent 24 = .ok (.getfield 107, 3) := by decide +kernel
theorem d_Mo_apparent_27 : decode b_Mo_apparent 27 = .ok (.ifCond .le 5, 3) := by decide +kernel
theorem d_Mo_apparent_30 : decode b_Mo_apparent 30 = .ok (.lconst 0, 1) := by decide +kernel
theorem d_Mo_apparent_31 : decode b_Mo_apparent 31 = .ok (.lreturn, 1) := by decide +kernel
theorem d_Mo_apparent_32 : decode b_Mo_apparent 32 = .ok (.aload_n 0, 1) := by decide +kernel
theorem d_Mo_apparent_33 : decode b_Mo_apparent 33 = .ok (.aload_n 0, 1) := by decide +kernel
theorem d_Mo_apparent_34 : decode b_Mo_apparent 34 = .ok (.aload_n 0, 1) := by decide +kernel
theorem d_Mo_apparent_35 : decode b_Mo_apparent 35 = .ok (.getfield 7, 3) := by decide +kernel
theorem d_Mo_apparent_38 : decode b_Mo_apparent 38 = .ok (.bipush 29, 2) := by decide +kernel
theorem d_Mo_apparent_40 : decode b_Mo_apparent 40 = .ok (.laload, 1) := by decide +kernel
theorem d_Mo_apparent_41 : decode b_Mo_apparent 41 = .ok (.aload_n 0, 1) := by decide +kernel
theorem d_Mo_apparent_42 : decode b_Mo_apparent 42 = .ok (.getfield 7, 3) := by decide +kernel
theorem d_Mo_apparent_45 : decode b_Mo_apparent 45 = .ok (.bipush 30, 2) := by decide +kernel
theorem d_Mo_apparent_47 : decode b_Mo_apparent 47 = .ok (.laload, 1) := by decide +kernel
theorem d_Mo_apparent_48 : decode b_Mo_apparent 48 = .ok (.iload_n 1, 1) := by decide +kernel
theorem d_Mo_apparent_49 : decode b_Mo_apparent 49 = .ok (.i2l, 1) := by decide +kernel
theorem d_Mo_apparent_50 : decode b_Mo_apparent 50 = .ok (.invokevirtual 458, 3) := by decide +kernel
theorem d_Mo_apparent_53 : decode b_Mo_apparent 53 = .ok (.invokevirtual 143, 3) := by decide +kernel
theorem d_Mo_apparent_56 : decode b_Mo_apparent 56 = .ok (.aload_n 0, 1) := by decide +kernel
theorem d_Mo_apparent_57 : decode b_Mo_apparent 57 = .ok (.aload_n 0, 1) := by decide +kernel
theorem d_Mo_apparent_58 : decode b_Mo_apparent 58 = .ok (.getfield 7, 3) := by decide +kernel
theorem d_Mo_apparent_61 : decode b_Mo_apparent 61 = .ok (.bipush 30, 2) := by decide +kernel
theorem d_Mo_apparent_63 : decode b_Mo_apparent 63 = .ok (.laload, 1) := by decide +kernel
theorem d_Mo_apparent_64 : decode b_Mo_apparent 64 = .ok (.invokevirtual 162, 3) := by decide +kernel
theorem d_Mo_apparent_67 : decode b_Mo_apparent 67 = .ok (.lmul, 1) := by decide +kernel
theorem d_Mo_apparent_68 : decode b_Mo_apparent 68 = .ok (.aload_n 0, 1) := by decide +kernel
theorem d_Mo_apparent_69 : decode b_Mo_apparent 69 = .ok (.aload_n 0, 1) := by decide +kernel
theorem d_Mo_apparent_70 : decode b_Mo_apparent 70 = .ok (.getfield 7, 3) := by decide +kernel
theorem d_Mo_apparent_73 : decode b_Mo_apparent 73 = .ok (.bipush 29, 2) := by decide +kernel
theorem d_Mo_apparent_75 : decode b_Mo_apparent 75 = .ok (.laload, 1) := by decide +kernel
theorem d_Mo_apparent_76 : decode b_Mo_apparent 76 = .ok (.invokevirtual 162, 3) := by decide +kernel
theorem d_Mo_apparent_79 : decode b_Mo_apparent 79 = .ok (.ldiv, 1) := by decide +kernel
theorem d_Mo_apparent_80 : decode b_Mo_apparent 80 = .ok (.lreturn, 1) := by decide +kernel
theorem d_Mo_layBack_0 : decode b_Mo_layBack 0 = .ok (.aload_n 0, 1) := by decide +kernel
theorem d_Mo_layBack_1 : decode b_Mo_layBack 1 = .ok (.getfield 7, 3) := by decide +kernel
theorem d_Mo_layBack_4 : decode b_Mo_layBack 4 = .ok (.bipush 37, 2) := by decide +kernel
theorem d_Mo_layBack_6 : decode b_Mo_layBack 6 = .ok (.lload_n 1, 1) := by decide +kernel
theorem d_Mo_layBack_7 : decode b_Mo_layBack 7 = .ok (.lastore, 1) := by decide +kernel
theorem d_Mo_layBack_8 : decode b_Mo_layBack 8 = .ok (.aload_n 0, 1) := by decide +kernel
theorem d_Mo_layBack_9 : decode b_Mo_layBack 9 = .ok (.getfield 7, 3) := by decide +kernel
theorem d_Mo_layBack_12 : decode b_Mo_layBack 12 = .ok (.bipush 38, 2) := by decide +kernel
theorem d_Mo_layBack_14 : decode b_Mo_layBack 14 = .ok (.lload_n 3, 1) := by decide +kernel
theorem d_Mo_layBack_15 : decode b_Mo_layBack 15 = .ok (.lastore, 1) := by decide +kernel
theorem d_Mo_layBack_16 : decode b_Mo_layBack 16 = .ok (.lload 5, 2) := by decide +kernel
theorem d_Mo_layBack_18 : decode b_Mo_layBack 18 = .ok (.lreturn, 1) := by decide +kernel
theorem d_Mo_foretold_0 : decode b_Mo_foretold 0 = .ok (.aload_n 0, 1) := by decide +kernel
theorem d_Mo_foretold_1 : decode b_Mo_foretold 1 = .ok (.iload_n 1, 1) := by decide +kernel
theorem d_Mo_foretold_2 : decode b_Mo_foretold 2 = .ok (.i2l, 1) := by decide +kernel
theorem d_Mo_foretold_3 : decode b_Mo_foretold 3 = .ok (.lconst 0, 1) := by decide +kernel
theorem d_Mo_foretold_4 : decode b_Mo_foretold 4 = .ok (.ldc2_w 465, 3) := by decide +kernel
theorem d_Mo_foretold_7 : decode b_Mo_foretold 7 = .ok (.invokestatic 118, 3) := by decide +kernel
theorem d_Mo_foretold_10 : decode b_Mo_foretold 10 = .ok (.ifCond .eq 19, 3) := by decide +kernel
theorem d_Mo_foretold_13 : decode b_Mo_foretold 13 = .ok (.iload_n 2, 1) := by decide +kernel
theorem d_Mo_foretold_14 : decode b_Mo_foretold 14 = .ok (.i2l, 1) := by decide +kernel
theorem d_Mo_foretold_15 : decode b_Mo_foretold 15 = .ok (.lconst 0, 1) := by decide +kernel
theorem d_Mo_foretold_16 : decode b_Mo_foretold 16 = .ok (.ldc2_w 100, 3) := by decide +kernel
theorem d_Mo_foretold_19 : decode b_Mo_foretold 19 = .ok (.invokestatic 118, 3) := by decide +kernel
theorem d_Mo_foretold_22 : decode b_Mo_foretold 22 = .ok (.ifCond .eq 7, 3) := by decide +kernel
theorem d_Mo_foretold_25 : decode b_Mo_foretold 25 = .ok (.iconst 0, 1) := by decide +kernel
theorem d_Mo_foretold_26 : decode b_Mo_foretold 26 = .ok (.goto 4, 3) := by decide +kernel
theorem d_Mo_foretold_29 : decode b_Mo_foretold 29 = .ok (.iconst 1, 1) := by decide +kernel
theorem d_Mo_foretold_30 : decode b_Mo_foretold 30 = .ok (.putfield 107, 3) := by decide +kernel
theorem d_Mo_foretold_33 : decode b_Mo_foretold 33 = .ok (.aload_n 0, 1) := by decide +kernel
theorem d_Mo_foretold_34 : decode b_Mo_foretold 34 = .ok (.getfield 107, 3) := by decide +kernel
theorem d_Mo_foretold_37 : decode b_Mo_foretold 37 = .ok (.ifCond .le 5, 3) := by decide +kernel
theorem d_Mo_foretold_40 : decode b_Mo_foretold 40 = .ok (.lconst 0, 1) := by decide +kernel
theorem d_Mo_foretold_41 : decode b_Mo_foretold 41 = .ok (.lreturn, 1) := by decide +kernel
theorem d_Mo_foretold_42 : decode b_Mo_foretold 42 = .ok (.aload_n 0, 1) := by decide +kernel
theorem d_Mo_foretold_43 : decode b_Mo_foretold 43 = .ok (.getfield 7, 3) := by decide +kernel
theorem d_Mo_foretold_46 : decode b_Mo_foretold 46 = .ok (.bipush 37, 2) := by decide +kernel
theorem d_Mo_foretold_48 : decode b_Mo_foretold 48 = .ok (.laload, 1) := by decide +kernel
theorem d_Mo_foretold_49 : decode b_Mo_foretold 49 = .ok (.lstore_n 3, 1) := by decide +kernel
theorem d_Mo_foretold_50 : decode b_Mo_foretold 50 = .ok (.aload_n 0, 1) := by decide +kernel
theorem d_Mo_foretold_51 : decode b_Mo_foretold 51 = .ok (.getfield 7, 3) := by decide +kernel
theorem d_Mo_foretold_54 : decode b_Mo_foretold 54 = .ok (.bipush 38, 2) := by decide +kernel
theorem d_Mo_foretold_56 : decode b_Mo_foretold 56 = .ok (.laload, 1) := by decide +kernel
theorem d_Mo_foretold_57 : decode b_Mo_foretold 57 = .ok (.lstore 5, 2) := by decide +kernel
theorem d_Mo_foretold_59 : decode b_Mo_foretold 59 = .ok (.iconst 0, 1) := by decide +kernel
theorem d_Mo_foretold_60 : decode b_Mo_foretold 60 = .ok (.istore 7, 2) := by decide +kernel
theorem d_Mo_foretold_62 : decode b_Mo_foretold 62 = .ok (.iload 7, 2) := by decide +kernel
theorem d_Mo_foretold_64 : decode b_Mo_foretold 64 = .ok (.iload_n 1, 1) := by decide +kernel
theorem d_Mo_foretold_65 : decode b_Mo_foretold 65 = .ok (.if_icmp .ge 16, 3) := by decide +kernel
theorem d_Mo_foretold_68 : decode b_Mo_foretold 68 = .ok (.aload_n 0, 1) := by decide +kernel
theorem d_Mo_foretold_69 : decode b_Mo_foretold 69 = .ok (.iconst 1, 1) := by decide +kernel
theorem d_Mo_foretold_70 : decode b_Mo_foretold 70 = .ok (.invokevirtual 206, 3) := by decide +kernel
theorem d_Mo_foretold_73 : decode b_Mo_foretold 73 = .ok (.istore 8, 2) := by decide +kernel
theorem d_Mo_foretold_75 : decode b_Mo_foretold 75 = .ok (.iinc 7 1, 3) := by decide +kernel
theorem d_Mo_foretold_78 : decode b_Mo_foretold 78 = .ok (.goto (-16), 3) := by decide +kernel
theorem d_Mo_foretold_81 : decode b_Mo_foretold 81 = .ok (.aload_n 0, 1) := by decide +kernel
theorem d_Mo_foretold_82 : decode b_Mo_foretold 82 = .ok (.lload_n 3, 1) := by decide +kernel
theorem d_Mo_foretold_83 : decode b_Mo_foretold 83 = .ok (.lload 5, 2) := by decide +kernel
theorem d_Mo_foretold_85 : decode b_Mo_foretold 85 = .ok (.iload_n 2, 1) := by decide +kernel
theorem d_Mo_foretold_86 : decode b_Mo_foretold 86 = .ok (.ifCond .ne 13, 3) := by decide +kernel
theorem d_Mo_foretold_89 : decode b_Mo_foretold 89 = .ok (.aload_n 0, 1) := by decide +kernel
theorem d_Mo_foretold_90 : decode b_Mo_foretold 90 = .ok (.getfield 7, 3) := by decide +kernel
theorem d_Mo_foretold_93 : decode b_Mo_foretold 93 = .ok (.bipush 37, 2) := by decide +kernel
theorem d_Mo_foretold_95 : decode b_Mo_foretold 95 = .ok (.laload, 1) := by decide +kernel
theorem d_Mo_foretold_96 : decode b_Mo_foretold 96 = .ok (.goto 22, 3) := by decide +kernel
theorem d_Mo_foretold_99 : decode b_Mo_foretold 99 = .ok (.iload_n 2, 1) := by decide +kernel
theorem d_Mo_foretold_100 : decode b_Mo_foretold 100 = .ok (.iconst 1, 1) := by decide +kernel
theorem d_Mo_foretold_101 : decode b_Mo_foretold 101 = .ok (.if_icmp .ne 13, 3) := by decide +kernel
theorem d_Mo_foretold_104 : decode b_Mo_foretold 104 = .ok (.aload_n 0, 1) := by decide +kernel
theorem d_Mo_foretold_105 : decode b_Mo_foretold 105 = .ok (.getfield 7, 3) := by decide +kernel
theorem d_Mo_foretold_108 : decode b_Mo_foretold 108 = .ok (.bipush 38, 2) := by decide +kernel
theorem d_Mo_foretold_110 : decode b_Mo_foretold 110 = .ok (.laload, 1) := by decide +kernel
theorem d_Mo_foretold_111 : decode b_Mo_foretold 111 = .ok (.goto 7, 3) := by decide +kernel
theorem d_Mo_foretold_114 : decode b_Mo_foretold 114 = .ok (.aload_n 0, 1) := by decide +kernel
theorem d_Mo_foretold_115 : decode b_Mo_foretold 115 = .ok (.invokevirtual 220, 3) := by decide +kernel
theorem d_Mo_foretold_118 : decode b_Mo_foretold 118 = .ok (.invokevirtual 467, 3) := by decide +kernel
theorem d_Mo_foretold_121 : decode b_Mo_foretold 121 = .ok (.lreturn, 1) := by decide +kernel
theorem d_Mo_stillIn_0 : decode b_Mo_stillIn 0 = .ok (.aload_n 0, 1) := by decide +kernel
theorem d_Mo_stillIn_1 : decode b_Mo_stillIn 1 = .ok (.getfield 7, 3) := by decide +kernel
theorem d_Mo_stillIn_4 : decode b_Mo_stillIn 4 = .ok (.bipush 37, 2) := by decide +kernel
theorem d_Mo_stillIn_6 : decode b_Mo_stillIn 6 = .ok (.laload, 1) := by decide +kernel
theorem d_Mo_stillIn_7 : decode b_Mo_stillIn 7 = .ok (.lstore_n 2, 1) := by decide +kernel
theorem d_Mo_stillIn_8 : decode b_Mo_stillIn 8 = .ok (.aload_n 0, 1) := by decide +kernel
theorem d_Mo_stillIn_9 : decode b_Mo_stillIn 9 = .ok (.getfield 7, 3) := by decide +kernel
theorem d_Mo_stillIn_12 : decode b_Mo_stillIn 12 = .ok (.bipush 38, 2) := by decide +kernel
theorem d_Mo_stillIn_14 : decode b_Mo_stillIn 14 = .ok (.laload, 1) := by decide +kernel
theorem d_Mo_stillIn_15 : decode b_Mo_stillIn 15 = .ok (.lstore 4, 2) := by decide +kernel
theorem d_Mo_stillIn_17 : decode b_Mo_stillIn 17 = .ok (.iconst 0, 1) := by decide +kernel
theorem d_Mo_stillIn_18 : decode b_Mo_stillIn 18 = .ok (.istore 6, 2) := by decide +kernel
theorem d_Mo_stillIn_20 : decode b_Mo_stillIn 20 = .ok (.iload 6, 2) := by decide +kernel
theorem d_Mo_stillIn_22 : decode b_Mo_stillIn 22 = .ok (.sipush 300, 3) := by decide +kernel
theorem d_Mo_stillIn_25 : decode b_Mo_stillIn 25 = .ok (.if_icmp .gt 17, 3) := by decide +kernel
theorem d_Mo_stillIn_28 : decode b_Mo_stillIn 28 = .ok (.aload_n 0, 1) := by decide +kernel
theorem d_Mo_stillIn_29 : decode b_Mo_stillIn 29 = .ok (.iload_n 1, 1) := by decide +kernel
theorem d_Mo_stillIn_30 : decode b_Mo_stillIn 30 = .ok (.invokevirtual 206, 3) := by decide +kernel
theorem d_Mo_stillIn_33 : decode b_Mo_stillIn 33 = .ok (.ifCond .eq 9, 3) := by decide +kernel
theorem d_Mo_stillIn_36 : decode b_Mo_stillIn 36 = .ok (.iinc 6 1, 3) := by decide +kernel
theorem d_Mo_stillIn_39 : decode b_Mo_stillIn 39 = .ok (.goto (-19), 3) := by decide +kernel
theorem d_Mo_stillIn_42 : decode b_Mo_stillIn 42 = .ok (.aload_n 0, 1) := by decide +kernel
theorem d_Mo_stillIn_43 : decode b_Mo_stillIn 43 = .ok (.lload_n 2, 1) := by decide +kernel
theorem d_Mo_stillIn_44 : decode b_Mo_stillIn 44 = .ok (.lload 4, 2) := by decide +kernel
theorem d_Mo_stillIn_46 : decode b_Mo_stillIn 46 = .ok (.iload 6, 2) := by decide +kernel
theorem d_Mo_stillIn_48 : decode b_Mo_stillIn 48 = .ok (.sipush 300, 3) := by decide +kernel
theorem d_Mo_stillIn_51 : decode b_Mo_stillIn 51 = .ok (.if_icmp .gt 9, 3) := by decide +kernel
theorem d_Mo_stillIn_54 : decode b_Mo_stillIn 54 = .ok (.iload 6, 2) := by decide +kernel
theorem d_Mo_stillIn_56 : decode b_Mo_stillIn 56 = .ok (.i2l, 1) := by decide +kernel
theorem d_Mo_stillIn_57 : decode b_Mo_stillIn 57 = .ok (.goto 6, 3) := by decide +kernel
theorem d_Mo_stillIn_60 : decode b_Mo_stillIn 60 = .ok (.ldc2_w 470, 3) := by decide +kernel
theorem d_Mo_stillIn_63 : decode b_Mo_stillIn 63 = .ok (.invokevirtual 467, 3) := by decide +kernel
theorem d_Mo_stillIn_66 : decode b_Mo_stillIn 66 = .ok (.l2i, 1) := by decide +kernel
theorem d_Mo_stillIn_67 : decode b_Mo_stillIn 67 = .ok (.ireturn, 1) := by decide +kernel
theorem d_Mo_steadyIn_0 : decode b_Mo_steadyIn 0 = .ok (.aload_n 0, 1) := by decide +kernel
theorem d_Mo_steadyIn_1 : decode b_Mo_steadyIn 1 = .ok (.iconst 0, 1) := by decide +kernel
theorem d_Mo_steadyIn_2 : decode b_Mo_steadyIn 2 = .ok (.putfield 107, 3) := by decide +kernel
theorem d_Mo_steadyIn_5 : decode b_Mo_steadyIn 5 = .ok (.aload_n 0, 1) := by decide +kernel
theorem d_Mo_steadyIn_6 : decode b_Mo_steadyIn 6 = .ok (.iconst 1, 1) := by decide +kernel
theorem d_Mo_steadyIn_7 : decode b_Mo_steadyIn 7 = .ok (.invokevirtual 472, 3) := by decide +kernel
theorem d_Mo_steadyIn_10 : decode b_Mo_steadyIn 10 = .ok (.ireturn, 1) := by decide +kernel
theorem d_Mo_cooledIn_0 : decode b_Mo_cooledIn 0 = .ok (.aload_n 0, 1) := by decide +kernel
theorem d_Mo_cooledIn_1 : decode b_Mo_cooledIn 1 = .ok (.iconst 0, 1) := by decide +kernel
theorem d_Mo_cooledIn_2 : decode b_Mo_cooledIn 2 = .ok (.putfield 107, 3) := by decide +kernel
theorem d_Mo_cooledIn_5 : decode b_Mo_cooledIn 5 = .ok (.aload_n 0, 1) := by decide +kernel
theorem d_Mo_cooledIn_6 : decode b_Mo_cooledIn 6 = .ok (.iconst 0, 1) := by decide +kernel
theorem d_Mo_cooledIn_7 : decode b_Mo_cooledIn 7 = .ok (.invokevirtual 472, 3) := by decide +kernel
theorem d_Mo_cooledIn_10 : decode b_Mo_cooledIn 10 = .ok (.ireturn, 1) := by decide +kernel
theorem d_Mo_copy_0 : decode b_Mo_copy 0 = .ok (.iconst 0, 1) := by decide +kernel
theorem d_Mo_copy_1 : decode b_Mo_copy 1 = .ok (.istore 4, 2) := by decide +kernel
theorem d_Mo_copy_3 : decode b_Mo_copy 3 = .ok (.iload 4, 2) := by decide +kernel
theorem d_Mo_copy_5 : decode b_Mo_copy 5 = .ok (.sipush 215, 3) := by decide +kernel
theorem d_Mo_copy_8 : decode b_Mo_copy 8 = .ok (.if_icmp .ge 29, 3) := by decide +kernel
theorem d_Mo_copy_11 : decode b_Mo_copy 11 = .ok (.aload_n 2, 1) := by decide +kernel
theorem d_Mo_copy_12 : decode b_Mo_copy 12 = .ok (.sipush 215, 3) := by decide +kernel
theorem d_Mo_copy_15 : decode b_Mo_copy 15 = .ok (.iload_n 3, 1) := by decide +kernel
theorem d_Mo_copy_16 : decode b_Mo_copy 16 = .ok (.imul, 1) := by decide +kernel
theorem d_Mo_copy_17 : decode b_Mo_copy 17 = .ok (.iload 4, 2) := by decide +kernel
theorem d_Mo_copy_19 : decode b_Mo_copy 19 = .ok (.iadd, 1) := by decide +kernel
theorem d_Mo_copy_20 : decode b_Mo_copy 20 = .ok (.aload_n 0, 1) := by decide +kernel
theorem d_Mo_copy_21 : decode b_Mo_copy 21 = .ok (.sipush 215, 3) := by decide +kernel
theorem d_Mo_copy_24 : decode b_Mo_copy 24 = .ok (.iload_n 1, 1) := by decide +kernel
theorem d_Mo_copy_25 : decode b_Mo_copy 25 = .ok (.imul, 1) := by decide +kernel
theorem d_Mo_copy_26 : decode b_Mo_copy 26 = .ok (.iload 4, 2) := by decide +kernel
theorem d_Mo_copy_28 : decode b_Mo_copy 28 = .ok (.iadd, 1) := by decide +kernel
theorem d_Mo_copy_29 : decode b_Mo_copy 29 = .ok (.laload, 1) := by decide +kernel
theorem d_Mo_copy_30 : decode b_Mo_copy 30 = .ok (.lastore, 1) := by decide +kernel
theorem d_Mo_copy_31 : decode b_Mo_copy 31 = .ok (.iinc 4 1, 3) := by decide +kernel
theorem d_Mo_copy_34 : decode b_Mo_copy 34 = .ok (.goto (-31), 3) := by decide +kernel
theorem d_Mo_copy_37 : decode b_Mo_copy 37 = .ok (.return_, 1) := by decide +kernel
theorem d_Mo_record_0 : decode b_Mo_record 0 = .ok (.aload_n 0, 1) := by decide +kernel
theorem d_Mo_record_1 : decode b_Mo_record 1 = .ok (.getfield 400, 3) := by decide +kernel
theorem d_Mo_record_4 : decode b_Mo_record 4 = .ok (.bipush 8, 2) := by decide +kernel
theorem d_Mo_record_6 : decode b_Mo_record 6 = .ok (.if_icmp .ne 42, 3) := by decide +kernel
theorem d_Mo_record_9 : decode b_Mo_record 9 = .ok (.iconst 1, 1) := by decide +kernel
theorem d_Mo_record_10 : decode b_Mo_record 10 = .ok (.istore_n 1, 1) := by decide +kernel
theorem d_Mo_record_11 : decode b_Mo_record 11 = .ok (.iload_n 1, 1) := by decide +kernel
theorem d_Mo_record_12 : decode b_Mo_record 12 = .ok (.bipush 8, 2) := by decide +kernel
theorem d_Mo_record_14 : decode b_Mo_record 14 = .ok (.if_icmp .ge 24, 3) := by decide +kernel
theorem d_Mo_record_17 : decode b_Mo_record 17 = .ok (.aload_n 0, 1) := by decide +kernel
theorem d_Mo_record_18 : decode b_Mo_record 18 = .ok (.getfield 16, 3) := by decide +kernel
theorem d_Mo_record_21 : decode b_Mo_record 21 = .ok (.iload_n 1, 1) := by decide +kernel
theorem d_Mo_record_22 : decode b_Mo_record 22 = .ok (.aload_n 0, 1) := by decide +kernel
theorem d_Mo_record_23 : decode b_Mo_record 23 = .ok (.getfield 16, 3) := by decide +kernel
theorem d_Mo_record_26 : decode b_Mo_record 26 = .ok (.iload_n 1, 1) := by decide +kernel
theorem d_Mo_record_27 : decode b_Mo_record 27 = .ok (.iconst 1, 1) := by decide +kernel
theorem d_Mo_record_28 : decode b_Mo_record 28 = .ok (.isub, 1) := by decide +kernel
theorem d_Mo_record_29 : decode b_Mo_record 29 = .ok (.invokestatic 476, 3) := by decide +kernel
theorem d_Mo_record_32 : decode b_Mo_record 32 = .ok (.iinc 1 1, 3) := by decide +kernel
theorem d_Mo_record_35 : decode b_Mo_record 35 = .ok (.goto (-24), 3) := by decide +kernel
theorem d_Mo_record_38 : decode b_Mo_record 38 = .ok (.aload_n 0, 1) := by decide +kernel
theorem d_Mo_record_39 : decode b_Mo_record 39 = .ok (.dup, 1) := by decide +kernel
theorem d_Mo_record_40 : decode b_Mo_record 40 = .ok (.getfield 400, 3) := by decide +kernel
theorem d_Mo_record_43 : decode b_Mo_record 43 = .ok (.iconst 1, 1) := by decide +kernel
theorem d_Mo_record_44 : decode b_Mo_record 44 = .ok (.isub, 1) := by decide +kernel
theorem d_Mo_record_45 : decode b_Mo_record 45 = .ok (.putfield 400, 3) := by decide +kernel
theorem d_Mo_record_48 : decode b_Mo_record 48 = .ok (.aload_n 0, 1) := by decide +kernel
theorem d_Mo_record_49 : decode b_Mo_record 49 = .ok (.getfield 7, 3) := by decide +kernel
theorem d_Mo_record_52 : decode b_Mo_record 52 = .ok (.iconst 0, 1) := by decide +kernel
theorem d_Mo_record_53 : decode b_Mo_record 53 = .ok (.aload_n 0, 1) := by decide +kernel
theorem d_Mo_record_54 : decode b_Mo_record 54 = .ok (.getfield 16, 3) := by decide +kernel
theorem d_Mo_record_57 : decode b_Mo_record 57 = .ok (.aload_n 0, 1) := by decide +kernel
theorem d_Mo_record_58 : decode b_Mo_record 58 = .ok (.getfield 400, 3) := by decide +kernel
theorem d_Mo_record_61 : decode b_Mo_record 61 = .ok (.invokestatic 476, 3) := by decide +kernel
theorem d_Mo_record_64 : decode b_Mo_record 64 = .ok (.aload_n 0, 1) := by decide +kernel
theorem d_Mo_record_65 : decode b_Mo_record 65 = .ok (.dup, 1) := by decide +kernel
theorem d_Mo_record_66 : decode b_Mo_record 66 = .ok (.getfield 400, 3) := by decide +kernel
theorem d_Mo_record_69 : decode b_Mo_record 69 = .ok (.iconst 1, 1) := by decide +kernel
theorem d_Mo_record_70 : decode b_Mo_record 70 = .ok (.iadd, 1) := by decide +kernel
theorem d_Mo_record_71 : decode b_Mo_record 71 = .ok (.putfield 400, 3) := by decide +kernel
theorem d_Mo_record_74 : decode b_Mo_record 74 = .ok (.return_, 1) := by decide +kernel
theorem d_Mo_change_0 : decode b_Mo_change 0 = .ok (.aload_n 0, 1) := by decide +kernel
theorem d_Mo_change_1 : decode b_Mo_change 1 = .ok (.getfield 7, 3) := by decide +kernel
theorem d_Mo_change_4 : decode b_Mo_change 4 = .ok (.iload_n 1, 1) := by decide +kernel
theorem d_Mo_change_5 : decode b_Mo_change 5 = .ok (.laload, 1) := by decide +kernel
theorem d_Mo_change_6 : decode b_Mo_change 6 = .ok (.l2i, 1) := by decide +kernel
theorem d_Mo_change_7 : decode b_Mo_change 7 = .ok (.istore 4, 2) := by decide +kernel
theorem d_Mo_change_9 : decode b_Mo_change 9 = .ok (.aload_n 0, 1) := by decide +kernel
theorem d_Mo_change_10 : decode b_Mo_change 10 = .ok (.getfield 7, 3) := by decide +kernel
theorem d_Mo_change_13 : decode b_Mo_change 13 = .ok (.iload_n 1, 1) := by decide +kernel
theorem d_Mo_change_14 : decode b_Mo_change 14 = .ok (.lload_n 2, 1) := by decide +kernel
theorem d_Mo_change_15 : decode b_Mo_change 15 = .ok (.lastore, 1) := by decide +kernel
theorem d_Mo_change_16 : decode b_Mo_change 16 = .ok (.iload 4, 2) := by decide +kernel
theorem d_Mo_change_18 : decode b_Mo_change 18 = .ok (.ireturn, 1) := by decide +kernel
theorem d_Mo_armsNow_0 : decode b_Mo_armsNow 0 = .ok (.bipush 10, 2) := by decide +kernel
theorem d_Mo_armsNow_2 : decode b_Mo_armsNow 2 = .ok (.aload_n 0, 1) := by decide +kernel
theorem d_Mo_armsNow_3 : decode b_Mo_armsNow 3 = .ok (.bipush 29, 2) := by decide +kernel
theorem d_Mo_armsNow_5 : decode b_Mo_armsNow 5 = .ok (.lload_n 1, 1) := by decide +kernel
theorem d_Mo_armsNow_6 : decode b_Mo_armsNow 6 = .ok (.invokevirtual 480, 3) := by decide +kernel
theorem d_Mo_armsNow_9 : decode b_Mo_armsNow 9 = .ok (.imul, 1) := by decide +kernel
theorem d_Mo_armsNow_10 : decode b_Mo_armsNow 10 = .ok (.istore 5, 2) := by decide +kernel
theorem d_Mo_armsNow_12 : decode b_Mo_armsNow 12 = .ok (.iload 5, 2) := by decide +kernel
theorem d_Mo_armsNow_14 : decode b_Mo_armsNow 14 = .ok (.aload_n 0, 1) := by decide +kernel
theorem d_Mo_armsNow_15 : decode b_Mo_armsNow 15 = .ok (.bipush 30, 2) := by decide +kernel
theorem d_Mo_armsNow_17 : decode b_Mo_armsNow 17 = .ok (.lload_n 3, 1) := by decide +kernel
theorem d_Mo_armsNow_18 : decode b_Mo_armsNow 18 = .ok (.invokevirtual 480, 3) := by decide +kernel
theorem d_Mo_armsNow_21 : decode b_Mo_armsNow 21 = .ok (.iadd, 1) := by decide +kernel
theorem d_Mo_armsNow_22 : decode b_Mo_armsNow 22 = .ok (.ireturn, 1) := by decide +kernel
theorem d_Mo_setNow_0 : decode b_Mo_setNow 0 = .ok (.aload_n 0, 1) := by decide +kernel
theorem d_Mo_setNow_1 : decode b_Mo_setNow 1 = .ok (.iload_n 1, 1) := by decide +kernel
theorem d_Mo_setNow_2 : decode b_Mo_setNow 2 = .ok (.invokevirtual 426, 3) := by decide +kernel
theorem d_Mo_setNow_5 : decode b_Mo_setNow 5 = .ok (.ifCond .ne 6, 3) := by decide +kernel
theorem d_Mo_setNow_8 : decode b_Mo_setNow 8 = .ok (.bipush (-2), 2) := by decide +kernel
theorem d_Mo_setNow_10 : decode b_Mo_setNow 10 = .ok (.ireturn, 1) := by decide +kernel
theorem d_Mo_setNow_11 : decode b_Mo_setNow 11 = .ok (.aload_n 0, 1) := by decide +kernel
theorem d_Mo_setNow_12 : decode b_Mo_setNow 12 = .ok (.invokevirtual 176, 3) := by decide +kernel
theorem d_Mo_setNow_15 : decode b_Mo_setNow 15 = .ok (.istore_n 2, 1) := by decide +kernel
theorem d_Mo_setNow_16 : decode b_Mo_setNow 16 = .ok (.aload_n 0, 1) := by decide +kernel
theorem d_Mo_setNow_17 : decode b_Mo_setNow 17 = .ok (.iload_n 1, 1) := by decide +kernel
theorem d_Mo_setNow_18 : decode b_Mo_setNow 18 = .ok (.invokevirtual 248, 3) := by decide +kernel
theorem d_Mo_setNow_21 : decode b_Mo_setNow 21 = .ok (.iload_n 2, 1) := by decide +kernel
theorem d_Mo_setNow_22 : decode b_Mo_setNow 22 = .ok (.ireturn, 1) := by decide +kernel
theorem d_Mo_turnNow_0 : decode b_Mo_turnNow 0 = .ok (.aload_n 0, 1) := by decide +kernel
theorem d_Mo_turnNow_1 : decode b_Mo_turnNow 1 = .ok (.getfield 7, 3) := by decide +kernel
theorem d_Mo_turnNow_4 : decode b_Mo_turnNow 4 = .ok (.bipush 31, 2) := by decide +kernel
theorem d_Mo_turnNow_6 : decode b_Mo_turnNow 6 = .ok (.lconst 1, 1) := by decide +kernel
theorem d_Mo_turnNow_7 : decode b_Mo_turnNow 7 = .ok (.aload_n 0, 1) := by decide +kernel
theorem d_Mo_turnNow_8 : decode b_Mo_turnNow 8 = .ok (.getfield 7, 3) := by decide +kernel
theorem d_Mo_turnNow_11 : decode b_Mo_turnNow 11 = .ok (.bipush 31, 2) := by decide +kernel
theorem d_Mo_turnNow_13 : decode b_Mo_turnNow 13 = .ok (.laload, 1) := by decide +kernel
theorem d_Mo_turnNow_14 : decode b_Mo_turnNow 14 = .ok (.lsub, 1) := by decide +kernel
theorem d_Mo_turnNow_15 : decode b_Mo_turnNow 15 = .ok (.lastore, 1) := by decide +kernel
theorem d_Mo_turnNow_16 : decode b_Mo_turnNow 16 = .ok (.aload_n 0, 1) := by decide +kernel
theorem d_Mo_turnNow_17 : decode b_Mo_turnNow 17 = .ok (.getfield 7, 3) := by decide +kernel
theorem d_Mo_turnNow_20 : decode b_Mo_turnNow 20 = .ok (.bipush 31, 2) := by decide +kernel
theorem d_Mo_turnNow_22 : decode b_Mo_turnNow 22 = .ok (.laload, 1) := by decide +kernel
theorem d_Mo_turnNow_23 : decode b_Mo_turnNow 23 = .ok (.l2i, 1) := by decide +kernel
theorem d_Mo_turnNow_24 : decode b_Mo_turnNow 24 = .ok (.ireturn, 1) := by decide +kernel
theorem d_Mo_restNow_0 : decode b_Mo_restNow 0 = .ok (.iconst 0, 1) := by decide +kernel
theorem d_Mo_restNow_1 : decode b_Mo_restNow 1 = .ok (.istore_n 2, 1) := by decide +kernel
theorem d_Mo_restNow_2 : decode b_Mo_restNow 2 = .ok (.iload_n 2, 1) := by decide +kernel
theorem d_Mo_restNow_3 : decode b_Mo_restNow 3 = .ok (.iload_n 1, 1) := by decide +kernel
theorem d_Mo_restNow_4 : decode b_Mo_restNow 4 = .ok (.if_icmp .ge 14, 3) := by decide +kernel
theorem d_Mo_restNow_7 : decode b_Mo_restNow 7 = .ok (.aload_n 0, 1) := by decide +kernel
theorem d_Mo_restNow_8 : decode b_Mo_restNow 8 = .ok (.iconst 0, 1) := by decide +kernel
theorem d_Mo_restNow_9 : decode b_Mo_restNow 9 = .ok (.invokevirtual 227, 3) := by decide +kernel
theorem d_Mo_restNow_12 : decode b_Mo_restNow 12 = .ok (.iinc 2 1, 3) := by decide +kernel
theorem d_Mo_restNow_15 : decode b_Mo_restNow 15 = .ok (.goto (-13), 3) := by decide +kernel
theorem d_Mo_restNow_18 : decode b_Mo_restNow 18 = .ok (.aload_n 0, 1) := by decide +kernel
theorem d_Mo_restNow_19 : decode b_Mo_restNow 19 = .ok (.getfield 7, 3) := by decide +kernel
theorem d_Mo_restNow_22 : decode b_Mo_restNow 22 = .ok (.bipush 39, 2) := by decide +kernel
theorem d_Mo_restNow_24 : decode b_Mo_restNow 24 = .ok (.laload, 1) := by decide +kernel
theorem d_Mo_restNow_25 : decode b_Mo_restNow 25 = .ok (.l2i, 1) := by decide +kernel
theorem d_Mo_restNow_26 : decode b_Mo_restNow 26 = .ok (.ireturn, 1) := by decide +kernel
theorem d_Mo_whyNotRead_0 : decode b_Mo_whyNotRead 0 = .ok (.aload_n 0, 1) := by decide +kernel
theorem d_Mo_whyNotRead_1 : decode b_Mo_whyNotRead 1 = .ok (.getfield 7, 3) := by decide +kernel
theorem d_Mo_whyNotRead_4 : decode b_Mo_whyNotRead 4 = .ok (.bipush 22, 2) := by decide +kernel
theorem d_Mo_whyNotRead_6 : decode b_Mo_whyNotRead 6 = .ok (.laload, 1) := by decide +kernel
theorem d_Mo_whyNotRead_7 : decode b_Mo_whyNotRead 7 = .ok (.lconst 0, 1) := by decide +kernel
theorem d_Mo_whyNotRead_8 : decode b_Mo_whyNotRead 8 = .ok (.lcmp, 1) := by decide +kernel
theorem d_Mo_whyNotRead_9 : decode b_Mo_whyNotRead 9 = .ok (.ifCond .ne 8, 3) := by decide +kernel
theorem d_Mo_whyNotRead_12 : decode b_Mo_whyNotRead 12 = .ok (.bipush (-2), 2) := by decide +kernel
theorem d_Mo_whyNotRead_14 : decode b_Mo_whyNotRead 14 = .ok (.goto 16, 3) := by decide +kernel
theorem d_Mo_whyNotRead_17 : decode b_Mo_whyNotRead 17 = .ok (.aload_n 0, 1) := by decide +kernel
theorem d_Mo_whyNotRead_18 : decode b_Mo_whyNotRead 18 = .ok (.invokevirtual 234, 3) := by decide +kernel
theorem d_Mo_whyNotRead_21 : decode b_Mo_whyNotRead 21 = .ok (.ifCond .eq 7, 3) := by decide +kernel
theorem d_Mo_whyNotRead_24 : decode b_Mo_whyNotRead 24 = .ok (.iconst 0, 1) := by decide +kernel
theorem d_Mo_whyNotRead_25 : decode b_Mo_whyNotRead 25 = .ok (.goto 5, 3) := by decide +kernel
theorem d_Mo_whyNotRead_28 : decode b_Mo_whyNotRead 28 = .ok (.bipush (-3), 2) := by decide +kernel
theorem d_Mo_whyNotRead_30 : decode b_Mo_whyNotRead 30 = .ok (.ireturn, 1) := by decide +kernel
theorem d_Mo_setArms_0 : decode b_Mo_setArms 0 = .ok (.aload_n 0, 1) := by decide +kernel
theorem d_Mo_setArms_1 : decode b_Mo_setArms 1 = .ok (.iload_n 1, 1) := by decide +kernel
theorem d_Mo_setArms_2 : decode b_Mo_setArms 2 = .ok (.i2l, 1) := by decide +kernel
theorem d_Mo_setArms_3 : decode b_Mo_setArms 3 = .ok (.invokestatic 423, 3) := by decide +kernel
theorem d_Mo_setArms_6 : decode b_Mo_setArms 6 = .ok (.ifCond .eq 15, 3) := by decide +kernel
theorem d_Mo_setArms_9 : decode b_Mo_setArms 9 = .ok (.iload_n 2, 1) := by decide +kernel
theorem d_Mo_setArms_10 : decode b_Mo_setArms 10 = .ok (.i2l, 1) := by decide +kernel
theorem d_Mo_setArms_11 : decode b_Mo_setArms 11 = .ok (.invokestatic 423, 3) := by decide +kernel
theorem d_Mo_setArms_14 : decode b_Mo_setArms 14 = .ok (.ifCond .eq 7, 3) := by decide +kernel
theorem d_Mo_setArms_17 : decode b_Mo_setArms 17 = .ok (.iconst 0, 1) := by decide +kernel
theorem d_Mo_setArms_18 : decode b_Mo_setArms 18 = .ok (.goto 4, 3) := by decide +kernel
theorem d_Mo_setArms_21 : decode b_Mo_setArms 21 = .ok (.iconst 1, 1) := by decide +kernel
theorem d_Mo_setArms_22 : decode b_Mo_setArms 22 = .ok (.putfield 107, 3) := by decide +kernel
theorem d_Mo_setArms_25 : decode b_Mo_setArms 25 = .ok (.aload_n 0, 1) := by decide +kernel
theorem d_Mo_setArms_26 : decode b_Mo_setArms 26 = .ok (.getfield 107, 3) := by decide +kernel
theorem d_Mo_setArms_29 : decode b_Mo_setArms 29 = .ok (.ifCond .le 5, 3) := by decide +kernel
theorem d_Mo_setArms_32 : decode b_Mo_setArms 32 = .ok (.iconst 0, 1) := by decide +kernel
theorem d_Mo_setArms_33 : decode b_Mo_setArms 33 = .ok (.ireturn, 1) := by decide +kernel
theorem d_Mo_setArms_34 : decode b_Mo_setArms 34 = .ok (.aload_n 0, 1) := by decide +kernel
theorem d_Mo_setArms_35 : decode b_Mo_setArms 35 = .ok (.invokevirtual 484, 3) := by decide +kernel
theorem d_Mo_setArms_38 : decode b_Mo_setArms 38 = .ok (.aload_n 0, 1) := by decide +kernel
theorem d_Mo_setArms_39 : decode b_Mo_setArms 39 = .ok (.iload_n 1, 1) := by decide +kernel
theorem d_Mo_setArms_40 : decode b_Mo_setArms 40 = .ok (.i2l, 1) := by decide +kernel
theorem d_Mo_setArms_41 : decode b_Mo_setArms 41 = .ok (.iload_n 2, 1) := by decide +kernel
theorem d_Mo_setArms_42 : decode b_Mo_setArms 42 = .ok (.i2l, 1) := by decide +kernel
theorem d_Mo_setArms_43 : decode b_Mo_setArms 43 = .ok (.invokevirtual 487, 3) := by decide +kernel
theorem d_Mo_setArms_46 : decode b_Mo_setArms 46 = .ok (.ireturn, 1) := by decide +kernel
theorem d_Mo_setVolts_0 : decode b_Mo_setVolts 0 = .ok (.aload_n 0, 1) := by decide +kernel
theorem d_Mo_setVolts_1 : decode b_Mo_setVolts 1 = .ok (.iload_n 1, 1) := by decide +kernel
theorem d_Mo_setVolts_2 : decode b_Mo_setVolts 2 = .ok (.i2l, 1) := by decide +kernel
theorem d_Mo_setVolts_3 : decode b_Mo_setVolts 3 = .ok (.lconst 0, 1) := by decide +kernel
theorem d_Mo_setVolts_4 : decode b_Mo_setVolts 4 = .ok (.ldc2_w 356, 3) := by decide +kernel
theorem d_Mo_setVolts_7 : decode b_Mo_setVolts 7 = .ok (.invokestatic 118, 3) := by decide +kernel
theorem d_Mo_setVolts_10 : decode b_Mo_setVolts 10 = .ok (.ifCond .eq 7, 3) := by decide +kernel
theorem d_Mo_setVolts_13 : decode b_Mo_setVolts 13 = .ok (.iconst 0, 1) := by decide +kernel
theorem d_Mo_setVolts_14 : decode b_Mo_setVolts 14 = .ok (.goto 4, 3) := by decide +kernel
theorem d_Mo_setVolts_17 : decode b_Mo_setVolts 17 = .ok (.iconst 1, 1) := by decide +kernel
theorem d_Mo_setVolts_18 : decode b_Mo_setVolts 18 = .ok (.putfield 107, 3) := by decide +kernel
theorem d_Mo_setVolts_21 : decode b_Mo_setVolts 21 = .ok (.aload_n 0, 1) := by decide +kernel
theorem d_Mo_setVolts_22 : decode b_Mo_setVolts 22 = .ok (.getfield 107, 3) := by decide +kernel
theorem d_Mo_setVolts_25 : decode b_Mo_setVolts 25 = .ok (.ifCond .le 5, 3) := by decide +kernel
theorem d_Mo_setVolts_28 : decode b_Mo_setVolts 28 = .ok (.iconst 0, 1) := by decide +kernel
theorem d_Mo_setVolts_29 : decode b_Mo_setVolts 29 = .ok (.ireturn, 1) := by decide +kernel
theorem d_Mo_setVolts_30 : decode b_Mo_setVolts 30 = .ok (.aload_n 0, 1) := by decide +kernel
theorem d_Mo_setVolts_31 : decode b_Mo_setVolts 31 = .ok (.invokevirtual 484, 3) := by decide +kernel
theorem d_Mo_setVolts_34 : decode b_Mo_setVolts 34 = .ok (.aload_n 0, 1) := by decide +kernel
theorem d_Mo_setVolts_35 : decode b_Mo_setVolts 35 = .ok (.bipush 22, 2) := by decide +kernel
theorem d_Mo_setVolts_37 : decode b_Mo_setVolts 37 = .ok (.iload_n 1, 1) := by decide +kernel
theorem d_Mo_setVolts_38 : decode b_Mo_setVolts 38 = .ok (.i2l, 1) := by decide +kernel
theorem d_Mo_setVolts_39 : decode b_Mo_setVolts 39 = .ok (.invokevirtual 480, 3) := by decide +kernel
theorem d_Mo_setVolts_42 : decode b_Mo_setVolts 42 = .ok (.ireturn, 1) := by decide +kernel
theorem d_Mo_setTo_0 : decode b_Mo_setTo 0 = .ok (.aload_n 0, 1) := by decide +kernel
theorem d_Mo_setTo_1 : decode b_Mo_setTo 1 = .ok (.iload_n 1, 1) := by decide +kernel
theorem d_Mo_setTo_2 : decode b_Mo_setTo 2 = .ok (.ifCond .lt 7, 3) := by decide +kernel
theorem d_Mo_setTo_5 : decode b_Mo_setTo 5 = .ok (.iconst 0, 1) := by decide +kernel
theorem d_Mo_setTo_6 : decode b_Mo_setTo 6 = .ok (.goto 4, 3) := by decide +kernel
theorem d_Mo_setTo_9 : decode b_Mo_setTo 9 = .ok (.iconst 1, 1) := by decide +kernel
theorem d_Mo_setTo_10 : decode b_Mo_setTo 10 = .ok (.putfield 107, 3) := by decide +kernel
theorem d_Mo_setTo_13 : decode b_Mo_setTo 13 = .ok (.aload_n 0, 1) := by decide +kernel
theorem d_Mo_setTo_14 : decode b_Mo_setTo 14 = .ok (.getfield 107, 3) := by decide +kernel
theorem d_Mo_setTo_17 : decode b_Mo_setTo 17 = .ok (.ifCond .le 5, 3) := by decide +kernel
theorem d_Mo_setTo_20 : decode b_Mo_setTo 20 = .ok (.iconst 0, 1) := by decide +kernel
theorem d_Mo_setTo_21 : decode b_Mo_setTo 21 = .ok (.ireturn, 1) := by decide +kernel
theorem d_Mo_setTo_22 : decode b_Mo_setTo 22 = .ok (.aload_n 0, 1) := by decide +kernel
theorem d_Mo_setTo_23 : decode b_Mo_setTo 23 = .ok (.iload_n 1, 1) := by decide +kernel
theorem d_Mo_setTo_24 : decode b_Mo_setTo 24 = .ok (.invokevirtual 426, 3) := by decide +kernel
theorem d_Mo_setTo_27 : decode b_Mo_setTo 27 = .ok (.ifCond .ne 6, 3) := by decide +kernel
theorem d_Mo_setTo_30 : decode b_Mo_setTo 30 = .ok (.bipush (-2), 2) := by decide +kernel
theorem d_Mo_setTo_32 : decode b_Mo_setTo 32 = .ok (.ireturn, 1) := by decide +kernel
theorem d_Mo_setTo_33 : decode b_Mo_setTo 33 = .ok (.aload_n 0, 1) := by decide +kernel
theorem d_Mo_setTo_34 : decode b_Mo_setTo 34 = .ok (.invokevirtual 484, 3) := by decide +kernel
theorem d_Mo_setTo_37 : decode b_Mo_setTo 37 = .ok (.aload_n 0, 1) := by decide +kernel
theorem d_Mo_setTo_38 : decode b_Mo_setTo 38 = .ok (.iload_n 1, 1) := by decide +kernel
theorem d_Mo_setTo_39 : decode b_Mo_setTo 39 = .ok (.invokevirtual 491, 3) := by decide +kernel
theorem d_Mo_setTo_42 : decode b_Mo_setTo 42 = .ok (.ireturn, 1) := by decide +kernel
theorem d_Mo_setDigit_0 : decode b_Mo_setDigit 0 = .ok (.aload_n 0, 1) := by decide +kernel
theorem d_Mo_setDigit_1 : decode b_Mo_setDigit 1 = .ok (.iload_n 1, 1) := by decide +kernel
theorem d_Mo_setDigit_2 : decode b_Mo_setDigit 2 = .ok (.i2l, 1) := by decide +kernel
theorem d_Mo_setDigit_3 : decode b_Mo_setDigit 3 = .ok (.lconst 0, 1) := by decide +kernel
theorem d_Mo_setDigit_4 : decode b_Mo_setDigit 4 = .ok (.aload_n 0, 1) := by decide +kernel
theorem d_Mo_setDigit_5 : decode b_Mo_setDigit 5 = .ok (.invokevirtual 130, 3) := by decide +kernel
theorem d_Mo_setDigit_8 : decode b_Mo_setDigit 8 = .ok (.i2l, 1) := by decide +kernel
theorem d_Mo_setDigit_9 : decode b_Mo_setDigit 9 = .ok (.lconst 1, 1) := by decide +kernel
theorem d_Mo_setDigit_10 : decode b_Mo_setDigit 10 = .ok (.lsub, 1) := by decide +kernel
theorem d_Mo_setDigit_11 : decode b_Mo_setDigit 11 = .ok (.invokestatic 118, 3) := by decide +kernel
theorem d_Mo_setDigit_14 : decode b_Mo_setDigit 14 = .ok (.ifCond .ne 7, 3) := by decide +kernel
theorem d_Mo_setDigit_17 : decode b_Mo_setDigit 17 = .ok (.iconst 1, 1) := by decide +kernel
theorem d_Mo_setDigit_18 : decode b_Mo_setDigit 18 = .ok (.goto 20, 3) := by decide +kernel
theorem d_Mo_setDigit_21 : decode b_Mo_setDigit 21 = .ok (.iload_n 2, 1) := by decide +kernel
theorem d_Mo_setDigit_22 : decode b_Mo_setDigit 22 = .ok (.i2l, 1) := by decide +kernel
theorem d_Mo_setDigit_23 : decode b_Mo_setDigit 23 = .ok (.lconst 0, 1) := by decide +kernel
theorem d_Mo_setDigit_24 : decode b_Mo_setDigit 24 = .ok (.ldc2_w 238, 3) := by decide +kernel
theorem d_Mo_setDigit_27 : decode b_Mo_setDigit 27 = .ok (.invokestatic 118, 3) := by decide +kernel
theorem d_Mo_setDigit_30 : decode b_Mo_setDigit 30 = .ok (.ifCond .eq 7, 3) := by decide +kernel
theorem d_Mo_setDigit_33 : decode b_Mo_setDigit 33 = .ok (.iconst 0, 1) := by decide +kernel
theorem d_Mo_setDigit_34 : decode b_Mo_setDigit 34 = .ok (.goto 4, 3) := by decide +kernel
theorem d_Mo_setDigit_37 : decode b_Mo_setDigit 37 = .ok (.iconst 2, 1) := by decide +kernel
theorem d_Mo_setDigit_38 : decode b_Mo_setDigit 38 = .ok (.putfield 107, 3) := by decide +kernel
theorem d_Mo_setDigit_41 : decode b_Mo_setDigit 41 = .ok (.aload_n 0, 1) := by decide +kernel
theorem d_Mo_setDigit_42 : decode b_Mo_setDigit 42 = .ok (.getfield 107, 3) := by decide +kernel
theorem d_Mo_setDigit_45 : decode b_Mo_setDigit 45 = .ok (.ifCond .le 5, 3) := by decide +kernel
theorem d_Mo_setDigit_48 : decode b_Mo_setDigit 48 = .ok (.iconst 0, 1) := by decide +kernel
theorem d_Mo_setDigit_49 : decode b_Mo_setDigit 49 = .ok (.ireturn, 1) := by decide +kernel
theorem d_Mo_setDigit_50 : decode b_Mo_setDigit 50 = .ok (.aload_n 0, 1) := by decide +kernel
theorem d_Mo_setDigit_51 : decode b_Mo_setDigit 51 = .ok (.invokevirtual 484, 3) := by decide +kernel
theorem d_Mo_setDigit_54 : decode b_Mo_setDigit 54 = .ok (.aload_n 0, 1) := by decide +kernel
theorem d_Mo_setDigit_55 : decode b_Mo_setDigit 55 = .ok (.getfield 7, 3) := by decide +kernel
theorem d_Mo_setDigit_58 : decode b_Mo_setDigit 58 = .ok (.bipush 33, 2) := by decide +kernel
theorem d_Mo_setDigit_60 : decode b_Mo_setDigit 60 = .ok (.iload_n 1, 1) := by decide +kernel
theorem d_Mo_setDigit_61 : decode b_Mo_setDigit 61 = .ok (.iadd, 1) := by decide +kernel
theorem d_Mo_setDigit_62 : decode b_Mo_setDigit 62 = .ok (.iload_n 2, 1) := by decide +kernel
theorem d_Mo_setDigit_63 : decode b_Mo_setDigit 63 = .ok (.i2l, 1) := by decide +kernel
theorem d_Mo_setDigit_64 : decode b_Mo_setDigit 64 = .ok (.lastore, 1) := by decide +kernel
theorem d_Mo_setDigit_65 : decode b_Mo_setDigit 65 = .ok (.aload_n 0, 1) := by decide +kernel
theorem d_Mo_setDigit_66 : decode b_Mo_setDigit 66 = .ok (.invokevirtual 176, 3) := by decide +kernel
theorem d_Mo_setDigit_69 : decode b_Mo_setDigit 69 = .ok (.ireturn, 1) := by decide +kernel
theorem d_Mo_turn_0 : decode b_Mo_turn 0 = .ok (.aload_n 0, 1) := by decide +kernel
theorem d_Mo_turn_1 : decode b_Mo_turn 1 = .ok (.iconst 0, 1) := by decide +kernel
theorem d_Mo_turn_2 : decode b_Mo_turn 2 = .ok (.putfield 107, 3) := by decide +kernel
theorem d_Mo_turn_5 : decode b_Mo_turn 5 = .ok (.aload_n 0, 1) := by decide +kernel
theorem d_Mo_turn_6 : decode b_Mo_turn 6 = .ok (.invokevirtual 484, 3) := by decide +kernel
theorem d_Mo_turn_9 : decode b_Mo_turn 9 = .ok (.aload_n 0, 1) := by decide +kernel
theorem d_Mo_turn_10 : decode b_Mo_turn 10 = .ok (.invokevirtual 494, 3) := by decide +kernel
theorem d_Mo_turn_13 : decode b_Mo_turn 13 = .ok (.ireturn, 1) := by decide +kernel
theorem d_Mo_connect_0 : decode b_Mo_connect 0 = .ok (.aload_n 0, 1) := by decide +kernel
theorem d_Mo_connect_1 : decode b_Mo_connect 1 = .ok (.iload_n 1, 1) := by decide +kernel
theorem d_Mo_connect_2 : decode b_Mo_connect 2 = .ok (.i2l, 1) := by decide +kernel
theorem d_Mo_connect_3 : decode b_Mo_connect 3 = .ok (.ldc2_w 100, 3) := by decide +kernel
theorem d_Mo_connect_6 : decode b_Mo_connect 6 = .ok (.ldc2_w 153, 3) := by decide +kernel
theorem d_Mo_connect_9 : decode b_Mo_connect 9 = .ok (.invokestatic 118, 3) := by decide +kernel
theorem d_Mo_connect_12 : decode b_Mo_connect 12 = .ok (.ifCond .eq 7, 3) := by decide +kernel
theorem d_Mo_connect_15 : decode b_Mo_connect 15 = .ok (.iconst 0, 1) := by decide +kernel
theorem d_Mo_connect_16 : decode b_Mo_connect 16 = .ok (.goto 4, 3) := by decide +kernel
theorem d_Mo_connect_19 : decode b_Mo_connect 19 = .ok (.iconst 1, 1) := by decide +kernel
theorem d_Mo_connect_20 : decode b_Mo_connect 20 = .ok (.putfield 107, 3) := by decide +kernel
theorem d_Mo_connect_23 : decode b_Mo_connect 23 = .ok (.aload_n 0, 1) := by decide +kernel
theorem d_Mo_connect_24 : decode b_Mo_connect 24 = .ok (.getfield 107, 3) := by decide +kernel
theorem d_Mo_connect_27 : decode b_Mo_connect 27 = .ok (.ifCond .le 5, 3) := by decide +kernel
theorem d_Mo_connect_30 : decode b_Mo_connect 30 = .ok (.iconst 0, 1) := by decide +kernel
theorem d_Mo_connect_31 : decode b_Mo_connect 31 = .ok (.ireturn, 1) := by decide +kernel
theorem d_Mo_connect_32 : decode b_Mo_connect 32 = .ok (.aload_n 0, 1) := by decide +kernel
theorem d_Mo_connect_33 : decode b_Mo_connect 33 = .ok (.invokevirtual 484, 3) := by decide +kernel
theorem d_Mo_connect_36 : decode b_Mo_connect 36 = .ok (.aload_n 0, 1) := by decide +kernel
theorem d_Mo_connect_37 : decode b_Mo_connect 37 = .ok (.bipush 32, 2) := by decide +kernel
theorem d_Mo_connect_39 : decode b_Mo_connect 39 = .ok (.iload_n 1, 1) := by decide +kernel
theorem d_Mo_connect_40 : decode b_Mo_connect 40 = .ok (.i2l, 1) := by decide +kernel
theorem d_Mo_connect_41 : decode b_Mo_connect 41 = .ok (.invokevirtual 480, 3) := by decide +kernel
theorem d_Mo_connect_44 : decode b_Mo_connect 44 = .ok (.ireturn, 1) := by decide +kernel
theorem d_Mo_rest_0 : decode b_Mo_rest 0 = .ok (.aload_n 0, 1) := by decide +kernel
theorem d_Mo_rest_1 : decode b_Mo_rest 1 = .ok (.iload_n 1, 1) := by decide +kernel
theorem d_Mo_rest_2 : decode b_Mo_rest 2 = .ok (.i2l, 1) := by decide +kernel
theorem d_Mo_rest_3 : decode b_Mo_rest 3 = .ok (.lconst 1, 1) := by decide +kernel
theorem d_Mo_rest_4 : decode b_Mo_rest 4 = .ok (.ldc2_w 354, 3) := by decide +kernel
theorem d_Mo_rest_7 : decode b_Mo_rest 7 = .ok (.invokestatic 118, 3) := by decide +kernel
theorem d_Mo_rest_10 : decode b_Mo_rest 10 = .ok (.ifCond .eq 7, 3) := by decide +kernel
theorem d_Mo_rest_13 : decode b_Mo_rest 13 = .ok (.iconst 0, 1) := by decide +kernel
theorem d_Mo_rest_14 : decode b_Mo_rest 14 = .ok (.goto 4, 3) := by decide +kernel
theorem d_Mo_rest_17 : decode b_Mo_rest 17 = .ok (.iconst 1, 1) := by decide +kernel
theorem d_Mo_rest_18 : decode b_Mo_rest 18 = .ok (.putfield 107, 3) := by decide +kernel
theorem d_Mo_rest_21 : decode b_Mo_rest 21 = .ok (.aload_n 0, 1) := by decide +kernel
theorem d_Mo_rest_22 : decode b_Mo_rest 22 = .ok (.getfield 107, 3) := by decide +kernel
theorem d_Mo_rest_25 : decode b_Mo_rest 25 = .ok (.ifCond .le 5, 3) := by decide +kernel
theorem d_Mo_rest_28 : decode b_Mo_rest 28 = .ok (.iconst 0, 1) := by decide +kernel
theorem d_Mo_rest_29 : decode b_Mo_rest 29 = .ok (.ireturn, 1) := by decide +kernel
theorem d_Mo_rest_30 : decode b_Mo_rest 30 = .ok (.aload_n 0, 1) := by decide +kernel
theorem d_Mo_rest_31 : decode b_Mo_rest 31 = .ok (.invokevirtual 484, 3) := by decide +kernel
theorem d_Mo_rest_34 : decode b_Mo_rest 34 = .ok (.aload_n 0, 1) := by decide +kernel
theorem d_Mo_rest_35 : decode b_Mo_rest 35 = .ok (.iload_n 1, 1) := by decide +kernel
theorem d_Mo_rest_36 : decode b_Mo_rest 36 = .ok (.invokevirtual 497, 3) := by decide +kernel
theorem d_Mo_rest_39 : decode b_Mo_rest 39 = .ok (.ireturn, 1) := by decide +kernel
theorem d_Mo_read_0 : decode b_Mo_read 0 = .ok (.aload_n 0, 1) := by decide +kernel
theorem d_Mo_read_1 : decode b_Mo_read 1 = .ok (.iconst 0, 1) := by decide +kernel
theorem d_Mo_read_2 : decode b_Mo_read 2 = .ok (.putfield 107, 3) := by decide +kernel
theorem d_Mo_read_5 : decode b_Mo_read 5 = .ok (.aload_n 0, 1) := by decide +kernel
theorem d_Mo_read_6 : decode b_Mo_read 6 = .ok (.invokevirtual 500, 3) := by decide +kernel
theorem d_Mo_read_9 : decode b_Mo_read 9 = .ok (.ifCond .ge 8, 3) := by decide +kernel
theorem d_Mo_read_12 : decode b_Mo_read 12 = .ok (.aload_n 0, 1) := by decide +kernel
theorem d_Mo_read_13 : decode b_Mo_read 13 = .ok (.invokevirtual 500, 3) := by decide +kernel
theorem d_Mo_read_16 : decode b_Mo_read 16 = .ok (.ireturn, 1) := by decide +kernel
theorem d_Mo_read_17 : decode b_Mo_read 17 = .ok (.aload_n 0, 1) := by decide +kernel
theorem d_Mo_read_18 : decode b_Mo_read 18 = .ok (.invokevirtual 484, 3) := by decide +kernel
theorem d_Mo_read_21 : decode b_Mo_read 21 = .ok (.aload_n 0, 1) := by decide +kernel
theorem d_Mo_read_22 : decode b_Mo_read 22 = .ok (.invokevirtual 231, 3) := by decide +kernel
theorem d_Mo_read_25 : decode b_Mo_read 25 = .ok (.lstore_n 1, 1) := by decide +kernel
theorem d_Mo_read_26 : decode b_Mo_read 26 = .ok (.aload_n 0, 1) := by decide +kernel
theorem d_Mo_read_27 : decode b_Mo_read 27 = .ok (.getfield 7, 3) := by decide +kernel
theorem d_Mo_read_30 : decode b_Mo_read 30 = .ok (.bipush 43, 2) := by decide +kernel
theorem d_Mo_read_32 : decode b_Mo_read 32 = .ok (.laload, 1) := by decide +kernel
theorem d_Mo_read_33 : decode b_Mo_read 33 = .ok (.l2i, 1) := by decide +kernel
theorem d_Mo_read_34 : decode b_Mo_read 34 = .ok (.ireturn, 1) := by decide +kernel
theorem d_Mo_balance_0 : decode b_Mo_balance 0 = .ok (.aload_n 0, 1) := by decide +kernel
theorem d_Mo_balance_1 : decode b_Mo_balance 1 = .ok (.iconst 0, 1) := by decide +kernel
theorem d_Mo_balance_2 : decode b_Mo_balance 2 = .ok (.putfield 107, 3) := by decide +kernel
theorem d_Mo_balance_5 : decode b_Mo_balance 5 = .ok (.aload_n 0, 1) := by decide +kernel
theorem d_Mo_balance_6 : decode b_Mo_balance 6 = .ok (.getfield 7, 3) := by decide +kernel
theorem d_Mo_balance_9 : decode b_Mo_balance 9 = .ok (.bipush 22, 2) := by decide +kernel
theorem d_Mo_balance_11 : decode b_Mo_balance 11 = .ok (.laload, 1) := by decide +kernel
theorem d_Mo_balance_12 : decode b_Mo_balance 12 = .ok (.lconst 0, 1) := by decide +kernel
theorem d_Mo_balance_13 : decode b_Mo_balance 13 = .ok (.lcmp, 1) := by decide +kernel
theorem d_Mo_balance_14 : decode b_Mo_balance 14 = .ok (.ifCond .ne 6, 3) := by decide +kernel
theorem d_Mo_balance_17 : decode b_Mo_balance 17 = .ok (.bipush (-2), 2) := by decide +kernel
theorem d_Mo_balance_19 : decode b_Mo_balance 19 = .ok (.ireturn, 1) := by decide +kernel
theorem d_Mo_balance_20 : decode b_Mo_balance 20 = .ok (.aload_n 0, 1) := by decide +kernel
theorem d_Mo_balance_21 : decode b_Mo_balance 21 = .ok (.invokevirtual 484, 3) := by decide +kernel
theorem d_Mo_balance_24 : decode b_Mo_balance 24 = .ok (.aload_n 0, 1) := by decide +kernel
theorem d_Mo_balance_25 : decode b_Mo_balance 25 = .ok (.iload_n 1, 1) := by decide +kernel
theorem d_Mo_balance_26 : decode b_Mo_balance 26 = .ok (.invokevirtual 503, 3) := by decide +kernel
theorem d_Mo_balance_29 : decode b_Mo_balance 29 = .ok (.ireturn, 1) := by decide +kernel
theorem d_Mo_stepHere_0 : decode b_Mo_stepHere 0 = .ok (.iconst 0, 1) := by decide +kernel
theorem d_Mo_stepHere_1 : decode b_Mo_stepHere 1 = .ok (.istore_n 1, 1) := by decide +kernel
theorem d_Mo_stepHere_2 : decode b_Mo_stepHere 2 = .ok (.iload_n 1, 1) := by decide +kernel
theorem d_Mo_stepHere_3 : decode b_Mo_stepHere 3 = .ok (.aload_n 0, 1) := by decide +kernel
theorem d_Mo_stepHere_4 : decode b_Mo_stepHere 4 = .ok (.getfield 65, 3) := by decide +kernel
theorem d_Mo_stepHere_7 : decode b_Mo_stepHere 7 = .ok (.arraylength, 1) := by decide +kernel
theorem d_Mo_stepHere_8 : decode b_Mo_stepHere 8 = .ok (.if_icmp .ge 24, 3) := by decide +kernel
theorem d_Mo_stepHere_11 : decode b_Mo_stepHere 11 = .ok (.aload_n 0, 1) := by decide +kernel
theorem d_Mo_stepHere_12 : decode b_Mo_stepHere 12 = .ok (.aload_n 0, 1) := by decide +kernel
theorem d_Mo_stepHere_13 : decode b_Mo_stepHere 13 = .ok (.getfield 65, 3) := by decide +kernel
theorem d_Mo_stepHere_16 : decode b_Mo_stepHere 16 = .ok (.iload_n 1, 1) := by decide +kernel
theorem d_Mo_stepHere_17 : decode b_Mo_stepHere 17 = .ok (.aaload, 1) := by decide +kernel
theorem d_Mo_stepHere_18 : decode b_Mo_stepHere 18 = .ok (.invokevirtual 307, 3) := by decide +kernel
theorem d_Mo_stepHere_21 : decode b_Mo_stepHere 21 = .ok (.ifCond .eq 5, 3) := by decide +kernel
theorem d_Mo_stepHere_24 : decode b_Mo_stepHere 24 = .ok (.iload_n 1, 1) := by decide +kernel
theorem d_Mo_stepHere_25 : decode b_Mo_stepHere 25 = .ok (.ireturn, 1) := by decide +kernel
theorem d_Mo_stepHere_26 : decode b_Mo_stepHere 26 = .ok (.iinc 1 1, 3) := by decide +kernel
theorem d_Mo_stepHere_29 : decode b_Mo_stepHere 29 = .ok (.goto (-27), 3) := by decide +kernel
theorem d_Mo_stepHere_32 : decode b_Mo_stepHere 32 = .ok (.iconst (-1), 1) := by decide +kernel
theorem d_Mo_stepHere_33 : decode b_Mo_stepHere 33 = .ok (.ireturn, 1) := by decide +kernel
theorem d_Mo_first_0 : decode b_Mo_first 0 = .ok (.iload_n 1, 1) := by decide +kernel
theorem d_Mo_first_1 : decode b_Mo_first 1 = .ok (.tableswitch 139 0 8 #[51, 61, 71, 139, 81, 93, 103, 113, 129], 51) := by decide +kernel
theorem d_Mo_first_52 : decode b_Mo_first 52 = .ok (.aload_n 0, 1) := by decide +kernel
theorem d_Mo_first_53 : decode b_Mo_first 53 = .ok (.lconst 0, 1) := by decide +kernel
theorem d_Mo_first_54 : decode b_Mo_first 54 = .ok (.ldc2_w 116, 3) := by decide +kernel
theorem d_Mo_first_57 : decode b_Mo_first 57 = .ok (.invokevirtual 334, 3) := by decide +kernel
theorem d_Mo_first_60 : decode b_Mo_first 60 = .ok (.l2i, 1) := by decide +kernel
theorem d_Mo_first_61 : decode b_Mo_first 61 = .ok (.ireturn, 1) := by decide +kernel
theorem d_Mo_first_62 : decode b_Mo_first 62 = .ok (.aload_n 0, 1) := by decide +kernel
theorem d_Mo_first_63 : decode b_Mo_first 63 = .ok (.lconst 0, 1) := by decide +kernel
theorem d_Mo_first_64 : decode b_Mo_first 64 = .ok (.ldc2_w 356, 3) := by decide +kernel
theorem d_Mo_first_67 : decode b_Mo_first 67 = .ok (.invokevirtual 334, 3) := by decide +kernel
theorem d_Mo_first_70 : decode b_Mo_first 70 = .ok (.l2i, 1) := by decide +kernel
theorem d_Mo_first_71 : decode b_Mo_first 71 = .ok (.ireturn, 1) := by decide +kernel
theorem d_Mo_first_72 : decode b_Mo_first 72 = .ok (.aload_n 0, 1) := by decide +kernel
theorem d_Mo_first_73 : decode b_Mo_first 73 = .ok (.lconst 0, 1) := by decide +kernel
theorem d_Mo_first_74 : decode b_Mo_first 74 = .ok (.ldc2_w 358, 3) := by decide +kernel
theorem d_Mo_first_77 : decode b_Mo_first 77 = .ok (.invokevirtual 334, 3) := by decide +kernel
theorem d_Mo_first_80 : decode b_Mo_first 80 = .ok (.l2i, 1) := by decide +kernel
theorem d_Mo_first_81 : decode b_Mo_first 81 = .ok (.ireturn, 1) := by decide +kernel
theorem d_Mo_first_82 : decode b_Mo_first 82 = .ok (.aload_n 0, 1) := by decide +kernel
theorem d_Mo_first_83 : decode b_Mo_first 83 = .ok (.ldc2_w 100, 3) := by decide +kernel
theorem d_Mo_first_86 : decode b_Mo_first 86 = .ok (.ldc2_w 153, 3) := by decide +kernel
theorem d_Mo_first_89 : decode b_Mo_first 89 = .ok (.invokevirtual 334, 3) := by decide +kernel
theorem d_Mo_first_92 : decode b_Mo_first 92 = .ok (.l2i, 1) := by decide +kernel
theorem d_Mo_first_93 : decode b_Mo_first 93 = .ok (.ireturn, 1) := by decide +kernel
theorem d_Mo_first_94 : decode b_Mo_first 94 = .ok (.aload_n 0, 1) := by decide +kernel
theorem d_Mo_first_95 : decode b_Mo_first 95 = .ok (.lconst 1, 1) := by decide +kernel
theorem d_Mo_first_96 : decode b_Mo_first 96 = .ok (.ldc2_w 354, 3) := by decide +kernel
theorem d_Mo_first_99 : decode b_Mo_first 99 = .ok (.invokevirtual 334, 3) := by decide +kernel
theorem d_Mo_first_102 : decode b_Mo_first 102 = .ok (.l2i, 1) := by decide +kernel
theorem d_Mo_first_103 : decode b_Mo_first 103 = .ok (.ireturn, 1) := by decide +kernel
theorem d_Mo_first_104 : decode b_Mo_first 104 = .ok (.aload_n 0, 1) := by decide +kernel
theorem d_Mo_first_105 : decode b_Mo_first 105 = .ok (.lconst 1, 1) := by decide +kernel
theorem d_Mo_first_106 : decode b_Mo_first 106 = .ok (.ldc2_w 243, 3) := by decide +kernel
theorem d_Mo_first_109 : decode b_Mo_first 109 = .ok (.invokevirtual 334, 3) := by decide +kernel
theorem d_Mo_first_112 : decode b_Mo_first 112 = .ok (.l2i, 1) := by decide +kernel
theorem d_Mo_first_113 : decode b_Mo_first 113 = .ok (.ireturn, 1) := by decide +kernel
theorem d_Mo_first_114 : decode b_Mo_first 114 = .ok (.aload_n 0, 1) := by decide +kernel
theorem d_Mo_first_115 : decode b_Mo_first 115 = .ok (.ldc_w 506, 3) := by decide +kernel
theorem d_Mo_first_118 : decode b_Mo_first 118 = .ok (.invokevirtual 508, 3) := by decide +kernel
theorem d_Mo_first_121 : decode b_Mo_first 121 = .ok (.ifCond .eq 7, 3) := by decide +kernel
theorem d_Mo_first_124 : decode b_Mo_first 124 = .ok (.iconst 1, 1) := by decide +kernel
theorem d_Mo_first_125 : decode b_Mo_first 125 = .ok (.goto 4, 3) := by decide +kernel
theorem d_Mo_first_128 : decode b_Mo_first 128 = .ok (.iconst 0, 1) := by decide +kernel
theorem d_Mo_first_129 : decode b_Mo_first 129 = .ok (.ireturn, 1) := by decide +kernel
theorem d_Mo_first_130 : decode b_Mo_first 130 = .ok (.aload_n 0, 1) := by decide +kernel
theorem d_Mo_first_131 : decode b_Mo_first 131 = .ok (.lconst 0, 1) := by decide +kernel
theorem d_Mo_first_132 : decode b_Mo_first 132 = .ok (.ldc2_w 243, 3) := by decide +kernel
theorem d_Mo_first_135 : decode b_Mo_first 135 = .ok (.invokevirtual 334, 3) := by decide +kernel
theorem d_Mo_first_138 : decode b_Mo_first 138 = .ok (.l2i, 1) := by decide +kernel
theorem d_Mo_first_139 : decode b_Mo_first 139 = .ok (.ireturn, 1) := by decide +kernel
theorem d_Mo_first_140 : decode b_Mo_first 140 = .ok (.iconst 0, 1) := by decide +kernel
theorem d_Mo_first_141 : decode b_Mo_first 141 = .ok (.ireturn, 1) := by decide +kernel
theorem d_Mo_readStep_0 : decode b_Mo_readStep 0 = .ok (.aload_n 0, 1) := by decide +kernel
theorem d_Mo_readStep_1 : decode b_Mo_readStep 1 = .ok (.invokevirtual 511, 3) := by decide +kernel
theorem d_Mo_readStep_4 : decode b_Mo_readStep 4 = .ok (.istore_n 2, 1) := by decide +kernel
theorem d_Mo_readStep_5 : decode b_Mo_readStep 5 = .ok (.aload_n 0, 1) := by decide +kernel
theorem d_Mo_readStep_6 : decode b_Mo_readStep 6 = .ok (.iload_n 2, 1) := by decide +kernel
theorem d_Mo_readStep_7 : decode b_Mo_readStep 7 = .ok (.iconst (-1), 1) := by decide +kernel
theorem d_Mo_readStep_8 : decode b_Mo_readStep 8 = .ok (.if_icmp .eq 7, 3) := by decide +kernel
theorem d_Mo_readStep_11 : decode b_Mo_readStep 11 = .ok (.iconst 1, 1) := by decide +kernel
theorem d_Mo_readStep_12 : decode b_Mo_readStep 12 = .ok (.goto 4, 3) := by decide +kernel
theorem d_Mo_readStep_15 : decode b_Mo_readStep 15 = .ok (.iconst 0, 1) := by decide +kernel
theorem d_Mo_readStep_16 : decode b_Mo_readStep 16 = .ok (.iconst 1, 1) := by decide +kernel
theorem d_Mo_readStep_17 : decode b_Mo_readStep 17 = .ok (.invokevirtual 314, 3) := by decide +kernel
theorem d_Mo_readStep_20 : decode b_Mo_readStep 20 = .ok (.aload_n 0, 1) := by decide +kernel
theorem d_Mo_readStep_21 : decode b_Mo_readStep 21 = .ok (.aload_n 0, 1) := by decide +kernel
theorem d_Mo_readStep_22 : decode b_Mo_readStep 22 = .ok (.getfield 514, 3) := by decide +kernel
theorem d_Mo_readStep_25 : decode b_Mo_readStep 25 = .ok (.bipush 30, 2) := by decide +kernel
theorem d_Mo_readStep_27 : decode b_Mo_readStep 27 = .ok (.if_icmp .ge 7, 3) := by decide +kernel
theorem d_Mo_readStep_30 : decode b_Mo_readStep 30 = .ok (.iconst 1, 1) := by decide +kernel
theorem d_Mo_readStep_31 : decode b_Mo_readStep 31 = .ok (.goto 4, 3) := by decide +kernel
theorem d_Mo_readStep_34 : decode b_Mo_readStep 34 = .ok (.iconst 0, 1) := by decide +kernel
theorem d_Mo_readStep_35 : decode b_Mo_readStep 35 = .ok (.iconst 4, 1) := by decide +kernel
theorem d_Mo_readStep_36 : decode b_Mo_readStep 36 = .ok (.invokevirtual 314, 3) := by decide +kernel
theorem d_Mo_readStep_39 : decode b_Mo_readStep 39 = .ok (.aload_n 0, 1) := by decide +kernel
theorem d_Mo_readStep_40 : decode b_Mo_readStep 40 = .ok (.invokevirtual 297, 3) := by decide +kernel
theorem d_Mo_readStep_43 : decode b_Mo_readStep 43 = .ok (.ifCond .ne 5, 3) := by decide +kernel
theorem d_Mo_readStep_46 : decode b_Mo_readStep 46 = .ok (.iconst 0, 1) := by decide +kernel
theorem d_Mo_readStep_47 : decode b_Mo_readStep 47 = .ok (.ireturn, 1) := by decide +kernel
theorem d_Mo_readStep_48 : decode b_Mo_readStep 48 = .ok (.aload_n 0, 1) := by decide +kernel
theorem d_Mo_readStep_49 : decode b_Mo_readStep 49 = .ok (.getfield 514, 3) := by decide +kernel
theorem d_Mo_readStep_52 : decode b_Mo_readStep 52 = .ok (.istore_n 3, 1) := by decide +kernel
theorem d_Mo_readStep_53 : decode b_Mo_readStep 53 = .ok (.aload_n 0, 1) := by decide +kernel
theorem d_Mo_readStep_54 : decode b_Mo_readStep 54 = .ok (.dup, 1) := by decide +kernel
theorem d_Mo_readStep_55 : decode b_Mo_readStep 55 = .ok (.getfield 514, 3) := by decide +kernel
theorem d_Mo_readStep_58 : decode b_Mo_readStep 58 = .ok (.iconst 1, 1) := by decide +kernel
theorem d_Mo_readStep_59 : decode b_Mo_readStep 59 = .ok (.iadd, 1) := by decide +kernel
theorem d_Mo_readStep_60 : decode b_Mo_readStep 60 = .ok (.putfield 514, 3) := by decide +kernel
theorem d_Mo_readStep_63 : decode b_Mo_readStep 63 = .ok (.aload_n 0, 1) := by decide +kernel
theorem d_Mo_readStep_64 : decode b_Mo_readStep 64 = .ok (.invokevirtual 318, 3) := by decide +kernel
theorem d_Mo_readStep_67 : decode b_Mo_readStep 67 = .ok (.aload_n 0, 1) := by decide +kernel
theorem d_Mo_readStep_68 : decode b_Mo_readStep 68 = .ok (.getfield 69, 3) := by decide +kernel
theorem d_Mo_readStep_71 : decode b_Mo_readStep 71 = .ok (.iload_n 3, 1) := by decide +kernel
theorem d_Mo_readStep_72 : decode b_Mo_readStep 72 = .ok (.iload_n 2, 1) := by decide +kernel
theorem d_Mo_readStep_73 : decode b_Mo_readStep 73 = .ok (.iastore, 1) := by decide +kernel
theorem d_Mo_readStep_74 : decode b_Mo_readStep 74 = .ok (.iload_n 2, 1) := by decide +kernel
theorem d_Mo_readStep_75 : decode b_Mo_readStep 75 = .ok (.bipush 9, 2) := by decide +kernel
theorem d_Mo_readStep_77 : decode b_Mo_readStep 77 = .ok (.if_icmp .ne 15, 3) := by decide +kernel
theorem d_Mo_readStep_80 : decode b_Mo_readStep 80 = .ok (.aload_n 0, 1) := by decide +kernel
theorem d_Mo_readStep_81 : decode b_Mo_readStep 81 = .ok (.aload_n 0, 1) := by decide +kernel
theorem d_Mo_readStep_82 : decode b_Mo_readStep 82 = .ok (.ldc_w 517, 3) := by decide +kernel
theorem d_Mo_readStep_85 : decode b_Mo_readStep 85 = .ok (.invokevirtual 508, 3) := by decide +kernel
theorem d_Mo_readStep_88 : decode b_Mo_readStep 88 = .ok (.iconst 1, 1) := by decide +kernel
theorem d_Mo_readStep_89 : decode b_Mo_readStep 89 = .ok (.invokevirtual 314, 3) := by decide +kernel
theorem d_Mo_readStep_92 : decode b_Mo_readStep 92 = .ok (.aload_n 0, 1) := by decide +kernel
theorem d_Mo_readStep_93 : decode b_Mo_readStep 93 = .ok (.getfield 72, 3) := by decide +kernel
theorem d_Mo_readStep_96 : decode b_Mo_readStep 96 = .ok (.iload_n 3, 1) := by decide +kernel
theorem d_Mo_readStep_97 : decode b_Mo_readStep 97 = .ok (.aload_n 0, 1) := by decide +kernel
theorem d_Mo_readStep_98 : decode b_Mo_readStep 98 = .ok (.iload_n 2, 1) := by decide +kernel
theorem d_Mo_readStep_99 : decode b_Mo_readStep 99 = .ok (.invokevirtual 519, 3) := by decide +kernel
theorem d_Mo_readStep_102 : decode b_Mo_readStep 102 = .ok (.iastore, 1) := by decide +kernel
theorem d_Mo_readStep_103 : decode b_Mo_readStep 103 = .ok (.aload_n 0, 1) := by decide +kernel
theorem d_Mo_readStep_104 : decode b_Mo_readStep 104 = .ok (.getfield 75, 3) := by decide +kernel
theorem d_Mo_readStep_107 : decode b_Mo_readStep 107 = .ok (.iload_n 3, 1) := by decide +kernel
theorem d_Mo_readStep_108 : decode b_Mo_readStep 108 = .ok (.iload_n 2, 1) := by decide +kernel
theorem d_Mo_readStep_109 : decode b_Mo_readStep 109 = .ok (.ifCond .ne 15, 3) := by decide +kernel
theorem d_Mo_readStep_112 : decode b_Mo_readStep 112 = .ok (.aload_n 0, 1) := by decide +kernel
theorem d_Mo_readStep_113 : decode b_Mo_readStep 113 = .ok (.lconst 0, 1) := by decide +kernel
theorem d_Mo_readStep_114 : decode b_Mo_readStep 114 = .ok (.ldc2_w 116, 3) := by decide +kernel
theorem d_Mo_readStep_117 : decode b_Mo_readStep 117 = .ok (.invokevirtual 334, 3) := by decide +kernel
theorem d_Mo_readStep_120 : decode b_Mo_readStep 120 = .ok (.l2i, 1) := by decide +kernel
theorem d_Mo_readStep_121 : decode b_Mo_readStep 121 = .ok (.goto 4, 3) := by decide +kernel
theorem d_Mo_readStep_124 : decode b_Mo_readStep 124 = .ok (.iconst 0, 1) := by decide +kernel
theorem d_Mo_readStep_125 : decode b_Mo_readStep 125 = .ok (.iastore, 1) := by decide +kernel
theorem d_Mo_readStep_126 : decode b_Mo_readStep 126 = .ok (.aload_n 0, 1) := by decide +kernel
theorem d_Mo_readStep_127 : decode b_Mo_readStep 127 = .ok (.getfield 78, 3) := by decide +kernel
theorem d_Mo_readStep_130 : decode b_Mo_readStep 130 = .ok (.iload_n 3, 1) := by decide +kernel
theorem d_Mo_readStep_131 : decode b_Mo_readStep 131 = .ok (.aload_n 0, 1) := by decide +kernel
theorem d_Mo_readStep_132 : decode b_Mo_readStep 132 = .ok (.getfield 514, 3) := by decide +kernel
theorem d_Mo_readStep_135 : decode b_Mo_readStep 135 = .ok (.iastore, 1) := by decide +kernel
theorem d_Mo_readStep_136 : decode b_Mo_readStep 136 = .ok (.iload_n 2, 1) := by decide +kernel
theorem d_Mo_readStep_137 : decode b_Mo_readStep 137 = .ok (.bipush 8, 2) := by decide +kernel
theorem d_Mo_readStep_139 : decode b_Mo_readStep 139 = .ok (.if_icmp .ge 5, 3) := by decide +kernel
theorem d_Mo_readStep_142 : decode b_Mo_readStep 142 = .ok (.iconst 0, 1) := by decide +kernel
theorem d_Mo_readStep_143 : decode b_Mo_readStep 143 = .ok (.ireturn, 1) := by decide +kernel
theorem d_Mo_readStep_144 : decode b_Mo_readStep 144 = .ok (.aload_n 0, 1) := by decide +kernel
theorem d_Mo_readStep_145 : decode b_Mo_readStep 145 = .ok (.aload_n 0, 1) := by decide +kernel
theorem d_Mo_readStep_146 : decode b_Mo_readStep 146 = .ok (.bipush 40, 2) := by decide +kernel
theorem d_Mo_readStep_148 : decode b_Mo_readStep 148 = .ok (.invokevirtual 311, 3) := by decide +kernel
theorem d_Mo_readStep_151 : decode b_Mo_readStep 151 = .ok (.iconst 1, 1) := by decide +kernel
theorem d_Mo_readStep_152 : decode b_Mo_readStep 152 = .ok (.invokevirtual 314, 3) := by decide +kernel
theorem d_Mo_readStep_155 : decode b_Mo_readStep 155 = .ok (.aload_n 0, 1) := by decide +kernel
theorem d_Mo_readStep_156 : decode b_Mo_readStep 156 = .ok (.iload_n 1, 1) := by decide +kernel
theorem d_Mo_readStep_157 : decode b_Mo_readStep 157 = .ok (.iconst 2, 1) := by decide +kernel
theorem d_Mo_readStep_158 : decode b_Mo_readStep 158 = .ok (.if_icmp .ge 7, 3) := by decide +kernel
theorem d_Mo_readStep_161 : decode b_Mo_readStep 161 = .ok (.iconst 1, 1) := by decide +kernel
theorem d_Mo_readStep_162 : decode b_Mo_readStep 162 = .ok (.goto 4, 3) := by decide +kernel
theorem d_Mo_readStep_165 : decode b_Mo_readStep 165 = .ok (.iconst 0, 1) := by decide +kernel
theorem d_Mo_readStep_166 : decode b_Mo_readStep 166 = .ok (.iconst 3, 1) := by decide +kernel
theorem d_Mo_readStep_167 : decode b_Mo_readStep 167 = .ok (.invokevirtual 314, 3) := by decide +kernel
theorem d_Mo_readStep_170 : decode b_Mo_readStep 170 = .ok (.aload_n 0, 1) := by decide +kernel
theorem d_Mo_readStep_171 : decode b_Mo_readStep 171 = .ok (.invokevirtual 318, 3) := by decide +kernel
theorem d_Mo_readStep_174 : decode b_Mo_readStep 174 = .ok (.aload_n 0, 1) := by decide +kernel
theorem d_Mo_readStep_175 : decode b_Mo_readStep 175 = .ok (.invokevirtual 297, 3) := by decide +kernel
theorem d_Mo_readStep_178 : decode b_Mo_readStep 178 = .ok (.ireturn, 1) := by decide +kernel
theorem d_Mo_readProtocol_0 : decode b_Mo_readProtocol 0 = .ok (.iconst 0, 1) := by decide +kernel
theorem d_Mo_readProtocol_1 : decode b_Mo_readProtocol 1 = .ok (.istore_n 1, 1) := by decide +kernel
theorem d_Mo_readProtocol_2 : decode b_Mo_readProtocol 2 = .ok (.aload_n 0, 1) := by decide +kernel
theorem d_Mo_readProtocol_3 : decode b_Mo_readProtocol 3 = .ok (.iconst 0, 1) := by decide +kernel
theorem d_Mo_readProtocol_4 : decode b_Mo_readProtocol 4 = .ok (.putfield 514, 3) := by decide +kernel
theorem d_Mo_readProtocol_7 : decode b_Mo_readProtocol 7 = .ok (.aload_n 0, 1) := by decide +kernel
theorem d_Mo_readProtocol_8 : decode b_Mo_readProtocol 8 = .ok (.invokevirtual 297, 3) := by decide +kernel
theorem d_Mo_readProtocol_11 : decode b_Mo_readProtocol 11 = .ok (.ifCond .eq 93, 3) := by decide +kernel
theorem d_Mo_readProtocol_14 : decode b_Mo_readProtocol 14 = .ok (.iload_n 1, 1) := by decide +kernel
theorem d_Mo_readProtocol_15 : decode b_Mo_readProtocol 15 = .ok (.ifCond .gt 10, 3) := by decide +kernel
theorem d_Mo_readProtocol_18 : decode b_Mo_readProtocol 18 = .ok (.aload_n 0, 1) := by decide +kernel
theorem d_Mo_readProtocol_19 : decode b_Mo_readProtocol 19 = .ok (.getfield 288, 3) := by decide +kernel
theorem d_Mo_readProtocol_22 : decode b_Mo_readProtocol 22 = .ok (.ifCond .eq 82, 3) := by decide +kernel
theorem d_Mo_readProtocol_25 : decode b_Mo_readProtocol 25 = .ok (.iload_n 1, 1) := by decide +kernel
theorem d_Mo_readProtocol_26 : decode b_Mo_readProtocol 26 = .ok (.ifCond .le 43, 3) := by decide +kernel
theorem d_Mo_readProtocol_29 : decode b_Mo_readProtocol 29 = .ok (.aload_n 0, 1) := by decide +kernel
theorem d_Mo_readProtocol_30 : decode b_Mo_readProtocol 30 = .ok (.bipush 41, 2) := by decide +kernel
theorem d_Mo_readProtocol_32 : decode b_Mo_readProtocol 32 = .ok (.invokevirtual 311, 3) := by decide +kernel
theorem d_Mo_readProtocol_35 : decode b_Mo_readProtocol 35 = .ok (.ifCond .eq 34, 3) := by decide +kernel
theorem d_Mo_readProtocol_38 : decode b_Mo_readProtocol 38 = .ok (.iinc 1 (-1), 3) := by decide +kernel
theorem d_Mo_readProtocol_41 : decode b_Mo_readProtocol 41 = .ok (.aload_n 0, 1) := by decide +kernel
theorem d_Mo_readProtocol_42 : decode b_Mo_readProtocol 42 = .ok (.getfield 78, 3) := by decide +kernel
theorem d_Mo_readProtocol_45 : decode b_Mo_readProtocol 45 = .ok (.aload_n 0, 1) := by decide +kernel
theorem d_Mo_readProtocol_46 : decode b_Mo_readProtocol 46 = .ok (.getfield 81, 3) := by decide +kernel
theorem d_Mo_readProtocol_49 : decode b_Mo_readProtocol 49 = .ok (.iload_n 1, 1) := by decide +kernel
theorem d_Mo_readProtocol_50 : decode b_Mo_readProtocol 50 = .ok (.iaload, 1) := by decide +kernel
theorem d_Mo_readProtocol_51 : decode b_Mo_readProtocol 51 = .ok (.aload_n 0, 1) := by decide +kernel
theorem d_Mo_readProtocol_52 : decode b_Mo_readProtocol 52 = .ok (.getfield 514, 3) := by decide +kernel
theorem d_Mo_readProtocol_55 : decode b_Mo_readProtocol 55 = .ok (.iastore, 1) := by decide +kernel
theorem d_Mo_readProtocol_56 : decode b_Mo_readProtocol 56 = .ok (.aload_n 0, 1) := by decide +kernel
theorem d_Mo_readProtocol_57 : decode b_Mo_readProtocol 57 = .ok (.invokevirtual 318, 3) := by decide +kernel
theorem d_Mo_readProtocol_60 : decode b_Mo_readProtocol 60 = .ok (.aload_n 0, 1) := by decide +kernel
theorem d_Mo_readProtocol_61 : decode b_Mo_readProtocol 61 = .ok (.bipush 59, 2) := by decide +kernel
theorem d_Mo_readProtocol_63 : decode b_Mo_readProtocol 63 = .ok (.invokevirtual 522, 3) := by decide +kernel
theorem d_Mo_readProtocol_66 : decode b_Mo_readProtocol 66 = .ok (.goto (-59), 3) := by decide +kernel
theorem d_Mo_readProtocol_69 : decode b_Mo_readProtocol 69 = .ok (.aload_n 0, 1) := by decide +kernel
theorem d_Mo_readProtocol_70 : decode b_Mo_readProtocol 70 = .ok (.iload_n 1, 1) := by decide +kernel
theorem d_Mo_readProtocol_71 : decode b_Mo_readProtocol 71 = .ok (.invokevirtual 525, 3) := by decide +kernel
theorem d_Mo_readProtocol_74 : decode b_Mo_readProtocol 74 = .ok (.ifCond .eq 21, 3) := by decide +kernel
theorem d_Mo_readProtocol_77 : decode b_Mo_readProtocol 77 = .ok (.aload_n 0, 1) := by decide +kernel
theorem d_Mo_readProtocol_78 : decode b_Mo_readProtocol 78 = .ok (.getfield 81, 3) := by decide +kernel
theorem d_Mo_readProtocol_81 : decode b_Mo_readProtocol 81 = .ok (.iload_n 1, 1) := by decide +kernel
theorem d_Mo_readProtocol_82 : decode b_Mo_readProtocol 82 = .ok (.aload_n 0, 1) := by decide +kernel
theorem d_Mo_readProtocol_83 : decode b_Mo_readProtocol 83 = .ok (.getfield 514, 3) := by decide +kernel
theorem d_Mo_readProtocol_86 : decode b_Mo_readProtocol 86 = .ok (.iconst 1, 1) := by decide +kernel
theorem d_Mo_readProtocol_87 : decode b_Mo_readProtocol 87 = .ok (.isub, 1) := by decide +kernel
theorem d_Mo_readProtocol_88 : decode b_Mo_readProtocol 88 = .ok (.iastore, 1) := by decide +kernel
theorem d_Mo_readProtocol_89 : decode b_Mo_readProtocol 89 = .ok (.iinc 1 1, 3) := by decide +kernel
theorem d_Mo_readProtocol_92 : decode b_Mo_readProtocol 92 = .ok (.goto (-85), 3) := by decide +kernel
theorem d_Mo_readProtocol_95 : decode b_Mo_readProtocol 95 = .ok (.aload_n 0, 1) := by decide +kernel
theorem d_Mo_readProtocol_96 : decode b_Mo_readProtocol 96 = .ok (.bipush 59, 2) := by decide +kernel
theorem d_Mo_readProtocol_98 : decode b_Mo_readProtocol 98 = .ok (.invokevirtual 522, 3) := by decide +kernel
theorem d_Mo_readProtocol_101 : decode b_Mo_readProtocol 101 = .ok (.goto (-94), 3) := by decide +kernel
theorem d_Mo_readProtocol_104 : decode b_Mo_readProtocol 104 = .ok (.return_, 1) := by decide +kernel
theorem d_Mo_readsNow_0 : decode b_Mo_readsNow 0 = .ok (.iconst 0, 1) := by decide +kernel
theorem d_Mo_readsNow_1 : decode b_Mo_readsNow 1 = .ok (.istore_n 2, 1) := by decide +kernel
theorem d_Mo_readsNow_2 : decode b_Mo_readsNow 2 = .ok (.iload_n 2, 1) := by decide +kernel
theorem d_Mo_readsNow_3 : decode b_Mo_readsNow 3 = .ok (.iload_n 1, 1) := by decide +kernel
theorem d_Mo_readsNow_4 : decode b_Mo_readsNow 4 = .ok (.if_icmp .ge 26, 3) := by decide +kernel
theorem d_Mo_readsNow_7 : decode b_Mo_readsNow 7 = .ok (.aload_n 0, 1) := by decide +kernel
theorem d_Mo_readsNow_8 : decode b_Mo_readsNow 8 = .ok (.invokevirtual 500, 3) := by decide +kernel
theorem d_Mo_readsNow_11 : decode b_Mo_readsNow 11 = .ok (.ifCond .ge 8, 3) := by decide +kernel
theorem d_Mo_readsNow_14 : decode b_Mo_readsNow 14 = .ok (.aload_n 0, 1) := by decide +kernel
theorem d_Mo_readsNow_15 : decode b_Mo_readsNow 15 = .ok (.invokevirtual 500, 3) := by decide +kernel
theorem d_Mo_readsNow_18 : decode b_Mo_readsNow 18 = .ok (.ireturn, 1) := by decide +kernel
theorem d_Mo_readsNow_19 : decode b_Mo_readsNow 19 = .ok (.aload_n 0, 1) := by decide +kernel
theorem d_Mo_readsNow_20 : decode b_Mo_readsNow 20 = .ok (.invokevirtual 231, 3) := by decide +kernel
theorem d_Mo_readsNow_23 : decode b_Mo_readsNow 23 = .ok (.lstore_n 3, 1) := by decide +kernel
theorem d_Mo_readsNow_24 : decode b_Mo_readsNow 24 = .ok (.iinc 2 1, 3) := by decide +kernel
theorem d_Mo_readsNow_27 : decode b_Mo_readsNow 27 = .ok (.goto (-25), 3) := by decide +kernel
theorem d_Mo_readsNow_30 : decode b_Mo_readsNow 30 = .ok (.iconst 0, 1) := by decide +kernel
theorem d_Mo_readsNow_31 : decode b_Mo_readsNow 31 = .ok (.ireturn, 1) := by decide +kernel
theorem d_Mo_doStep_0 : decode b_Mo_doStep 0 = .ok (.aload_n 0, 1) := by decide +kernel
theorem d_Mo_doStep_1 : decode b_Mo_doStep 1 = .ok (.getfield 69, 3) := by decide +kernel
theorem d_Mo_doStep_4 : decode b_Mo_doStep 4 = .ok (.iload_n 1, 1) := by decide +kernel
theorem d_Mo_doStep_5 : decode b_Mo_doStep 5 = .ok (.iaload, 1) := by decide +kernel
theorem d_Mo_doStep_6 : decode b_Mo_doStep 6 = .ok (.tableswitch 127 0 6 #[42, 61, 75, 86, 91, 105, 116], 42) := by decide +kernel
theorem d_Mo_doStep_48 : decode b_Mo_doStep 48 = .ok (.aload_n 0, 1) := by decide +kernel
theorem d_Mo_doStep_49 : decode b_Mo_doStep 49 = .ok (.aload_n 0, 1) := by decide +kernel
theorem d_Mo_doStep_50 : decode b_Mo_doStep 50 = .ok (.getfield 72, 3) := by decide +kernel
theorem d_Mo_doStep_53 : decode b_Mo_doStep 53 = .ok (.iload_n 1, 1) := by decide +kernel
theorem d_Mo_doStep_54 : decode b_Mo_doStep 54 = .ok (.iaload, 1) := by decide +kernel
theorem d_Mo_doStep_55 : decode b_Mo_doStep 55 = .ok (.i2l, 1) := by decide +kernel
theorem d_Mo_doStep_56 : decode b_Mo_doStep 56 = .ok (.aload_n 0, 1) := by decide +kernel
theorem d_Mo_doStep_57 : decode b_Mo_doStep 57 = .ok (.getfield 75, 3) := by decide +kernel
theorem d_Mo_doStep_60 : decode b_Mo_doStep 60 = .ok (.iload_n 1, 1) := by decide +kernel
theorem d_Mo_doStep_61 : decode b_Mo_doStep 61 = .ok (.iaload, 1) := by decide +kernel
theorem d_Mo_doStep_62 : decode b_Mo_doStep 62 = .ok (.i2l, 1) := by decide +kernel
theorem d_Mo_doStep_63 : decode b_Mo_doStep 63 = .ok (.invokevirtual 487, 3) := by decide +kernel
theorem d_Mo_doStep_66 : decode b_Mo_doStep 66 = .ok (.ireturn, 1) := by decide +kernel
theorem d_Mo_doStep_67 : decode b_Mo_doStep 67 = .ok (.aload_n 0, 1) := by decide +kernel
theorem d_Mo_doStep_68 : decode b_Mo_doStep 68 = .ok (.bipush 22, 2) := by decide +kernel
theorem d_Mo_doStep_70 : decode b_Mo_doStep 70 = .ok (.aload_n 0, 1) := by decide +kernel
theorem d_Mo_doStep_71 : decode b_Mo_doStep 71 = .ok (.getfield 72, 3) := by decide +kernel
theorem d_Mo_doStep_74 : decode b_Mo_doStep 74 = .ok (.iload_n 1, 1) := by decide +kernel
theorem d_Mo_doStep_75 : decode b_Mo_doStep 75 = .ok (.iaload, 1) := by decide +kernel
theorem d_Mo_doStep_76 : decode b_Mo_doStep 76 = .ok (.i2l, 1) := by decide +kernel
theorem d_Mo_doStep_77 : decode b_Mo_doStep 77 = .ok (.invokevirtual 480, 3) := by decide +kernel
theorem d_Mo_doStep_80 : decode b_Mo_doStep 80 = .ok (.ireturn, 1) := by decide +kernel
theorem d_Mo_doStep_81 : decode b_Mo_doStep 81 = .ok (.aload_n 0, 1) := by decide +kernel
theorem d_Mo_doStep_82 : decode b_Mo_doStep 82 = .ok (.aload_n 0, 1) := by decide +kernel
theorem d_Mo_doStep_83 : decode b_Mo_doStep 83 = .ok (.getfield 72, 3) := by decide +kernel
theorem d_Mo_doStep_86 : decode b_Mo_doStep 86 = .ok (.iload_n 1, 1) := by decide +kernel
theorem d_Mo_doStep_87 : decode b_Mo_doStep 87 = .ok (.iaload, 1) := by decide +kernel
theorem d_Mo_doStep_88 : decode b_Mo_doStep 88 = .ok (.invokevirtual 491, 3) := by decide +kernel
theorem d_Mo_doStep_91 : decode b_Mo_doStep 91 = .ok (.ireturn, 1) := by decide +kernel
theorem d_Mo_doStep_92 : decode b_Mo_doStep 92 = .ok (.aload_n 0, 1) := by decide +kernel
theorem d_Mo_doStep_93 : decode b_Mo_doStep 93 = .ok (.invokevirtual 494, 3) := by decide +kernel
theorem d_Mo_doStep_96 : decode b_Mo_doStep 96 = .ok (.ireturn, 1) := by decide +kernel
theorem d_Mo_doStep_97 : decode b_Mo_doStep 97 = .ok (.aload_n 0, 1) := by decide +kernel
theorem d_Mo_doStep_98 : decode b_Mo_doStep 98 = .ok (.bipush 32, 2) := by decide +kernel
theorem d_Mo_doStep_100 : decode b_Mo_doStep 100 = .ok (.aload_n 0, 1) := by decide +kernel
theorem d_Mo_doStep_101 : decode b_Mo_doStep 101 = .ok (.getfield 72, 3) := by decide +kernel
theorem d_Mo_doStep_104 : decode b_Mo_doStep 104 = .ok (.iload_n 1, 1) := by decide +kernel
theorem d_Mo_doStep_105 : decode b_Mo_doStep 105 = .ok (.iaload, 1) := by decide +kernel
theorem d_Mo_doStep_106 : decode b_Mo_doStep 106 = .ok (.i2l, 1) := by decide +kernel
theorem d_Mo_doStep_107 : decode b_Mo_doStep 107 = .ok (.invokevirtual 480, 3) := by decide +kernel
theorem d_Mo_doStep_110 : decode b_Mo_doStep 110 = .ok (.ireturn, 1) := by decide +kernel
theorem d_Mo_doStep_111 : decode b_Mo_doStep 111 = .ok (.aload_n 0, 1) := by decide +kernel
theorem d_Mo_doStep_112 : decode b_Mo_doStep 112 = .ok (.aload_n 0, 1) := by decide +kernel
theorem d_Mo_doStep_113 : decode b_Mo_doStep 113 = .ok (.getfield 72, 3) := by decide +kernel
theorem d_Mo_doStep_116 : decode b_Mo_doStep 116 = .ok (.iload_n 1, 1) := by decide +kernel
theorem d_Mo_doStep_117 : decode b_Mo_doStep 117 = .ok (.iaload, 1) := by decide +kernel
theorem d_Mo_doStep_118 : decode b_Mo_doStep 118 = .ok (.invokevirtual 497, 3) := by decide +kernel
theorem d_Mo_doStep_121 : decode b_Mo_doStep 121 = .ok (.ireturn, 1) := by decide +kernel
theorem d_Mo_doStep_122 : decode b_Mo_doStep 122 = .ok (.aload_n 0, 1) := by decide +kernel
theorem d_Mo_doStep_123 : decode b_Mo_doStep 123 = .ok (.aload_n 0, 1) := by decide +kernel
theorem d_Mo_doStep_124 : decode b_Mo_doStep 124 = .ok (.getfield 72, 3) := by decide +kernel
theorem d_Mo_doStep_127 : decode b_Mo_doStep 127 = .ok (.iload_n 1, 1) := by decide +kernel
theorem d_Mo_doStep_128 : decode b_Mo_doStep 128 = .ok (.iaload, 1) := by decide +kernel
theorem d_Mo_doStep_129 : decode b_Mo_doStep 129 = .ok (.invokevirtual 528, 3) := by decide +kernel
theorem d_Mo_doStep_132 : decode b_Mo_doStep 132 = .ok (.ireturn, 1) := by decide +kernel
theorem d_Mo_doStep_133 : decode b_Mo_doStep 133 = .ok (.aload_n 0, 1) := by decide +kernel
theorem d_Mo_doStep_134 : decode b_Mo_doStep 134 = .ok (.aload_n 0, 1) := by decide +kernel
theorem d_Mo_doStep_135 : decode b_Mo_doStep 135 = .ok (.getfield 72, 3) := by decide +kernel
theorem d_Mo_doStep_138 : decode b_Mo_doStep 138 = .ok (.iload_n 1, 1) := by decide +kernel
theorem d_Mo_doStep_139 : decode b_Mo_doStep 139 = .ok (.iaload, 1) := by decide +kernel
theorem d_Mo_doStep_140 : decode b_Mo_doStep 140 = .ok (.iconst 1, 1) := by decide +kernel
theorem d_Mo_doStep_141 : decode b_Mo_doStep 141 = .ok (.if_icmp .ne 7, 3) := by decide +kernel
theorem d_Mo_doStep_144 : decode b_Mo_doStep 144 = .ok (.iconst 1, 1) := by decide +kernel
theorem d_Mo_doStep_145 : decode b_Mo_doStep 145 = .ok (.goto 4, 3) := by decide +kernel
theorem d_Mo_doStep_148 : decode b_Mo_doStep 148 = .ok (.iconst 0, 1) := by decide +kernel
theorem d_Mo_doStep_149 : decode b_Mo_doStep 149 = .ok (.invokevirtual 503, 3) := by decide +kernel
theorem d_Mo_doStep_152 : decode b_Mo_doStep 152 = .ok (.ireturn, 1) := by decide +kernel
theorem d_Mo_timesOf_0 : decode b_Mo_timesOf 0 = .ok (.aload_n 0, 1) := by decide +kernel
theorem d_Mo_timesOf_1 : decode b_Mo_timesOf 1 = .ok (.getfield 7, 3) := by decide +kernel
theorem d_Mo_timesOf_4 : decode b_Mo_timesOf 4 = .ok (.bipush 43, 2) := by decide +kernel
theorem d_Mo_timesOf_6 : decode b_Mo_timesOf 6 = .ok (.laload, 1) := by decide +kernel
theorem d_Mo_timesOf_7 : decode b_Mo_timesOf 7 = .ok (.lconst 0, 1) := by decide +kernel
theorem d_Mo_timesOf_8 : decode b_Mo_timesOf 8 = .ok (.lcmp, 1) := by decide +kernel
theorem d_Mo_timesOf_9 : decode b_Mo_timesOf 9 = .ok (.ifCond .le 21, 3) := by decide +kernel
theorem d_Mo_timesOf_12 : decode b_Mo_timesOf 12 = .ok (.aload_n 0, 1) := by decide +kernel
theorem d_Mo_timesOf_13 : decode b_Mo_timesOf 13 = .ok (.aload_n 0, 1) := by decide +kernel
theorem d_Mo_timesOf_14 : decode b_Mo_timesOf 14 = .ok (.getfield 7, 3) := by decide +kernel
theorem d_Mo_timesOf_17 : decode b_Mo_timesOf 17 = .ok (.bipush 44, 2) := by decide +kernel
theorem d_Mo_timesOf_19 : decode b_Mo_timesOf 19 = .ok (.laload, 1) := by decide +kernel
theorem d_Mo_timesOf_20 : decode b_Mo_timesOf 20 = .ok (.invokevirtual 223, 3) := by decide +kernel
theorem d_Mo_timesOf_23 : decode b_Mo_timesOf 23 = .ok (.ifCond .eq 7, 3) := by decide +kernel
theorem d_Mo_timesOf_26 : decode b_Mo_timesOf 26 = .ok (.iconst 1, 1) := by decide +kernel
theorem d_Mo_timesOf_27 : decode b_Mo_timesOf 27 = .ok (.goto 4, 3) := by decide +kernel
theorem d_Mo_timesOf_30 : decode b_Mo_timesOf 30 = .ok (.iconst 0, 1) := by decide +kernel
theorem d_Mo_timesOf_31 : decode b_Mo_timesOf 31 = .ok (.istore_n 2, 1) := by decide +kernel
theorem d_Mo_timesOf_32 : decode b_Mo_timesOf 32 = .ok (.aload_n 0, 1) := by decide +kernel
theorem d_Mo_timesOf_33 : decode b_Mo_timesOf 33 = .ok (.getfield 69, 3) := by decide +kernel
theorem d_Mo_timesOf_36 : decode b_Mo_timesOf 36 = .ok (.iload_n 1, 1) := by decide +kernel
theorem d_Mo_timesOf_37 : decode b_Mo_timesOf 37 = .ok (.iaload, 1) := by decide +kernel
theorem d_Mo_timesOf_38 : decode b_Mo_timesOf 38 = .ok (.bipush 8, 2) := by decide +kernel
theorem d_Mo_timesOf_40 : decode b_Mo_timesOf 40 = .ok (.if_icmp .ne 12, 3) := by decide +kernel
theorem d_Mo_timesOf_43 : decode b_Mo_timesOf 43 = .ok (.aload_n 0, 1) := by decide +kernel
theorem d_Mo_timesOf_44 : decode b_Mo_timesOf 44 = .ok (.getfield 72, 3) := by decide +kernel
theorem d_Mo_timesOf_47 : decode b_Mo_timesOf 47 = .ok (.iload_n 1, 1) := by decide +kernel
theorem d_Mo_timesOf_48 : decode b_Mo_timesOf 48 = .ok (.iaload, 1) := by decide +kernel
theorem d_Mo_timesOf_49 : decode b_Mo_timesOf 49 = .ok (.goto 12, 3) := by decide +kernel
theorem d_Mo_timesOf_52 : decode b_Mo_timesOf 52 = .ok (.iload_n 2, 1) := by decide +kernel
theorem d_Mo_timesOf_53 : decode b_Mo_timesOf 53 = .ok (.ifCond .eq 7, 3) := by decide +kernel
theorem d_Mo_timesOf_56 : decode b_Mo_timesOf 56 = .ok (.iconst 0, 1) := by decide +kernel
theorem d_Mo_timesOf_57 : decode b_Mo_timesOf 57 = .ok (.goto 4, 3) := by decide +kernel
theorem d_Mo_timesOf_60 : decode b_Mo_timesOf 60 = .ok (.iconst 1, 1) := by decide +kernel
theorem d_Mo_timesOf_61 : decode b_Mo_timesOf 61 = .ok (.ireturn, 1) := by decide +kernel
theorem d_Mo_doSteps_0 : decode b_Mo_doSteps 0 = .ok (.iconst 0, 1) := by decide +kernel
theorem d_Mo_doSteps_1 : decode b_Mo_doSteps 1 = .ok (.istore_n 1, 1) := by decide +kernel
theorem d_Mo_doSteps_2 : decode b_Mo_doSteps 2 = .ok (.iconst 0, 1) := by decide +kernel
theorem d_Mo_doSteps_3 : decode b_Mo_doSteps 3 = .ok (.istore_n 2, 1) := by decide +kernel
theorem d_Mo_doSteps_4 : decode b_Mo_doSteps 4 = .ok (.iconst 0, 1) := by decide +kernel
theorem d_Mo_doSteps_5 : decode b_Mo_doSteps 5 = .ok (.istore_n 3, 1) := by decide +kernel
theorem d_Mo_doSteps_6 : decode b_Mo_doSteps 6 = .ok (.iload_n 1, 1) := by decide +kernel
theorem d_Mo_doSteps_7 : decode b_Mo_doSteps 7 = .ok (.bipush 60, 2) := by decide +kernel
theorem d_Mo_doSteps_9 : decode b_Mo_doSteps 9 = .ok (.if_icmp .ge 184, 3) := by decide +kernel
theorem d_Mo_doSteps_12 : decode b_Mo_doSteps 12 = .ok (.iload_n 2, 1) := by decide +kernel
theorem d_Mo_doSteps_13 : decode b_Mo_doSteps 13 = .ok (.ifCond .gt 11, 3) := by decide +kernel
theorem d_Mo_doSteps_16 : decode b_Mo_doSteps 16 = .ok (.iload_n 3, 1) := by decide +kernel
theorem d_Mo_doSteps_17 : decode b_Mo_doSteps 17 = .ok (.aload_n 0, 1) := by decide +kernel
theorem d_Mo_doSteps_18 : decode b_Mo_doSteps 18 = .ok (.getfield 514, 3) := by decide +kernel
theorem d_Mo_doSteps_21 : decode b_Mo_doSteps 21 = .ok (.if_icmp .ge 172, 3) := by decide +kernel
theorem d_Mo_doSteps_24 : decode b_Mo_doSteps 24 = .ok (.iload_n 2, 1) := by decide +kernel
theorem d_Mo_doSteps_25 : decode b_Mo_doSteps 25 = .ok (.ifCond .le 73, 3) := by decide +kernel
theorem d_Mo_doSteps_28 : decode b_Mo_doSteps 28 = .ok (.iload_n 3, 1) := by decide +kernel
theorem d_Mo_doSteps_29 : decode b_Mo_doSteps 29 = .ok (.aload_n 0, 1) := by decide +kernel
theorem d_Mo_doSteps_30 : decode b_Mo_doSteps 30 = .ok (.getfield 87, 3) := by decide +kernel
theorem d_Mo_doSteps_33 : decode b_Mo_doSteps 33 = .ok (.iload_n 2, 1) := by decide +kernel
theorem d_Mo_doSteps_34 : decode b_Mo_doSteps 34 = .ok (.iconst 1, 1) := by decide +kernel
theorem d_Mo_doSteps_35 : decode b_Mo_doSteps 35 = .ok (.isub, 1) := by decide +kernel
theorem d_Mo_doSteps_36 : decode b_Mo_doSteps 36 = .ok (.iaload, 1) := by decide +kernel
theorem d_Mo_doSteps_37 : decode b_Mo_doSteps 37 = .ok (.if_icmp .ne 61, 3) := by decide +kernel
theorem d_Mo_doSteps_40 : decode b_Mo_doSteps 40 = .ok (.aload_n 0, 1) := by decide +kernel
theorem d_Mo_doSteps_41 : decode b_Mo_doSteps 41 = .ok (.getfield 90, 3) := by decide +kernel
theorem d_Mo_doSteps_44 : decode b_Mo_doSteps 44 = .ok (.iload_n 2, 1) := by decide +kernel
theorem d_Mo_doSteps_45 : decode b_Mo_doSteps 45 = .ok (.iconst 1, 1) := by decide +kernel
theorem d_Mo_doSteps_46 : decode b_Mo_doSteps 46 = .ok (.isub, 1) := by decide +kernel
theorem d_Mo_doSteps_47 : decode b_Mo_doSteps 47 = .ok (.dup2, 1) := by decide +kernel
theorem d_Mo_doSteps_48 : decode b_Mo_doSteps 48 = .ok (.iaload, 1) := by decide +kernel
theorem d_Mo_doSteps_49 : decode b_Mo_doSteps 49 = .ok (.iconst 1, 1) := by decide +kernel
theorem d_Mo_doSteps_50 : decode b_Mo_doSteps 50 = .ok (.isub, 1) := by decide +kernel
theorem d_Mo_doSteps_51 : decode b_Mo_doSteps 51 = .ok (.iastore, 1) := by decide +kernel
theorem d_Mo_doSteps_52 : decode b_Mo_doSteps 52 = .ok (.aload_n 0, 1) := by decide +kernel
theorem d_Mo_doSteps_53 : decode b_Mo_doSteps 53 = .ok (.getfield 90, 3) := by decide +kernel
theorem d_Mo_doSteps_56 : decode b_Mo_doSteps 56 = .ok (.iload_n 2, 1) := by decide +kernel
theorem d_Mo_doSteps_57 : decode b_Mo_doSteps 57 = .ok (.iconst 1, 1) := by decide +kernel
theorem d_Mo_doSteps_58 : decode b_Mo_doSteps 58 = .ok (.isub, 1) := by decide +kernel
theorem d_Mo_doSteps_59 : decode b_Mo_doSteps 59 = .ok (.iaload, 1) := by decide +kernel
theorem d_Mo_doSteps_60 : decode b_Mo_doSteps 60 = .ok (.ifCond .le 14, 3) := by decide +kernel
theorem d_Mo_doSteps_63 : decode b_Mo_doSteps 63 = .ok (.aload_n 0, 1) := by decide +kernel
theorem d_Mo_doSteps_64 : decode b_Mo_doSteps 64 = .ok (.getfield 84, 3) := by decide +kernel
theorem d_Mo_doSteps_67 : decode b_Mo_doSteps 67 = .ok (.iload_n 2, 1) := by decide +kernel
theorem d_Mo_doSteps_68 : decode b_Mo_doSteps 68 = .ok (.iconst 1, 1) := by decide +kernel
theorem d_Mo_doSteps_69 : decode b_Mo_doSteps 69 = .ok (.isub, 1) := by decide +kernel
theorem d_Mo_doSteps_70 : decode b_Mo_doSteps 70 = .ok (.iaload, 1) := by decide +kernel
theorem d_Mo_doSteps_71 : decode b_Mo_doSteps 71 = .ok (.goto 4, 3) := by decide +kernel
theorem d_Mo_doSteps_74 : decode b_Mo_doSteps 74 = .ok (.iload_n 3, 1) := by decide +kernel
theorem d_Mo_doSteps_75 : decode b_Mo_doSteps 75 = .ok (.istore_n 3, 1) := by decide +kernel
theorem d_Mo_doSteps_76 : decode b_Mo_doSteps 76 = .ok (.iload_n 2, 1) := by decide +kernel
theorem d_Mo_doSteps_77 : decode b_Mo_doSteps 77 = .ok (.aload_n 0, 1) := by decide +kernel
theorem d_Mo_doSteps_78 : decode b_Mo_doSteps 78 = .ok (.getfield 90, 3) := by decide +kernel
theorem d_Mo_doSteps_81 : decode b_Mo_doSteps 81 = .ok (.iload_n 2, 1) := by decide +kernel
theorem d_Mo_doSteps_82 : decode b_Mo_doSteps 82 = .ok (.iconst 1, 1) := by decide +kernel
theorem d_Mo_doSteps_83 : decode b_Mo_doSteps 83 = .ok (.isub, 1) := by decide +kernel
theorem d_Mo_doSteps_84 : decode b_Mo_doSteps 84 = .ok (.iaload, 1) := by decide +kernel
theorem d_Mo_doSteps_85 : decode b_Mo_doSteps 85 = .ok (.ifCond .le 7, 3) := by decide +kernel
theorem d_Mo_doSteps_88 : decode b_Mo_doSteps 88 = .ok (.iconst 0, 1) := by decide +kernel
theorem d_Mo_doSteps_89 : decode b_Mo_doSteps 89 = .ok (.goto 4, 3) := by decide +kernel
theorem d_Mo_doSteps_92 : decode b_Mo_doSteps 92 = .ok (.iconst 1, 1) := by decide +kernel
theorem d_Mo_doSteps_93 : decode b_Mo_doSteps 93 = .ok (.isub, 1) := by decide +kernel
theorem d_Mo_doSteps_94 : decode b_Mo_doSteps 94 = .ok (.istore_n 2, 1) := by decide +kernel
theorem d_Mo_doSteps_95 : decode b_Mo_doSteps 95 = .ok (.goto (-89), 3) := by decide +kernel
theorem d_Mo_doSteps_98 : decode b_Mo_doSteps 98 = .ok (.aload_n 0, 1) := by decide +kernel
theorem d_Mo_doSteps_99 : decode b_Mo_doSteps 99 = .ok (.getfield 69, 3) := by decide +kernel
theorem d_Mo_doSteps_102 : decode b_Mo_doSteps 102 = .ok (.iload_n 3, 1) := by decide +kernel
theorem d_Mo_doSteps_103 : decode b_Mo_doSteps 103 = .ok (.iaload, 1) := by decide +kernel
theorem d_Mo_doSteps_104 : decode b_Mo_doSteps 104 = .ok (.bipush 8, 2) := by decide +kernel
theorem d_Mo_doSteps_106 : decode b_Mo_doSteps 106 = .ok (.if_icmp .lt 68, 3) := by decide +kernel
theorem d_Mo_doSteps_109 : decode b_Mo_doSteps 109 = .ok (.aload_n 0, 1) := by decide +kernel
theorem d_Mo_doSteps_110 : decode b_Mo_doSteps 110 = .ok (.iload_n 3, 1) := by decide +kernel
theorem d_Mo_doSteps_111 : decode b_Mo_doSteps 111 = .ok (.invokevirtual 531, 3) := by decide +kernel
theorem d_Mo_doSteps_114 : decode b_Mo_doSteps 114 = .ok (.istore 4, 2) := by decide +kernel
theorem d_Mo_doSteps_116 : decode b_Mo_doSteps 116 = .ok (.iload 4, 2) := by decide +kernel
theorem d_Mo_doSteps_118 : decode b_Mo_doSteps 118 = .ok (.ifCond .le 35, 3) := by decide +kernel
theorem d_Mo_doSteps_121 : decode b_Mo_doSteps 121 = .ok (.aload_n 0, 1) := by decide +kernel
theorem d_Mo_doSteps_122 : decode b_Mo_doSteps 122 = .ok (.getfield 84, 3) := by decide +kernel
theorem d_Mo_doSteps_125 : decode b_Mo_doSteps 125 = .ok (.iload_n 2, 1) := by decide +kernel
theorem d_Mo_doSteps_126 : decode b_Mo_doSteps 126 = .ok (.iload_n 3, 1) := by decide +kernel
theorem d_Mo_doSteps_127 : decode b_Mo_doSteps 127 = .ok (.iconst 1, 1) := by decide +kernel
theorem d_Mo_doSteps_128 : decode b_Mo_doSteps 128 = .ok (.iadd, 1) := by decide +kernel
theorem d_Mo_doSteps_129 : decode b_Mo_doSteps 129 = .ok (.iastore, 1) := by decide +kernel
theorem d_Mo_doSteps_130 : decode b_Mo_doSteps 130 = .ok (.aload_n 0, 1) := by decide +kernel
theorem d_Mo_doSteps_131 : decode b_Mo_doSteps 131 = .ok (.getfield 87, 3) := by decide +kernel
theorem d_Mo_doSteps_134 : decode b_Mo_doSteps 134 = .ok (.iload_n 2, 1) := by decide +kernel
theorem d_Mo_doSteps_135 : decode b_Mo_doSteps 135 = .ok (.aload_n 0, 1) := by decide +kernel
theorem d_Mo_doSteps_136 : decode b_Mo_doSteps 136 = .ok (.getfield 78, 3) := by decide +kernel
theorem d_Mo_doSteps_139 : decode b_Mo_doSteps 139 = .ok (.iload_n 3, 1) := by decide +kernel
theorem d_Mo_doSteps_140 : decode b_Mo_doSteps 140 = .ok (.iaload, 1) := by decide +kernel
theorem d_Mo_doSteps_141 : decode b_Mo_doSteps 141 = .ok (.iastore, 1) := by decide +kernel
theorem d_Mo_doSteps_142 : decode b_Mo_doSteps 142 = .ok (.aload_n 0, 1) := by decide +kernel
theorem d_Mo_doSteps_143 : decode b_Mo_doSteps 143 = .ok (.getfield 90, 3) := by decide +kernel
theorem d_Mo_doSteps_146 : decode b_Mo_doSteps 146 = .ok (.iload_n 2, 1) := by decide +kernel
theorem d_Mo_doSteps_147 : decode b_Mo_doSteps 147 = .ok (.iload 4, 2) := by decide +kernel
theorem d_Mo_doSteps_149 : decode b_Mo_doSteps 149 = .ok (.iastore, 1) := by decide +kernel
theorem d_Mo_doSteps_150 : decode b_Mo_doSteps 150 = .ok (.iinc 2 1, 3) := by decide +kernel
theorem d_Mo_doSteps_153 : decode b_Mo_doSteps 153 = .ok (.iload 4, 2) := by decide +kernel
theorem d_Mo_doSteps_155 : decode b_Mo_doSteps 155 = .ok (.ifCond .le 9, 3) := by decide +kernel
theorem d_Mo_doSteps_158 : decode b_Mo_doSteps 158 = .ok (.iload_n 3, 1) := by decide +kernel
theorem d_Mo_doSteps_159 : decode b_Mo_doSteps 159 = .ok (.iconst 1, 1) := by decide +kernel
theorem d_Mo_doSteps_160 : decode b_Mo_doSteps 160 = .ok (.iadd, 1) := by decide +kernel
theorem d_Mo_doSteps_161 : decode b_Mo_doSteps 161 = .ok (.goto 9, 3) := by decide +kernel
theorem d_Mo_doSteps_164 : decode b_Mo_doSteps 164 = .ok (.aload_n 0, 1) := by decide +kernel
theorem d_Mo_doSteps_165 : decode b_Mo_doSteps 165 = .ok (.getfield 78, 3) := by decide +kernel
theorem d_Mo_doSteps_168 : decode b_Mo_doSteps 168 = .ok (.iload_n 3, 1) := by decide +kernel
theorem d_Mo_doSteps_169 : decode b_Mo_doSteps 169 = .ok (.iaload, 1) := by decide +kernel
theorem d_Mo_doSteps_170 : decode b_Mo_doSteps 170 = .ok (.istore_n 3, 1) := by decide +kernel
theorem d_Mo_doSteps_171 : decode b_Mo_doSteps 171 = .ok (.goto (-165), 3) := by decide +kernel
theorem d_Mo_doSteps_174 : decode b_Mo_doSteps 174 = .ok (.aload_n 0, 1) := by decide +kernel
theorem d_Mo_doSteps_175 : decode b_Mo_doSteps 175 = .ok (.iload_n 3, 1) := by decide +kernel
theorem d_Mo_doSteps_176 : decode b_Mo_doSteps 176 = .ok (.invokevirtual 534, 3) := by decide +kernel
theorem d_Mo_doSteps_179 : decode b_Mo_doSteps 179 = .ok (.ifCond .ge 5, 3) := by decide +kernel
theorem d_Mo_doSteps_182 : decode b_Mo_doSteps 182 = .ok (.iload_n 1, 1) := by decide +kernel
theorem d_Mo_doSteps_183 : decode b_Mo_doSteps 183 = .ok (.ireturn, 1) := by decide +kernel
theorem d_Mo_doSteps_184 : decode b_Mo_doSteps 184 = .ok (.iinc 1 1, 3) := by decide +kernel
theorem d_Mo_doSteps_187 : decode b_Mo_doSteps 187 = .ok (.iinc 3 1, 3) := by decide +kernel
theorem d_Mo_doSteps_190 : decode b_Mo_doSteps 190 = .ok (.goto (-184), 3) := by decide +kernel
theorem d_Mo_doSteps_193 : decode b_Mo_doSteps 193 = .ok (.iload_n 1, 1) := by decide +kernel
theorem d_Mo_doSteps_194 : decode b_Mo_doSteps 194 = .ok (.ireturn, 1) := by decide +kernel
theorem d_Mo_run_0 : decode b_Mo_run 0 = .ok (.aload_n 0, 1) := by decide +kernel
theorem d_Mo_run_1 : decode b_Mo_run 1 = .ok (.iconst 0, 1) := by decide +kernel
theorem d_Mo_run_2 : decode b_Mo_run 2 = .ok (.putfield 107, 3) := by decide +kernel
theorem d_Mo_run_5 : decode b_Mo_run 5 = .ok (.aload_n 0, 1) := by decide +kernel
theorem d_Mo_run_6 : decode b_Mo_run 6 = .ok (.invokevirtual 391, 3) := by decide +kernel
theorem d_Mo_run_9 : decode b_Mo_run 9 = .ok (.aload_n 0, 1) := by decide +kernel
theorem d_Mo_run_10 : decode b_Mo_run 10 = .ok (.invokevirtual 537, 3) := by decide +kernel
theorem d_Mo_run_13 : decode b_Mo_run 13 = .ok (.aload_n 0, 1) := by decide +kernel
theorem d_Mo_run_14 : decode b_Mo_run 14 = .ok (.iconst 0, 1) := by decide +kernel
theorem d_Mo_run_15 : decode b_Mo_run 15 = .ok (.putfield 262, 3) := by decide +kernel
theorem d_Mo_run_18 : decode b_Mo_run 18 = .ok (.aload_n 0, 1) := by decide +kernel
theorem d_Mo_run_19 : decode b_Mo_run 19 = .ok (.invokevirtual 297, 3) := by decide +kernel
theorem d_Mo_run_22 : decode b_Mo_run 22 = .ok (.ifCond .ne 11, 3) := by decide +kernel
theorem d_Mo_run_25 : decode b_Mo_run 25 = .ok (.bipush (-10), 2) := by decide +kernel
theorem d_Mo_run_27 : decode b_Mo_run 27 = .ok (.aload_n 0, 1) := by decide +kernel
theorem d_Mo_run_28 : decode b_Mo_run 28 = .ok (.getfield 291, 3) := by decide +kernel
theorem d_Mo_run_31 : decode b_Mo_run 31 = .ok (.isub, 1) := by decide +kernel
theorem d_Mo_run_32 : decode b_Mo_run 32 = .ok (.ireturn, 1) := by decide +kernel
theorem d_Mo_run_33 : decode b_Mo_run 33 = .ok (.aload_n 0, 1) := by decide +kernel
theorem d_Mo_run_34 : decode b_Mo_run 34 = .ok (.invokevirtual 484, 3) := by decide +kernel
theorem d_Mo_run_37 : decode b_Mo_run 37 = .ok (.aload_n 0, 1) := by decide +kernel
theorem d_Mo_run_38 : decode b_Mo_run 38 = .ok (.invokevirtual 540, 3) := by decide +kernel
theorem d_Mo_run_41 : decode b_Mo_run 41 = .ok (.ireturn, 1) := by decide +kernel
theorem d_Mo_write_0 : decode b_Mo_write 0 = .ok (.aload_n 0, 1) := by decide +kernel
theorem d_Mo_write_1 : decode b_Mo_write 1 = .ok (.getfield 93, 3) := by decide +kernel
theorem d_Mo_write_4 : decode b_Mo_write 4 = .ok (.aload_n 0, 1) := by decide +kernel
theorem d_Mo_write_5 : decode b_Mo_write 5 = .ok (.getfield 543, 3) := by decide +kernel
theorem d_Mo_write_8 : decode b_Mo_write 8 = .ok (.iload_n 1, 1) := by decide +kernel
theorem d_Mo_write_9 : decode b_Mo_write 9 = .ok (.i2b, 1) := by decide +kernel
theorem d_Mo_write_10 : decode b_Mo_write 10 = .ok (.bastore, 1) := by decide +kernel
theorem d_Mo_write_11 : decode b_Mo_write 11 = .ok (.aload_n 0, 1) := by decide +kernel
theorem d_Mo_write_12 : decode b_Mo_write 12 = .ok (.dup, 1) := by decide +kernel
theorem d_Mo_write_13 : decode b_Mo_write 13 = .ok (.getfield 543, 3) := by decide +kernel
theorem d_Mo_write_16 : decode b_Mo_write 16 = .ok (.iconst 1, 1) := by decide +kernel
theorem d_Mo_write_17 : decode b_Mo_write 17 = .ok (.iadd, 1) := by decide +kernel
theorem d_Mo_write_18 : decode b_Mo_write 18 = .ok (.putfield 543, 3) := by decide +kernel
theorem d_Mo_write_21 : decode b_Mo_write 21 = .ok (.return_, 1) := by decide +kernel
theorem d_Mo_writeNumber_0 : decode b_Mo_writeNumber 0 = .ok (.iconst 1, 1) := by decide +kernel
theorem d_Mo_writeNumber_1 : decode b_Mo_writeNumber 1 = .ok (.istore 4, 2) := by decide +kernel
theorem d_Mo_writeNumber_3 : decode b_Mo_writeNumber 3 = .ok (.iload 4, 2) := by decide +kernel
theorem d_Mo_writeNumber_5 : decode b_Mo_writeNumber 5 = .ok (.iload_n 3, 1) := by decide +kernel
theorem d_Mo_writeNumber_6 : decode b_Mo_writeNumber 6 = .ok (.if_icmp .lt 13, 3) := by decide +kernel
theorem d_Mo_writeNumber_9 : decode b_Mo_writeNumber 9 = .ok (.iload 4, 2) := by decide +kernel
theorem d_Mo_writeNumber_11 : decode b_Mo_writeNumber 11 = .ok (.invokestatic 122, 3) := by decide +kernel
theorem d_Mo_writeNumber_14 : decode b_Mo_writeNumber 14 = .ok (.lload_n 1, 1) := by decide +kernel
theorem d_Mo_writeNumber_15 : decode b_Mo_writeNumber 15 = .ok (.lcmp, 1) := by decide +kernel
theorem d_Mo_writeNumber_16 : decode b_Mo_writeNumber 16 = .ok (.ifCond .gt 9, 3) := by decide +kernel
theorem d_Mo_writeNumber_19 : decode b_Mo_writeNumber 19 = .ok (.iinc 4 1, 3) := by decide +kernel
theorem d_Mo_writeNumber_22 : decode b_Mo_writeNumber 22 = .ok (.goto (-19), 3) := by decide +kernel
theorem d_Mo_writeNumber_25 : decode b_Mo_writeNumber 25 = .ok (.iload 4, 2) := by decide +kernel
theorem d_Mo_writeNumber_27 : decode b_Mo_writeNumber 27 = .ok (.iconst 1, 1) := by decide +kernel
theorem d_Mo_writeNumber_28 : decode b_Mo_writeNumber 28 = .ok (.isub, 1) := by decide +kernel
theorem d_Mo_writeNumber_29 : decode b_Mo_writeNumber 29 = .ok (.istore 5, 2) := by decide +kernel
theorem d_Mo_writeNumber_31 : decode b_Mo_writeNumber 31 = .ok (.iload 5, 2) := by decide +kernel
theorem d_Mo_writeNumber_33 : decode b_Mo_writeNumber 33 = .ok (.ifCond .lt 28, 3) := by decide +kernel
theorem d_Mo_writeNumber_36 : decode b_Mo_writeNumber 36 = .ok (.aload_n 0, 1) := by decide +kernel
theorem d_Mo_writeNumber_37 : decode b_Mo_writeNumber 37 = .ok (.bipush 48, 2) := by decide +kernel
theorem d_Mo_writeNumber_39 : decode b_Mo_writeNumber 39 = .ok (.lload_n 1, 1) := by decide +kernel
theorem d_Mo_writeNumber_40 : decode b_Mo_writeNumber 40 = .ok (.iload 5, 2) := by decide +kernel
theorem d_Mo_writeNumber_42 : decode b_Mo_writeNumber 42 = .ok (.invokestatic 122, 3) := by decide +kernel
theorem d_Mo_writeNumber_45 : decode b_Mo_writeNumber 45 = .ok (.ldiv, 1) := by decide +kernel
theorem d_Mo_writeNumber_46 : decode b_Mo_writeNumber 46 = .ok (.ldc2_w 110, 3) := by decide +kernel
theorem d_Mo_writeNumber_49 : decode b_Mo_writeNumber 49 = .ok (.lrem, 1) := by decide +kernel
theorem d_Mo_writeNumber_50 : decode b_Mo_writeNumber 50 = .ok (.l2i, 1) := by decide +kernel
theorem d_Mo_writeNumber_51 : decode b_Mo_writeNumber 51 = .ok (.iadd, 1) := by decide +kernel
theorem d_Mo_writeNumber_52 : decode b_Mo_writeNumber 52 = .ok (.invokevirtual 546, 3) := by decide +kernel
theorem d_Mo_writeNumber_55 : decode b_Mo_writeNumber 55 = .ok (.iinc 5 (-1), 3) := by decide +kernel
theorem d_Mo_writeNumber_58 : decode b_Mo_writeNumber 58 = .ok (.goto (-27), 3) := by decide +kernel
theorem d_Mo_writeNumber_61 : decode b_Mo_writeNumber 61 = .ok (.return_, 1) := by decide +kernel
theorem d_Mo_writeResult_0 : decode b_Mo_writeResult 0 = .ok (.aload_n 0, 1) := by decide +kernel
theorem d_Mo_writeResult_1 : decode b_Mo_writeResult 1 = .ok (.aload_n 0, 1) := by decide +kernel
theorem d_Mo_writeResult_2 : decode b_Mo_writeResult 2 = .ok (.iload_n 1, 1) := by decide +kernel
theorem d_Mo_writeResult_3 : decode b_Mo_writeResult 3 = .ok (.iconst 3, 1) := by decide +kernel
theorem d_Mo_writeResult_4 : decode b_Mo_writeResult 4 = .ok (.invokevirtual 406, 3) := by decide +kernel
theorem d_Mo_writeResult_7 : decode b_Mo_writeResult 7 = .ok (.aload_n 0, 1) := by decide +kernel
theorem d_Mo_writeResult_8 : decode b_Mo_writeResult 8 = .ok (.invokevirtual 130, 3) := by decide +kernel
theorem d_Mo_writeResult_11 : decode b_Mo_writeResult 11 = .ok (.invokevirtual 549, 3) := by decide +kernel
theorem d_Mo_writeResult_14 : decode b_Mo_writeResult 14 = .ok (.aload_n 0, 1) := by decide +kernel
theorem d_Mo_writeResult_15 : decode b_Mo_writeResult 15 = .ok (.bipush 32, 2) := by decide +kernel
theorem d_Mo_writeResult_17 : decode b_Mo_writeResult 17 = .ok (.invokevirtual 546, 3) := by decide +kernel
theorem d_Mo_writeResult_20 : decode b_Mo_writeResult 20 = .ok (.aload_n 0, 1) := by decide +kernel
theorem d_Mo_writeResult_21 : decode b_Mo_writeResult 21 = .ok (.aload_n 0, 1) := by decide +kernel
theorem d_Mo_writeResult_22 : decode b_Mo_writeResult 22 = .ok (.iload_n 1, 1) := by decide +kernel
theorem d_Mo_writeResult_23 : decode b_Mo_writeResult 23 = .ok (.iconst 0, 1) := by decide +kernel
theorem d_Mo_writeResult_24 : decode b_Mo_writeResult 24 = .ok (.invokevirtual 406, 3) := by decide +kernel
theorem d_Mo_writeResult_27 : decode b_Mo_writeResult 27 = .ok (.iconst 1, 1) := by decide +kernel
theorem d_Mo_writeResult_28 : decode b_Mo_writeResult 28 = .ok (.invokevirtual 549, 3) := by decide +kernel
theorem d_Mo_writeResult_31 : decode b_Mo_writeResult 31 = .ok (.aload_n 0, 1) := by decide +kernel
theorem d_Mo_writeResult_32 : decode b_Mo_writeResult 32 = .ok (.bipush 47, 2) := by decide +kernel
theorem d_Mo_writeResult_34 : decode b_Mo_writeResult 34 = .ok (.invokevirtual 546, 3) := by decide +kernel
theorem d_Mo_writeResult_37 : decode b_Mo_writeResult 37 = .ok (.aload_n 0, 1) := by decide +kernel
theorem d_Mo_writeResult_38 : decode b_Mo_writeResult 38 = .ok (.aload_n 0, 1) := by decide +kernel
theorem d_Mo_writeResult_39 : decode b_Mo_writeResult 39 = .ok (.iload_n 1, 1) := by decide +kernel
theorem d_Mo_writeResult_40 : decode b_Mo_writeResult 40 = .ok (.iconst 1, 1) := by decide +kernel
theorem d_Mo_writeResult_41 : decode b_Mo_writeResult 41 = .ok (.invokevirtual 406, 3) := by decide +kernel
theorem d_Mo_writeResult_44 : decode b_Mo_writeResult 44 = .ok (.iconst 1, 1) := by decide +kernel
theorem d_Mo_writeResult_45 : decode b_Mo_writeResult 45 = .ok (.invokevirtual 549, 3) := by decide +kernel
theorem d_Mo_writeResult_48 : decode b_Mo_writeResult 48 = .ok (.aload_n 0, 1) := by decide +kernel
theorem d_Mo_writeResult_49 : decode b_Mo_writeResult 49 = .ok (.bipush 32, 2) := by decide +kernel
theorem d_Mo_writeResult_51 : decode b_Mo_writeResult 51 = .ok (.invokevirtual 546, 3) := by decide +kernel
theorem d_Mo_writeResult_54 : decode b_Mo_writeResult 54 = .ok (.iconst 0, 1) := by decide +kernel
theorem d_Mo_writeResult_55 : decode b_Mo_writeResult 55 = .ok (.istore_n 2, 1) := by decide +kernel
theorem d_Mo_writeResult_56 : decode b_Mo_writeResult 56 = .ok (.iload_n 2, 1) := by decide +kernel
theorem d_Mo_writeResult_57 : decode b_Mo_writeResult 57 = .ok (.i2l, 1) := by decide +kernel
theorem d_Mo_writeResult_58 : decode b_Mo_writeResult 58 = .ok (.aload_n 0, 1) := by decide +kernel
theorem d_Mo_writeResult_59 : decode b_Mo_writeResult 59 = .ok (.iload_n 1, 1) := by decide +kernel
theorem d_Mo_writeResult_60 : decode b_Mo_writeResult 60 = .ok (.iconst 2, 1) := by decide +kernel
theorem d_Mo_writeResult_61 : decode b_Mo_writeResult 61 = .ok (.invokevirtual 406, 3) := by decide +kernel
theorem d_Mo_writeResult_64 : decode b_Mo_writeResult 64 = .ok (.lcmp, 1) := by decide +kernel
theorem d_Mo_writeResult_65 : decode b_Mo_writeResult 65 = .ok (.ifCond .ge 15, 3) := by decide +kernel
theorem d_Mo_writeResult_68 : decode b_Mo_writeResult 68 = .ok (.aload_n 0, 1) := by decide +kernel
theorem d_Mo_writeResult_69 : decode b_Mo_writeResult 69 = .ok (.bipush 119, 2) := by decide +kernel
theorem d_Mo_writeResult_71 : decode b_Mo_writeResult 71 = .ok (.invokevirtual 546, 3) := by decide +kernel
theorem d_Mo_writeResult_74 : decode b_Mo_writeResult 74 = .ok (.iinc 2 1, 3) := by decide +kernel
theorem d_Mo_writeResult_77 : decode b_Mo_writeResult 77 = .ok (.goto (-21), 3) := by decide +kernel
theorem d_Mo_writeResult_80 : decode b_Mo_writeResult 80 = .ok (.aload_n 0, 1) := by decide +kernel
theorem d_Mo_writeResult_81 : decode b_Mo_writeResult 81 = .ok (.bipush 32, 2) := by decide +kernel
theorem d_Mo_writeResult_83 : decode b_Mo_writeResult 83 = .ok (.invokevirtual 546, 3) := by decide +kernel
theorem d_Mo_writeResult_86 : decode b_Mo_writeResult 86 = .ok (.aload_n 0, 1) := by decide +kernel
theorem d_Mo_writeResult_87 : decode b_Mo_writeResult 87 = .ok (.iload_n 1, 1) := by decide +kernel
theorem d_Mo_writeResult_88 : decode b_Mo_writeResult 88 = .ok (.bipush 7, 2) := by decide +kernel
theorem d_Mo_writeResult_90 : decode b_Mo_writeResult 90 = .ok (.invokevirtual 406, 3) := by decide +kernel
theorem d_Mo_writeResult_93 : decode b_Mo_writeResult 93 = .ok (.lstore_n 2, 1) := by decide +kernel
theorem d_Mo_writeResult_94 : decode b_Mo_writeResult 94 = .ok (.lload_n 2, 1) := by decide +kernel
theorem d_Mo_writeResult_95 : decode b_Mo_writeResult 95 = .ok (.lconst 0, 1) := by decide +kernel
theorem d_Mo_writeResult_96 : decode b_Mo_writeResult 96 = .ok (.lcmp, 1) := by decide +kernel
theorem d_Mo_writeResult_97 : decode b_Mo_writeResult 97 = .ok (.ifCond .ge 9, 3) := by decide +kernel
theorem d_Mo_writeResult_100 : decode b_Mo_writeResult 100 = .ok (.aload_n 0, 1) := by decide +kernel
theorem d_Mo_writeResult_101 : decode b_Mo_writeResult 101 = .ok (.bipush 45, 2) := by decide +kernel
theorem d_Mo_writeResult_103 : decode b_Mo_writeResult 103 = .ok (.invokevirtual 546, 3) := by decide +kernel
theorem d_Mo_writeResult_106 : decode b_Mo_writeResult 106 = .ok (.aload_n 0, 1) := by decide +kernel
theorem d_Mo_writeResult_107 : decode b_Mo_writeResult 107 = .ok (.lload_n 2, 1) := by decide +kernel
theorem d_Mo_writeResult_108 : decode b_Mo_writeResult 108 = .ok (.invokestatic 217, 3) := by decide +kernel
theorem d_Mo_writeResult_111 : decode b_Mo_writeResult 111 = .ok (.iconst 1, 1) := by decide +kernel
theorem d_Mo_writeResult_112 : decode b_Mo_writeResult 112 = .ok (.invokevirtual 549, 3) := by decide +kernel
theorem d_Mo_writeResult_115 : decode b_Mo_writeResult 115 = .ok (.aload_n 0, 1) := by decide +kernel
theorem d_Mo_writeResult_116 : decode b_Mo_writeResult 116 = .ok (.iload_n 1, 1) := by decide +kernel
theorem d_Mo_writeResult_117 : decode b_Mo_writeResult 117 = .ok (.iconst 5, 1) := by decide +kernel
theorem d_Mo_writeResult_118 : decode b_Mo_writeResult 118 = .ok (.invokevirtual 406, 3) := by decide +kernel
theorem d_Mo_writeResult_121 : decode b_Mo_writeResult 121 = .ok (.lconst 1, 1) := by decide +kernel
theorem d_Mo_writeResult_122 : decode b_Mo_writeResult 122 = .ok (.lcmp, 1) := by decide +kernel
theorem d_Mo_writeResult_123 : decode b_Mo_writeResult 123 = .ok (.ifCond .ne 9, 3) := by decide +kernel
theorem d_Mo_writeResult_126 : decode b_Mo_writeResult 126 = .ok (.aload_n 0, 1) := by decide +kernel
theorem d_Mo_writeResult_127 : decode b_Mo_writeResult 127 = .ok (.bipush 42, 2) := by decide +kernel
theorem d_Mo_writeResult_129 : decode b_Mo_writeResult 129 = .ok (.invokevirtual 546, 3) := by decide +kernel
theorem d_Mo_writeResult_132 : decode b_Mo_writeResult 132 = .ok (.aload_n 0, 1) := by decide +kernel
theorem d_Mo_writeResult_133 : decode b_Mo_writeResult 133 = .ok (.bipush 10, 2) := by decide +kernel
theorem d_Mo_writeResult_135 : decode b_Mo_writeResult 135 = .ok (.invokevirtual 546, 3) := by decide +kernel
theorem d_Mo_writeResult_138 : decode b_Mo_writeResult 138 = .ok (.return_, 1) := by decide +kernel
theorem d_Mo_report_0 : decode b_Mo_report 0 = .ok (.aload_n 0, 1) := by decide +kernel
theorem d_Mo_report_1 : decode b_Mo_report 1 = .ok (.iconst 0, 1) := by decide +kernel
theorem d_Mo_report_2 : decode b_Mo_report 2 = .ok (.putfield 107, 3) := by decide +kernel
theorem d_Mo_report_5 : decode b_Mo_report 5 = .ok (.aload_n 0, 1) := by decide +kernel
theorem d_Mo_report_6 : decode b_Mo_report 6 = .ok (.iconst 0, 1) := by decide +kernel
theorem d_Mo_report_7 : decode b_Mo_report 7 = .ok (.putfield 543, 3) := by decide +kernel
theorem d_Mo_report_10 : decode b_Mo_report 10 = .ok (.iconst 0, 1) := by decide +kernel
theorem d_Mo_report_11 : decode b_Mo_report 11 = .ok (.istore_n 1, 1) := by decide +kernel
theorem d_Mo_report_12 : decode b_Mo_report 12 = .ok (.iload_n 1, 1) := by decide +kernel
theorem d_Mo_report_13 : decode b_Mo_report 13 = .ok (.i2l, 1) := by decide +kernel
theorem d_Mo_report_14 : decode b_Mo_report 14 = .ok (.aload_n 0, 1) := by decide +kernel
theorem d_Mo_report_15 : decode b_Mo_report 15 = .ok (.getfield 7, 3) := by decide +kernel
theorem d_Mo_report_18 : decode b_Mo_report 18 = .ok (.bipush 54, 2) := by decide +kernel
theorem d_Mo_report_20 : decode b_Mo_report 20 = .ok (.laload, 1) := by decide +kernel
theorem d_Mo_report_21 : decode b_Mo_report 21 = .ok (.lcmp, 1) := by decide +kernel
theorem d_Mo_report_22 : decode b_Mo_report 22 = .ok (.ifCond .ge 14, 3) := by decide +kernel
theorem d_Mo_report_25 : decode b_Mo_report 25 = .ok (.aload_n 0, 1) := by decide +kernel
theorem d_Mo_report_26 : decode b_Mo_report 26 = .ok (.iload_n 1, 1) := by decide +kernel
theorem d_Mo_report_27 : decode b_Mo_report 27 = .ok (.invokevirtual 553, 3) := by decide +kernel
theorem d_Mo_report_30 : decode b_Mo_report 30 = .ok (.iinc 1 1, 3) := by decide +kernel
theorem d_Mo_report_33 : decode b_Mo_report 33 = .ok (.goto (-21), 3) := by decide +kernel
theorem d_Mo_report_36 : decode b_Mo_report 36 = .ok (.aload_n 0, 1) := by decide +kernel
theorem d_Mo_report_37 : decode b_Mo_report 37 = .ok (.getfield 543, 3) := by decide +kernel
theorem d_Mo_report_40 : decode b_Mo_report 40 = .ok (.ireturn, 1) := by decide +kernel
theorem d_Mo_reportByte_0 : decode b_Mo_reportByte 0 = .ok (.aload_n 0, 1) := by decide +kernel
theorem d_Mo_reportByte_1 : decode b_Mo_reportByte 1 = .ok (.iconst 0, 1) := by decide +kernel
theorem d_Mo_reportByte_2 : decode b_Mo_reportByte 2 = .ok (.putfield 107, 3) := by decide +kernel
theorem d_Mo_reportByte_5 : decode b_Mo_reportByte 5 = .ok (.iload_n 1, 1) := by decide +kernel
theorem d_Mo_reportByte_6 : decode b_Mo_reportByte 6 = .ok (.i2l, 1) := by decide +kernel
theorem d_Mo_reportByte_7 : decode b_Mo_reportByte 7 = .ok (.lconst 0, 1) := by decide +kernel
theorem d_Mo_reportByte_8 : decode b_Mo_reportByte 8 = .ok (.aload_n 0, 1) := by decide +kernel
theorem d_Mo_reportByte_9 : decode b_Mo_reportByte 9 = .ok (.getfield 543, 3) := by decide +kernel
theorem d_Mo_reportByte_12 : decode b_Mo_reportByte 12 = .ok (.i2l, 1) := by decide +kernel
theorem d_Mo_reportByte_13 : decode b_Mo_reportByte 13 = .ok (.lconst 1, 1) := by decide +kernel
theorem d_Mo_reportByte_14 : decode b_Mo_reportByte 14 = .ok (.lsub, 1) := by decide +kernel
theorem d_Mo_reportByte_15 : decode b_Mo_reportByte 15 = .ok (.invokestatic 118, 3) := by decide +kernel
theorem d_Mo_reportByte_18 : decode b_Mo_reportByte 18 = .ok (.ifCond .eq 12, 3) := by decide +kernel
theorem d_Mo_reportByte_21 : decode b_Mo_reportByte 21 = .ok (.aload_n 0, 1) := by decide +kernel
theorem d_Mo_reportByte_22 : decode b_Mo_reportByte 22 = .ok (.getfield 93, 3) := by decide +kernel
theorem d_Mo_reportByte_25 : decode b_Mo_reportByte 25 = .ok (.iload_n 1, 1) := by decide +kernel
theorem d_Mo_reportByte_26 : decode b_Mo_reportByte 26 = .ok (.baload, 1) := by decide +kernel
theorem d_Mo_reportByte_27 : decode b_Mo_reportByte 27 = .ok (.goto 4, 3) := by decide +kernel
theorem d_Mo_reportByte_30 : decode b_Mo_reportByte 30 = .ok (.iconst (-1), 1) := by decide +kernel
theorem d_Mo_reportByte_31 : decode b_Mo_reportByte 31 = .ok (.ireturn, 1) := by decide +kernel
theorem d_Mo_undo_0 : decode b_Mo_undo 0 = .ok (.aload_n 0, 1) := by decide +kernel
theorem d_Mo_undo_1 : decode b_Mo_undo 1 = .ok (.iconst 0, 1) := by decide +kernel
theorem d_Mo_undo_2 : decode b_Mo_undo 2 = .ok (.putfield 107, 3) := by decide +kernel
theorem d_Mo_undo_5 : decode b_Mo_undo 5 = .ok (.aload_n 0, 1) := by decide +kernel
theorem d_Mo_undo_6 : decode b_Mo_undo 6 = .ok (.getfield 400, 3) := by decide +kernel
theorem d_Mo_undo_9 : decode b_Mo_undo 9 = .ok (.ifCond .ne 5, 3) := by decide +kernel
theorem d_Mo_undo_12 : decode b_Mo_undo 12 = .ok (.iconst (-1), 1) := by decide +kernel
theorem d_Mo_undo_13 : decode b_Mo_undo 13 = .ok (.ireturn, 1) := by decide +kernel
theorem d_Mo_undo_14 : decode b_Mo_undo 14 = .ok (.aload_n 0, 1) := by decide +kernel
theorem d_Mo_undo_15 : decode b_Mo_undo 15 = .ok (.dup, 1) := by decide +kernel
theorem d_Mo_undo_16 : decode b_Mo_undo 16 = .ok (.getfield 400, 3) := by decide +kernel
theorem d_Mo_undo_19 : decode b_Mo_undo 19 = .ok (.iconst 1, 1) := by decide +kernel
theorem d_Mo_undo_20 : decode b_Mo_undo 20 = .ok (.isub, 1) := by decide +kernel
theorem d_Mo_undo_21 : decode b_Mo_undo 21 = .ok (.putfield 400, 3) := by decide +kernel
theorem d_Mo_undo_24 : decode b_Mo_undo 24 = .ok (.aload_n 0, 1) := by decide +kernel
theorem d_Mo_undo_25 : decode b_Mo_undo 25 = .ok (.getfield 16, 3) := by decide +kernel
theorem d_Mo_undo_28 : decode b_Mo_undo 28 = .ok (.aload_n 0, 1) := by decide +kernel
theorem d_Mo_undo_29 : decode b_Mo_undo 29 = .ok (.getfield 400, 3) := by decide +kernel
theorem d_Mo_undo_32 : decode b_Mo_undo 32 = .ok (.aload_n 0, 1) := by decide +kernel
theorem d_Mo_undo_33 : decode b_Mo_undo 33 = .ok (.getfield 7, 3) := by decide +kernel
theorem d_Mo_undo_36 : decode b_Mo_undo 36 = .ok (.iconst 0, 1) := by decide +kernel
theorem d_Mo_undo_37 : decode b_Mo_undo 37 = .ok (.invokestatic 476, 3) := by decide +kernel
theorem d_Mo_undo_40 : decode b_Mo_undo 40 = .ok (.aload_n 0, 1) := by decide +kernel
theorem d_Mo_undo_41 : decode b_Mo_undo 41 = .ok (.getfield 400, 3) := by decide +kernel
theorem d_Mo_undo_44 : decode b_Mo_undo 44 = .ok (.ireturn, 1) := by decide +kernel
theorem d_Mo_isSlot_0 : decode b_Mo_isSlot 0 = .ok (.iload_n 0, 1) := by decide +kernel
theorem d_Mo_isSlot_1 : decode b_Mo_isSlot 1 = .ok (.i2l, 1) := by decide +kernel
theorem d_Mo_isSlot_2 : decode b_Mo_isSlot 2 = .ok (.lconst 0, 1) := by decide +kernel
theorem d_Mo_isSlot_3 : decode b_Mo_isSlot 3 = .ok (.lconst 1, 1) := by decide +kernel
theorem d_Mo_isSlot_4 : decode b_Mo_isSlot 4 = .ok (.invokestatic 118, 3) := by decide +kernel
theorem d_Mo_isSlot_7 : decode b_Mo_isSlot 7 = .ok (.ireturn, 1) := by decide +kernel
theorem d_Mo_save_0 : decode b_Mo_save 0 = .ok (.aload_n 0, 1) := by decide +kernel
theorem d_Mo_save_1 : decode b_Mo_save 1 = .ok (.iload_n 1, 1) := by decide +kernel
theorem d_Mo_save_2 : decode b_Mo_save 2 = .ok (.invokestatic 556, 3) := by decide +kernel
theorem d_Mo_save_5 : decode b_Mo_save 5 = .ok (.ifCond .eq 7, 3) := by decide +kernel
theorem d_Mo_save_8 : decode b_Mo_save 8 = .ok (.iconst 0, 1) := by decide +kernel
theorem d_Mo_save_9 : decode b_Mo_save 9 = .ok (.goto 4, 3) := by decide +kernel
theorem d_Mo_save_12 : decode b_Mo_save 12 = .ok (.iconst 1, 1) := by decide +kernel
theorem d_Mo_save_13 : decode b_Mo_save 13 = .ok (.putfield 107, 3) := by decide +kernel
theorem d_Mo_save_16 : decode b_Mo_save 16 = .ok (.aload_n 0, 1) := by decide +kernel
theorem d_Mo_save_17 : decode b_Mo_save 17 = .ok (.getfield 107, 3) := by decide +kernel
theorem d_Mo_save_20 : decode b_Mo_save 20 = .ok (.ifCond .le 5, 3) := by decide +kernel
theorem d_Mo_save_23 : decode b_Mo_save 23 = .ok (.iconst 0, 1) := by decide +kernel
theorem d_Mo_save_24 : decode b_Mo_save 24 = .ok (.ireturn, 1) := by decide +kernel
theorem d_Mo_save_25 : decode b_Mo_save 25 = .ok (.aload_n 0, 1) := by decide +kernel
theorem d_Mo_save_26 : decode b_Mo_save 26 = .ok (.getfield 7, 3) := by decide +kernel
theorem d_Mo_save_29 : decode b_Mo_save 29 = .ok (.iconst 0, 1) := by decide +kernel
theorem d_Mo_save_30 : decode b_Mo_save 30 = .ok (.aload_n 0, 1) := by decide +kernel
theorem d_Mo_save_31 : decode b_Mo_save 31 = .ok (.getfield 19, 3) := by decide +kernel
theorem d_Mo_save_34 : decode b_Mo_save 34 = .ok (.iload_n 1, 1) := by decide +kernel
theorem d_Mo_save_35 : decode b_Mo_save 35 = .ok (.invokestatic 476, 3) := by decide +kernel
theorem d_Mo_save_38 : decode b_Mo_save 38 = .ok (.aload_n 0, 1) := by decide +kernel
theorem d_Mo_save_39 : decode b_Mo_save 39 = .ok (.getfield 22, 3) := by decide +kernel
theorem d_Mo_save_42 : decode b_Mo_save 42 = .ok (.iload_n 1, 1) := by decide +kernel
theorem d_Mo_save_43 : decode b_Mo_save 43 = .ok (.iconst 1, 1) := by decide +kernel
theorem d_Mo_save_44 : decode b_Mo_save 44 = .ok (.bastore, 1) := by decide +kernel
theorem d_Mo_save_45 : decode b_Mo_save 45 = .ok (.aload_n 0, 1) := by decide +kernel
theorem d_Mo_save_46 : decode b_Mo_save 46 = .ok (.getfield 7, 3) := by decide +kernel
theorem d_Mo_save_49 : decode b_Mo_save 49 = .ok (.bipush 39, 2) := by decide +kernel
theorem d_Mo_save_51 : decode b_Mo_save 51 = .ok (.laload, 1) := by decide +kernel
theorem d_Mo_save_52 : decode b_Mo_save 52 = .ok (.l2i, 1) := by decide +kernel
theorem d_Mo_save_53 : decode b_Mo_save 53 = .ok (.ireturn, 1) := by decide +kernel
theorem d_Mo_restore_0 : decode b_Mo_restore 0 = .ok (.aload_n 0, 1) := by decide +kernel
theorem d_Mo_restore_1 : decode b_Mo_restore 1 = .ok (.iload_n 1, 1) := by decide +kernel
theorem d_Mo_restore_2 : decode b_Mo_restore 2 = .ok (.invokestatic 556, 3) := by decide +kernel
theorem d_Mo_restore_5 : decode b_Mo_restore 5 = .ok (.ifCond .eq 7, 3) := by decide +kernel
theorem d_Mo_restore_8 : decode b_Mo_restore 8 = .ok (.iconst 0, 1) := by decide +kernel
theorem d_Mo_restore_9 : decode b_Mo_restore 9 = .ok (.goto 4, 3) := by decide +kernel
theorem d_Mo_restore_12 : decode b_Mo_restore 12 = .ok (.iconst 1, 1) := by decide +kernel
theorem d_Mo_restore_13 : decode b_Mo_restore 13 = .ok (.putfield 107, 3) := by decide +kernel
theorem d_Mo_restore_16 : decode b_Mo_restore 16 = .ok (.aload_n 0, 1) := by decide +kernel
theorem d_Mo_restore_17 : decode b_Mo_restore 17 = .ok (.getfield 107, 3) := by decide +kernel
theorem d_Mo_restore_20 : decode b_Mo_restore 20 = .ok (.ifCond .le 5, 3) := by decide +kernel
theorem d_Mo_restore_23 : decode b_Mo_restore 23 = .ok (.iconst 0, 1) := by decide +kernel
theorem d_Mo_restore_24 : decode b_Mo_restore 24 = .ok (.ireturn, 1) := by decide +kernel
theorem d_Mo_restore_25 : decode b_Mo_restore 25 = .ok (.aload_n 0, 1) := by decide +kernel
theorem d_Mo_restore_26 : decode b_Mo_restore 26 = .ok (.getfield 22, 3) := by decide +kernel
theorem d_Mo_restore_29 : decode b_Mo_restore 29 = .ok (.iload_n 1, 1) := by decide +kernel
theorem d_Mo_restore_30 : decode b_Mo_restore 30 = .ok (.baload, 1) := by decide +kernel
theorem d_Mo_restore_31 : decode b_Mo_restore 31 = .ok (.ifCond .ne 5, 3) := by decide +kernel
theorem d_Mo_restore_34 : decode b_Mo_restore 34 = .ok (.iconst (-1), 1) := by decide +kernel
theorem d_Mo_restore_35 : decode b_Mo_restore 35 = .ok (.ireturn, 1) := by decide +kernel
theorem d_Mo_restore_36 : decode b_Mo_restore 36 = .ok (.aload_n 0, 1) := by decide +kernel
theorem d_Mo_restore_37 : decode b_Mo_restore 37 = .ok (.getfield 19, 3) := by decide +kernel
theorem d_Mo_restore_40 : decode b_Mo_restore 40 = .ok (.iload_n 1, 1) := by decide +kernel
theorem d_Mo_restore_41 : decode b_Mo_restore 41 = .ok (.aload_n 0, 1) := by decide +kernel
theorem d_Mo_restore_42 : decode b_Mo_restore 42 = .ok (.getfield 7, 3) := by decide +kernel
theorem d_Mo_restore_45 : decode b_Mo_restore 45 = .ok (.iconst 0, 1) := by decide +kernel
theorem d_Mo_restore_46 : decode b_Mo_restore 46 = .ok (.invokestatic 476, 3) := by decide +kernel
theorem d_Mo_restore_49 : decode b_Mo_restore 49 = .ok (.aload_n 0, 1) := by decide +kernel
theorem d_Mo_restore_50 : decode b_Mo_restore 50 = .ok (.iconst 0, 1) := by decide +kernel
theorem d_Mo_restore_51 : decode b_Mo_restore 51 = .ok (.putfield 400, 3) := by decide +kernel
theorem d_Mo_restore_54 : decode b_Mo_restore 54 = .ok (.aload_n 0, 1) := by decide +kernel
theorem d_Mo_restore_55 : decode b_Mo_restore 55 = .ok (.getfield 7, 3) := by decide +kernel
theorem d_Mo_restore_58 : decode b_Mo_restore 58 = .ok (.bipush 39, 2) := by decide +kernel
theorem d_Mo_restore_60 : decode b_Mo_restore 60 = .ok (.laload, 1) := by decide +kernel
theorem d_Mo_restore_61 : decode b_Mo_restore 61 = .ok (.l2i, 1) := by decide +kernel
theorem d_Mo_restore_62 : decode b_Mo_restore 62 = .ok (.ireturn, 1) := by decide +kernel
