theorem dX11_init_109 : decode cX11_init 109 = .ok (.newarray .int, 2) := by decide +kernel
theorem dX11_init_111 : decode cX11_init 111 = .ok (.putfield 53, 3) := by decide +kernel
theorem dX11_init_114 : decode cX11_init 114 = .ok (.aload_n 0, 1) := by decide +kernel
theorem dX11_init_115 : decode cX11_init 115 = .ok (.bipush 6, 2) := by decide +kernel
theorem dX11_init_117 : decode cX11_init 117 = .ok (.newarray .int, 2) := by decide +kernel
theorem dX11_init_119 : decode cX11_init 119 = .ok (.putfield 56, 3) := by decide +kernel
theorem dX11_init_122 : decode cX11_init 122 = .ok (.aload_n 0, 1) := by decide +kernel
theorem dX11_init_123 : decode cX11_init 123 = .ok (.bipush 6, 2) := by decide +kernel
theorem dX11_init_125 : decode cX11_init 125 = .ok (.newarray .int, 2) := by decide +kernel
theorem dX11_init_127 : decode cX11_init 127 = .ok (.putfield 59, 3) := by decide +kernel
theorem dX11_init_130 : decode cX11_init 130 = .ok (.aload_n 0, 1) := by decide +kernel
theorem dX11_init_131 : decode cX11_init 131 = .ok (.bipush 6, 2) := by decide +kernel
theorem dX11_init_133 : decode cX11_init 133 = .ok (.newarray .int, 2) := by decide +kernel
theorem dX11_init_135 : decode cX11_init 135 = .ok (.putfield 62, 3) := by decide +kernel
theorem dX11_init_138 : decode cX11_init 138 = .ok (.aload_n 0, 1) := by decide +kernel
theorem dX11_init_139 : decode cX11_init 139 = .ok (.bipush 6, 2) := by decide +kernel
theorem dX11_init_141 : decode cX11_init 141 = .ok (.newarray .int, 2) := by decide +kernel
theorem dX11_init_143 : decode cX11_init 143 = .ok (.putfield 65, 3) := by decide +kernel
theorem dX11_init_146 : decode cX11_init 146 = .ok (.aload_n 0, 1) := by decide +kernel
theorem dX11_init_147 : decode cX11_init 147 = .ok (.bipush 6, 2) := by decide +kernel
theorem dX11_init_149 : decode cX11_init 149 = .ok (.newarray .int, 2) := by decide +kernel
theorem dX11_init_151 : decode cX11_init 151 = .ok (.putfield 68, 3) := by decide +kernel
theorem dX11_init_154 : decode cX11_init 154 = .ok (.aload_n 0, 1) := by decide +kernel
theorem dX11_init_155 : decode cX11_init 155 = .ok (.iconst 3, 1) := by decide +kernel
theorem dX11_init_156 : decode cX11_init 156 = .ok (.newarray .int, 2) := by decide +kernel
theorem dX11_init_158 : decode cX11_init 158 = .ok (.putfield 71, 3) := by decide +kernel
theorem dX11_init_161 : decode cX11_init 161 = .ok (.aload_n 0, 1) := by decide +kernel
theorem dX11_init_162 : decode cX11_init 162 = .ok (.iconst 3, 1) := by decide +kernel
theorem dX11_init_163 : decode cX11_init 163 = .ok (.newarray .int, 2) := by decide +kernel
theorem dX11_init_165 : decode cX11_init 165 = .ok (.putfield 74, 3) := by decide +kernel
theorem dX11_init_168 : decode cX11_init 168 = .ok (.aload_n 0, 1) := by decide +kernel
theorem dX11_init_169 : decode cX11_init 169 = .ok (.sipush 1764, 3) := by decide +kernel
theorem dX11_init_172 : decode cX11_init 172 = .ok (.newarray .int, 2) := by decide +kernel
theorem dX11_init_174 : decode cX11_init 174 = .ok (.putfield 77, 3) := by decide +kernel
theorem dX11_init_177 : decode cX11_init 177 = .ok (.aload_n 0, 1) := by decide +kernel
theorem dX11_init_178 : decode cX11_init 178 = .ok (.bipush 6, 2) := by decide +kernel
theorem dX11_init_180 : decode cX11_init 180 = .ok (.newarray .int, 2) := by decide +kernel
theorem dX11_init_182 : decode cX11_init 182 = .ok (.putfield 80, 3) := by decide +kernel
theorem dX11_init_185 : decode cX11_init 185 = .ok (.aload_n 0, 1) := by decide +kernel
theorem dX11_init_186 : decode cX11_init 186 = .ok (.bipush 6, 2) := by decide +kernel
theorem dX11_init_188 : decode cX11_init 188 = .ok (.newarray .int, 2) := by decide +kernel
theorem dX11_init_190 : decode cX11_init 190 = .ok (.putfield 83, 3) := by decide +kernel
theorem dX11_init_193 : decode cX11_init 193 = .ok (.aload_n 0, 1) := by decide +kernel
theorem dX11_init_194 : decode cX11_init 194 = .ok (.bipush 6, 2) := by decide +kernel
theorem dX11_init_196 : decode cX11_init 196 = .ok (.newarray .int, 2) := by decide +kernel
theorem dX11_init_198 : decode cX11_init 198 = .ok (.putfield 86, 3) := by decide +kernel
theorem dX11_init_201 : decode cX11_init 201 = .ok (.aload_n 0, 1) := by decide +kernel
theorem dX11_init_202 : decode cX11_init 202 = .ok (.bipush 30, 2) := by decide +kernel
theorem dX11_init_204 : decode cX11_init 204 = .ok (.newarray .int, 2) := by decide +kernel
theorem dX11_init_206 : decode cX11_init 206 = .ok (.putfield 89, 3) := by decide +kernel
theorem dX11_init_209 : decode cX11_init 209 = .ok (.aload_n 0, 1) := by decide +kernel
theorem dX11_init_210 : decode cX11_init 210 = .ok (.bipush 30, 2) := by decide +kernel
theorem dX11_init_212 : decode cX11_init 212 = .ok (.newarray .int, 2) := by decide +kernel
theorem dX11_init_214 : decode cX11_init 214 = .ok (.putfield 92, 3) := by decide +kernel
theorem dX11_init_217 : decode cX11_init 217 = .ok (.aload_n 0, 1) := by decide +kernel
theorem dX11_init_218 : decode cX11_init 218 = .ok (.bipush 10, 2) := by decide +kernel
theorem dX11_init_220 : decode cX11_init 220 = .ok (.newarray .int, 2) := by decide +kernel
theorem dX11_init_222 : decode cX11_init 222 = .ok (.putfield 95, 3) := by decide +kernel
theorem dX11_init_225 : decode cX11_init 225 = .ok (.aload_n 0, 1) := by decide +kernel
theorem dX11_init_226 : decode cX11_init 226 = .ok (.bipush 10, 2) := by decide +kernel
theorem dX11_init_228 : decode cX11_init 228 = .ok (.newarray .int, 2) := by decide +kernel
theorem dX11_init_230 : decode cX11_init 230 = .ok (.putfield 98, 3) := by decide +kernel
theorem dX11_init_233 : decode cX11_init 233 = .ok (.aload_n 0, 1) := by decide +kernel
theorem dX11_init_234 : decode cX11_init 234 = .ok (.bipush 10, 2) := by decide +kernel
theorem dX11_init_236 : decode cX11_init 236 = .ok (.newarray .int, 2) := by decide +kernel
theorem dX11_init_238 : decode cX11_init 238 = .ok (.putfield 101, 3) := by decide +kernel
theorem dX11_init_241 : decode cX11_init 241 = .ok (.aload_n 0, 1) := by decide +kernel
theorem dX11_init_242 : decode cX11_init 242 = .ok (.sipush 140, 3) := by decide +kernel
theorem dX11_init_245 : decode cX11_init 245 = .ok (.newarray .int, 2) := by decide +kernel
theorem dX11_init_247 : decode cX11_init 247 = .ok (.putfield 104, 3) := by decide +kernel
theorem dX11_init_250 : decode cX11_init 250 = .ok (.aload_n 0, 1) := by decide +kernel
theorem dX11_init_251 : decode cX11_init 251 = .ok (.iconst 2, 1) := by decide +kernel
theorem dX11_init_252 : decode cX11_init 252 = .ok (.newarray .boolean, 2) := by decide +kernel
theorem dX11_init_254 : decode cX11_init 254 = .ok (.putfield 107, 3) := by decide +kernel
theorem dX11_init_257 : decode cX11_init 257 = .ok (.aload_n 0, 1) := by decide +kernel
theorem dX11_init_258 : decode cX11_init 258 = .ok (.iconst 0, 1) := by decide +kernel
theorem dX11_init_259 : decode cX11_init 259 = .ok (.putfield 111, 3) := by decide +kernel
theorem dX11_init_262 : decode cX11_init 262 = .ok (.return_, 1) := by decide +kernel
theorem dX11_in_0 : decode cX11_in 0 = .ok (.lload_n 0, 1) := by decide +kernel
theorem dX11_in_1 : decode cX11_in 1 = .ok (.lload_n 2, 1) := by decide +kernel
theorem dX11_in_2 : decode cX11_in 2 = .ok (.lcmp, 1) := by decide +kernel
theorem dX11_in_3 : decode cX11_in 3 = .ok (.ifCond .lt 14, 3) := by decide +kernel
theorem dX11_in_6 : decode cX11_in 6 = .ok (.lload_n 0, 1) := by decide +kernel
theorem dX11_in_7 : decode cX11_in 7 = .ok (.lload 4, 2) := by decide +kernel
theorem dX11_in_9 : decode cX11_in 9 = .ok (.lcmp, 1) := by decide +kernel
theorem dX11_in_10 : decode cX11_in 10 = .ok (.ifCond .gt 7, 3) := by decide +kernel
theorem dX11_in_13 : decode cX11_in 13 = .ok (.iconst 1, 1) := by decide +kernel
theorem dX11_in_14 : decode cX11_in 14 = .ok (.goto 4, 3) := by decide +kernel
theorem dX11_in_17 : decode cX11_in 17 = .ok (.iconst 0, 1) := by decide +kernel
theorem dX11_in_18 : decode cX11_in 18 = .ok (.ireturn, 1) := by decide +kernel
theorem dX11_has_0 : decode cX11_has 0 = .ok (.iload_n 0, 1) := by decide +kernel
theorem dX11_has_1 : decode cX11_has 1 = .ok (.iload_n 1, 1) := by decide +kernel
theorem dX11_has_2 : decode cX11_has 2 = .ok (.ishr, 1) := by decide +kernel
theorem dX11_has_3 : decode cX11_has 3 = .ok (.iconst 1, 1) := by decide +kernel
theorem dX11_has_4 : decode cX11_has 4 = .ok (.iand, 1) := by decide +kernel
theorem dX11_has_5 : decode cX11_has 5 = .ok (.iconst 1, 1) := by decide +kernel
theorem dX11_has_6 : decode cX11_has 6 = .ok (.if_icmp .ne 7, 3) := by decide +kernel
theorem dX11_has_9 : decode cX11_has 9 = .ok (.iconst 1, 1) := by decide +kernel
theorem dX11_has_10 : decode cX11_has 10 = .ok (.goto 4, 3) := by decide +kernel
theorem dX11_has_13 : decode cX11_has 13 = .ok (.iconst 0, 1) := by decide +kernel
theorem dX11_has_14 : decode cX11_has 14 = .ok (.ireturn, 1) := by decide +kernel
theorem dX11_isCell_0 : decode cX11_isCell 0 = .ok (.iload_n 1, 1) := by decide +kernel
theorem dX11_isCell_1 : decode cX11_isCell 1 = .ok (.i2l, 1) := by decide +kernel
theorem dX11_isCell_2 : decode cX11_isCell 2 = .ok (.lconst 0, 1) := by decide +kernel
theorem dX11_isCell_3 : decode cX11_isCell 3 = .ok (.aload_n 0, 1) := by decide +kernel
theorem dX11_isCell_4 : decode cX11_isCell 4 = .ok (.getfield 111, 3) := by decide +kernel
theorem dX11_isCell_7 : decode cX11_isCell 7 = .ok (.iconst 1, 1) := by decide +kernel
theorem dX11_isCell_8 : decode cX11_isCell 8 = .ok (.isub, 1) := by decide +kernel
theorem dX11_isCell_9 : decode cX11_isCell 9 = .ok (.i2l, 1) := by decide +kernel
theorem dX11_isCell_10 : decode cX11_isCell 10 = .ok (.invokestatic 114, 3) := by decide +kernel
theorem dX11_isCell_13 : decode cX11_isCell 13 = .ok (.ifCond .eq 23, 3) := by decide +kernel
theorem dX11_isCell_16 : decode cX11_isCell 16 = .ok (.iload_n 2, 1) := by decide +kernel
theorem dX11_isCell_17 : decode cX11_isCell 17 = .ok (.i2l, 1) := by decide +kernel
theorem dX11_isCell_18 : decode cX11_isCell 18 = .ok (.lconst 0, 1) := by decide +kernel
theorem dX11_isCell_19 : decode cX11_isCell 19 = .ok (.aload_n 0, 1) := by decide +kernel
theorem dX11_isCell_20 : decode cX11_isCell 20 = .ok (.getfield 118, 3) := by decide +kernel
theorem dX11_isCell_23 : decode cX11_isCell 23 = .ok (.iconst 1, 1) := by decide +kernel
theorem dX11_isCell_24 : decode cX11_isCell 24 = .ok (.isub, 1) := by decide +kernel
theorem dX11_isCell_25 : decode cX11_isCell 25 = .ok (.i2l, 1) := by decide +kernel
theorem dX11_isCell_26 : decode cX11_isCell 26 = .ok (.invokestatic 114, 3) := by decide +kernel
theorem dX11_isCell_29 : decode cX11_isCell 29 = .ok (.ifCond .eq 7, 3) := by decide +kernel
theorem dX11_isCell_32 : decode cX11_isCell 32 = .ok (.iconst 1, 1) := by decide +kernel
theorem dX11_isCell_33 : decode cX11_isCell 33 = .ok (.goto 4, 3) := by decide +kernel
theorem dX11_isCell_36 : decode cX11_isCell 36 = .ok (.iconst 0, 1) := by decide +kernel
theorem dX11_isCell_37 : decode cX11_isCell 37 = .ok (.ireturn, 1) := by decide +kernel
theorem dX11_isCrowd_0 : decode cX11_isCrowd 0 = .ok (.iload_n 1, 1) := by decide +kernel
theorem dX11_isCrowd_1 : decode cX11_isCrowd 1 = .ok (.i2l, 1) := by decide +kernel
theorem dX11_isCrowd_2 : decode cX11_isCrowd 2 = .ok (.lconst 0, 1) := by decide +kernel
theorem dX11_isCrowd_3 : decode cX11_isCrowd 3 = .ok (.aload_n 0, 1) := by decide +kernel
theorem dX11_isCrowd_4 : decode cX11_isCrowd 4 = .ok (.getfield 121, 3) := by decide +kernel
theorem dX11_isCrowd_7 : decode cX11_isCrowd 7 = .ok (.iconst 1, 1) := by decide +kernel
theorem dX11_isCrowd_8 : decode cX11_isCrowd 8 = .ok (.isub, 1) := by decide +kernel
theorem dX11_isCrowd_9 : decode cX11_isCrowd 9 = .ok (.i2l, 1) := by decide +kernel
theorem dX11_isCrowd_10 : decode cX11_isCrowd 10 = .ok (.invokestatic 114, 3) := by decide +kernel
theorem dX11_isCrowd_13 : decode cX11_isCrowd 13 = .ok (.ireturn, 1) := by decide +kernel
theorem dX11_isTune_0 : decode cX11_isTune 0 = .ok (.iload_n 1, 1) := by decide +kernel
theorem dX11_isTune_1 : decode cX11_isTune 1 = .ok (.i2l, 1) := by decide +kernel
theorem dX11_isTune_2 : decode cX11_isTune 2 = .ok (.lconst 0, 1) := by decide +kernel
theorem dX11_isTune_3 : decode cX11_isTune 3 = .ok (.aload_n 0, 1) := by decide +kernel
theorem dX11_isTune_4 : decode cX11_isTune 4 = .ok (.getfield 124, 3) := by decide +kernel
theorem dX11_isTune_7 : decode cX11_isTune 7 = .ok (.iconst 1, 1) := by decide +kernel
theorem dX11_isTune_8 : decode cX11_isTune 8 = .ok (.isub, 1) := by decide +kernel
theorem dX11_isTune_9 : decode cX11_isTune 9 = .ok (.i2l, 1) := by decide +kernel
theorem dX11_isTune_10 : decode cX11_isTune 10 = .ok (.invokestatic 114, 3) := by decide +kernel
theorem dX11_isTune_13 : decode cX11_isTune 13 = .ok (.ireturn, 1) := by decide +kernel
theorem dX11_told10_0 : decode cX11_told10 0 = .ok (.bipush 10, 2) := by decide +kernel
theorem dX11_told10_2 : decode cX11_told10 2 = .ok (.iload_n 1, 1) := by decide +kernel
theorem dX11_told10_3 : decode cX11_told10 3 = .ok (.aload_n 0, 1) := by decide +kernel
theorem dX11_told10_4 : decode cX11_told10 4 = .ok (.getfield 111, 3) := by decide +kernel
theorem dX11_told10_7 : decode cX11_told10 7 = .ok (.irem, 1) := by decide +kernel
theorem dX11_told10_8 : decode cX11_told10 8 = .ok (.imul, 1) := by decide +kernel
theorem dX11_told10_9 : decode cX11_told10 9 = .ok (.iload_n 1, 1) := by decide +kernel
theorem dX11_told10_10 : decode cX11_told10 10 = .ok (.aload_n 0, 1) := by decide +kernel
theorem dX11_told10_11 : decode cX11_told10 11 = .ok (.getfield 111, 3) := by decide +kernel
theorem dX11_told10_14 : decode cX11_told10 14 = .ok (.idiv, 1) := by decide +kernel
theorem dX11_told10_15 : decode cX11_told10 15 = .ok (.iadd, 1) := by decide +kernel
theorem dX11_told10_16 : decode cX11_told10 16 = .ok (.ireturn, 1) := by decide +kernel
theorem dX11_feed_0 : decode cX11_feed 0 = .ok (.iload_n 1, 1) := by decide +kernel
theorem dX11_feed_1 : decode cX11_feed 1 = .ok (.i2l, 1) := by decide +kernel
theorem dX11_feed_2 : decode cX11_feed 2 = .ok (.lconst 1, 1) := by decide +kernel
theorem dX11_feed_3 : decode cX11_feed 3 = .ok (.ldc2_w 127, 3) := by decide +kernel
theorem dX11_feed_6 : decode cX11_feed 6 = .ok (.invokestatic 114, 3) := by decide +kernel
theorem dX11_feed_9 : decode cX11_feed 9 = .ok (.ifCond .ne 6, 3) := by decide +kernel
theorem dX11_feed_12 : decode cX11_feed 12 = .ok (.ldc 129, 2) := by decide +kernel
theorem dX11_feed_14 : decode cX11_feed 14 = .ok (.ireturn, 1) := by decide +kernel
theorem dX11_feed_15 : decode cX11_feed 15 = .ok (.aload_n 0, 1) := by decide +kernel
theorem dX11_feed_16 : decode cX11_feed 16 = .ok (.getfield 130, 3) := by decide +kernel
theorem dX11_feed_19 : decode cX11_feed 19 = .ok (.iload_n 1, 1) := by decide +kernel
theorem dX11_feed_20 : decode cX11_feed 20 = .ok (.iadd, 1) := by decide +kernel
theorem dX11_feed_21 : decode cX11_feed 21 = .ok (.sipush 500, 3) := by decide +kernel
theorem dX11_feed_24 : decode cX11_feed 24 = .ok (.if_icmp .le 6, 3) := by decide +kernel
theorem dX11_feed_27 : decode cX11_feed 27 = .ok (.ldc 133, 2) := by decide +kernel
theorem dX11_feed_29 : decode cX11_feed 29 = .ok (.ireturn, 1) := by decide +kernel
theorem dX11_feed_30 : decode cX11_feed 30 = .ok (.iload_n 1, 1) := by decide +kernel
theorem dX11_feed_31 : decode cX11_feed 31 = .ok (.iconst 1, 1) := by decide +kernel
theorem dX11_feed_32 : decode cX11_feed 32 = .ok (.isub, 1) := by decide +kernel
theorem dX11_feed_33 : decode cX11_feed 33 = .ok (.istore 4, 2) := by decide +kernel
theorem dX11_feed_35 : decode cX11_feed 35 = .ok (.iload 4, 2) := by decide +kernel
theorem dX11_feed_37 : decode cX11_feed 37 = .ok (.ifCond .lt 40, 3) := by decide +kernel
theorem dX11_feed_40 : decode cX11_feed 40 = .ok (.aload_n 0, 1) := by decide +kernel
theorem dX11_feed_41 : decode cX11_feed 41 = .ok (.getfield 47, 3) := by decide +kernel
theorem dX11_feed_44 : decode cX11_feed 44 = .ok (.aload_n 0, 1) := by decide +kernel
theorem dX11_feed_45 : decode cX11_feed 45 = .ok (.getfield 130, 3) := by decide +kernel
theorem dX11_feed_48 : decode cX11_feed 48 = .ok (.lload_n 2, 1) := by decide +kernel
theorem dX11_feed_49 : decode cX11_feed 49 = .ok (.bipush 8, 2) := by decide +kernel
theorem dX11_feed_51 : decode cX11_feed 51 = .ok (.iload 4, 2) := by decide +kernel
theorem dX11_feed_53 : decode cX11_feed 53 = .ok (.imul, 1) := by decide +kernel
theorem dX11_feed_54 : decode cX11_feed 54 = .ok (.lshr, 1) := by decide +kernel
theorem dX11_feed_55 : decode cX11_feed 55 = .ok (.ldc2_w 134, 3) := by decide +kernel
theorem dX11_feed_58 : decode cX11_feed 58 = .ok (.land, 1) := by decide +kernel
theorem dX11_feed_59 : decode cX11_feed 59 = .ok (.l2i, 1) := by decide +kernel
theorem dX11_feed_60 : decode cX11_feed 60 = .ok (.iastore, 1) := by decide +kernel
theorem dX11_feed_61 : decode cX11_feed 61 = .ok (.aload_n 0, 1) := by decide +kernel
theorem dX11_feed_62 : decode cX11_feed 62 = .ok (.dup, 1) := by decide +kernel
theorem dX11_feed_63 : decode cX11_feed 63 = .ok (.getfield 130, 3) := by decide +kernel
theorem dX11_feed_66 : decode cX11_feed 66 = .ok (.iconst 1, 1) := by decide +kernel
theorem dX11_feed_67 : decode cX11_feed 67 = .ok (.iadd, 1) := by decide +kernel
theorem dX11_feed_68 : decode cX11_feed 68 = .ok (.putfield 130, 3) := by decide +kernel
theorem dX11_feed_71 : decode cX11_feed 71 = .ok (.iinc 4 (-1), 3) := by decide +kernel
theorem dX11_feed_74 : decode cX11_feed 74 = .ok (.goto (-39), 3) := by decide +kernel
theorem dX11_feed_77 : decode cX11_feed 77 = .ok (.aload_n 0, 1) := by decide +kernel
theorem dX11_feed_78 : decode cX11_feed 78 = .ok (.getfield 130, 3) := by decide +kernel
theorem dX11_feed_81 : decode cX11_feed 81 = .ok (.ireturn, 1) := by decide +kernel
theorem dX11_here_0 : decode cX11_here 0 = .ok (.aload_n 0, 1) := by decide +kernel
theorem dX11_here_1 : decode cX11_here 1 = .ok (.getfield 136, 3) := by decide +kernel
theorem dX11_here_4 : decode cX11_here 4 = .ok (.aload_n 0, 1) := by decide +kernel
theorem dX11_here_5 : decode cX11_here 5 = .ok (.getfield 130, 3) := by decide +kernel
theorem dX11_here_8 : decode cX11_here 8 = .ok (.if_icmp .ge 30, 3) := by decide +kernel
theorem dX11_here_11 : decode cX11_here 11 = .ok (.aload_n 0, 1) := by decide +kernel
theorem dX11_here_12 : decode cX11_here 12 = .ok (.getfield 47, 3) := by decide +kernel
theorem dX11_here_15 : decode cX11_here 15 = .ok (.aload_n 0, 1) := by decide +kernel
theorem dX11_here_16 : decode cX11_here 16 = .ok (.getfield 136, 3) := by decide +kernel
theorem dX11_here_19 : decode cX11_here 19 = .ok (.iaload, 1) := by decide +kernel
theorem dX11_here_20 : decode cX11_here 20 = .ok (.bipush 32, 2) := by decide +kernel
theorem dX11_here_22 : decode cX11_here 22 = .ok (.if_icmp .ne 16, 3) := by decide +kernel
theorem dX11_here_25 : decode cX11_here 25 = .ok (.aload_n 0, 1) := by decide +kernel
theorem dX11_here_26 : decode cX11_here 26 = .ok (.dup, 1) := by decide +kernel
theorem dX11_here_27 : decode cX11_here 27 = .ok (.getfield 136, 3) := by decide +kernel
theorem dX11_here_30 : decode cX11_here 30 = .ok (.iconst 1, 1) := by decide +kernel
theorem dX11_here_31 : decode cX11_here 31 = .ok (.iadd, 1) := by decide +kernel
theorem dX11_here_32 : decode cX11_here 32 = .ok (.putfield 136, 3) := by decide +kernel
theorem dX11_here_35 : decode cX11_here 35 = .ok (.goto (-35), 3) := by decide +kernel
theorem dX11_here_38 : decode cX11_here 38 = .ok (.aload_n 0, 1) := by decide +kernel
theorem dX11_here_39 : decode cX11_here 39 = .ok (.getfield 136, 3) := by decide +kernel
theorem dX11_here_42 : decode cX11_here 42 = .ok (.aload_n 0, 1) := by decide +kernel
theorem dX11_here_43 : decode cX11_here 43 = .ok (.getfield 130, 3) := by decide +kernel
theorem dX11_here_46 : decode cX11_here 46 = .ok (.if_icmp .ge 15, 3) := by decide +kernel
theorem dX11_here_49 : decode cX11_here 49 = .ok (.aload_n 0, 1) := by decide +kernel
theorem dX11_here_50 : decode cX11_here 50 = .ok (.getfield 47, 3) := by decide +kernel
theorem dX11_here_53 : decode cX11_here 53 = .ok (.aload_n 0, 1) := by decide +kernel
theorem dX11_here_54 : decode cX11_here 54 = .ok (.getfield 136, 3) := by decide +kernel
theorem dX11_here_57 : decode cX11_here 57 = .ok (.iaload, 1) := by decide +kernel
theorem dX11_here_58 : decode cX11_here 58 = .ok (.goto 4, 3) := by decide +kernel
theorem dX11_here_61 : decode cX11_here 61 = .ok (.iconst (-1), 1) := by decide +kernel
theorem dX11_here_62 : decode cX11_here 62 = .ok (.ireturn, 1) := by decide +kernel
theorem dX11_fails_0 : decode cX11_fails 0 = .ok (.aload_n 0, 1) := by decide +kernel
theorem dX11_fails_1 : decode cX11_fails 1 = .ok (.iload_n 2, 1) := by decide +kernel
theorem dX11_fails_2 : decode cX11_fails 2 = .ok (.putfield 50, 3) := by decide +kernel
theorem dX11_fails_5 : decode cX11_fails 5 = .ok (.iload_n 1, 1) := by decide +kernel
theorem dX11_fails_6 : decode cX11_fails 6 = .ok (.ireturn, 1) := by decide +kernel
theorem dX11_readWord_0 : decode cX11_readWord 0 = .ok (.aload_n 0, 1) := by decide +kernel
theorem dX11_readWord_1 : decode cX11_readWord 1 = .ok (.invokevirtual 139, 3) := by decide +kernel
theorem dX11_readWord_4 : decode cX11_readWord 4 = .ok (.istore_n 1, 1) := by decide +kernel
theorem dX11_readWord_5 : decode cX11_readWord 5 = .ok (.aload_n 0, 1) := by decide +kernel
theorem dX11_readWord_6 : decode cX11_readWord 6 = .ok (.lconst 0, 1) := by decide +kernel
theorem dX11_readWord_7 : decode cX11_readWord 7 = .ok (.putfield 143, 3) := by decide +kernel
theorem dX11_readWord_10 : decode cX11_readWord 10 = .ok (.aload_n 0, 1) := by decide +kernel
theorem dX11_readWord_11 : decode cX11_readWord 11 = .ok (.aload_n 0, 1) := by decide +kernel
theorem dX11_readWord_12 : decode cX11_readWord 12 = .ok (.getfield 136, 3) := by decide +kernel
theorem dX11_readWord_15 : decode cX11_readWord 15 = .ok (.putfield 147, 3) := by decide +kernel
theorem dX11_readWord_18 : decode cX11_readWord 18 = .ok (.aload_n 0, 1) := by decide +kernel
theorem dX11_readWord_19 : decode cX11_readWord 19 = .ok (.getfield 147, 3) := by decide +kernel
theorem dX11_readWord_22 : decode cX11_readWord 22 = .ok (.aload_n 0, 1) := by decide +kernel
theorem dX11_readWord_23 : decode cX11_readWord 23 = .ok (.getfield 130, 3) := by decide +kernel
theorem dX11_readWord_26 : decode cX11_readWord 26 = .ok (.if_icmp .ge 82, 3) := by decide +kernel
theorem dX11_readWord_29 : decode cX11_readWord 29 = .ok (.aload_n 0, 1) := by decide +kernel
theorem dX11_readWord_30 : decode cX11_readWord 30 = .ok (.getfield 47, 3) := by decide +kernel
theorem dX11_readWord_33 : decode cX11_readWord 33 = .ok (.aload_n 0, 1) := by decide +kernel
theorem dX11_readWord_34 : decode cX11_readWord 34 = .ok (.getfield 147, 3) := by decide +kernel
theorem dX11_readWord_37 : decode cX11_readWord 37 = .ok (.iaload, 1) := by decide +kernel
theorem dX11_readWord_38 : decode cX11_readWord 38 = .ok (.i2l, 1) := by decide +kernel
theorem dX11_readWord_39 : decode cX11_readWord 39 = .ok (.ldc2_w 150, 3) := by decide +kernel
theorem dX11_readWord_42 : decode cX11_readWord 42 = .ok (.ldc2_w 152, 3) := by decide +kernel
theorem dX11_readWord_45 : decode cX11_readWord 45 = .ok (.invokestatic 114, 3) := by decide +kernel
theorem dX11_readWord_48 : decode cX11_readWord 48 = .ok (.ifCond .eq 60, 3) := by decide +kernel
theorem dX11_readWord_51 : decode cX11_readWord 51 = .ok (.aload_n 0, 1) := by decide +kernel
theorem dX11_readWord_52 : decode cX11_readWord 52 = .ok (.aload_n 0, 1) := by decide +kernel
theorem dX11_readWord_53 : decode cX11_readWord 53 = .ok (.getfield 143, 3) := by decide +kernel
theorem dX11_readWord_56 : decode cX11_readWord 56 = .ok (.ldc2_w 154, 3) := by decide +kernel
theorem dX11_readWord_59 : decode cX11_readWord 59 = .ok (.lcmp, 1) := by decide +kernel
theorem dX11_readWord_60 : decode cX11_readWord 60 = .ok (.ifCond .le 9, 3) := by decide +kernel
theorem dX11_readWord_63 : decode cX11_readWord 63 = .ok (.ldc2_w 156, 3) := by decide +kernel
theorem dX11_readWord_66 : decode cX11_readWord 66 = .ok (.goto 26, 3) := by decide +kernel
theorem dX11_readWord_69 : decode cX11_readWord 69 = .ok (.ldc2_w 158, 3) := by decide +kernel
theorem dX11_readWord_72 : decode cX11_readWord 72 = .ok (.aload_n 0, 1) := by decide +kernel
theorem dX11_readWord_73 : decode cX11_readWord 73 = .ok (.getfield 143, 3) := by decide +kernel
theorem dX11_readWord_76 : decode cX11_readWord 76 = .ok (.lmul, 1) := by decide +kernel
theorem dX11_readWord_77 : decode cX11_readWord 77 = .ok (.aload_n 0, 1) := by decide +kernel
theorem dX11_readWord_78 : decode cX11_readWord 78 = .ok (.getfield 47, 3) := by decide +kernel
theorem dX11_readWord_81 : decode cX11_readWord 81 = .ok (.aload_n 0, 1) := by decide +kernel
theorem dX11_readWord_82 : decode cX11_readWord 82 = .ok (.getfield 147, 3) := by decide +kernel
theorem dX11_readWord_85 : decode cX11_readWord 85 = .ok (.iaload, 1) := by decide +kernel
theorem dX11_readWord_86 : decode cX11_readWord 86 = .ok (.i2l, 1) := by decide +kernel
theorem dX11_readWord_87 : decode cX11_readWord 87 = .ok (.ladd, 1) := by decide +kernel
theorem dX11_readWord_88 : decode cX11_readWord 88 = .ok (.ldc2_w 160, 3) := by decide +kernel
theorem dX11_readWord_91 : decode cX11_readWord 91 = .ok (.lsub, 1) := by decide +kernel
theorem dX11_readWord_92 : decode cX11_readWord 92 = .ok (.putfield 143, 3) := by decide +kernel
theorem dX11_readWord_95 : decode cX11_readWord 95 = .ok (.aload_n 0, 1) := by decide +kernel
theorem dX11_readWord_96 : decode cX11_readWord 96 = .ok (.dup, 1) := by decide +kernel
theorem dX11_readWord_97 : decode cX11_readWord 97 = .ok (.getfield 147, 3) := by decide +kernel
theorem dX11_readWord_100 : decode cX11_readWord 100 = .ok (.iconst 1, 1) := by decide +kernel
theorem dX11_readWord_101 : decode cX11_readWord 101 = .ok (.iadd, 1) := by decide +kernel
theorem dX11_readWord_102 : decode cX11_readWord 102 = .ok (.putfield 147, 3) := by decide +kernel
theorem dX11_readWord_105 : decode cX11_readWord 105 = .ok (.goto (-87), 3) := by decide +kernel
theorem dX11_readWord_108 : decode cX11_readWord 108 = .ok (.return_, 1) := by decide +kernel
theorem dX11_code_0 : decode cX11_code 0 = .ok (.ldc2_w 158, 3) := by decide +kernel
theorem dX11_code_3 : decode cX11_code 3 = .ok (.ldc2_w 158, 3) := by decide +kernel
theorem dX11_code_6 : decode cX11_code 6 = .ok (.iload_n 0, 1) := by decide +kernel
theorem dX11_code_7 : decode cX11_code 7 = .ok (.i2l, 1) := by decide +kernel
theorem dX11_code_8 : decode cX11_code 8 = .ok (.ldc2_w 160, 3) := by decide +kernel
theorem dX11_code_11 : decode cX11_code 11 = .ok (.lsub, 1) := by decide +kernel
theorem dX11_code_12 : decode cX11_code 12 = .ok (.lmul, 1) := by decide +kernel
theorem dX11_code_13 : decode cX11_code 13 = .ok (.iload_n 1, 1) := by decide +kernel
theorem dX11_code_14 : decode cX11_code 14 = .ok (.i2l, 1) := by decide +kernel
theorem dX11_code_15 : decode cX11_code 15 = .ok (.ladd, 1) := by decide +kernel
theorem dX11_code_16 : decode cX11_code 16 = .ok (.ldc2_w 160, 3) := by decide +kernel
theorem dX11_code_19 : decode cX11_code 19 = .ok (.lsub, 1) := by decide +kernel
theorem dX11_code_20 : decode cX11_code 20 = .ok (.lmul, 1) := by decide +kernel
theorem dX11_code_21 : decode cX11_code 21 = .ok (.iload_n 2, 1) := by decide +kernel
theorem dX11_code_22 : decode cX11_code 22 = .ok (.i2l, 1) := by decide +kernel
theorem dX11_code_23 : decode cX11_code 23 = .ok (.ladd, 1) := by decide +kernel
theorem dX11_code_24 : decode cX11_code 24 = .ok (.ldc2_w 160, 3) := by decide +kernel
theorem dX11_code_27 : decode cX11_code 27 = .ok (.lsub, 1) := by decide +kernel
theorem dX11_code_28 : decode cX11_code 28 = .ok (.lreturn, 1) := by decide +kernel
theorem dX11_more_0 : decode cX11_more 0 = .ok (.ldc2_w 158, 3) := by decide +kernel
theorem dX11_more_3 : decode cX11_more 3 = .ok (.lload_n 0, 1) := by decide +kernel
theorem dX11_more_4 : decode cX11_more 4 = .ok (.lmul, 1) := by decide +kernel
theorem dX11_more_5 : decode cX11_more 5 = .ok (.iload_n 2, 1) := by decide +kernel
theorem dX11_more_6 : decode cX11_more 6 = .ok (.i2l, 1) := by decide +kernel
theorem dX11_more_7 : decode cX11_more 7 = .ok (.ladd, 1) := by decide +kernel
theorem dX11_more_8 : decode cX11_more 8 = .ok (.ldc2_w 160, 3) := by decide +kernel
theorem dX11_more_11 : decode cX11_more 11 = .ok (.lsub, 1) := by decide +kernel
theorem dX11_more_12 : decode cX11_more 12 = .ok (.lreturn, 1) := by decide +kernel
theorem dX11_takeNumber_0 : decode cX11_takeNumber 0 = .ok (.aload_n 0, 1) := by decide +kernel
theorem dX11_takeNumber_1 : decode cX11_takeNumber 1 = .ok (.invokevirtual 139, 3) := by decide +kernel
theorem dX11_takeNumber_4 : decode cX11_takeNumber 4 = .ok (.istore_n 3, 1) := by decide +kernel
theorem dX11_takeNumber_5 : decode cX11_takeNumber 5 = .ok (.iload_n 3, 1) := by decide +kernel
theorem dX11_takeNumber_6 : decode cX11_takeNumber 6 = .ok (.i2l, 1) := by decide +kernel
theorem dX11_takeNumber_7 : decode cX11_takeNumber 7 = .ok (.ldc2_w 162, 3) := by decide +kernel
theorem dX11_takeNumber_10 : decode cX11_takeNumber 10 = .ok (.ldc2_w 164, 3) := by decide +kernel
theorem dX11_takeNumber_13 : decode cX11_takeNumber 13 = .ok (.invokestatic 114, 3) := by decide +kernel
theorem dX11_takeNumber_16 : decode cX11_takeNumber 16 = .ok (.ifCond .ne 13, 3) := by decide +kernel
theorem dX11_takeNumber_19 : decode cX11_takeNumber 19 = .ok (.aload_n 0, 1) := by decide +kernel
theorem dX11_takeNumber_20 : decode cX11_takeNumber 20 = .ok (.iconst 1, 1) := by decide +kernel
theorem dX11_takeNumber_21 : decode cX11_takeNumber 21 = .ok (.aload_n 0, 1) := by decide +kernel
theorem dX11_takeNumber_22 : decode cX11_takeNumber 22 = .ok (.getfield 136, 3) := by decide +kernel
theorem dX11_takeNumber_25 : decode cX11_takeNumber 25 = .ok (.invokevirtual 166, 3) := by decide +kernel
theorem dX11_takeNumber_28 : decode cX11_takeNumber 28 = .ok (.ireturn, 1) := by decide +kernel
theorem dX11_takeNumber_29 : decode cX11_takeNumber 29 = .ok (.aload_n 0, 1) := by decide +kernel
theorem dX11_takeNumber_30 : decode cX11_takeNumber 30 = .ok (.aload_n 0, 1) := by decide +kernel
theorem dX11_takeNumber_31 : decode cX11_takeNumber 31 = .ok (.getfield 136, 3) := by decide +kernel
theorem dX11_takeNumber_34 : decode cX11_takeNumber 34 = .ok (.putfield 170, 3) := by decide +kernel
theorem dX11_takeNumber_37 : decode cX11_takeNumber 37 = .ok (.aload_n 0, 1) := by decide +kernel
theorem dX11_takeNumber_38 : decode cX11_takeNumber 38 = .ok (.iconst 0, 1) := by decide +kernel
theorem dX11_takeNumber_39 : decode cX11_takeNumber 39 = .ok (.putfield 173, 3) := by decide +kernel
theorem dX11_takeNumber_42 : decode cX11_takeNumber 42 = .ok (.aload_n 0, 1) := by decide +kernel
theorem dX11_takeNumber_43 : decode cX11_takeNumber 43 = .ok (.getfield 136, 3) := by decide +kernel
theorem dX11_takeNumber_46 : decode cX11_takeNumber 46 = .ok (.aload_n 0, 1) := by decide +kernel
theorem dX11_takeNumber_47 : decode cX11_takeNumber 47 = .ok (.getfield 130, 3) := by decide +kernel
theorem dX11_takeNumber_50 : decode cX11_takeNumber 50 = .ok (.if_icmp .ge 79, 3) := by decide +kernel
theorem dX11_takeNumber_53 : decode cX11_takeNumber 53 = .ok (.aload_n 0, 1) := by decide +kernel
theorem dX11_takeNumber_54 : decode cX11_takeNumber 54 = .ok (.getfield 47, 3) := by decide +kernel
theorem dX11_takeNumber_57 : decode cX11_takeNumber 57 = .ok (.aload_n 0, 1) := by decide +kernel
theorem dX11_takeNumber_58 : decode cX11_takeNumber 58 = .ok (.getfield 136, 3) := by decide +kernel
theorem dX11_takeNumber_61 : decode cX11_takeNumber 61 = .ok (.iaload, 1) := by decide +kernel
theorem dX11_takeNumber_62 : decode cX11_takeNumber 62 = .ok (.i2l, 1) := by decide +kernel
theorem dX11_takeNumber_63 : decode cX11_takeNumber 63 = .ok (.ldc2_w 162, 3) := by decide +kernel
theorem dX11_takeNumber_66 : decode cX11_takeNumber 66 = .ok (.ldc2_w 164, 3) := by decide +kernel
theorem dX11_takeNumber_69 : decode cX11_takeNumber 69 = .ok (.invokestatic 114, 3) := by decide +kernel
theorem dX11_takeNumber_72 : decode cX11_takeNumber 72 = .ok (.ifCond .eq 57, 3) := by decide +kernel
theorem dX11_takeNumber_75 : decode cX11_takeNumber 75 = .ok (.aload_n 0, 1) := by decide +kernel
theorem dX11_takeNumber_76 : decode cX11_takeNumber 76 = .ok (.aload_n 0, 1) := by decide +kernel
theorem dX11_takeNumber_77 : decode cX11_takeNumber 77 = .ok (.getfield 173, 3) := by decide +kernel
theorem dX11_takeNumber_80 : decode cX11_takeNumber 80 = .ok (.sipush 10000, 3) := by decide +kernel
theorem dX11_takeNumber_83 : decode cX11_takeNumber 83 = .ok (.if_icmp .le 10, 3) := by decide +kernel
theorem dX11_takeNumber_86 : decode cX11_takeNumber 86 = .ok (.aload_n 0, 1) := by decide +kernel
theorem dX11_takeNumber_87 : decode cX11_takeNumber 87 = .ok (.getfield 173, 3) := by decide +kernel
theorem dX11_takeNumber_90 : decode cX11_takeNumber 90 = .ok (.goto 23, 3) := by decide +kernel
theorem dX11_takeNumber_93 : decode cX11_takeNumber 93 = .ok (.bipush 10, 2) := by decide +kernel
theorem dX11_takeNumber_95 : decode cX11_takeNumber 95 = .ok (.aload_n 0, 1) := by decide +kernel
theorem dX11_takeNumber_96 : decode cX11_takeNumber 96 = .ok (.getfield 173, 3) := by decide +kernel
theorem dX11_takeNumber_99 : decode cX11_takeNumber 99 = .ok (.imul, 1) := by decide +kernel
theorem dX11_takeNumber_100 : decode cX11_takeNumber 100 = .ok (.aload_n 0, 1) := by decide +kernel
theorem dX11_takeNumber_101 : decode cX11_takeNumber 101 = .ok (.getfield 47, 3) := by decide +kernel
theorem dX11_takeNumber_104 : decode cX11_takeNumber 104 = .ok (.aload_n 0, 1) := by decide +kernel
theorem dX11_takeNumber_105 : decode cX11_takeNumber 105 = .ok (.getfield 136, 3) := by decide +kernel
theorem dX11_takeNumber_108 : decode cX11_takeNumber 108 = .ok (.iaload, 1) := by decide +kernel
theorem dX11_takeNumber_109 : decode cX11_takeNumber 109 = .ok (.iadd, 1) := by decide +kernel
theorem dX11_takeNumber_110 : decode cX11_takeNumber 110 = .ok (.bipush 48, 2) := by decide +kernel
theorem dX11_takeNumber_112 : decode cX11_takeNumber 112 = .ok (.isub, 1) := by decide +kernel
theorem dX11_takeNumber_113 : decode cX11_takeNumber 113 = .ok (.putfield 173, 3) := by decide +kernel
theorem dX11_takeNumber_116 : decode cX11_takeNumber 116 = .ok (.aload_n 0, 1) := by decide +kernel
theorem dX11_takeNumber_117 : decode cX11_takeNumber 117 = .ok (.dup, 1) := by decide +kernel
theorem dX11_takeNumber_118 : decode cX11_takeNumber 118 = .ok (.getfield 136, 3) := by decide +kernel
theorem dX11_takeNumber_121 : decode cX11_takeNumber 121 = .ok (.iconst 1, 1) := by decide +kernel
theorem dX11_takeNumber_122 : decode cX11_takeNumber 122 = .ok (.iadd, 1) := by decide +kernel
theorem dX11_takeNumber_123 : decode cX11_takeNumber 123 = .ok (.putfield 136, 3) := by decide +kernel
theorem dX11_takeNumber_126 : decode cX11_takeNumber 126 = .ok (.goto (-84), 3) := by decide +kernel
theorem dX11_takeNumber_129 : decode cX11_takeNumber 129 = .ok (.aload_n 0, 1) := by decide +kernel
theorem dX11_takeNumber_130 : decode cX11_takeNumber 130 = .ok (.getfield 136, 3) := by decide +kernel
theorem dX11_takeNumber_133 : decode cX11_takeNumber 133 = .ok (.aload_n 0, 1) := by decide +kernel
theorem dX11_takeNumber_134 : decode cX11_takeNumber 134 = .ok (.getfield 170, 3) := by decide +kernel
theorem dX11_takeNumber_137 : decode cX11_takeNumber 137 = .ok (.isub, 1) := by decide +kernel
theorem dX11_takeNumber_138 : decode cX11_takeNumber 138 = .ok (.iconst 3, 1) := by decide +kernel
theorem dX11_takeNumber_139 : decode cX11_takeNumber 139 = .ok (.if_icmp .gt 18, 3) := by decide +kernel
theorem dX11_takeNumber_142 : decode cX11_takeNumber 142 = .ok (.aload_n 0, 1) := by decide +kernel
theorem dX11_takeNumber_143 : decode cX11_takeNumber 143 = .ok (.getfield 173, 3) := by decide +kernel
theorem dX11_takeNumber_146 : decode cX11_takeNumber 146 = .ok (.i2l, 1) := by decide +kernel
theorem dX11_takeNumber_147 : decode cX11_takeNumber 147 = .ok (.iload_n 1, 1) := by decide +kernel
theorem dX11_takeNumber_148 : decode cX11_takeNumber 148 = .ok (.i2l, 1) := by decide +kernel
theorem dX11_takeNumber_149 : decode cX11_takeNumber 149 = .ok (.iload_n 2, 1) := by decide +kernel
theorem dX11_takeNumber_150 : decode cX11_takeNumber 150 = .ok (.i2l, 1) := by decide +kernel
theorem dX11_takeNumber_151 : decode cX11_takeNumber 151 = .ok (.invokestatic 114, 3) := by decide +kernel
theorem dX11_takeNumber_154 : decode cX11_takeNumber 154 = .ok (.ifCond .ne 15, 3) := by decide +kernel
theorem dX11_takeNumber_157 : decode cX11_takeNumber 157 = .ok (.aload_n 0, 1) := by decide +kernel
theorem dX11_takeNumber_158 : decode cX11_takeNumber 158 = .ok (.iconst 2, 1) := by decide +kernel
theorem dX11_takeNumber_159 : decode cX11_takeNumber 159 = .ok (.aload_n 0, 1) := by decide +kernel
theorem dX11_takeNumber_160 : decode cX11_takeNumber 160 = .ok (.getfield 170, 3) := by decide +kernel
theorem dX11_takeNumber_163 : decode cX11_takeNumber 163 = .ok (.invokevirtual 166, 3) := by decide +kernel
theorem dX11_takeNumber_166 : decode cX11_takeNumber 166 = .ok (.goto 4, 3) := by decide +kernel
theorem dX11_takeNumber_169 : decode cX11_takeNumber 169 = .ok (.iconst 0, 1) := by decide +kernel
theorem dX11_takeNumber_170 : decode cX11_takeNumber 170 = .ok (.ireturn, 1) := by decide +kernel
theorem dX11_into_0 : decode cX11_into 0 = .ok (.aload_n 0, 1) := by decide +kernel
theorem dX11_into_1 : decode cX11_into 1 = .ok (.iload_n 3, 1) := by decide +kernel
theorem dX11_into_2 : decode cX11_into 2 = .ok (.iload 4, 2) := by decide +kernel
theorem dX11_into_4 : decode cX11_into 4 = .ok (.invokevirtual 176, 3) := by decide +kernel
theorem dX11_into_7 : decode cX11_into 7 = .ok (.istore 5, 2) := by decide +kernel
theorem dX11_into_9 : decode cX11_into 9 = .ok (.aload_n 1, 1) := by decide +kernel
theorem dX11_into_10 : decode cX11_into 10 = .ok (.iload_n 2, 1) := by decide +kernel
theorem dX11_into_11 : decode cX11_into 11 = .ok (.aload_n 0, 1) := by decide +kernel
theorem dX11_into_12 : decode cX11_into 12 = .ok (.getfield 173, 3) := by decide +kernel
theorem dX11_into_15 : decode cX11_into 15 = .ok (.iastore, 1) := by decide +kernel
theorem dX11_into_16 : decode cX11_into 16 = .ok (.iload 5, 2) := by decide +kernel
theorem dX11_into_18 : decode cX11_into 18 = .ok (.ireturn, 1) := by decide +kernel
theorem dX11_takeTown_0 : decode cX11_takeTown 0 = .ok (.aload_n 0, 1) := by decide +kernel
theorem dX11_takeTown_1 : decode cX11_takeTown 1 = .ok (.iconst 1, 1) := by decide +kernel
theorem dX11_takeTown_2 : decode cX11_takeTown 2 = .ok (.bipush 9, 2) := by decide +kernel
theorem dX11_takeTown_4 : decode cX11_takeTown 4 = .ok (.invokevirtual 176, 3) := by decide +kernel
theorem dX11_takeTown_7 : decode cX11_takeTown 7 = .ok (.istore_n 1, 1) := by decide +kernel
theorem dX11_takeTown_8 : decode cX11_takeTown 8 = .ok (.aload_n 0, 1) := by decide +kernel
theorem dX11_takeTown_9 : decode cX11_takeTown 9 = .ok (.getfield 173, 3) := by decide +kernel
theorem dX11_takeTown_12 : decode cX11_takeTown 12 = .ok (.istore_n 2, 1) := by decide +kernel
theorem dX11_takeTown_13 : decode cX11_takeTown 13 = .ok (.iload_n 1, 1) := by decide +kernel
theorem dX11_takeTown_14 : decode cX11_takeTown 14 = .ok (.ifCond .le 7, 3) := by decide +kernel
theorem dX11_takeTown_17 : decode cX11_takeTown 17 = .ok (.iload_n 1, 1) := by decide +kernel
theorem dX11_takeTown_18 : decode cX11_takeTown 18 = .ok (.goto 10, 3) := by decide +kernel
theorem dX11_takeTown_21 : decode cX11_takeTown 21 = .ok (.aload_n 0, 1) := by decide +kernel
theorem dX11_takeTown_22 : decode cX11_takeTown 22 = .ok (.iconst 1, 1) := by decide +kernel
theorem dX11_takeTown_23 : decode cX11_takeTown 23 = .ok (.bipush 9, 2) := by decide +kernel
theorem dX11_takeTown_25 : decode cX11_takeTown 25 = .ok (.invokevirtual 176, 3) := by decide +kernel
theorem dX11_takeTown_28 : decode cX11_takeTown 28 = .ok (.istore_n 1, 1) := by decide +kernel
theorem dX11_takeTown_29 : decode cX11_takeTown 29 = .ok (.iload_n 1, 1) := by decide +kernel
theorem dX11_takeTown_30 : decode cX11_takeTown 30 = .ok (.ifCond .le 5, 3) := by decide +kernel
theorem dX11_takeTown_33 : decode cX11_takeTown 33 = .ok (.iload_n 1, 1) := by decide +kernel
theorem dX11_takeTown_34 : decode cX11_takeTown 34 = .ok (.ireturn, 1) := by decide +kernel
theorem dX11_takeTown_35 : decode cX11_takeTown 35 = .ok (.iload_n 2, 1) := by decide +kernel
theorem dX11_takeTown_36 : decode cX11_takeTown 36 = .ok (.aload_n 0, 1) := by decide +kernel
theorem dX11_takeTown_37 : decode cX11_takeTown 37 = .ok (.getfield 173, 3) := by decide +kernel
theorem dX11_takeTown_40 : decode cX11_takeTown 40 = .ok (.imul, 1) := by decide +kernel
theorem dX11_takeTown_41 : decode cX11_takeTown 41 = .ok (.bipush 42, 2) := by decide +kernel
theorem dX11_takeTown_43 : decode cX11_takeTown 43 = .ok (.if_icmp .le 13, 3) := by decide +kernel
theorem dX11_takeTown_46 : decode cX11_takeTown 46 = .ok (.aload_n 0, 1) := by decide +kernel
theorem dX11_takeTown_47 : decode cX11_takeTown 47 = .ok (.iconst 2, 1) := by decide +kernel
theorem dX11_takeTown_48 : decode cX11_takeTown 48 = .ok (.aload_n 0, 1) := by decide +kernel
theorem dX11_takeTown_49 : decode cX11_takeTown 49 = .ok (.getfield 170, 3) := by decide +kernel
theorem dX11_takeTown_52 : decode cX11_takeTown 52 = .ok (.invokevirtual 166, 3) := by decide +kernel
theorem dX11_takeTown_55 : decode cX11_takeTown 55 = .ok (.ireturn, 1) := by decide +kernel
theorem dX11_takeTown_56 : decode cX11_takeTown 56 = .ok (.aload_n 0, 1) := by decide +kernel
theorem dX11_takeTown_57 : decode cX11_takeTown 57 = .ok (.iload_n 2, 1) := by decide +kernel
theorem dX11_takeTown_58 : decode cX11_takeTown 58 = .ok (.putfield 179, 3) := by decide +kernel
theorem dX11_takeTown_61 : decode cX11_takeTown 61 = .ok (.aload_n 0, 1) := by decide +kernel
theorem dX11_takeTown_62 : decode cX11_takeTown 62 = .ok (.aload_n 0, 1) := by decide +kernel
theorem dX11_takeTown_63 : decode cX11_takeTown 63 = .ok (.getfield 173, 3) := by decide +kernel
theorem dX11_takeTown_66 : decode cX11_takeTown 66 = .ok (.putfield 182, 3) := by decide +kernel
theorem dX11_takeTown_69 : decode cX11_takeTown 69 = .ok (.iconst 0, 1) := by decide +kernel
theorem dX11_takeTown_70 : decode cX11_takeTown 70 = .ok (.ireturn, 1) := by decide +kernel
theorem dX11_takeCell_0 : decode cX11_takeCell 0 = .ok (.aload_n 0, 1) := by decide +kernel
theorem dX11_takeCell_1 : decode cX11_takeCell 1 = .ok (.iconst 0, 1) := by decide +kernel
theorem dX11_takeCell_2 : decode cX11_takeCell 2 = .ok (.aload_n 0, 1) := by decide +kernel
theorem dX11_takeCell_3 : decode cX11_takeCell 3 = .ok (.getfield 179, 3) := by decide +kernel
theorem dX11_takeCell_6 : decode cX11_takeCell 6 = .ok (.iconst 1, 1) := by decide +kernel
theorem dX11_takeCell_7 : decode cX11_takeCell 7 = .ok (.isub, 1) := by decide +kernel
theorem dX11_takeCell_8 : decode cX11_takeCell 8 = .ok (.invokevirtual 176, 3) := by decide +kernel
theorem dX11_takeCell_11 : decode cX11_takeCell 11 = .ok (.istore_n 1, 1) := by decide +kernel
theorem dX11_takeCell_12 : decode cX11_takeCell 12 = .ok (.aload_n 0, 1) := by decide +kernel
theorem dX11_takeCell_13 : decode cX11_takeCell 13 = .ok (.getfield 173, 3) := by decide +kernel
theorem dX11_takeCell_16 : decode cX11_takeCell 16 = .ok (.istore_n 2, 1) := by decide +kernel
theorem dX11_takeCell_17 : decode cX11_takeCell 17 = .ok (.iload_n 1, 1) := by decide +kernel
theorem dX11_takeCell_18 : decode cX11_takeCell 18 = .ok (.ifCond .le 7, 3) := by decide +kernel
theorem dX11_takeCell_21 : decode cX11_takeCell 21 = .ok (.iload_n 1, 1) := by decide +kernel
theorem dX11_takeCell_22 : decode cX11_takeCell 22 = .ok (.goto 14, 3) := by decide +kernel
theorem dX11_takeCell_25 : decode cX11_takeCell 25 = .ok (.aload_n 0, 1) := by decide +kernel
theorem dX11_takeCell_26 : decode cX11_takeCell 26 = .ok (.iconst 0, 1) := by decide +kernel
theorem dX11_takeCell_27 : decode cX11_takeCell 27 = .ok (.aload_n 0, 1) := by decide +kernel
theorem dX11_takeCell_28 : decode cX11_takeCell 28 = .ok (.getfield 182, 3) := by decide +kernel
theorem dX11_takeCell_31 : decode cX11_takeCell 31 = .ok (.iconst 1, 1) := by decide +kernel
theorem dX11_takeCell_32 : decode cX11_takeCell 32 = .ok (.isub, 1) := by decide +kernel
theorem dX11_takeCell_33 : decode cX11_takeCell 33 = .ok (.invokevirtual 176, 3) := by decide +kernel
theorem dX11_takeCell_36 : decode cX11_takeCell 36 = .ok (.istore_n 1, 1) := by decide +kernel
theorem dX11_takeCell_37 : decode cX11_takeCell 37 = .ok (.aload_n 0, 1) := by decide +kernel
theorem dX11_takeCell_38 : decode cX11_takeCell 38 = .ok (.aload_n 0, 1) := by decide +kernel
theorem dX11_takeCell_39 : decode cX11_takeCell 39 = .ok (.getfield 179, 3) := by decide +kernel
theorem dX11_takeCell_42 : decode cX11_takeCell 42 = .ok (.aload_n 0, 1) := by decide +kernel
theorem dX11_takeCell_43 : decode cX11_takeCell 43 = .ok (.getfield 173, 3) := by decide +kernel
theorem dX11_takeCell_46 : decode cX11_takeCell 46 = .ok (.imul, 1) := by decide +kernel
theorem dX11_takeCell_47 : decode cX11_takeCell 47 = .ok (.iload_n 2, 1) := by decide +kernel
theorem dX11_takeCell_48 : decode cX11_takeCell 48 = .ok (.iadd, 1) := by decide +kernel
theorem dX11_takeCell_49 : decode cX11_takeCell 49 = .ok (.putfield 185, 3) := by decide +kernel
theorem dX11_takeCell_52 : decode cX11_takeCell 52 = .ok (.iload_n 1, 1) := by decide +kernel
theorem dX11_takeCell_53 : decode cX11_takeCell 53 = .ok (.ireturn, 1) := by decide +kernel
theorem dX11_isTakenUp_0 : decode cX11_isTakenUp 0 = .ok (.aload_n 0, 1) := by decide +kernel
theorem dX11_isTakenUp_1 : decode cX11_isTakenUp 1 = .ok (.getfield 53, 3) := by decide +kernel
theorem dX11_isTakenUp_4 : decode cX11_isTakenUp 4 = .ok (.iload_n 1, 1) := by decide +kernel
theorem dX11_isTakenUp_5 : decode cX11_isTakenUp 5 = .ok (.iaload, 1) := by decide +kernel
theorem dX11_isTakenUp_6 : decode cX11_isTakenUp 6 = .ok (.ifCond .gt 11, 3) := by decide +kernel
theorem dX11_isTakenUp_9 : decode cX11_isTakenUp 9 = .ok (.aload_n 0, 1) := by decide +kernel
theorem dX11_isTakenUp_10 : decode cX11_isTakenUp 10 = .ok (.getfield 188, 3) := by decide +kernel
theorem dX11_isTakenUp_13 : decode cX11_isTakenUp 13 = .ok (.iload_n 1, 1) := by decide +kernel
theorem dX11_isTakenUp_14 : decode cX11_isTakenUp 14 = .ok (.if_icmp .ne 7, 3) := by decide +kernel
theorem dX11_isTakenUp_17 : decode cX11_isTakenUp 17 = .ok (.iconst 1, 1) := by decide +kernel
theorem dX11_isTakenUp_18 : decode cX11_isTakenUp 18 = .ok (.goto 4, 3) := by decide +kernel
theorem dX11_isTakenUp_21 : decode cX11_isTakenUp 21 = .ok (.iconst 0, 1) := by decide +kernel
theorem dX11_isTakenUp_22 : decode cX11_isTakenUp 22 = .ok (.istore_n 2, 1) := by decide +kernel
theorem dX11_isTakenUp_23 : decode cX11_isTakenUp 23 = .ok (.iconst 0, 1) := by decide +kernel
theorem dX11_isTakenUp_24 : decode cX11_isTakenUp 24 = .ok (.istore_n 3, 1) := by decide +kernel
theorem dX11_isTakenUp_25 : decode cX11_isTakenUp 25 = .ok (.iload_n 3, 1) := by decide +kernel
theorem dX11_isTakenUp_26 : decode cX11_isTakenUp 26 = .ok (.aload_n 0, 1) := by decide +kernel
theorem dX11_isTakenUp_27 : decode cX11_isTakenUp 27 = .ok (.getfield 191, 3) := by decide +kernel
theorem dX11_isTakenUp_30 : decode cX11_isTakenUp 30 = .ok (.if_icmp .ge 29, 3) := by decide +kernel
theorem dX11_isTakenUp_33 : decode cX11_isTakenUp 33 = .ok (.iload_n 2, 1) := by decide +kernel
theorem dX11_isTakenUp_34 : decode cX11_isTakenUp 34 = .ok (.ifCond .ne 13, 3) := by decide +kernel
theorem dX11_isTakenUp_37 : decode cX11_isTakenUp 37 = .ok (.aload_n 0, 1) := by decide +kernel
theorem dX11_isTakenUp_38 : decode cX11_isTakenUp 38 = .ok (.getfield 59, 3) := by decide +kernel
theorem dX11_isTakenUp_41 : decode cX11_isTakenUp 41 = .ok (.iload_n 3, 1) := by decide +kernel
theorem dX11_isTakenUp_42 : decode cX11_isTakenUp 42 = .ok (.iaload, 1) := by decide +kernel
theorem dX11_isTakenUp_43 : decode cX11_isTakenUp 43 = .ok (.iload_n 1, 1) := by decide +kernel
theorem dX11_isTakenUp_44 : decode cX11_isTakenUp 44 = .ok (.if_icmp .ne 7, 3) := by decide +kernel
theorem dX11_isTakenUp_47 : decode cX11_isTakenUp 47 = .ok (.iconst 1, 1) := by decide +kernel
theorem dX11_isTakenUp_48 : decode cX11_isTakenUp 48 = .ok (.goto 4, 3) := by decide +kernel
theorem dX11_isTakenUp_51 : decode cX11_isTakenUp 51 = .ok (.iconst 0, 1) := by decide +kernel
theorem dX11_isTakenUp_52 : decode cX11_isTakenUp 52 = .ok (.istore_n 2, 1) := by decide +kernel
theorem dX11_isTakenUp_53 : decode cX11_isTakenUp 53 = .ok (.iinc 3 1, 3) := by decide +kernel
theorem dX11_isTakenUp_56 : decode cX11_isTakenUp 56 = .ok (.goto (-31), 3) := by decide +kernel
theorem dX11_isTakenUp_59 : decode cX11_isTakenUp 59 = .ok (.iload_n 2, 1) := by decide +kernel
theorem dX11_isTakenUp_60 : decode cX11_isTakenUp 60 = .ok (.ireturn, 1) := by decide +kernel
theorem dX11_takeMark_0 : decode cX11_takeMark 0 = .ok (.aload_n 0, 1) := by decide +kernel
theorem dX11_takeMark_1 : decode cX11_takeMark 1 = .ok (.dup, 1) := by decide +kernel
theorem dX11_takeMark_2 : decode cX11_takeMark 2 = .ok (.getfield 194, 3) := by decide +kernel
theorem dX11_takeMark_5 : decode cX11_takeMark 5 = .ok (.iconst 1, 1) := by decide +kernel
theorem dX11_takeMark_6 : decode cX11_takeMark 6 = .ok (.iadd, 1) := by decide +kernel
theorem dX11_takeMark_7 : decode cX11_takeMark 7 = .ok (.putfield 194, 3) := by decide +kernel
theorem dX11_takeMark_10 : decode cX11_takeMark 10 = .ok (.aload_n 0, 1) := by decide +kernel
theorem dX11_takeMark_11 : decode cX11_takeMark 11 = .ok (.invokevirtual 197, 3) := by decide +kernel
theorem dX11_takeMark_14 : decode cX11_takeMark 14 = .ok (.istore_n 2, 1) := by decide +kernel
theorem dX11_takeMark_15 : decode cX11_takeMark 15 = .ok (.iload_n 2, 1) := by decide +kernel
theorem dX11_takeMark_16 : decode cX11_takeMark 16 = .ok (.ifCond .le 5, 3) := by decide +kernel
theorem dX11_takeMark_19 : decode cX11_takeMark 19 = .ok (.iload_n 2, 1) := by decide +kernel
theorem dX11_takeMark_20 : decode cX11_takeMark 20 = .ok (.ireturn, 1) := by decide +kernel
theorem dX11_takeMark_21 : decode cX11_takeMark 21 = .ok (.aload_n 0, 1) := by decide +kernel
theorem dX11_takeMark_22 : decode cX11_takeMark 22 = .ok (.aload_n 0, 1) := by decide +kernel
theorem dX11_takeMark_23 : decode cX11_takeMark 23 = .ok (.getfield 185, 3) := by decide +kernel
theorem dX11_takeMark_26 : decode cX11_takeMark 26 = .ok (.invokevirtual 200, 3) := by decide +kernel
theorem dX11_takeMark_29 : decode cX11_takeMark 29 = .ok (.ifCond .eq 13, 3) := by decide +kernel
theorem dX11_takeMark_32 : decode cX11_takeMark 32 = .ok (.aload_n 0, 1) := by decide +kernel
theorem dX11_takeMark_33 : decode cX11_takeMark 33 = .ok (.iconst 4, 1) := by decide +kernel
theorem dX11_takeMark_34 : decode cX11_takeMark 34 = .ok (.aload_n 0, 1) := by decide +kernel
theorem dX11_takeMark_35 : decode cX11_takeMark 35 = .ok (.getfield 170, 3) := by decide +kernel
theorem dX11_takeMark_38 : decode cX11_takeMark 38 = .ok (.invokevirtual 166, 3) := by decide +kernel
theorem dX11_takeMark_41 : decode cX11_takeMark 41 = .ok (.ireturn, 1) := by decide +kernel
theorem dX11_takeMark_42 : decode cX11_takeMark 42 = .ok (.aload_n 0, 1) := by decide +kernel
theorem dX11_takeMark_43 : decode cX11_takeMark 43 = .ok (.getfield 53, 3) := by decide +kernel
theorem dX11_takeMark_46 : decode cX11_takeMark 46 = .ok (.aload_n 0, 1) := by decide +kernel
theorem dX11_takeMark_47 : decode cX11_takeMark 47 = .ok (.getfield 185, 3) := by decide +kernel
theorem dX11_takeMark_50 : decode cX11_takeMark 50 = .ok (.iload_n 1, 1) := by decide +kernel
theorem dX11_takeMark_51 : decode cX11_takeMark 51 = .ok (.iastore, 1) := by decide +kernel
theorem dX11_takeMark_52 : decode cX11_takeMark 52 = .ok (.iconst 0, 1) := by decide +kernel
theorem dX11_takeMark_53 : decode cX11_takeMark 53 = .ok (.ireturn, 1) := by decide +kernel
theorem dX11_takeCrowd_0 : decode cX11_takeCrowd 0 = .ok (.aload_n 0, 1) := by decide +kernel
theorem dX11_takeCrowd_1 : decode cX11_takeCrowd 1 = .ok (.getfield 191, 3) := by decide +kernel
theorem dX11_takeCrowd_4 : decode cX11_takeCrowd 4 = .ok (.istore_n 1, 1) := by decide +kernel
theorem dX11_takeCrowd_5 : decode cX11_takeCrowd 5 = .ok (.aload_n 0, 1) := by decide +kernel
theorem dX11_takeCrowd_6 : decode cX11_takeCrowd 6 = .ok (.aload_n 0, 1) := by decide +kernel
theorem dX11_takeCrowd_7 : decode cX11_takeCrowd 7 = .ok (.getfield 56, 3) := by decide +kernel
theorem dX11_takeCrowd_10 : decode cX11_takeCrowd 10 = .ok (.iload_n 1, 1) := by decide +kernel
theorem dX11_takeCrowd_11 : decode cX11_takeCrowd 11 = .ok (.iconst 0, 1) := by decide +kernel
theorem dX11_takeCrowd_12 : decode cX11_takeCrowd 12 = .ok (.iconst 2, 1) := by decide +kernel
theorem dX11_takeCrowd_13 : decode cX11_takeCrowd 13 = .ok (.invokevirtual 204, 3) := by decide +kernel
theorem dX11_takeCrowd_16 : decode cX11_takeCrowd 16 = .ok (.istore_n 2, 1) := by decide +kernel
theorem dX11_takeCrowd_17 : decode cX11_takeCrowd 17 = .ok (.iload_n 2, 1) := by decide +kernel
theorem dX11_takeCrowd_18 : decode cX11_takeCrowd 18 = .ok (.ifCond .le 7, 3) := by decide +kernel
theorem dX11_takeCrowd_21 : decode cX11_takeCrowd 21 = .ok (.iload_n 2, 1) := by decide +kernel
theorem dX11_takeCrowd_22 : decode cX11_takeCrowd 22 = .ok (.goto 7, 3) := by decide +kernel
theorem dX11_takeCrowd_25 : decode cX11_takeCrowd 25 = .ok (.aload_n 0, 1) := by decide +kernel
theorem dX11_takeCrowd_26 : decode cX11_takeCrowd 26 = .ok (.invokevirtual 197, 3) := by decide +kernel
theorem dX11_takeCrowd_29 : decode cX11_takeCrowd 29 = .ok (.istore_n 2, 1) := by decide +kernel
theorem dX11_takeCrowd_30 : decode cX11_takeCrowd 30 = .ok (.iload_n 2, 1) := by decide +kernel
theorem dX11_takeCrowd_31 : decode cX11_takeCrowd 31 = .ok (.ifCond .le 5, 3) := by decide +kernel
theorem dX11_takeCrowd_34 : decode cX11_takeCrowd 34 = .ok (.iload_n 2, 1) := by decide +kernel
theorem dX11_takeCrowd_35 : decode cX11_takeCrowd 35 = .ok (.ireturn, 1) := by decide +kernel
theorem dX11_takeCrowd_36 : decode cX11_takeCrowd 36 = .ok (.aload_n 0, 1) := by decide +kernel
theorem dX11_takeCrowd_37 : decode cX11_takeCrowd 37 = .ok (.getfield 53, 3) := by decide +kernel
theorem dX11_takeCrowd_40 : decode cX11_takeCrowd 40 = .ok (.aload_n 0, 1) := by decide +kernel
theorem dX11_takeCrowd_41 : decode cX11_takeCrowd 41 = .ok (.getfield 185, 3) := by decide +kernel
theorem dX11_takeCrowd_44 : decode cX11_takeCrowd 44 = .ok (.iaload, 1) := by decide +kernel
theorem dX11_takeCrowd_45 : decode cX11_takeCrowd 45 = .ok (.ifCond .le 13, 3) := by decide +kernel
theorem dX11_takeCrowd_48 : decode cX11_takeCrowd 48 = .ok (.aload_n 0, 1) := by decide +kernel
theorem dX11_takeCrowd_49 : decode cX11_takeCrowd 49 = .ok (.iconst 4, 1) := by decide +kernel
theorem dX11_takeCrowd_50 : decode cX11_takeCrowd 50 = .ok (.aload_n 0, 1) := by decide +kernel
theorem dX11_takeCrowd_51 : decode cX11_takeCrowd 51 = .ok (.getfield 170, 3) := by decide +kernel
theorem dX11_takeCrowd_54 : decode cX11_takeCrowd 54 = .ok (.invokevirtual 166, 3) := by decide +kernel
theorem dX11_takeCrowd_57 : decode cX11_takeCrowd 57 = .ok (.ireturn, 1) := by decide +kernel
theorem dX11_takeCrowd_58 : decode cX11_takeCrowd 58 = .ok (.aload_n 0, 1) := by decide +kernel
theorem dX11_takeCrowd_59 : decode cX11_takeCrowd 59 = .ok (.getfield 59, 3) := by decide +kernel
theorem dX11_takeCrowd_62 : decode cX11_takeCrowd 62 = .ok (.iload_n 1, 1) := by decide +kernel
theorem dX11_takeCrowd_63 : decode cX11_takeCrowd 63 = .ok (.aload_n 0, 1) := by decide +kernel
theorem dX11_takeCrowd_64 : decode cX11_takeCrowd 64 = .ok (.getfield 185, 3) := by decide +kernel
theorem dX11_takeCrowd_67 : decode cX11_takeCrowd 67 = .ok (.iastore, 1) := by decide +kernel
theorem dX11_takeCrowd_68 : decode cX11_takeCrowd 68 = .ok (.aload_n 0, 1) := by decide +kernel
theorem dX11_takeCrowd_69 : decode cX11_takeCrowd 69 = .ok (.dup, 1) := by decide +kernel
theorem dX11_takeCrowd_70 : decode cX11_takeCrowd 70 = .ok (.getfield 191, 3) := by decide +kernel
theorem dX11_takeCrowd_73 : decode cX11_takeCrowd 73 = .ok (.iconst 1, 1) := by decide +kernel
theorem dX11_takeCrowd_74 : decode cX11_takeCrowd 74 = .ok (.iadd, 1) := by decide +kernel
theorem dX11_takeCrowd_75 : decode cX11_takeCrowd 75 = .ok (.putfield 191, 3) := by decide +kernel
theorem dX11_takeCrowd_78 : decode cX11_takeCrowd 78 = .ok (.aload_n 0, 1) := by decide +kernel
theorem dX11_takeCrowd_79 : decode cX11_takeCrowd 79 = .ok (.aload_n 0, 1) := by decide +kernel
theorem dX11_takeCrowd_80 : decode cX11_takeCrowd 80 = .ok (.getfield 62, 3) := by decide +kernel
theorem dX11_takeCrowd_83 : decode cX11_takeCrowd 83 = .ok (.iload_n 1, 1) := by decide +kernel
theorem dX11_takeCrowd_84 : decode cX11_takeCrowd 84 = .ok (.iconst 1, 1) := by decide +kernel
theorem dX11_takeCrowd_85 : decode cX11_takeCrowd 85 = .ok (.bipush 99, 2) := by decide +kernel
theorem dX11_takeCrowd_87 : decode cX11_takeCrowd 87 = .ok (.invokevirtual 204, 3) := by decide +kernel
theorem dX11_takeCrowd_90 : decode cX11_takeCrowd 90 = .ok (.istore_n 2, 1) := by decide +kernel
theorem dX11_takeCrowd_91 : decode cX11_takeCrowd 91 = .ok (.iload_n 2, 1) := by decide +kernel
theorem dX11_takeCrowd_92 : decode cX11_takeCrowd 92 = .ok (.ifCond .le 7, 3) := by decide +kernel
theorem dX11_takeCrowd_95 : decode cX11_takeCrowd 95 = .ok (.iload_n 2, 1) := by decide +kernel
theorem dX11_takeCrowd_96 : decode cX11_takeCrowd 96 = .ok (.goto 14, 3) := by decide +kernel
theorem dX11_takeCrowd_99 : decode cX11_takeCrowd 99 = .ok (.aload_n 0, 1) := by decide +kernel
theorem dX11_takeCrowd_100 : decode cX11_takeCrowd 100 = .ok (.aload_n 0, 1) := by decide +kernel
theorem dX11_takeCrowd_101 : decode cX11_takeCrowd 101 = .ok (.getfield 65, 3) := by decide +kernel
theorem dX11_takeCrowd_104 : decode cX11_takeCrowd 104 = .ok (.iload_n 1, 1) := by decide +kernel
theorem dX11_takeCrowd_105 : decode cX11_takeCrowd 105 = .ok (.iconst 1, 1) := by decide +kernel
theorem dX11_takeCrowd_106 : decode cX11_takeCrowd 106 = .ok (.iconst 3, 1) := by decide +kernel
theorem dX11_takeCrowd_107 : decode cX11_takeCrowd 107 = .ok (.invokevirtual 204, 3) := by decide +kernel
theorem dX11_takeCrowd_110 : decode cX11_takeCrowd 110 = .ok (.istore_n 2, 1) := by decide +kernel
theorem dX11_takeCrowd_111 : decode cX11_takeCrowd 111 = .ok (.iload_n 2, 1) := by decide +kernel
theorem dX11_takeCrowd_112 : decode cX11_takeCrowd 112 = .ok (.ifCond .le 7, 3) := by decide +kernel
theorem dX11_takeCrowd_115 : decode cX11_takeCrowd 115 = .ok (.iload_n 2, 1) := by decide +kernel
theorem dX11_takeCrowd_116 : decode cX11_takeCrowd 116 = .ok (.goto 19, 3) := by decide +kernel
theorem dX11_takeCrowd_119 : decode cX11_takeCrowd 119 = .ok (.aload_n 0, 1) := by decide +kernel
theorem dX11_takeCrowd_120 : decode cX11_takeCrowd 120 = .ok (.aload_n 0, 1) := by decide +kernel
theorem dX11_takeCrowd_121 : decode cX11_takeCrowd 121 = .ok (.getfield 68, 3) := by decide +kernel
theorem dX11_takeCrowd_124 : decode cX11_takeCrowd 124 = .ok (.iload_n 1, 1) := by decide +kernel
theorem dX11_takeCrowd_125 : decode cX11_takeCrowd 125 = .ok (.iconst 0, 1) := by decide +kernel
theorem dX11_takeCrowd_126 : decode cX11_takeCrowd 126 = .ok (.aload_n 0, 1) := by decide +kernel
theorem dX11_takeCrowd_127 : decode cX11_takeCrowd 127 = .ok (.getfield 62, 3) := by decide +kernel
theorem dX11_takeCrowd_130 : decode cX11_takeCrowd 130 = .ok (.iload_n 1, 1) := by decide +kernel
theorem dX11_takeCrowd_131 : decode cX11_takeCrowd 131 = .ok (.iaload, 1) := by decide +kernel
theorem dX11_takeCrowd_132 : decode cX11_takeCrowd 132 = .ok (.invokevirtual 204, 3) := by decide +kernel
theorem dX11_takeCrowd_135 : decode cX11_takeCrowd 135 = .ok (.ireturn, 1) := by decide +kernel
theorem dX11_takeTune_0 : decode cX11_takeTune 0 = .ok (.aload_n 0, 1) := by decide +kernel
theorem dX11_takeTune_1 : decode cX11_takeTune 1 = .ok (.getfield 208, 3) := by decide +kernel
theorem dX11_takeTune_4 : decode cX11_takeTune 4 = .ok (.istore_n 1, 1) := by decide +kernel
theorem dX11_takeTune_5 : decode cX11_takeTune 5 = .ok (.aload_n 0, 1) := by decide +kernel
theorem dX11_takeTune_6 : decode cX11_takeTune 6 = .ok (.dup, 1) := by decide +kernel
theorem dX11_takeTune_7 : decode cX11_takeTune 7 = .ok (.getfield 208, 3) := by decide +kernel
theorem dX11_takeTune_10 : decode cX11_takeTune 10 = .ok (.iconst 1, 1) := by decide +kernel
theorem dX11_takeTune_11 : decode cX11_takeTune 11 = .ok (.iadd, 1) := by decide +kernel
theorem dX11_takeTune_12 : decode cX11_takeTune 12 = .ok (.putfield 208, 3) := by decide +kernel
theorem dX11_takeTune_15 : decode cX11_takeTune 15 = .ok (.aload_n 0, 1) := by decide +kernel
theorem dX11_takeTune_16 : decode cX11_takeTune 16 = .ok (.aload_n 0, 1) := by decide +kernel
theorem dX11_takeTune_17 : decode cX11_takeTune 17 = .ok (.getfield 71, 3) := by decide +kernel
theorem dX11_takeTune_20 : decode cX11_takeTune 20 = .ok (.iload_n 1, 1) := by decide +kernel
theorem dX11_takeTune_21 : decode cX11_takeTune 21 = .ok (.iconst 1, 1) := by decide +kernel
theorem dX11_takeTune_22 : decode cX11_takeTune 22 = .ok (.bipush 7, 2) := by decide +kernel
theorem dX11_takeTune_24 : decode cX11_takeTune 24 = .ok (.invokevirtual 204, 3) := by decide +kernel
theorem dX11_takeTune_27 : decode cX11_takeTune 27 = .ok (.istore_n 2, 1) := by decide +kernel
theorem dX11_takeTune_28 : decode cX11_takeTune 28 = .ok (.iload_n 2, 1) := by decide +kernel
theorem dX11_takeTune_29 : decode cX11_takeTune 29 = .ok (.ifCond .le 7, 3) := by decide +kernel
theorem dX11_takeTune_32 : decode cX11_takeTune 32 = .ok (.iload_n 2, 1) := by decide +kernel
theorem dX11_takeTune_33 : decode cX11_takeTune 33 = .ok (.goto 15, 3) := by decide +kernel
theorem dX11_takeTune_36 : decode cX11_takeTune 36 = .ok (.aload_n 0, 1) := by decide +kernel
theorem dX11_takeTune_37 : decode cX11_takeTune 37 = .ok (.aload_n 0, 1) := by decide +kernel
theorem dX11_takeTune_38 : decode cX11_takeTune 38 = .ok (.getfield 74, 3) := by decide +kernel
theorem dX11_takeTune_41 : decode cX11_takeTune 41 = .ok (.iload_n 1, 1) := by decide +kernel
theorem dX11_takeTune_42 : decode cX11_takeTune 42 = .ok (.iconst 0, 1) := by decide +kernel
theorem dX11_takeTune_43 : decode cX11_takeTune 43 = .ok (.bipush 20, 2) := by decide +kernel
theorem dX11_takeTune_45 : decode cX11_takeTune 45 = .ok (.invokevirtual 204, 3) := by decide +kernel
theorem dX11_takeTune_48 : decode cX11_takeTune 48 = .ok (.ireturn, 1) := by decide +kernel
theorem dX11_takePiper_0 : decode cX11_takePiper 0 = .ok (.aload_n 0, 1) := by decide +kernel
theorem dX11_takePiper_1 : decode cX11_takePiper 1 = .ok (.invokevirtual 197, 3) := by decide +kernel
theorem dX11_takePiper_4 : decode cX11_takePiper 4 = .ok (.istore_n 1, 1) := by decide +kernel
theorem dX11_takePiper_5 : decode cX11_takePiper 5 = .ok (.iload_n 1, 1) := by decide +kernel
theorem dX11_takePiper_6 : decode cX11_takePiper 6 = .ok (.ifCond .le 5, 3) := by decide +kernel
theorem dX11_takePiper_9 : decode cX11_takePiper 9 = .ok (.iload_n 1, 1) := by decide +kernel
theorem dX11_takePiper_10 : decode cX11_takePiper 10 = .ok (.ireturn, 1) := by decide +kernel
theorem dX11_takePiper_11 : decode cX11_takePiper 11 = .ok (.aload_n 0, 1) := by decide +kernel
theorem dX11_takePiper_12 : decode cX11_takePiper 12 = .ok (.aload_n 0, 1) := by decide +kernel
theorem dX11_takePiper_13 : decode cX11_takePiper 13 = .ok (.getfield 185, 3) := by decide +kernel
theorem dX11_takePiper_16 : decode cX11_takePiper 16 = .ok (.putfield 188, 3) := by decide +kernel
theorem dX11_takePiper_19 : decode cX11_takePiper 19 = .ok (.aload_n 0, 1) := by decide +kernel
theorem dX11_takePiper_20 : decode cX11_takePiper 20 = .ok (.getfield 53, 3) := by decide +kernel
theorem dX11_takePiper_23 : decode cX11_takePiper 23 = .ok (.aload_n 0, 1) := by decide +kernel
theorem dX11_takePiper_24 : decode cX11_takePiper 24 = .ok (.getfield 185, 3) := by decide +kernel
theorem dX11_takePiper_27 : decode cX11_takePiper 27 = .ok (.iaload, 1) := by decide +kernel
theorem dX11_takePiper_28 : decode cX11_takePiper 28 = .ok (.ifCond .le 15, 3) := by decide +kernel
theorem dX11_takePiper_31 : decode cX11_takePiper 31 = .ok (.aload_n 0, 1) := by decide +kernel
theorem dX11_takePiper_32 : decode cX11_takePiper 32 = .ok (.iconst 4, 1) := by decide +kernel
theorem dX11_takePiper_33 : decode cX11_takePiper 33 = .ok (.aload_n 0, 1) := by decide +kernel
theorem dX11_takePiper_34 : decode cX11_takePiper 34 = .ok (.getfield 170, 3) := by decide +kernel
theorem dX11_takePiper_37 : decode cX11_takePiper 37 = .ok (.invokevirtual 166, 3) := by decide +kernel
theorem dX11_takePiper_40 : decode cX11_takePiper 40 = .ok (.goto 4, 3) := by decide +kernel
theorem dX11_takePiper_43 : decode cX11_takePiper 43 = .ok (.iconst 0, 1) := by decide +kernel
theorem dX11_takePiper_44 : decode cX11_takePiper 44 = .ok (.ireturn, 1) := by decide +kernel
theorem dX11_takePay_0 : decode cX11_takePay 0 = .ok (.aload_n 0, 1) := by decide +kernel
theorem dX11_takePay_1 : decode cX11_takePay 1 = .ok (.iconst 0, 1) := by decide +kernel
theorem dX11_takePay_2 : decode cX11_takePay 2 = .ok (.bipush 99, 2) := by decide +kernel
theorem dX11_takePay_4 : decode cX11_takePay 4 = .ok (.invokevirtual 176, 3) := by decide +kernel
theorem dX11_takePay_7 : decode cX11_takePay 7 = .ok (.istore_n 1, 1) := by decide +kernel
theorem dX11_takePay_8 : decode cX11_takePay 8 = .ok (.aload_n 0, 1) := by decide +kernel
theorem dX11_takePay_9 : decode cX11_takePay 9 = .ok (.aload_n 0, 1) := by decide +kernel
theorem dX11_takePay_10 : decode cX11_takePay 10 = .ok (.getfield 173, 3) := by decide +kernel
theorem dX11_takePay_13 : decode cX11_takePay 13 = .ok (.putfield 211, 3) := by decide +kernel
theorem dX11_takePay_16 : decode cX11_takePay 16 = .ok (.iload_n 1, 1) := by decide +kernel
theorem dX11_takePay_17 : decode cX11_takePay 17 = .ok (.ifCond .le 7, 3) := by decide +kernel
theorem dX11_takePay_20 : decode cX11_takePay 20 = .ok (.iload_n 1, 1) := by decide +kernel
theorem dX11_takePay_21 : decode cX11_takePay 21 = .ok (.goto 10, 3) := by decide +kernel
theorem dX11_takePay_24 : decode cX11_takePay 24 = .ok (.aload_n 0, 1) := by decide +kernel
theorem dX11_takePay_25 : decode cX11_takePay 25 = .ok (.iconst 0, 1) := by decide +kernel
theorem dX11_takePay_26 : decode cX11_takePay 26 = .ok (.bipush 99, 2) := by decide +kernel
theorem dX11_takePay_28 : decode cX11_takePay 28 = .ok (.invokevirtual 176, 3) := by decide +kernel
theorem dX11_takePay_31 : decode cX11_takePay 31 = .ok (.istore_n 1, 1) := by decide +kernel
theorem dX11_takePay_32 : decode cX11_takePay 32 = .ok (.aload_n 0, 1) := by decide +kernel
theorem dX11_takePay_33 : decode cX11_takePay 33 = .ok (.aload_n 0, 1) := by decide +kernel
theorem dX11_takePay_34 : decode cX11_takePay 34 = .ok (.getfield 173, 3) := by decide +kernel
theorem dX11_takePay_37 : decode cX11_takePay 37 = .ok (.putfield 214, 3) := by decide +kernel
theorem dX11_takePay_40 : decode cX11_takePay 40 = .ok (.iload_n 1, 1) := by decide +kernel
theorem dX11_takePay_41 : decode cX11_takePay 41 = .ok (.ireturn, 1) := by decide +kernel
theorem dX11_kindOfWord_0 : decode cX11_kindOfWord 0 = .ok (.aload_n 0, 1) := by decide +kernel
theorem dX11_kindOfWord_1 : decode cX11_kindOfWord 1 = .ok (.getfield 143, 3) := by decide +kernel
theorem dX11_kindOfWord_4 : decode cX11_kindOfWord 4 = .ok (.bipush 116, 2) := by decide +kernel
theorem dX11_kindOfWord_6 : decode cX11_kindOfWord 6 = .ok (.bipush 111, 2) := by decide +kernel
theorem dX11_kindOfWord_8 : decode cX11_kindOfWord 8 = .ok (.bipush 119, 2) := by decide +kernel
theorem dX11_kindOfWord_10 : decode cX11_kindOfWord 10 = .ok (.invokestatic 217, 3) := by decide +kernel
theorem dX11_kindOfWord_13 : decode cX11_kindOfWord 13 = .ok (.bipush 110, 2) := by decide +kernel
theorem dX11_kindOfWord_15 : decode cX11_kindOfWord 15 = .ok (.invokestatic 221, 3) := by decide +kernel
theorem dX11_kindOfWord_18 : decode cX11_kindOfWord 18 = .ok (.lcmp, 1) := by decide +kernel
theorem dX11_kindOfWord_19 : decode cX11_kindOfWord 19 = .ok (.ifCond .ne 5, 3) := by decide +kernel
theorem dX11_kindOfWord_22 : decode cX11_kindOfWord 22 = .ok (.iconst 0, 1) := by decide +kernel
theorem dX11_kindOfWord_23 : decode cX11_kindOfWord 23 = .ok (.ireturn, 1) := by decide +kernel
theorem dX11_kindOfWord_24 : decode cX11_kindOfWord 24 = .ok (.aload_n 0, 1) := by decide +kernel
theorem dX11_kindOfWord_25 : decode cX11_kindOfWord 25 = .ok (.getfield 143, 3) := by decide +kernel
theorem dX11_kindOfWord_28 : decode cX11_kindOfWord 28 = .ok (.bipush 119, 2) := by decide +kernel
theorem dX11_kindOfWord_30 : decode cX11_kindOfWord 30 = .ok (.bipush 97, 2) := by decide +kernel
theorem dX11_kindOfWord_32 : decode cX11_kindOfWord 32 = .ok (.bipush 108, 2) := by decide +kernel
theorem dX11_kindOfWord_34 : decode cX11_kindOfWord 34 = .ok (.invokestatic 217, 3) := by decide +kernel
theorem dX11_kindOfWord_37 : decode cX11_kindOfWord 37 = .ok (.bipush 108, 2) := by decide +kernel
theorem dX11_kindOfWord_39 : decode cX11_kindOfWord 39 = .ok (.invokestatic 221, 3) := by decide +kernel
theorem dX11_kindOfWord_42 : decode cX11_kindOfWord 42 = .ok (.lcmp, 1) := by decide +kernel
theorem dX11_kindOfWord_43 : decode cX11_kindOfWord 43 = .ok (.ifCond .ne 5, 3) := by decide +kernel
theorem dX11_kindOfWord_46 : decode cX11_kindOfWord 46 = .ok (.iconst 1, 1) := by decide +kernel
theorem dX11_kindOfWord_47 : decode cX11_kindOfWord 47 = .ok (.ireturn, 1) := by decide +kernel
theorem dX11_kindOfWord_48 : decode cX11_kindOfWord 48 = .ok (.aload_n 0, 1) := by decide +kernel
theorem dX11_kindOfWord_49 : decode cX11_kindOfWord 49 = .ok (.getfield 143, 3) := by decide +kernel
theorem dX11_kindOfWord_52 : decode cX11_kindOfWord 52 = .ok (.bipush 119, 2) := by decide +kernel
theorem dX11_kindOfWord_54 : decode cX11_kindOfWord 54 = .ok (.bipush 97, 2) := by decide +kernel
theorem dX11_kindOfWord_56 : decode cX11_kindOfWord 56 = .ok (.bipush 116, 2) := by decide +kernel
theorem dX11_kindOfWord_58 : decode cX11_kindOfWord 58 = .ok (.invokestatic 217, 3) := by decide +kernel
theorem dX11_kindOfWord_61 : decode cX11_kindOfWord 61 = .ok (.bipush 101, 2) := by decide +kernel
theorem dX11_kindOfWord_63 : decode cX11_kindOfWord 63 = .ok (.invokestatic 221, 3) := by decide +kernel
theorem dX11_kindOfWord_66 : decode cX11_kindOfWord 66 = .ok (.bipush 114, 2) := by decide +kernel
theorem dX11_kindOfWord_68 : decode cX11_kindOfWord 68 = .ok (.invokestatic 221, 3) := by decide +kernel
theorem dX11_kindOfWord_71 : decode cX11_kindOfWord 71 = .ok (.lcmp, 1) := by decide +kernel
theorem dX11_kindOfWord_72 : decode cX11_kindOfWord 72 = .ok (.ifCond .ne 5, 3) := by decide +kernel
theorem dX11_kindOfWord_75 : decode cX11_kindOfWord 75 = .ok (.iconst 2, 1) := by decide +kernel
theorem dX11_kindOfWord_76 : decode cX11_kindOfWord 76 = .ok (.ireturn, 1) := by decide +kernel
theorem dX11_kindOfWord_77 : decode cX11_kindOfWord 77 = .ok (.aload_n 0, 1) := by decide +kernel
theorem dX11_kindOfWord_78 : decode cX11_kindOfWord 78 = .ok (.getfield 143, 3) := by decide +kernel
theorem dX11_kindOfWord_81 : decode cX11_kindOfWord 81 = .ok (.bipush 103, 2) := by decide +kernel
theorem dX11_kindOfWord_83 : decode cX11_kindOfWord 83 = .ok (.bipush 97, 2) := by decide +kernel
theorem dX11_kindOfWord_85 : decode cX11_kindOfWord 85 = .ok (.bipush 116, 2) := by decide +kernel
theorem dX11_kindOfWord_87 : decode cX11_kindOfWord 87 = .ok (.invokestatic 217, 3) := by decide +kernel
theorem dX11_kindOfWord_90 : decode cX11_kindOfWord 90 = .ok (.bipush 101, 2) := by decide +kernel
theorem dX11_kindOfWord_92 : decode cX11_kindOfWord 92 = .ok (.invokestatic 221, 3) := by decide +kernel
theorem dX11_kindOfWord_95 : decode cX11_kindOfWord 95 = .ok (.lcmp, 1) := by decide +kernel
theorem dX11_kindOfWord_96 : decode cX11_kindOfWord 96 = .ok (.ifCond .ne 5, 3) := by decide +kernel
theorem dX11_kindOfWord_99 : decode cX11_kindOfWord 99 = .ok (.iconst 3, 1) := by decide +kernel
theorem dX11_kindOfWord_100 : decode cX11_kindOfWord 100 = .ok (.ireturn, 1) := by decide +kernel
theorem dX11_kindOfWord_101 : decode cX11_kindOfWord 101 = .ok (.aload_n 0, 1) := by decide +kernel
theorem dX11_kindOfWord_102 : decode cX11_kindOfWord 102 = .ok (.getfield 143, 3) := by decide +kernel
theorem dX11_kindOfWord_105 : decode cX11_kindOfWord 105 = .ok (.bipush 99, 2) := by decide +kernel
theorem dX11_kindOfWord_107 : decode cX11_kindOfWord 107 = .ok (.bipush 114, 2) := by decide +kernel
theorem dX11_kindOfWord_109 : decode cX11_kindOfWord 109 = .ok (.bipush 111, 2) := by decide +kernel
theorem dX11_kindOfWord_111 : decode cX11_kindOfWord 111 = .ok (.invokestatic 217, 3) := by decide +kernel
theorem dX11_kindOfWord_114 : decode cX11_kindOfWord 114 = .ok (.bipush 119, 2) := by decide +kernel
theorem dX11_kindOfWord_116 : decode cX11_kindOfWord 116 = .ok (.invokestatic 221, 3) := by decide +kernel
theorem dX11_kindOfWord_119 : decode cX11_kindOfWord 119 = .ok (.bipush 100, 2) := by decide +kernel
theorem dX11_kindOfWord_121 : decode cX11_kindOfWord 121 = .ok (.invokestatic 221, 3) := by decide +kernel
theorem dX11_kindOfWord_124 : decode cX11_kindOfWord 124 = .ok (.lcmp, 1) := by decide +kernel
theorem dX11_kindOfWord_125 : decode cX11_kindOfWord 125 = .ok (.ifCond .ne 5, 3) := by decide +kernel
theorem dX11_kindOfWord_128 : decode cX11_kindOfWord 128 = .ok (.iconst 4, 1) := by decide +kernel
theorem dX11_kindOfWord_129 : decode cX11_kindOfWord 129 = .ok (.ireturn, 1) := by decide +kernel
theorem dX11_kindOfWord_130 : decode cX11_kindOfWord 130 = .ok (.aload_n 0, 1) := by decide +kernel
theorem dX11_kindOfWord_131 : decode cX11_kindOfWord 131 = .ok (.getfield 143, 3) := by decide +kernel
theorem dX11_kindOfWord_134 : decode cX11_kindOfWord 134 = .ok (.bipush 116, 2) := by decide +kernel
theorem dX11_kindOfWord_136 : decode cX11_kindOfWord 136 = .ok (.bipush 117, 2) := by decide +kernel
theorem dX11_kindOfWord_138 : decode cX11_kindOfWord 138 = .ok (.bipush 110, 2) := by decide +kernel
theorem dX11_kindOfWord_140 : decode cX11_kindOfWord 140 = .ok (.invokestatic 217, 3) := by decide +kernel
theorem dX11_kindOfWord_143 : decode cX11_kindOfWord 143 = .ok (.bipush 101, 2) := by decide +kernel
theorem dX11_kindOfWord_145 : decode cX11_kindOfWord 145 = .ok (.invokestatic 221, 3) := by decide +kernel
theorem dX11_kindOfWord_148 : decode cX11_kindOfWord 148 = .ok (.lcmp, 1) := by decide +kernel
theorem dX11_kindOfWord_149 : decode cX11_kindOfWord 149 = .ok (.ifCond .ne 5, 3) := by decide +kernel
theorem dX11_kindOfWord_152 : decode cX11_kindOfWord 152 = .ok (.iconst 5, 1) := by decide +kernel
theorem dX11_kindOfWord_153 : decode cX11_kindOfWord 153 = .ok (.ireturn, 1) := by decide +kernel
theorem dX11_kindOfWord_154 : decode cX11_kindOfWord 154 = .ok (.aload_n 0, 1) := by decide +kernel
theorem dX11_kindOfWord_155 : decode cX11_kindOfWord 155 = .ok (.getfield 143, 3) := by decide +kernel
theorem dX11_kindOfWord_158 : decode cX11_kindOfWord 158 = .ok (.bipush 112, 2) := by decide +kernel
theorem dX11_kindOfWord_160 : decode cX11_kindOfWord 160 = .ok (.bipush 105, 2) := by decide +kernel
theorem dX11_kindOfWord_162 : decode cX11_kindOfWord 162 = .ok (.bipush 112, 2) := by decide +kernel
theorem dX11_kindOfWord_164 : decode cX11_kindOfWord 164 = .ok (.invokestatic 217, 3) := by decide +kernel
theorem dX11_kindOfWord_167 : decode cX11_kindOfWord 167 = .ok (.bipush 101, 2) := by decide +kernel
theorem dX11_kindOfWord_169 : decode cX11_kindOfWord 169 = .ok (.invokestatic 221, 3) := by decide +kernel
theorem dX11_kindOfWord_172 : decode cX11_kindOfWord 172 = .ok (.bipush 114, 2) := by decide +kernel
theorem dX11_kindOfWord_174 : decode cX11_kindOfWord 174 = .ok (.invokestatic 221, 3) := by decide +kernel
theorem dX11_kindOfWord_177 : decode cX11_kindOfWord 177 = .ok (.lcmp, 1) := by decide +kernel
theorem dX11_kindOfWord_178 : decode cX11_kindOfWord 178 = .ok (.ifCond .ne 8, 3) := by decide +kernel
theorem dX11_kindOfWord_181 : decode cX11_kindOfWord 181 = .ok (.bipush 6, 2) := by decide +kernel
theorem dX11_kindOfWord_183 : decode cX11_kindOfWord 183 = .ok (.goto 26, 3) := by decide +kernel
theorem dX11_kindOfWord_186 : decode cX11_kindOfWord 186 = .ok (.aload_n 0, 1) := by decide +kernel
theorem dX11_kindOfWord_187 : decode cX11_kindOfWord 187 = .ok (.getfield 143, 3) := by decide +kernel
theorem dX11_kindOfWord_190 : decode cX11_kindOfWord 190 = .ok (.bipush 112, 2) := by decide +kernel
theorem dX11_kindOfWord_192 : decode cX11_kindOfWord 192 = .ok (.bipush 97, 2) := by decide +kernel
theorem dX11_kindOfWord_194 : decode cX11_kindOfWord 194 = .ok (.bipush 121, 2) := by decide +kernel
theorem dX11_kindOfWord_196 : decode cX11_kindOfWord 196 = .ok (.invokestatic 217, 3) := by decide +kernel
theorem dX11_kindOfWord_199 : decode cX11_kindOfWord 199 = .ok (.lcmp, 1) := by decide +kernel
theorem dX11_kindOfWord_200 : decode cX11_kindOfWord 200 = .ok (.ifCond .ne 8, 3) := by decide +kernel
theorem dX11_kindOfWord_203 : decode cX11_kindOfWord 203 = .ok (.bipush 7, 2) := by decide +kernel
theorem dX11_kindOfWord_205 : decode cX11_kindOfWord 205 = .ok (.goto 4, 3) := by decide +kernel
theorem dX11_kindOfWord_208 : decode cX11_kindOfWord 208 = .ok (.iconst (-1), 1) := by decide +kernel
theorem dX11_kindOfWord_209 : decode cX11_kindOfWord 209 = .ok (.ireturn, 1) := by decide +kernel
theorem dX11_takeClause_0 : decode cX11_takeClause 0 = .ok (.aload_n 0, 1) := by decide +kernel
theorem dX11_takeClause_1 : decode cX11_takeClause 1 = .ok (.invokevirtual 225, 3) := by decide +kernel
theorem dX11_takeClause_4 : decode cX11_takeClause 4 = .ok (.aload_n 0, 1) := by decide +kernel
theorem dX11_takeClause_5 : decode cX11_takeClause 5 = .ok (.invokevirtual 228, 3) := by decide +kernel
theorem dX11_takeClause_8 : decode cX11_takeClause 8 = .ok (.istore_n 1, 1) := by decide +kernel
theorem dX11_takeClause_9 : decode cX11_takeClause 9 = .ok (.iload_n 1, 1) := by decide +kernel
theorem dX11_takeClause_10 : decode cX11_takeClause 10 = .ok (.ifCond .lt 14, 3) := by decide +kernel
theorem dX11_takeClause_13 : decode cX11_takeClause 13 = .ok (.iload_n 1, 1) := by decide +kernel
theorem dX11_takeClause_14 : decode cX11_takeClause 14 = .ok (.ifCond .le 20, 3) := by decide +kernel
theorem dX11_takeClause_17 : decode cX11_takeClause 17 = .ok (.aload_n 0, 1) := by decide +kernel
theorem dX11_takeClause_18 : decode cX11_takeClause 18 = .ok (.getfield 179, 3) := by decide +kernel
theorem dX11_takeClause_21 : decode cX11_takeClause 21 = .ok (.ifCond .ne 13, 3) := by decide +kernel
theorem dX11_takeClause_24 : decode cX11_takeClause 24 = .ok (.aload_n 0, 1) := by decide +kernel
theorem dX11_takeClause_25 : decode cX11_takeClause 25 = .ok (.iconst 1, 1) := by decide +kernel
theorem dX11_takeClause_26 : decode cX11_takeClause 26 = .ok (.aload_n 0, 1) := by decide +kernel
theorem dX11_takeClause_27 : decode cX11_takeClause 27 = .ok (.getfield 136, 3) := by decide +kernel
theorem dX11_takeClause_30 : decode cX11_takeClause 30 = .ok (.invokevirtual 166, 3) := by decide +kernel
theorem dX11_takeClause_33 : decode cX11_takeClause 33 = .ok (.ireturn, 1) := by decide +kernel
theorem dX11_takeClause_34 : decode cX11_takeClause 34 = .ok (.iload_n 1, 1) := by decide +kernel
theorem dX11_takeClause_35 : decode cX11_takeClause 35 = .ok (.ifCond .ne 18, 3) := by decide +kernel
theorem dX11_takeClause_38 : decode cX11_takeClause 38 = .ok (.aload_n 0, 1) := by decide +kernel
theorem dX11_takeClause_39 : decode cX11_takeClause 39 = .ok (.getfield 179, 3) := by decide +kernel
theorem dX11_takeClause_42 : decode cX11_takeClause 42 = .ok (.ifCond .le 7, 3) := by decide +kernel
theorem dX11_takeClause_45 : decode cX11_takeClause 45 = .ok (.iconst 1, 1) := by decide +kernel
theorem dX11_takeClause_46 : decode cX11_takeClause 46 = .ok (.goto 105, 3) := by decide +kernel
theorem dX11_takeClause_49 : decode cX11_takeClause 49 = .ok (.iconst 0, 1) := by decide +kernel
theorem dX11_takeClause_50 : decode cX11_takeClause 50 = .ok (.goto 101, 3) := by decide +kernel
theorem dX11_takeClause_53 : decode cX11_takeClause 53 = .ok (.iload_n 1, 1) := by decide +kernel
theorem dX11_takeClause_54 : decode cX11_takeClause 54 = .ok (.iconst 4, 1) := by decide +kernel
theorem dX11_takeClause_55 : decode cX11_takeClause 55 = .ok (.if_icmp .ge 20, 3) := by decide +kernel
theorem dX11_takeClause_58 : decode cX11_takeClause 58 = .ok (.aload_n 0, 1) := by decide +kernel
theorem dX11_takeClause_59 : decode cX11_takeClause 59 = .ok (.getfield 194, 3) := by decide +kernel
theorem dX11_takeClause_62 : decode cX11_takeClause 62 = .ok (.bipush 30, 2) := by decide +kernel
theorem dX11_takeClause_64 : decode cX11_takeClause 64 = .ok (.if_icmp .ne 7, 3) := by decide +kernel
theorem dX11_takeClause_67 : decode cX11_takeClause 67 = .ok (.iconst 1, 1) := by decide +kernel
theorem dX11_takeClause_68 : decode cX11_takeClause 68 = .ok (.goto 83, 3) := by decide +kernel
theorem dX11_takeClause_71 : decode cX11_takeClause 71 = .ok (.iconst 0, 1) := by decide +kernel
theorem dX11_takeClause_72 : decode cX11_takeClause 72 = .ok (.goto 79, 3) := by decide +kernel
theorem dX11_takeClause_75 : decode cX11_takeClause 75 = .ok (.iload_n 1, 1) := by decide +kernel
theorem dX11_takeClause_76 : decode cX11_takeClause 76 = .ok (.iconst 4, 1) := by decide +kernel
theorem dX11_takeClause_77 : decode cX11_takeClause 77 = .ok (.if_icmp .ne 20, 3) := by decide +kernel
theorem dX11_takeClause_80 : decode cX11_takeClause 80 = .ok (.aload_n 0, 1) := by decide +kernel
theorem dX11_takeClause_81 : decode cX11_takeClause 81 = .ok (.getfield 191, 3) := by decide +kernel
theorem dX11_takeClause_84 : decode cX11_takeClause 84 = .ok (.bipush 6, 2) := by decide +kernel
theorem dX11_takeClause_86 : decode cX11_takeClause 86 = .ok (.if_icmp .ne 7, 3) := by decide +kernel
theorem dX11_takeClause_89 : decode cX11_takeClause 89 = .ok (.iconst 1, 1) := by decide +kernel
theorem dX11_takeClause_90 : decode cX11_takeClause 90 = .ok (.goto 61, 3) := by decide +kernel
theorem dX11_takeClause_93 : decode cX11_takeClause 93 = .ok (.iconst 0, 1) := by decide +kernel
theorem dX11_takeClause_94 : decode cX11_takeClause 94 = .ok (.goto 57, 3) := by decide +kernel
theorem dX11_takeClause_97 : decode cX11_takeClause 97 = .ok (.iload_n 1, 1) := by decide +kernel
theorem dX11_takeClause_98 : decode cX11_takeClause 98 = .ok (.iconst 5, 1) := by decide +kernel
theorem dX11_takeClause_99 : decode cX11_takeClause 99 = .ok (.if_icmp .ne 19, 3) := by decide +kernel
theorem dX11_takeClause_102 : decode cX11_takeClause 102 = .ok (.aload_n 0, 1) := by decide +kernel
theorem dX11_takeClause_103 : decode cX11_takeClause 103 = .ok (.getfield 208, 3) := by decide +kernel
theorem dX11_takeClause_106 : decode cX11_takeClause 106 = .ok (.iconst 3, 1) := by decide +kernel
theorem dX11_takeClause_107 : decode cX11_takeClause 107 = .ok (.if_icmp .ne 7, 3) := by decide +kernel
theorem dX11_takeClause_110 : decode cX11_takeClause 110 = .ok (.iconst 1, 1) := by decide +kernel
theorem dX11_takeClause_111 : decode cX11_takeClause 111 = .ok (.goto 40, 3) := by decide +kernel
theorem dX11_takeClause_114 : decode cX11_takeClause 114 = .ok (.iconst 0, 1) := by decide +kernel
theorem dX11_takeClause_115 : decode cX11_takeClause 115 = .ok (.goto 36, 3) := by decide +kernel
theorem dX11_takeClause_118 : decode cX11_takeClause 118 = .ok (.iload_n 1, 1) := by decide +kernel
theorem dX11_takeClause_119 : decode cX11_takeClause 119 = .ok (.bipush 6, 2) := by decide +kernel
theorem dX11_takeClause_121 : decode cX11_takeClause 121 = .ok (.if_icmp .ne 18, 3) := by decide +kernel
theorem dX11_takeClause_124 : decode cX11_takeClause 124 = .ok (.aload_n 0, 1) := by decide +kernel
theorem dX11_takeClause_125 : decode cX11_takeClause 125 = .ok (.getfield 188, 3) := by decide +kernel
theorem dX11_takeClause_128 : decode cX11_takeClause 128 = .ok (.ifCond .lt 7, 3) := by decide +kernel
theorem dX11_takeClause_131 : decode cX11_takeClause 131 = .ok (.iconst 1, 1) := by decide +kernel
theorem dX11_takeClause_132 : decode cX11_takeClause 132 = .ok (.goto 19, 3) := by decide +kernel
theorem dX11_takeClause_135 : decode cX11_takeClause 135 = .ok (.iconst 0, 1) := by decide +kernel
theorem dX11_takeClause_136 : decode cX11_takeClause 136 = .ok (.goto 15, 3) := by decide +kernel
theorem dX11_takeClause_139 : decode cX11_takeClause 139 = .ok (.aload_n 0, 1) := by decide +kernel
theorem dX11_takeClause_140 : decode cX11_takeClause 140 = .ok (.getfield 211, 3) := by decide +kernel
theorem dX11_takeClause_143 : decode cX11_takeClause 143 = .ok (.ifCond .lt 7, 3) := by decide +kernel
theorem dX11_takeClause_146 : decode cX11_takeClause 146 = .ok (.iconst 1, 1) := by decide +kernel
theorem dX11_takeClause_147 : decode cX11_takeClause 147 = .ok (.goto 4, 3) := by decide +kernel
theorem dX11_takeClause_150 : decode cX11_takeClause 150 = .ok (.iconst 0, 1) := by decide +kernel
theorem dX11_takeClause_151 : decode cX11_takeClause 151 = .ok (.istore_n 2, 1) := by decide +kernel
theorem dX11_takeClause_152 : decode cX11_takeClause 152 = .ok (.iload_n 2, 1) := by decide +kernel
theorem dX11_takeClause_153 : decode cX11_takeClause 153 = .ok (.ifCond .eq 13, 3) := by decide +kernel
theorem dX11_takeClause_156 : decode cX11_takeClause 156 = .ok (.aload_n 0, 1) := by decide +kernel
theorem dX11_takeClause_157 : decode cX11_takeClause 157 = .ok (.iconst 3, 1) := by decide +kernel
theorem dX11_takeClause_158 : decode cX11_takeClause 158 = .ok (.aload_n 0, 1) := by decide +kernel
theorem dX11_takeClause_159 : decode cX11_takeClause 159 = .ok (.getfield 136, 3) := by decide +kernel
theorem dX11_takeClause_162 : decode cX11_takeClause 162 = .ok (.invokevirtual 166, 3) := by decide +kernel
theorem dX11_takeClause_165 : decode cX11_takeClause 165 = .ok (.ireturn, 1) := by decide +kernel
theorem dX11_takeClause_166 : decode cX11_takeClause 166 = .ok (.aload_n 0, 1) := by decide +kernel
theorem dX11_takeClause_167 : decode cX11_takeClause 167 = .ok (.aload_n 0, 1) := by decide +kernel
theorem dX11_takeClause_168 : decode cX11_takeClause 168 = .ok (.getfield 147, 3) := by decide +kernel
theorem dX11_takeClause_171 : decode cX11_takeClause 171 = .ok (.putfield 136, 3) := by decide +kernel
theorem dX11_takeClause_174 : decode cX11_takeClause 174 = .ok (.iload_n 1, 1) := by decide +kernel
theorem dX11_takeClause_175 : decode cX11_takeClause 175 = .ok (.ifCond .ne 10, 3) := by decide +kernel
theorem dX11_takeClause_178 : decode cX11_takeClause 178 = .ok (.aload_n 0, 1) := by decide +kernel
theorem dX11_takeClause_179 : decode cX11_takeClause 179 = .ok (.invokevirtual 231, 3) := by decide +kernel
theorem dX11_takeClause_182 : decode cX11_takeClause 182 = .ok (.goto 57, 3) := by decide +kernel
theorem dX11_takeClause_185 : decode cX11_takeClause 185 = .ok (.iload_n 1, 1) := by decide +kernel
theorem dX11_takeClause_186 : decode cX11_takeClause 186 = .ok (.iconst 4, 1) := by decide +kernel
theorem dX11_takeClause_187 : decode cX11_takeClause 187 = .ok (.if_icmp .ge 11, 3) := by decide +kernel
theorem dX11_takeClause_190 : decode cX11_takeClause 190 = .ok (.aload_n 0, 1) := by decide +kernel
theorem dX11_takeClause_191 : decode cX11_takeClause 191 = .ok (.iload_n 1, 1) := by decide +kernel
theorem dX11_takeClause_192 : decode cX11_takeClause 192 = .ok (.invokevirtual 234, 3) := by decide +kernel
theorem dX11_takeClause_195 : decode cX11_takeClause 195 = .ok (.goto 44, 3) := by decide +kernel
theorem dX11_takeClause_198 : decode cX11_takeClause 198 = .ok (.iload_n 1, 1) := by decide +kernel
theorem dX11_takeClause_199 : decode cX11_takeClause 199 = .ok (.iconst 4, 1) := by decide +kernel
theorem dX11_takeClause_200 : decode cX11_takeClause 200 = .ok (.if_icmp .ne 10, 3) := by decide +kernel
theorem dX11_takeClause_203 : decode cX11_takeClause 203 = .ok (.aload_n 0, 1) := by decide +kernel
theorem dX11_takeClause_204 : decode cX11_takeClause 204 = .ok (.invokevirtual 238, 3) := by decide +kernel
theorem dX11_takeClause_207 : decode cX11_takeClause 207 = .ok (.goto 32, 3) := by decide +kernel
theorem dX11_takeClause_210 : decode cX11_takeClause 210 = .ok (.iload_n 1, 1) := by decide +kernel
theorem dX11_takeClause_211 : decode cX11_takeClause 211 = .ok (.iconst 5, 1) := by decide +kernel
theorem dX11_takeClause_212 : decode cX11_takeClause 212 = .ok (.if_icmp .ne 10, 3) := by decide +kernel
theorem dX11_takeClause_215 : decode cX11_takeClause 215 = .ok (.aload_n 0, 1) := by decide +kernel
theorem dX11_takeClause_216 : decode cX11_takeClause 216 = .ok (.invokevirtual 241, 3) := by decide +kernel
theorem dX11_takeClause_219 : decode cX11_takeClause 219 = .ok (.goto 20, 3) := by decide +kernel
theorem dX11_takeClause_222 : decode cX11_takeClause 222 = .ok (.iload_n 1, 1) := by decide +kernel
theorem dX11_takeClause_223 : decode cX11_takeClause 223 = .ok (.bipush 6, 2) := by decide +kernel
theorem dX11_takeClause_225 : decode cX11_takeClause 225 = .ok (.if_icmp .ne 10, 3) := by decide +kernel
theorem dX11_takeClause_228 : decode cX11_takeClause 228 = .ok (.aload_n 0, 1) := by decide +kernel
theorem dX11_takeClause_229 : decode cX11_takeClause 229 = .ok (.invokevirtual 244, 3) := by decide +kernel
theorem dX11_takeClause_232 : decode cX11_takeClause 232 = .ok (.goto 7, 3) := by decide +kernel
theorem dX11_takeClause_235 : decode cX11_takeClause 235 = .ok (.aload_n 0, 1) := by decide +kernel
theorem dX11_takeClause_236 : decode cX11_takeClause 236 = .ok (.invokevirtual 247, 3) := by decide +kernel
theorem dX11_takeClause_239 : decode cX11_takeClause 239 = .ok (.istore_n 3, 1) := by decide +kernel
theorem dX11_takeClause_240 : decode cX11_takeClause 240 = .ok (.iload_n 3, 1) := by decide +kernel
theorem dX11_takeClause_241 : decode cX11_takeClause 241 = .ok (.ifCond .ne 22, 3) := by decide +kernel
theorem dX11_takeClause_244 : decode cX11_takeClause 244 = .ok (.aload_n 0, 1) := by decide +kernel
theorem dX11_takeClause_245 : decode cX11_takeClause 245 = .ok (.invokevirtual 139, 3) := by decide +kernel
theorem dX11_takeClause_248 : decode cX11_takeClause 248 = .ok (.bipush 59, 2) := by decide +kernel
theorem dX11_takeClause_250 : decode cX11_takeClause 250 = .ok (.if_icmp .eq 13, 3) := by decide +kernel
theorem dX11_takeClause_253 : decode cX11_takeClause 253 = .ok (.aload_n 0, 1) := by decide +kernel
theorem dX11_takeClause_254 : decode cX11_takeClause 254 = .ok (.iconst 1, 1) := by decide +kernel
theorem dX11_takeClause_255 : decode cX11_takeClause 255 = .ok (.aload_n 0, 1) := by decide +kernel
theorem dX11_takeClause_256 : decode cX11_takeClause 256 = .ok (.getfield 136, 3) := by decide +kernel
theorem dX11_takeClause_259 : decode cX11_takeClause 259 = .ok (.invokevirtual 166, 3) := by decide +kernel
theorem dX11_takeClause_262 : decode cX11_takeClause 262 = .ok (.ireturn, 1) := by decide +kernel
theorem dX11_takeClause_263 : decode cX11_takeClause 263 = .ok (.aload_n 0, 1) := by decide +kernel
theorem dX11_takeClause_264 : decode cX11_takeClause 264 = .ok (.dup, 1) := by decide +kernel
theorem dX11_takeClause_265 : decode cX11_takeClause 265 = .ok (.getfield 136, 3) := by decide +kernel
theorem dX11_takeClause_268 : decode cX11_takeClause 268 = .ok (.iconst 1, 1) := by decide +kernel
theorem dX11_takeClause_269 : decode cX11_takeClause 269 = .ok (.iadd, 1) := by decide +kernel
theorem dX11_takeClause_270 : decode cX11_takeClause 270 = .ok (.putfield 136, 3) := by decide +kernel
theorem dX11_takeClause_273 : decode cX11_takeClause 273 = .ok (.iload_n 3, 1) := by decide +kernel
theorem dX11_takeClause_274 : decode cX11_takeClause 274 = .ok (.ireturn, 1) := by decide +kernel
theorem dX11_clear_0 : decode cX11_clear 0 = .ok (.aload_n 0, 1) := by decide +kernel
theorem dX11_clear_1 : decode cX11_clear 1 = .ok (.iconst 0, 1) := by decide +kernel
theorem dX11_clear_2 : decode cX11_clear 2 = .ok (.putfield 179, 3) := by decide +kernel
theorem dX11_clear_5 : decode cX11_clear 5 = .ok (.aload_n 0, 1) := by decide +kernel
theorem dX11_clear_6 : decode cX11_clear 6 = .ok (.iconst 0, 1) := by decide +kernel
theorem dX11_clear_7 : decode cX11_clear 7 = .ok (.putfield 182, 3) := by decide +kernel
theorem dX11_clear_10 : decode cX11_clear 10 = .ok (.aload_n 0, 1) := by decide +kernel
theorem dX11_clear_11 : decode cX11_clear 11 = .ok (.iconst 0, 1) := by decide +kernel
theorem dX11_clear_12 : decode cX11_clear 12 = .ok (.putfield 194, 3) := by decide +kernel
theorem dX11_clear_15 : decode cX11_clear 15 = .ok (.aload_n 0, 1) := by decide +kernel
theorem dX11_clear_16 : decode cX11_clear 16 = .ok (.iconst 0, 1) := by decide +kernel
theorem dX11_clear_17 : decode cX11_clear 17 = .ok (.putfield 191, 3) := by decide +kernel
theorem dX11_clear_20 : decode cX11_clear 20 = .ok (.aload_n 0, 1) := by decide +kernel
theorem dX11_clear_21 : decode cX11_clear 21 = .ok (.iconst 0, 1) := by decide +kernel
theorem dX11_clear_22 : decode cX11_clear 22 = .ok (.putfield 208, 3) := by decide +kernel
theorem dX11_clear_25 : decode cX11_clear 25 = .ok (.aload_n 0, 1) := by decide +kernel
theorem dX11_clear_26 : decode cX11_clear 26 = .ok (.iconst (-1), 1) := by decide +kernel
theorem dX11_clear_27 : decode cX11_clear 27 = .ok (.putfield 188, 3) := by decide +kernel
theorem dX11_clear_30 : decode cX11_clear 30 = .ok (.aload_n 0, 1) := by decide +kernel
theorem dX11_clear_31 : decode cX11_clear 31 = .ok (.iconst (-1), 1) := by decide +kernel
theorem dX11_clear_32 : decode cX11_clear 32 = .ok (.putfield 211, 3) := by decide +kernel
theorem dX11_clear_35 : decode cX11_clear 35 = .ok (.iconst 0, 1) := by decide +kernel
theorem dX11_clear_36 : decode cX11_clear 36 = .ok (.istore_n 1, 1) := by decide +kernel
theorem dX11_clear_37 : decode cX11_clear 37 = .ok (.iload_n 1, 1) := by decide +kernel
theorem dX11_clear_38 : decode cX11_clear 38 = .ok (.bipush 42, 2) := by decide +kernel
theorem dX11_clear_40 : decode cX11_clear 40 = .ok (.if_icmp .ge 16, 3) := by decide +kernel
theorem dX11_clear_43 : decode cX11_clear 43 = .ok (.aload_n 0, 1) := by decide +kernel
theorem dX11_clear_44 : decode cX11_clear 44 = .ok (.getfield 53, 3) := by decide +kernel
theorem dX11_clear_47 : decode cX11_clear 47 = .ok (.iload_n 1, 1) := by decide +kernel
theorem dX11_clear_48 : decode cX11_clear 48 = .ok (.iconst 0, 1) := by decide +kernel
theorem dX11_clear_49 : decode cX11_clear 49 = .ok (.iastore, 1) := by decide +kernel
theorem dX11_clear_50 : decode cX11_clear 50 = .ok (.iinc 1 1, 3) := by decide +kernel
theorem dX11_clear_53 : decode cX11_clear 53 = .ok (.goto (-16), 3) := by decide +kernel
theorem dX11_clear_56 : decode cX11_clear 56 = .ok (.return_, 1) := by decide +kernel
theorem dX11_town_0 : decode cX11_town 0 = .ok (.aload_n 0, 1) := by decide +kernel
theorem dX11_town_1 : decode cX11_town 1 = .ok (.iconst (-1), 1) := by decide +kernel
theorem dX11_town_2 : decode cX11_town 2 = .ok (.putfield 50, 3) := by decide +kernel
theorem dX11_town_5 : decode cX11_town 5 = .ok (.aload_n 0, 1) := by decide +kernel
theorem dX11_town_6 : decode cX11_town 6 = .ok (.iconst 0, 1) := by decide +kernel
theorem dX11_town_7 : decode cX11_town 7 = .ok (.putfield 136, 3) := by decide +kernel
theorem dX11_town_10 : decode cX11_town 10 = .ok (.aload_n 0, 1) := by decide +kernel
theorem dX11_town_11 : decode cX11_town 11 = .ok (.invokevirtual 250, 3) := by decide +kernel
theorem dX11_town_14 : decode cX11_town 14 = .ok (.iconst 0, 1) := by decide +kernel
theorem dX11_town_15 : decode cX11_town 15 = .ok (.istore_n 1, 1) := by decide +kernel
theorem dX11_town_16 : decode cX11_town 16 = .ok (.iload_n 1, 1) := by decide +kernel
theorem dX11_town_17 : decode cX11_town 17 = .ok (.ifCond .ne 18, 3) := by decide +kernel
theorem dX11_town_20 : decode cX11_town 20 = .ok (.aload_n 0, 1) := by decide +kernel
theorem dX11_town_21 : decode cX11_town 21 = .ok (.invokevirtual 139, 3) := by decide +kernel
theorem dX11_town_24 : decode cX11_town 24 = .ok (.ifCond .lt 11, 3) := by decide +kernel
theorem dX11_town_27 : decode cX11_town 27 = .ok (.aload_n 0, 1) := by decide +kernel
theorem dX11_town_28 : decode cX11_town 28 = .ok (.invokevirtual 253, 3) := by decide +kernel
theorem dX11_town_31 : decode cX11_town 31 = .ok (.istore_n 1, 1) := by decide +kernel
theorem dX11_town_32 : decode cX11_town 32 = .ok (.goto (-16), 3) := by decide +kernel
theorem dX11_town_35 : decode cX11_town 35 = .ok (.aload_n 0, 1) := by decide +kernel
theorem dX11_town_36 : decode cX11_town 36 = .ok (.iconst 0, 1) := by decide +kernel
theorem dX11_town_37 : decode cX11_town 37 = .ok (.putfield 130, 3) := by decide +kernel
theorem dX11_town_40 : decode cX11_town 40 = .ok (.iload_n 1, 1) := by decide +kernel
theorem dX11_town_41 : decode cX11_town 41 = .ok (.ifCond .le 8, 3) := by decide +kernel
theorem dX11_town_44 : decode cX11_town 44 = .ok (.bipush (-10), 2) := by decide +kernel
theorem dX11_town_46 : decode cX11_town 46 = .ok (.iload_n 1, 1) := by decide +kernel
theorem dX11_town_47 : decode cX11_town 47 = .ok (.isub, 1) := by decide +kernel
theorem dX11_town_48 : decode cX11_town 48 = .ok (.ireturn, 1) := by decide +kernel
theorem dX11_town_49 : decode cX11_town 49 = .ok (.aload_n 0, 1) := by decide +kernel
theorem dX11_town_50 : decode cX11_town 50 = .ok (.aload_n 0, 1) := by decide +kernel
theorem dX11_town_51 : decode cX11_town 51 = .ok (.getfield 179, 3) := by decide +kernel
theorem dX11_town_54 : decode cX11_town 54 = .ok (.putfield 111, 3) := by decide +kernel
theorem dX11_town_57 : decode cX11_town 57 = .ok (.aload_n 0, 1) := by decide +kernel
theorem dX11_town_58 : decode cX11_town 58 = .ok (.aload_n 0, 1) := by decide +kernel
theorem dX11_town_59 : decode cX11_town 59 = .ok (.getfield 182, 3) := by decide +kernel
theorem dX11_town_62 : decode cX11_town 62 = .ok (.putfield 118, 3) := by decide +kernel
theorem dX11_town_65 : decode cX11_town 65 = .ok (.aload_n 0, 1) := by decide +kernel
theorem dX11_town_66 : decode cX11_town 66 = .ok (.aload_n 0, 1) := by decide +kernel
theorem dX11_town_67 : decode cX11_town 67 = .ok (.getfield 191, 3) := by decide +kernel
theorem dX11_town_70 : decode cX11_town 70 = .ok (.putfield 121, 3) := by decide +kernel
theorem dX11_town_73 : decode cX11_town 73 = .ok (.aload_n 0, 1) := by decide +kernel
theorem dX11_town_74 : decode cX11_town 74 = .ok (.aload_n 0, 1) := by decide +kernel
theorem dX11_town_75 : decode cX11_town 75 = .ok (.getfield 208, 3) := by decide +kernel
theorem dX11_town_78 : decode cX11_town 78 = .ok (.putfield 124, 3) := by decide +kernel
theorem dX11_town_81 : decode cX11_town 81 = .ok (.aload_n 0, 1) := by decide +kernel
theorem dX11_town_82 : decode cX11_town 82 = .ok (.aload_n 0, 1) := by decide +kernel
theorem dX11_town_83 : decode cX11_town 83 = .ok (.getfield 211, 3) := by decide +kernel
theorem dX11_town_86 : decode cX11_town 86 = .ok (.ifCond .ge 7, 3) := by decide +kernel
theorem dX11_town_89 : decode cX11_town 89 = .ok (.iconst 1, 1) := by decide +kernel
theorem dX11_town_90 : decode cX11_town 90 = .ok (.goto 7, 3) := by decide +kernel
theorem dX11_town_93 : decode cX11_town 93 = .ok (.aload_n 0, 1) := by decide +kernel
theorem dX11_town_94 : decode cX11_town 94 = .ok (.getfield 211, 3) := by decide +kernel
theorem dX11_town_97 : decode cX11_town 97 = .ok (.putfield 31, 3) := by decide +kernel
theorem dX11_town_100 : decode cX11_town 100 = .ok (.aload_n 0, 1) := by decide +kernel
theorem dX11_town_101 : decode cX11_town 101 = .ok (.aload_n 0, 1) := by decide +kernel
theorem dX11_town_102 : decode cX11_town 102 = .ok (.getfield 211, 3) := by decide +kernel
theorem dX11_town_105 : decode cX11_town 105 = .ok (.ifCond .ge 7, 3) := by decide +kernel
theorem dX11_town_108 : decode cX11_town 108 = .ok (.iconst 1, 1) := by decide +kernel
theorem dX11_town_109 : decode cX11_town 109 = .ok (.goto 7, 3) := by decide +kernel
theorem dX11_town_112 : decode cX11_town 112 = .ok (.aload_n 0, 1) := by decide +kernel
theorem dX11_town_113 : decode cX11_town 113 = .ok (.getfield 214, 3) := by decide +kernel
theorem dX11_town_116 : decode cX11_town 116 = .ok (.putfield 35, 3) := by decide +kernel
theorem dX11_town_119 : decode cX11_town 119 = .ok (.iconst 0, 1) := by decide +kernel
theorem dX11_town_120 : decode cX11_town 120 = .ok (.istore_n 2, 1) := by decide +kernel
theorem dX11_town_121 : decode cX11_town 121 = .ok (.iload_n 2, 1) := by decide +kernel
theorem dX11_town_122 : decode cX11_town 122 = .ok (.bipush 42, 2) := by decide +kernel
theorem dX11_town_124 : decode cX11_town 124 = .ok (.if_icmp .ge 21, 3) := by decide +kernel
theorem dX11_town_127 : decode cX11_town 127 = .ok (.aload_n 0, 1) := by decide +kernel
theorem dX11_town_128 : decode cX11_town 128 = .ok (.getfield 7, 3) := by decide +kernel
theorem dX11_town_131 : decode cX11_town 131 = .ok (.iload_n 2, 1) := by decide +kernel
theorem dX11_town_132 : decode cX11_town 132 = .ok (.aload_n 0, 1) := by decide +kernel
theorem dX11_town_133 : decode cX11_town 133 = .ok (.getfield 53, 3) := by decide +kernel
theorem dX11_town_136 : decode cX11_town 136 = .ok (.iload_n 2, 1) := by decide +kernel
theorem dX11_town_137 : decode cX11_town 137 = .ok (.iaload, 1) := by decide +kernel
theorem dX11_town_138 : decode cX11_town 138 = .ok (.iastore, 1) := by decide +kernel
theorem dX11_town_139 : decode cX11_town 139 = .ok (.iinc 2 1, 3) := by decide +kernel
theorem dX11_town_142 : decode cX11_town 142 = .ok (.goto (-21), 3) := by decide +kernel
theorem dX11_town_145 : decode cX11_town 145 = .ok (.iconst 0, 1) := by decide +kernel
theorem dX11_town_146 : decode cX11_town 146 = .ok (.istore_n 2, 1) := by decide +kernel
theorem dX11_town_147 : decode cX11_town 147 = .ok (.iload_n 2, 1) := by decide +kernel
theorem dX11_town_148 : decode cX11_town 148 = .ok (.bipush 6, 2) := by decide +kernel
theorem dX11_town_150 : decode cX11_town 150 = .ok (.if_icmp .ge 83, 3) := by decide +kernel
theorem dX11_town_153 : decode cX11_town 153 = .ok (.aload_n 0, 1) := by decide +kernel
theorem dX11_town_154 : decode cX11_town 154 = .ok (.getfield 13, 3) := by decide +kernel
theorem dX11_town_157 : decode cX11_town 157 = .ok (.iload_n 2, 1) := by decide +kernel
theorem dX11_town_158 : decode cX11_town 158 = .ok (.aload_n 0, 1) := by decide +kernel
theorem dX11_town_159 : decode cX11_town 159 = .ok (.getfield 56, 3) := by decide +kernel
theorem dX11_town_162 : decode cX11_town 162 = .ok (.iload_n 2, 1) := by decide +kernel
theorem dX11_town_163 : decode cX11_town 163 = .ok (.iaload, 1) := by decide +kernel
theorem dX11_town_164 : decode cX11_town 164 = .ok (.iastore, 1) := by decide +kernel
theorem dX11_town_165 : decode cX11_town 165 = .ok (.aload_n 0, 1) := by decide +kernel
theorem dX11_town_166 : decode cX11_town 166 = .ok (.getfield 16, 3) := by decide +kernel
theorem dX11_town_169 : decode cX11_town 169 = .ok (.iload_n 2, 1) := by decide +kernel
theorem dX11_town_170 : decode cX11_town 170 = .ok (.aload_n 0, 1) := by decide +kernel
theorem dX11_town_171 : decode cX11_town 171 = .ok (.getfield 62, 3) := by decide +kernel
theorem dX11_town_174 : decode cX11_town 174 = .ok (.iload_n 2, 1) := by decide +kernel
theorem dX11_town_175 : decode cX11_town 175 = .ok (.iaload, 1) := by decide +kernel
theorem dX11_town_176 : decode cX11_town 176 = .ok (.iastore, 1) := by decide +kernel
theorem dX11_town_177 : decode cX11_town 177 = .ok (.aload_n 0, 1) := by decide +kernel
theorem dX11_town_178 : decode cX11_town 178 = .ok (.getfield 19, 3) := by decide +kernel
theorem dX11_town_181 : decode cX11_town 181 = .ok (.iload_n 2, 1) := by decide +kernel
theorem dX11_town_182 : decode cX11_town 182 = .ok (.aload_n 0, 1) := by decide +kernel
theorem dX11_town_183 : decode cX11_town 183 = .ok (.getfield 65, 3) := by decide +kernel
theorem dX11_town_186 : decode cX11_town 186 = .ok (.iload_n 2, 1) := by decide +kernel
theorem dX11_town_187 : decode cX11_town 187 = .ok (.iaload, 1) := by decide +kernel
theorem dX11_town_188 : decode cX11_town 188 = .ok (.iastore, 1) := by decide +kernel
theorem dX11_town_189 : decode cX11_town 189 = .ok (.aload_n 0, 1) := by decide +kernel
theorem dX11_town_190 : decode cX11_town 190 = .ok (.getfield 22, 3) := by decide +kernel
theorem dX11_town_193 : decode cX11_town 193 = .ok (.iload_n 2, 1) := by decide +kernel
theorem dX11_town_194 : decode cX11_town 194 = .ok (.aload_n 0, 1) := by decide +kernel
theorem dX11_town_195 : decode cX11_town 195 = .ok (.getfield 68, 3) := by decide +kernel
theorem dX11_town_198 : decode cX11_town 198 = .ok (.iload_n 2, 1) := by decide +kernel
theorem dX11_town_199 : decode cX11_town 199 = .ok (.iaload, 1) := by decide +kernel
theorem dX11_town_200 : decode cX11_town 200 = .ok (.iastore, 1) := by decide +kernel
theorem dX11_town_201 : decode cX11_town 201 = .ok (.aload_n 0, 1) := by decide +kernel
theorem dX11_town_202 : decode cX11_town 202 = .ok (.getfield 38, 3) := by decide +kernel
theorem dX11_town_205 : decode cX11_town 205 = .ok (.iload_n 2, 1) := by decide +kernel
theorem dX11_town_206 : decode cX11_town 206 = .ok (.aload_n 0, 1) := by decide +kernel
theorem dX11_town_207 : decode cX11_town 207 = .ok (.getfield 59, 3) := by decide +kernel
theorem dX11_town_210 : decode cX11_town 210 = .ok (.iload_n 2, 1) := by decide +kernel
theorem dX11_town_211 : decode cX11_town 211 = .ok (.iaload, 1) := by decide +kernel
theorem dX11_town_212 : decode cX11_town 212 = .ok (.iastore, 1) := by decide +kernel
theorem dX11_town_213 : decode cX11_town 213 = .ok (.aload_n 0, 1) := by decide +kernel
theorem dX11_town_214 : decode cX11_town 214 = .ok (.getfield 41, 3) := by decide +kernel
theorem dX11_town_217 : decode cX11_town 217 = .ok (.iload_n 2, 1) := by decide +kernel
theorem dX11_town_218 : decode cX11_town 218 = .ok (.iconst (-1), 1) := by decide +kernel
theorem dX11_town_219 : decode cX11_town 219 = .ok (.iastore, 1) := by decide +kernel
theorem dX11_town_220 : decode cX11_town 220 = .ok (.aload_n 0, 1) := by decide +kernel
theorem dX11_town_221 : decode cX11_town 221 = .ok (.getfield 44, 3) := by decide +kernel
theorem dX11_town_224 : decode cX11_town 224 = .ok (.iload_n 2, 1) := by decide +kernel
theorem dX11_town_225 : decode cX11_town 225 = .ok (.iconst 0, 1) := by decide +kernel
theorem dX11_town_226 : decode cX11_town 226 = .ok (.iastore, 1) := by decide +kernel
theorem dX11_town_227 : decode cX11_town 227 = .ok (.iinc 2 1, 3) := by decide +kernel
theorem dX11_town_230 : decode cX11_town 230 = .ok (.goto (-83), 3) := by decide +kernel
theorem dX11_town_233 : decode cX11_town 233 = .ok (.iconst 0, 1) := by decide +kernel
theorem dX11_town_234 : decode cX11_town 234 = .ok (.istore_n 2, 1) := by decide +kernel
theorem dX11_town_235 : decode cX11_town 235 = .ok (.iload_n 2, 1) := by decide +kernel
theorem dX11_town_236 : decode cX11_town 236 = .ok (.iconst 3, 1) := by decide +kernel
theorem dX11_town_237 : decode cX11_town 237 = .ok (.if_icmp .ge 33, 3) := by decide +kernel
theorem dX11_town_240 : decode cX11_town 240 = .ok (.aload_n 0, 1) := by decide +kernel
theorem dX11_town_241 : decode cX11_town 241 = .ok (.getfield 25, 3) := by decide +kernel
theorem dX11_town_244 : decode cX11_town 244 = .ok (.iload_n 2, 1) := by decide +kernel
theorem dX11_town_245 : decode cX11_town 245 = .ok (.aload_n 0, 1) := by decide +kernel
theorem dX11_town_246 : decode cX11_town 246 = .ok (.getfield 71, 3) := by decide +kernel
theorem dX11_town_249 : decode cX11_town 249 = .ok (.iload_n 2, 1) := by decide +kernel
theorem dX11_town_250 : decode cX11_town 250 = .ok (.iaload, 1) := by decide +kernel
theorem dX11_town_251 : decode cX11_town 251 = .ok (.iastore, 1) := by decide +kernel
theorem dX11_town_252 : decode cX11_town 252 = .ok (.aload_n 0, 1) := by decide +kernel
theorem dX11_town_253 : decode cX11_town 253 = .ok (.getfield 28, 3) := by decide +kernel
theorem dX11_town_256 : decode cX11_town 256 = .ok (.iload_n 2, 1) := by decide +kernel
theorem dX11_town_257 : decode cX11_town 257 = .ok (.aload_n 0, 1) := by decide +kernel
theorem dX11_town_258 : decode cX11_town 258 = .ok (.getfield 74, 3) := by decide +kernel
theorem dX11_town_261 : decode cX11_town 261 = .ok (.iload_n 2, 1) := by decide +kernel
theorem dX11_town_262 : decode cX11_town 262 = .ok (.iaload, 1) := by decide +kernel
theorem dX11_town_263 : decode cX11_town 263 = .ok (.iastore, 1) := by decide +kernel
theorem dX11_town_264 : decode cX11_town 264 = .ok (.iinc 2 1, 3) := by decide +kernel
theorem dX11_town_267 : decode cX11_town 267 = .ok (.goto (-32), 3) := by decide +kernel
theorem dX11_town_270 : decode cX11_town 270 = .ok (.aload_n 0, 1) := by decide +kernel
theorem dX11_town_271 : decode cX11_town 271 = .ok (.aload_n 0, 1) := by decide +kernel
theorem dX11_town_272 : decode cX11_town 272 = .ok (.getfield 188, 3) := by decide +kernel
theorem dX11_town_275 : decode cX11_town 275 = .ok (.ifCond .ge 10, 3) := by decide +kernel
theorem dX11_town_278 : decode cX11_town 278 = .ok (.aload_n 0, 1) := by decide +kernel
theorem dX11_town_279 : decode cX11_town 279 = .ok (.invokevirtual 256, 3) := by decide +kernel
theorem dX11_town_282 : decode cX11_town 282 = .ok (.goto 7, 3) := by decide +kernel
theorem dX11_town_285 : decode cX11_town 285 = .ok (.aload_n 0, 1) := by decide +kernel
theorem dX11_town_286 : decode cX11_town 286 = .ok (.getfield 188, 3) := by decide +kernel
theorem dX11_town_289 : decode cX11_town 289 = .ok (.putfield 259, 3) := by decide +kernel
theorem dX11_town_292 : decode cX11_town 292 = .ok (.aload_n 0, 1) := by decide +kernel
theorem dX11_town_293 : decode cX11_town 293 = .ok (.iconst 0, 1) := by decide +kernel
theorem dX11_town_294 : decode cX11_town 294 = .ok (.putfield 262, 3) := by decide +kernel
theorem dX11_town_297 : decode cX11_town 297 = .ok (.aload_n 0, 1) := by decide +kernel
theorem dX11_town_298 : decode cX11_town 298 = .ok (.iconst 0, 1) := by decide +kernel
theorem dX11_town_299 : decode cX11_town 299 = .ok (.putfield 265, 3) := by decide +kernel
theorem dX11_town_302 : decode cX11_town 302 = .ok (.aload_n 0, 1) := by decide +kernel
theorem dX11_town_303 : decode cX11_town 303 = .ok (.iconst 0, 1) := by decide +kernel
theorem dX11_town_304 : decode cX11_town 304 = .ok (.putfield 268, 3) := by decide +kernel
theorem dX11_town_307 : decode cX11_town 307 = .ok (.aload_n 0, 1) := by decide +kernel
theorem dX11_town_308 : decode cX11_town 308 = .ok (.getfield 107, 3) := by decide +kernel
theorem dX11_town_311 : decode cX11_town 311 = .ok (.iconst 0, 1) := by decide +kernel
theorem dX11_town_312 : decode cX11_town 312 = .ok (.iconst 0, 1) := by decide +kernel
theorem dX11_town_313 : decode cX11_town 313 = .ok (.bastore, 1) := by decide +kernel
theorem dX11_town_314 : decode cX11_town 314 = .ok (.aload_n 0, 1) := by decide +kernel
theorem dX11_town_315 : decode cX11_town 315 = .ok (.getfield 107, 3) := by decide +kernel
theorem dX11_town_318 : decode cX11_town 318 = .ok (.iconst 1, 1) := by decide +kernel
theorem dX11_town_319 : decode cX11_town 319 = .ok (.iconst 0, 1) := by decide +kernel
theorem dX11_town_320 : decode cX11_town 320 = .ok (.bastore, 1) := by decide +kernel
theorem dX11_town_321 : decode cX11_town 321 = .ok (.aload_n 0, 1) := by decide +kernel
theorem dX11_town_322 : decode cX11_town 322 = .ok (.invokevirtual 271, 3) := by decide +kernel
theorem dX11_town_325 : decode cX11_town 325 = .ok (.aload_n 0, 1) := by decide +kernel
theorem dX11_town_326 : decode cX11_town 326 = .ok (.getfield 111, 3) := by decide +kernel
theorem dX11_town_329 : decode cX11_town 329 = .ok (.aload_n 0, 1) := by decide +kernel
theorem dX11_town_330 : decode cX11_town 330 = .ok (.getfield 118, 3) := by decide +kernel
theorem dX11_town_333 : decode cX11_town 333 = .ok (.imul, 1) := by decide +kernel
theorem dX11_town_334 : decode cX11_town 334 = .ok (.ireturn, 1) := by decide +kernel
theorem dX11_firstFree_0 : decode cX11_firstFree 0 = .ok (.iconst 0, 1) := by decide +kernel
theorem dX11_firstFree_1 : decode cX11_firstFree 1 = .ok (.istore_n 1, 1) := by decide +kernel
theorem dX11_firstFree_2 : decode cX11_firstFree 2 = .ok (.iload_n 1, 1) := by decide +kernel
theorem dX11_firstFree_3 : decode cX11_firstFree 3 = .ok (.aload_n 0, 1) := by decide +kernel
theorem dX11_firstFree_4 : decode cX11_firstFree 4 = .ok (.getfield 111, 3) := by decide +kernel
theorem dX11_firstFree_7 : decode cX11_firstFree 7 = .ok (.aload_n 0, 1) := by decide +kernel
theorem dX11_firstFree_8 : decode cX11_firstFree 8 = .ok (.getfield 118, 3) := by decide +kernel
theorem dX11_firstFree_11 : decode cX11_firstFree 11 = .ok (.imul, 1) := by decide +kernel
theorem dX11_firstFree_12 : decode cX11_firstFree 12 = .ok (.if_icmp .ge 20, 3) := by decide +kernel
theorem dX11_firstFree_15 : decode cX11_firstFree 15 = .ok (.aload_n 0, 1) := by decide +kernel
theorem dX11_firstFree_16 : decode cX11_firstFree 16 = .ok (.getfield 7, 3) := by decide +kernel
theorem dX11_firstFree_19 : decode cX11_firstFree 19 = .ok (.iload_n 1, 1) := by decide +kernel
theorem dX11_firstFree_20 : decode cX11_firstFree 20 = .ok (.iaload, 1) := by decide +kernel
theorem dX11_firstFree_21 : decode cX11_firstFree 21 = .ok (.ifCond .ne 5, 3) := by decide +kernel
theorem dX11_firstFree_24 : decode cX11_firstFree 24 = .ok (.iload_n 1, 1) := by decide +kernel
theorem dX11_firstFree_25 : decode cX11_firstFree 25 = .ok (.ireturn, 1) := by decide +kernel
theorem dX11_firstFree_26 : decode cX11_firstFree 26 = .ok (.iinc 1 1, 3) := by decide +kernel
theorem dX11_firstFree_29 : decode cX11_firstFree 29 = .ok (.goto (-27), 3) := by decide +kernel
theorem dX11_firstFree_32 : decode cX11_firstFree 32 = .ok (.iconst 0, 1) := by decide +kernel
theorem dX11_firstFree_33 : decode cX11_firstFree 33 = .ok (.ireturn, 1) := by decide +kernel
theorem dX11_fault_0 : decode cX11_fault 0 = .ok (.aload_n 0, 1) := by decide +kernel
theorem dX11_fault_1 : decode cX11_fault 1 = .ok (.getfield 50, 3) := by decide +kernel
theorem dX11_fault_4 : decode cX11_fault 4 = .ok (.ireturn, 1) := by decide +kernel
theorem dX11_beside_0 : decode cX11_beside 0 = .ok (.iload_n 1, 1) := by decide +kernel
theorem dX11_beside_1 : decode cX11_beside 1 = .ok (.aload_n 0, 1) := by decide +kernel
theorem dX11_beside_2 : decode cX11_beside 2 = .ok (.getfield 111, 3) := by decide +kernel
theorem dX11_beside_5 : decode cX11_beside 5 = .ok (.irem, 1) := by decide +kernel
theorem dX11_beside_6 : decode cX11_beside 6 = .ok (.iload_n 2, 1) := by decide +kernel
theorem dX11_beside_7 : decode cX11_beside 7 = .ok (.iconst 2, 1) := by decide +kernel
theorem dX11_beside_8 : decode cX11_beside 8 = .ok (.if_icmp .ne 7, 3) := by decide +kernel
theorem dX11_beside_11 : decode cX11_beside 11 = .ok (.iconst 1, 1) := by decide +kernel
theorem dX11_beside_12 : decode cX11_beside 12 = .ok (.goto 13, 3) := by decide +kernel
theorem dX11_beside_15 : decode cX11_beside 15 = .ok (.iload_n 2, 1) := by decide +kernel
theorem dX11_beside_16 : decode cX11_beside 16 = .ok (.iconst 4, 1) := by decide +kernel
theorem dX11_beside_17 : decode cX11_beside 17 = .ok (.if_icmp .ne 7, 3) := by decide +kernel
theorem dX11_beside_20 : decode cX11_beside 20 = .ok (.iconst (-1), 1) := by decide +kernel
theorem dX11_beside_21 : decode cX11_beside 21 = .ok (.goto 4, 3) := by decide +kernel
theorem dX11_beside_24 : decode cX11_beside 24 = .ok (.iconst 0, 1) := by decide +kernel
theorem dX11_beside_25 : decode cX11_beside 25 = .ok (.iadd, 1) := by decide +kernel
theorem dX11_beside_26 : decode cX11_beside 26 = .ok (.istore_n 3, 1) := by decide +kernel
theorem dX11_beside_27 : decode cX11_beside 27 = .ok (.iload_n 1, 1) := by decide +kernel
theorem dX11_beside_28 : decode cX11_beside 28 = .ok (.aload_n 0, 1) := by decide +kernel
theorem dX11_beside_29 : decode cX11_beside 29 = .ok (.getfield 111, 3) := by decide +kernel
theorem dX11_beside_32 : decode cX11_beside 32 = .ok (.idiv, 1) := by decide +kernel
theorem dX11_beside_33 : decode cX11_beside 33 = .ok (.iload_n 2, 1) := by decide +kernel
theorem dX11_beside_34 : decode cX11_beside 34 = .ok (.iconst 3, 1) := by decide +kernel
theorem dX11_beside_35 : decode cX11_beside 35 = .ok (.if_icmp .ne 7, 3) := by decide +kernel
theorem dX11_beside_38 : decode cX11_beside 38 = .ok (.iconst 1, 1) := by decide +kernel
theorem dX11_beside_39 : decode cX11_beside 39 = .ok (.goto 13, 3) := by decide +kernel
theorem dX11_beside_42 : decode cX11_beside 42 = .ok (.iload_n 2, 1) := by decide +kernel
theorem dX11_beside_43 : decode cX11_beside 43 = .ok (.iconst 1, 1) := by decide +kernel
theorem dX11_beside_44 : decode cX11_beside 44 = .ok (.if_icmp .ne 7, 3) := by decide +kernel
theorem dX11_beside_47 : decode cX11_beside 47 = .ok (.iconst (-1), 1) := by decide +kernel
theorem dX11_beside_48 : decode cX11_beside 48 = .ok (.goto 4, 3) := by decide +kernel
theorem dX11_beside_51 : decode cX11_beside 51 = .ok (.iconst 0, 1) := by decide +kernel
theorem dX11_beside_52 : decode cX11_beside 52 = .ok (.iadd, 1) := by decide +kernel
theorem dX11_beside_53 : decode cX11_beside 53 = .ok (.istore 4, 2) := by decide +kernel
theorem dX11_beside_55 : decode cX11_beside 55 = .ok (.aload_n 0, 1) := by decide +kernel
theorem dX11_beside_56 : decode cX11_beside 56 = .ok (.iload_n 3, 1) := by decide +kernel
theorem dX11_beside_57 : decode cX11_beside 57 = .ok (.iload 4, 2) := by decide +kernel
theorem dX11_beside_59 : decode cX11_beside 59 = .ok (.invokevirtual 274, 3) := by decide +kernel
theorem dX11_beside_62 : decode cX11_beside 62 = .ok (.ifCond .eq 15, 3) := by decide +kernel
theorem dX11_beside_65 : decode cX11_beside 65 = .ok (.aload_n 0, 1) := by decide +kernel
theorem dX11_beside_66 : decode cX11_beside 66 = .ok (.getfield 111, 3) := by decide +kernel
theorem dX11_beside_69 : decode cX11_beside 69 = .ok (.iload 4, 2) := by decide +kernel
theorem dX11_beside_71 : decode cX11_beside 71 = .ok (.imul, 1) := by decide +kernel
theorem dX11_beside_72 : decode cX11_beside 72 = .ok (.iload_n 3, 1) := by decide +kernel
theorem dX11_beside_73 : decode cX11_beside 73 = .ok (.iadd, 1) := by decide +kernel
theorem dX11_beside_74 : decode cX11_beside 74 = .ok (.goto 4, 3) := by decide +kernel
theorem dX11_beside_77 : decode cX11_beside 77 = .ok (.iconst (-1), 1) := by decide +kernel
theorem dX11_beside_78 : decode cX11_beside 78 = .ok (.ireturn, 1) := by decide +kernel
theorem dX11_findFarTo_0 : decode cX11_findFarTo 0 = .ok (.iconst 0, 1) := by decide +kernel
theorem dX11_findFarTo_1 : decode cX11_findFarTo 1 = .ok (.istore_n 2, 1) := by decide +kernel
theorem dX11_findFarTo_2 : decode cX11_findFarTo 2 = .ok (.iload_n 2, 1) := by decide +kernel
theorem dX11_findFarTo_3 : decode cX11_findFarTo 3 = .ok (.aload_n 0, 1) := by decide +kernel
theorem dX11_findFarTo_4 : decode cX11_findFarTo 4 = .ok (.getfield 111, 3) := by decide +kernel
theorem dX11_findFarTo_7 : decode cX11_findFarTo 7 = .ok (.aload_n 0, 1) := by decide +kernel
theorem dX11_findFarTo_8 : decode cX11_findFarTo 8 = .ok (.getfield 118, 3) := by decide +kernel
theorem dX11_findFarTo_11 : decode cX11_findFarTo 11 = .ok (.imul, 1) := by decide +kernel
theorem dX11_findFarTo_12 : decode cX11_findFarTo 12 = .ok (.if_icmp .ge 23, 3) := by decide +kernel
theorem dX11_findFarTo_15 : decode cX11_findFarTo 15 = .ok (.aload_n 0, 1) := by decide +kernel
theorem dX11_findFarTo_16 : decode cX11_findFarTo 16 = .ok (.getfield 77, 3) := by decide +kernel
theorem dX11_findFarTo_19 : decode cX11_findFarTo 19 = .ok (.bipush 42, 2) := by decide +kernel
theorem dX11_findFarTo_21 : decode cX11_findFarTo 21 = .ok (.iload_n 1, 1) := by decide +kernel
theorem dX11_findFarTo_22 : decode cX11_findFarTo 22 = .ok (.imul, 1) := by decide +kernel
theorem dX11_findFarTo_23 : decode cX11_findFarTo 23 = .ok (.iload_n 2, 1) := by decide +kernel
theorem dX11_findFarTo_24 : decode cX11_findFarTo 24 = .ok (.iadd, 1) := by decide +kernel
theorem dX11_findFarTo_25 : decode cX11_findFarTo 25 = .ok (.sipush 1000, 3) := by decide +kernel
theorem dX11_findFarTo_28 : decode cX11_findFarTo 28 = .ok (.iastore, 1) := by decide +kernel
theorem dX11_findFarTo_29 : decode cX11_findFarTo 29 = .ok (.iinc 2 1, 3) := by decide +kernel
theorem dX11_findFarTo_32 : decode cX11_findFarTo 32 = .ok (.goto (-30), 3) := by decide +kernel
theorem dX11_findFarTo_35 : decode cX11_findFarTo 35 = .ok (.aload_n 0, 1) := by decide +kernel
theorem dX11_findFarTo_36 : decode cX11_findFarTo 36 = .ok (.getfield 77, 3) := by decide +kernel
theorem dX11_findFarTo_39 : decode cX11_findFarTo 39 = .ok (.bipush 42, 2) := by decide +kernel
theorem dX11_findFarTo_41 : decode cX11_findFarTo 41 = .ok (.iload_n 1, 1) := by decide +kernel
theorem dX11_findFarTo_42 : decode cX11_findFarTo 42 = .ok (.imul, 1) := by decide +kernel
theorem dX11_findFarTo_43 : decode cX11_findFarTo 43 = .ok (.iload_n 1, 1) := by decide +kernel
theorem dX11_findFarTo_44 : decode cX11_findFarTo 44 = .ok (.iadd, 1) := by decide +kernel
theorem dX11_findFarTo_45 : decode cX11_findFarTo 45 = .ok (.iconst 0, 1) := by decide +kernel
theorem dX11_findFarTo_46 : decode cX11_findFarTo 46 = .ok (.iastore, 1) := by decide +kernel
theorem dX11_findFarTo_47 : decode cX11_findFarTo 47 = .ok (.aload_n 0, 1) := by decide +kernel
theorem dX11_findFarTo_48 : decode cX11_findFarTo 48 = .ok (.getfield 7, 3) := by decide +kernel
theorem dX11_findFarTo_51 : decode cX11_findFarTo 51 = .ok (.iload_n 1, 1) := by decide +kernel
theorem dX11_findFarTo_52 : decode cX11_findFarTo 52 = .ok (.iaload, 1) := by decide +kernel
theorem dX11_findFarTo_53 : decode cX11_findFarTo 53 = .ok (.iconst 1, 1) := by decide +kernel
theorem dX11_findFarTo_54 : decode cX11_findFarTo 54 = .ok (.if_icmp .ne 4, 3) := by decide +kernel
theorem dX11_findFarTo_57 : decode cX11_findFarTo 57 = .ok (.return_, 1) := by decide +kernel
theorem dX11_findFarTo_58 : decode cX11_findFarTo 58 = .ok (.iconst 0, 1) := by decide +kernel
theorem dX11_findFarTo_59 : decode cX11_findFarTo 59 = .ok (.istore_n 2, 1) := by decide +kernel
theorem dX11_findFarTo_60 : decode cX11_findFarTo 60 = .ok (.iload_n 2, 1) := by decide +kernel
theorem dX11_findFarTo_61 : decode cX11_findFarTo 61 = .ok (.aload_n 0, 1) := by decide +kernel
theorem dX11_findFarTo_62 : decode cX11_findFarTo 62 = .ok (.getfield 111, 3) := by decide +kernel
theorem dX11_findFarTo_65 : decode cX11_findFarTo 65 = .ok (.aload_n 0, 1) := by decide +kernel
theorem dX11_findFarTo_66 : decode cX11_findFarTo 66 = .ok (.getfield 118, 3) := by decide +kernel
theorem dX11_findFarTo_69 : decode cX11_findFarTo 69 = .ok (.imul, 1) := by decide +kernel
theorem dX11_findFarTo_70 : decode cX11_findFarTo 70 = .ok (.if_icmp .ge 118, 3) := by decide +kernel
theorem dX11_findFarTo_73 : decode cX11_findFarTo 73 = .ok (.iconst 0, 1) := by decide +kernel
theorem dX11_findFarTo_74 : decode cX11_findFarTo 74 = .ok (.istore_n 3, 1) := by decide +kernel
theorem dX11_findFarTo_75 : decode cX11_findFarTo 75 = .ok (.iload_n 3, 1) := by decide +kernel
theorem dX11_findFarTo_76 : decode cX11_findFarTo 76 = .ok (.aload_n 0, 1) := by decide +kernel
theorem dX11_findFarTo_77 : decode cX11_findFarTo 77 = .ok (.getfield 111, 3) := by decide +kernel
theorem dX11_findFarTo_80 : decode cX11_findFarTo 80 = .ok (.aload_n 0, 1) := by decide +kernel
theorem dX11_findFarTo_81 : decode cX11_findFarTo 81 = .ok (.getfield 118, 3) := by decide +kernel
theorem dX11_findFarTo_84 : decode cX11_findFarTo 84 = .ok (.imul, 1) := by decide +kernel
theorem dX11_findFarTo_85 : decode cX11_findFarTo 85 = .ok (.if_icmp .ge 97, 3) := by decide +kernel
theorem dX11_findFarTo_88 : decode cX11_findFarTo 88 = .ok (.iconst 1, 1) := by decide +kernel
theorem dX11_findFarTo_89 : decode cX11_findFarTo 89 = .ok (.istore 4, 2) := by decide +kernel
theorem dX11_findFarTo_91 : decode cX11_findFarTo 91 = .ok (.iload 4, 2) := by decide +kernel
theorem dX11_findFarTo_93 : decode cX11_findFarTo 93 = .ok (.iconst 5, 1) := by decide +kernel
theorem dX11_findFarTo_94 : decode cX11_findFarTo 94 = .ok (.if_icmp .ge 82, 3) := by decide +kernel
theorem dX11_findFarTo_97 : decode cX11_findFarTo 97 = .ok (.aload_n 0, 1) := by decide +kernel
theorem dX11_findFarTo_98 : decode cX11_findFarTo 98 = .ok (.getfield 77, 3) := by decide +kernel
theorem dX11_findFarTo_101 : decode cX11_findFarTo 101 = .ok (.bipush 42, 2) := by decide +kernel
theorem dX11_findFarTo_103 : decode cX11_findFarTo 103 = .ok (.iload_n 1, 1) := by decide +kernel
theorem dX11_findFarTo_104 : decode cX11_findFarTo 104 = .ok (.imul, 1) := by decide +kernel
theorem dX11_findFarTo_105 : decode cX11_findFarTo 105 = .ok (.iload_n 3, 1) := by decide +kernel
theorem dX11_findFarTo_106 : decode cX11_findFarTo 106 = .ok (.iadd, 1) := by decide +kernel
theorem dX11_findFarTo_107 : decode cX11_findFarTo 107 = .ok (.iaload, 1) := by decide +kernel
theorem dX11_findFarTo_108 : decode cX11_findFarTo 108 = .ok (.iload_n 2, 1) := by decide +kernel
theorem dX11_findFarTo_109 : decode cX11_findFarTo 109 = .ok (.if_icmp .ne 67, 3) := by decide +kernel
theorem dX11_findFarTo_112 : decode cX11_findFarTo 112 = .ok (.aload_n 0, 1) := by decide +kernel
theorem dX11_findFarTo_113 : decode cX11_findFarTo 113 = .ok (.iload_n 3, 1) := by decide +kernel
theorem dX11_findFarTo_114 : decode cX11_findFarTo 114 = .ok (.iload 4, 2) := by decide +kernel
theorem dX11_findFarTo_116 : decode cX11_findFarTo 116 = .ok (.invokevirtual 278, 3) := by decide +kernel
theorem dX11_findFarTo_119 : decode cX11_findFarTo 119 = .ok (.istore 5, 2) := by decide +kernel
theorem dX11_findFarTo_121 : decode cX11_findFarTo 121 = .ok (.iload 5, 2) := by decide +kernel
theorem dX11_findFarTo_123 : decode cX11_findFarTo 123 = .ok (.ifCond .lt 47, 3) := by decide +kernel
theorem dX11_findFarTo_126 : decode cX11_findFarTo 126 = .ok (.aload_n 0, 1) := by decide +kernel
theorem dX11_findFarTo_127 : decode cX11_findFarTo 127 = .ok (.getfield 7, 3) := by decide +kernel
theorem dX11_findFarTo_130 : decode cX11_findFarTo 130 = .ok (.iload 5, 2) := by decide +kernel
theorem dX11_findFarTo_132 : decode cX11_findFarTo 132 = .ok (.iaload, 1) := by decide +kernel
theorem dX11_findFarTo_133 : decode cX11_findFarTo 133 = .ok (.iconst 1, 1) := by decide +kernel
theorem dX11_findFarTo_134 : decode cX11_findFarTo 134 = .ok (.if_icmp .eq 36, 3) := by decide +kernel
theorem dX11_findFarTo_137 : decode cX11_findFarTo 137 = .ok (.aload_n 0, 1) := by decide +kernel
theorem dX11_findFarTo_138 : decode cX11_findFarTo 138 = .ok (.getfield 77, 3) := by decide +kernel
theorem dX11_findFarTo_141 : decode cX11_findFarTo 141 = .ok (.bipush 42, 2) := by decide +kernel
theorem dX11_findFarTo_143 : decode cX11_findFarTo 143 = .ok (.iload_n 1, 1) := by decide +kernel
theorem dX11_findFarTo_144 : decode cX11_findFarTo 144 = .ok (.imul, 1) := by decide +kernel
theorem dX11_findFarTo_145 : decode cX11_findFarTo 145 = .ok (.iload 5, 2) := by decide +kernel
theorem dX11_findFarTo_147 : decode cX11_findFarTo 147 = .ok (.iadd, 1) := by decide +kernel
theorem dX11_findFarTo_148 : decode cX11_findFarTo 148 = .ok (.iaload, 1) := by decide +kernel
theorem dX11_findFarTo_149 : decode cX11_findFarTo 149 = .ok (.sipush 1000, 3) := by decide +kernel
theorem dX11_findFarTo_152 : decode cX11_findFarTo 152 = .ok (.if_icmp .ne 18, 3) := by decide +kernel
theorem dX11_findFarTo_155 : decode cX11_findFarTo 155 = .ok (.aload_n 0, 1) := by decide +kernel
theorem dX11_findFarTo_156 : decode cX11_findFarTo 156 = .ok (.getfield 77, 3) := by decide +kernel
theorem dX11_findFarTo_159 : decode cX11_findFarTo 159 = .ok (.bipush 42, 2) := by decide +kernel
theorem dX11_findFarTo_161 : decode cX11_findFarTo 161 = .ok (.iload_n 1, 1) := by decide +kernel
theorem dX11_findFarTo_162 : decode cX11_findFarTo 162 = .ok (.imul, 1) := by decide +kernel
theorem dX11_findFarTo_163 : decode cX11_findFarTo 163 = .ok (.iload 5, 2) := by decide +kernel
theorem dX11_findFarTo_165 : decode cX11_findFarTo 165 = .ok (.iadd, 1) := by decide +kernel
theorem dX11_findFarTo_166 : decode cX11_findFarTo 166 = .ok (.iload_n 2, 1) := by decide +kernel
theorem dX11_findFarTo_167 : decode cX11_findFarTo 167 = .ok (.iconst 1, 1) := by decide +kernel
theorem dX11_findFarTo_168 : decode cX11_findFarTo 168 = .ok (.iadd, 1) := by decide +kernel
theorem dX11_findFarTo_169 : decode cX11_findFarTo 169 = .ok (.iastore, 1) := by decide +kernel
theorem dX11_findFarTo_170 : decode cX11_findFarTo 170 = .ok (.iinc 4 1, 3) := by decide +kernel
theorem dX11_findFarTo_173 : decode cX11_findFarTo 173 = .ok (.goto (-82), 3) := by decide +kernel
theorem dX11_findFarTo_176 : decode cX11_findFarTo 176 = .ok (.iinc 3 1, 3) := by decide +kernel
theorem dX11_findFarTo_179 : decode cX11_findFarTo 179 = .ok (.goto (-104), 3) := by decide +kernel
theorem dX11_findFarTo_182 : decode cX11_findFarTo 182 = .ok (.iinc 2 1, 3) := by decide +kernel
theorem dX11_findFarTo_185 : decode cX11_findFarTo 185 = .ok (.goto (-125), 3) := by decide +kernel
theorem dX11_findFarTo_188 : decode cX11_findFarTo 188 = .ok (.return_, 1) := by decide +kernel
theorem dX11_findFar_0 : decode cX11_findFar 0 = .ok (.iconst 0, 1) := by decide +kernel
theorem dX11_findFar_1 : decode cX11_findFar 1 = .ok (.istore_n 1, 1) := by decide +kernel
theorem dX11_findFar_2 : decode cX11_findFar 2 = .ok (.iload_n 1, 1) := by decide +kernel
theorem dX11_findFar_3 : decode cX11_findFar 3 = .ok (.aload_n 0, 1) := by decide +kernel
theorem dX11_findFar_4 : decode cX11_findFar 4 = .ok (.getfield 111, 3) := by decide +kernel
theorem dX11_findFar_7 : decode cX11_findFar 7 = .ok (.aload_n 0, 1) := by decide +kernel
theorem dX11_findFar_8 : decode cX11_findFar 8 = .ok (.getfield 118, 3) := by decide +kernel
theorem dX11_findFar_11 : decode cX11_findFar 11 = .ok (.imul, 1) := by decide +kernel
theorem dX11_findFar_12 : decode cX11_findFar 12 = .ok (.if_icmp .ge 14, 3) := by decide +kernel
theorem dX11_findFar_15 : decode cX11_findFar 15 = .ok (.aload_n 0, 1) := by decide +kernel
theorem dX11_findFar_16 : decode cX11_findFar 16 = .ok (.iload_n 1, 1) := by decide +kernel
theorem dX11_findFar_17 : decode cX11_findFar 17 = .ok (.invokevirtual 281, 3) := by decide +kernel
theorem dX11_findFar_20 : decode cX11_findFar 20 = .ok (.iinc 1 1, 3) := by decide +kernel
theorem dX11_findFar_23 : decode cX11_findFar 23 = .ok (.goto (-21), 3) := by decide +kernel
theorem dX11_findFar_26 : decode cX11_findFar 26 = .ok (.return_, 1) := by decide +kernel
theorem dX11_far_0 : decode cX11_far 0 = .ok (.aload_n 0, 1) := by decide +kernel
theorem dX11_far_1 : decode cX11_far 1 = .ok (.iload_n 1, 1) := by decide +kernel
theorem dX11_far_2 : decode cX11_far 2 = .ok (.iload_n 2, 1) := by decide +kernel
theorem dX11_far_3 : decode cX11_far 3 = .ok (.invokevirtual 274, 3) := by decide +kernel
theorem dX11_far_6 : decode cX11_far 6 = .ok (.ifCond .eq 13, 3) := by decide +kernel
theorem dX11_far_9 : decode cX11_far 9 = .ok (.aload_n 0, 1) := by decide +kernel
theorem dX11_far_10 : decode cX11_far 10 = .ok (.iload_n 3, 1) := by decide +kernel
theorem dX11_far_11 : decode cX11_far 11 = .ok (.iload 4, 2) := by decide +kernel
theorem dX11_far_13 : decode cX11_far 13 = .ok (.invokevirtual 274, 3) := by decide +kernel
theorem dX11_far_16 : decode cX11_far 16 = .ok (.ifCond .ne 7, 3) := by decide +kernel
theorem dX11_far_19 : decode cX11_far 19 = .ok (.ldc_w 285, 3) := by decide +kernel
theorem dX11_far_22 : decode cX11_far 22 = .ok (.ireturn, 1) := by decide +kernel
theorem dX11_far_23 : decode cX11_far 23 = .ok (.aload_n 0, 1) := by decide +kernel
theorem dX11_far_24 : decode cX11_far 24 = .ok (.getfield 77, 3) := by decide +kernel
theorem dX11_far_27 : decode cX11_far 27 = .ok (.bipush 42, 2) := by decide +kernel
theorem dX11_far_29 : decode cX11_far 29 = .ok (.aload_n 0, 1) := by decide +kernel
theorem dX11_far_30 : decode cX11_far 30 = .ok (.getfield 111, 3) := by decide +kernel
theorem dX11_far_33 : decode cX11_far 33 = .ok (.iload 4, 2) := by decide +kernel
theorem dX11_far_35 : decode cX11_far 35 = .ok (.imul, 1) := by decide +kernel
theorem dX11_far_36 : decode cX11_far 36 = .ok (.iload_n 3, 1) := by decide +kernel
theorem dX11_far_37 : decode cX11_far 37 = .ok (.iadd, 1) := by decide +kernel
theorem dX11_far_38 : decode cX11_far 38 = .ok (.imul, 1) := by decide +kernel
theorem dX11_far_39 : decode cX11_far 39 = .ok (.aload_n 0, 1) := by decide +kernel
theorem dX11_far_40 : decode cX11_far 40 = .ok (.getfield 111, 3) := by decide +kernel
theorem dX11_far_43 : decode cX11_far 43 = .ok (.iload_n 2, 1) := by decide +kernel
theorem dX11_far_44 : decode cX11_far 44 = .ok (.imul, 1) := by decide +kernel
theorem dX11_far_45 : decode cX11_far 45 = .ok (.iadd, 1) := by decide +kernel
theorem dX11_far_46 : decode cX11_far 46 = .ok (.iload_n 1, 1) := by decide +kernel
theorem dX11_far_47 : decode cX11_far 47 = .ok (.iadd, 1) := by decide +kernel
theorem dX11_far_48 : decode cX11_far 48 = .ok (.iaload, 1) := by decide +kernel
theorem dX11_far_49 : decode cX11_far 49 = .ok (.istore 5, 2) := by decide +kernel
theorem dX11_far_51 : decode cX11_far 51 = .ok (.iload 5, 2) := by decide +kernel
theorem dX11_far_53 : decode cX11_far 53 = .ok (.sipush 1000, 3) := by decide +kernel
theorem dX11_far_56 : decode cX11_far 56 = .ok (.if_icmp .ne 7, 3) := by decide +kernel
theorem dX11_far_59 : decode cX11_far 59 = .ok (.iconst (-1), 1) := by decide +kernel
theorem dX11_far_60 : decode cX11_far 60 = .ok (.goto 5, 3) := by decide +kernel
theorem dX11_far_63 : decode cX11_far 63 = .ok (.iload 5, 2) := by decide +kernel
theorem dX11_far_65 : decode cX11_far 65 = .ok (.ireturn, 1) := by decide +kernel
theorem dX11_followers_0 : decode cX11_followers 0 = .ok (.aload_n 0, 1) := by decide +kernel
theorem dX11_followers_1 : decode cX11_followers 1 = .ok (.getfield 16, 3) := by decide +kernel
theorem dX11_followers_4 : decode cX11_followers 4 = .ok (.iload_n 1, 1) := by decide +kernel
theorem dX11_followers_5 : decode cX11_followers 5 = .ok (.iaload, 1) := by decide +kernel
theorem dX11_followers_6 : decode cX11_followers 6 = .ok (.aload_n 0, 1) := by decide +kernel
theorem dX11_followers_7 : decode cX11_followers 7 = .ok (.getfield 22, 3) := by decide +kernel
theorem dX11_followers_10 : decode cX11_followers 10 = .ok (.iload_n 1, 1) := by decide +kernel
theorem dX11_followers_11 : decode cX11_followers 11 = .ok (.iaload, 1) := by decide +kernel
theorem dX11_followers_12 : decode cX11_followers 12 = .ok (.isub, 1) := by decide +kernel
theorem dX11_followers_13 : decode cX11_followers 13 = .ok (.ireturn, 1) := by decide +kernel
theorem dX11_isHere_0 : decode cX11_isHere 0 = .ok (.aload_n 0, 1) := by decide +kernel
theorem dX11_isHere_1 : decode cX11_isHere 1 = .ok (.iload_n 1, 1) := by decide +kernel
theorem dX11_isHere_2 : decode cX11_isHere 2 = .ok (.invokevirtual 286, 3) := by decide +kernel
theorem dX11_isHere_5 : decode cX11_isHere 5 = .ok (.ifCond .le 16, 3) := by decide +kernel
theorem dX11_isHere_8 : decode cX11_isHere 8 = .ok (.aload_n 0, 1) := by decide +kernel
theorem dX11_isHere_9 : decode cX11_isHere 9 = .ok (.getfield 44, 3) := by decide +kernel
theorem dX11_isHere_12 : decode cX11_isHere 12 = .ok (.iload_n 1, 1) := by decide +kernel
theorem dX11_isHere_13 : decode cX11_isHere 13 = .ok (.iaload, 1) := by decide +kernel
theorem dX11_isHere_14 : decode cX11_isHere 14 = .ok (.ifCond .ne 7, 3) := by decide +kernel
theorem dX11_isHere_17 : decode cX11_isHere 17 = .ok (.iconst 1, 1) := by decide +kernel
theorem dX11_isHere_18 : decode cX11_isHere 18 = .ok (.goto 4, 3) := by decide +kernel
theorem dX11_isHere_21 : decode cX11_isHere 21 = .ok (.iconst 0, 1) := by decide +kernel
theorem dX11_isHere_22 : decode cX11_isHere 22 = .ok (.ireturn, 1) := by decide +kernel
theorem dX11_headsBy_0 : decode cX11_headsBy 0 = .ok (.iconst 0, 1) := by decide +kernel
theorem dX11_headsBy_1 : decode cX11_headsBy 1 = .ok (.istore_n 3, 1) := by decide +kernel
theorem dX11_headsBy_2 : decode cX11_headsBy 2 = .ok (.iconst 0, 1) := by decide +kernel
theorem dX11_headsBy_3 : decode cX11_headsBy 3 = .ok (.istore 4, 2) := by decide +kernel
theorem dX11_headsBy_5 : decode cX11_headsBy 5 = .ok (.iload 4, 2) := by decide +kernel
theorem dX11_headsBy_7 : decode cX11_headsBy 7 = .ok (.aload_n 0, 1) := by decide +kernel
theorem dX11_headsBy_8 : decode cX11_headsBy 8 = .ok (.getfield 121, 3) := by decide +kernel
theorem dX11_headsBy_11 : decode cX11_headsBy 11 = .ok (.if_icmp .ge 49, 3) := by decide +kernel
theorem dX11_headsBy_14 : decode cX11_headsBy 14 = .ok (.iload_n 3, 1) := by decide +kernel
theorem dX11_headsBy_15 : decode cX11_headsBy 15 = .ok (.iload_n 1, 1) := by decide +kernel
theorem dX11_headsBy_16 : decode cX11_headsBy 16 = .ok (.iconst (-1), 1) := by decide +kernel
theorem dX11_headsBy_17 : decode cX11_headsBy 17 = .ok (.if_icmp .eq 14, 3) := by decide +kernel
theorem dX11_headsBy_20 : decode cX11_headsBy 20 = .ok (.aload_n 0, 1) := by decide +kernel
theorem dX11_headsBy_21 : decode cX11_headsBy 21 = .ok (.getfield 13, 3) := by decide +kernel
theorem dX11_headsBy_24 : decode cX11_headsBy 24 = .ok (.iload 4, 2) := by decide +kernel
theorem dX11_headsBy_26 : decode cX11_headsBy 26 = .ok (.iaload, 1) := by decide +kernel
theorem dX11_headsBy_27 : decode cX11_headsBy 27 = .ok (.iload_n 1, 1) := by decide +kernel
theorem dX11_headsBy_28 : decode cX11_headsBy 28 = .ok (.if_icmp .ne 23, 3) := by decide +kernel
theorem dX11_headsBy_31 : decode cX11_headsBy 31 = .ok (.aload_n 0, 1) := by decide +kernel
theorem dX11_headsBy_32 : decode cX11_headsBy 32 = .ok (.getfield 44, 3) := by decide +kernel
theorem dX11_headsBy_35 : decode cX11_headsBy 35 = .ok (.iload 4, 2) := by decide +kernel
theorem dX11_headsBy_37 : decode cX11_headsBy 37 = .ok (.iaload, 1) := by decide +kernel
theorem dX11_headsBy_38 : decode cX11_headsBy 38 = .ok (.iload_n 2, 1) := by decide +kernel
theorem dX11_headsBy_39 : decode cX11_headsBy 39 = .ok (.if_icmp .ne 12, 3) := by decide +kernel
theorem dX11_headsBy_42 : decode cX11_headsBy 42 = .ok (.aload_n 0, 1) := by decide +kernel
theorem dX11_headsBy_43 : decode cX11_headsBy 43 = .ok (.iload 4, 2) := by decide +kernel
theorem dX11_headsBy_45 : decode cX11_headsBy 45 = .ok (.invokevirtual 286, 3) := by decide +kernel
theorem dX11_headsBy_48 : decode cX11_headsBy 48 = .ok (.goto 4, 3) := by decide +kernel
theorem dX11_headsBy_51 : decode cX11_headsBy 51 = .ok (.iconst 0, 1) := by decide +kernel
theorem dX11_headsBy_52 : decode cX11_headsBy 52 = .ok (.iadd, 1) := by decide +kernel
theorem dX11_headsBy_53 : decode cX11_headsBy 53 = .ok (.istore_n 3, 1) := by decide +kernel
theorem dX11_headsBy_54 : decode cX11_headsBy 54 = .ok (.iinc 4 1, 3) := by decide +kernel
theorem dX11_headsBy_57 : decode cX11_headsBy 57 = .ok (.goto (-52), 3) := by decide +kernel
theorem dX11_headsBy_60 : decode cX11_headsBy 60 = .ok (.iload_n 3, 1) := by decide +kernel
theorem dX11_headsBy_61 : decode cX11_headsBy 61 = .ok (.ireturn, 1) := by decide +kernel
theorem dX11_allHeads_0 : decode cX11_allHeads 0 = .ok (.iconst 0, 1) := by decide +kernel
theorem dX11_allHeads_1 : decode cX11_allHeads 1 = .ok (.istore_n 1, 1) := by decide +kernel
theorem dX11_allHeads_2 : decode cX11_allHeads 2 = .ok (.iconst 0, 1) := by decide +kernel
theorem dX11_allHeads_3 : decode cX11_allHeads 3 = .ok (.istore_n 2, 1) := by decide +kernel
theorem dX11_allHeads_4 : decode cX11_allHeads 4 = .ok (.iload_n 2, 1) := by decide +kernel
theorem dX11_allHeads_5 : decode cX11_allHeads 5 = .ok (.aload_n 0, 1) := by decide +kernel
theorem dX11_allHeads_6 : decode cX11_allHeads 6 = .ok (.getfield 121, 3) := by decide +kernel
theorem dX11_allHeads_9 : decode cX11_allHeads 9 = .ok (.if_icmp .ge 18, 3) := by decide +kernel
theorem dX11_allHeads_12 : decode cX11_allHeads 12 = .ok (.iload_n 1, 1) := by decide +kernel
theorem dX11_allHeads_13 : decode cX11_allHeads 13 = .ok (.aload_n 0, 1) := by decide +kernel
theorem dX11_allHeads_14 : decode cX11_allHeads 14 = .ok (.getfield 16, 3) := by decide +kernel
theorem dX11_allHeads_17 : decode cX11_allHeads 17 = .ok (.iload_n 2, 1) := by decide +kernel
theorem dX11_allHeads_18 : decode cX11_allHeads 18 = .ok (.iaload, 1) := by decide +kernel
theorem dX11_allHeads_19 : decode cX11_allHeads 19 = .ok (.iadd, 1) := by decide +kernel
theorem dX11_allHeads_20 : decode cX11_allHeads 20 = .ok (.istore_n 1, 1) := by decide +kernel
theorem dX11_allHeads_21 : decode cX11_allHeads 21 = .ok (.iinc 2 1, 3) := by decide +kernel
theorem dX11_allHeads_24 : decode cX11_allHeads 24 = .ok (.goto (-20), 3) := by decide +kernel
theorem dX11_allHeads_27 : decode cX11_allHeads 27 = .ok (.iload_n 1, 1) := by decide +kernel
theorem dX11_allHeads_28 : decode cX11_allHeads 28 = .ok (.ireturn, 1) := by decide +kernel
theorem dX11_worth_0 : decode cX11_worth 0 = .ok (.aload_n 0, 1) := by decide +kernel
theorem dX11_worth_1 : decode cX11_worth 1 = .ok (.getfield 31, 3) := by decide +kernel
theorem dX11_worth_4 : decode cX11_worth 4 = .ok (.aload_n 0, 1) := by decide +kernel
theorem dX11_worth_5 : decode cX11_worth 5 = .ok (.iconst (-1), 1) := by decide +kernel
theorem dX11_worth_6 : decode cX11_worth 6 = .ok (.iconst 1, 1) := by decide +kernel
theorem dX11_worth_7 : decode cX11_worth 7 = .ok (.invokevirtual 289, 3) := by decide +kernel
theorem dX11_worth_10 : decode cX11_worth 10 = .ok (.imul, 1) := by decide +kernel
theorem dX11_worth_11 : decode cX11_worth 11 = .ok (.aload_n 0, 1) := by decide +kernel
theorem dX11_worth_12 : decode cX11_worth 12 = .ok (.getfield 35, 3) := by decide +kernel
theorem dX11_worth_15 : decode cX11_worth 15 = .ok (.aload_n 0, 1) := by decide +kernel
theorem dX11_worth_16 : decode cX11_worth 16 = .ok (.iconst (-1), 1) := by decide +kernel
theorem dX11_worth_17 : decode cX11_worth 17 = .ok (.iconst 2, 1) := by decide +kernel
theorem dX11_worth_18 : decode cX11_worth 18 = .ok (.invokevirtual 289, 3) := by decide +kernel
theorem dX11_worth_21 : decode cX11_worth 21 = .ok (.imul, 1) := by decide +kernel
theorem dX11_worth_22 : decode cX11_worth 22 = .ok (.isub, 1) := by decide +kernel
theorem dX11_worth_23 : decode cX11_worth 23 = .ok (.ireturn, 1) := by decide +kernel
theorem dX11_told_0 : decode cX11_told 0 = .ok (.iload_n 1, 1) := by decide +kernel
theorem dX11_told_1 : decode cX11_told 1 = .ok (.tableswitch 165 0 12 #[67, 72, 77, 82, 87, 92, 97, 117, 124, 131, 150, 155, 160], 67) := by decide +kernel
theorem dX11_told_68 : decode cX11_told 68 = .ok (.aload_n 0, 1) := by decide +kernel
theorem dX11_told_69 : decode cX11_told 69 = .ok (.getfield 111, 3) := by decide +kernel
theorem dX11_told_72 : decode cX11_told 72 = .ok (.ireturn, 1) := by decide +kernel
theorem dX11_told_73 : decode cX11_told 73 = .ok (.aload_n 0, 1) := by decide +kernel
theorem dX11_told_74 : decode cX11_told 74 = .ok (.getfield 118, 3) := by decide +kernel
theorem dX11_told_77 : decode cX11_told 77 = .ok (.ireturn, 1) := by decide +kernel
theorem dX11_told_78 : decode cX11_told 78 = .ok (.aload_n 0, 1) := by decide +kernel
theorem dX11_told_79 : decode cX11_told 79 = .ok (.getfield 121, 3) := by decide +kernel
theorem dX11_told_82 : decode cX11_told 82 = .ok (.ireturn, 1) := by decide +kernel
theorem dX11_told_83 : decode cX11_told 83 = .ok (.aload_n 0, 1) := by decide +kernel
theorem dX11_told_84 : decode cX11_told 84 = .ok (.getfield 124, 3) := by decide +kernel
theorem dX11_told_87 : decode cX11_told 87 = .ok (.ireturn, 1) := by decide +kernel
theorem dX11_told_88 : decode cX11_told 88 = .ok (.aload_n 0, 1) := by decide +kernel
theorem dX11_told_89 : decode cX11_told 89 = .ok (.getfield 130, 3) := by decide +kernel
theorem dX11_told_92 : decode cX11_told 92 = .ok (.ireturn, 1) := by decide +kernel
theorem dX11_told_93 : decode cX11_told 93 = .ok (.aload_n 0, 1) := by decide +kernel
theorem dX11_told_94 : decode cX11_told 94 = .ok (.getfield 262, 3) := by decide +kernel
theorem dX11_told_97 : decode cX11_told 97 = .ok (.ireturn, 1) := by decide +kernel
theorem dX11_told_98 : decode cX11_told 98 = .ok (.aload_n 0, 1) := by decide +kernel
theorem dX11_told_99 : decode cX11_told 99 = .ok (.getfield 111, 3) := by decide +kernel
theorem dX11_told_102 : decode cX11_told 102 = .ok (.ifCond .ne 7, 3) := by decide +kernel
theorem dX11_told_105 : decode cX11_told 105 = .ok (.iconst 0, 1) := by decide +kernel
theorem dX11_told_106 : decode cX11_told 106 = .ok (.goto 11, 3) := by decide +kernel
theorem dX11_told_109 : decode cX11_told 109 = .ok (.aload_n 0, 1) := by decide +kernel
theorem dX11_told_110 : decode cX11_told 110 = .ok (.aload_n 0, 1) := by decide +kernel
theorem dX11_told_111 : decode cX11_told 111 = .ok (.getfield 259, 3) := by decide +kernel
theorem dX11_told_114 : decode cX11_told 114 = .ok (.invokevirtual 292, 3) := by decide +kernel
theorem dX11_told_117 : decode cX11_told 117 = .ok (.ireturn, 1) := by decide +kernel
theorem dX11_told_118 : decode cX11_told 118 = .ok (.aload_n 0, 1) := by decide +kernel
theorem dX11_told_119 : decode cX11_told 119 = .ok (.iconst (-1), 1) := by decide +kernel
theorem dX11_told_120 : decode cX11_told 120 = .ok (.iconst 1, 1) := by decide +kernel
theorem dX11_told_121 : decode cX11_told 121 = .ok (.invokevirtual 289, 3) := by decide +kernel
theorem dX11_told_124 : decode cX11_told 124 = .ok (.ireturn, 1) := by decide +kernel
theorem dX11_told_125 : decode cX11_told 125 = .ok (.aload_n 0, 1) := by decide +kernel
theorem dX11_told_126 : decode cX11_told 126 = .ok (.iconst (-1), 1) := by decide +kernel
theorem dX11_told_127 : decode cX11_told 127 = .ok (.iconst 2, 1) := by decide +kernel
theorem dX11_told_128 : decode cX11_told 128 = .ok (.invokevirtual 289, 3) := by decide +kernel
theorem dX11_told_131 : decode cX11_told 131 = .ok (.ireturn, 1) := by decide +kernel
theorem dX11_told_132 : decode cX11_told 132 = .ok (.aload_n 0, 1) := by decide +kernel
theorem dX11_told_133 : decode cX11_told 133 = .ok (.invokevirtual 295, 3) := by decide +kernel
theorem dX11_told_136 : decode cX11_told 136 = .ok (.aload_n 0, 1) := by decide +kernel
theorem dX11_told_137 : decode cX11_told 137 = .ok (.iconst (-1), 1) := by decide +kernel
theorem dX11_told_138 : decode cX11_told 138 = .ok (.iconst 1, 1) := by decide +kernel
theorem dX11_told_139 : decode cX11_told 139 = .ok (.invokevirtual 289, 3) := by decide +kernel
theorem dX11_told_142 : decode cX11_told 142 = .ok (.isub, 1) := by decide +kernel
theorem dX11_told_143 : decode cX11_told 143 = .ok (.aload_n 0, 1) := by decide +kernel
theorem dX11_told_144 : decode cX11_told 144 = .ok (.iconst (-1), 1) := by decide +kernel
theorem dX11_told_145 : decode cX11_told 145 = .ok (.iconst 2, 1) := by decide +kernel
theorem dX11_told_146 : decode cX11_told 146 = .ok (.invokevirtual 289, 3) := by decide +kernel
theorem dX11_told_149 : decode cX11_told 149 = .ok (.isub, 1) := by decide +kernel
theorem dX11_told_150 : decode cX11_told 150 = .ok (.ireturn, 1) := by decide +kernel
theorem dX11_told_151 : decode cX11_told 151 = .ok (.aload_n 0, 1) := by decide +kernel
theorem dX11_told_152 : decode cX11_told 152 = .ok (.invokevirtual 298, 3) := by decide +kernel
theorem dX11_told_155 : decode cX11_told 155 = .ok (.ireturn, 1) := by decide +kernel
theorem dX11_told_156 : decode cX11_told 156 = .ok (.aload_n 0, 1) := by decide +kernel
theorem dX11_told_157 : decode cX11_told 157 = .ok (.getfield 265, 3) := by decide +kernel
theorem dX11_told_160 : decode cX11_told 160 = .ok (.ireturn, 1) := by decide +kernel
theorem dX11_told_161 : decode cX11_told 161 = .ok (.aload_n 0, 1) := by decide +kernel
theorem dX11_told_162 : decode cX11_told 162 = .ok (.getfield 268, 3) := by decide +kernel
theorem dX11_told_165 : decode cX11_told 165 = .ok (.ireturn, 1) := by decide +kernel
theorem dX11_told_166 : decode cX11_told 166 = .ok (.ldc 129, 2) := by decide +kernel
theorem dX11_told_168 : decode cX11_told 168 = .ok (.ireturn, 1) := by decide +kernel
theorem dX11_cell_0 : decode cX11_cell 0 = .ok (.aload_n 0, 1) := by decide +kernel
theorem dX11_cell_1 : decode cX11_cell 1 = .ok (.iload_n 1, 1) := by decide +kernel
theorem dX11_cell_2 : decode cX11_cell 2 = .ok (.iload_n 2, 1) := by decide +kernel
theorem dX11_cell_3 : decode cX11_cell 3 = .ok (.invokevirtual 274, 3) := by decide +kernel
theorem dX11_cell_6 : decode cX11_cell 6 = .ok (.ifCond .eq 19, 3) := by decide +kernel
theorem dX11_cell_9 : decode cX11_cell 9 = .ok (.aload_n 0, 1) := by decide +kernel
theorem dX11_cell_10 : decode cX11_cell 10 = .ok (.getfield 7, 3) := by decide +kernel
theorem dX11_cell_13 : decode cX11_cell 13 = .ok (.aload_n 0, 1) := by decide +kernel
theorem dX11_cell_14 : decode cX11_cell 14 = .ok (.getfield 111, 3) := by decide +kernel
theorem dX11_cell_17 : decode cX11_cell 17 = .ok (.iload_n 2, 1) := by decide +kernel
theorem dX11_cell_18 : decode cX11_cell 18 = .ok (.imul, 1) := by decide +kernel
theorem dX11_cell_19 : decode cX11_cell 19 = .ok (.iload_n 1, 1) := by decide +kernel
theorem dX11_cell_20 : decode cX11_cell 20 = .ok (.iadd, 1) := by decide +kernel
theorem dX11_cell_21 : decode cX11_cell 21 = .ok (.iaload, 1) := by decide +kernel
theorem dX11_cell_22 : decode cX11_cell 22 = .ok (.goto 6, 3) := by decide +kernel
theorem dX11_cell_25 : decode cX11_cell 25 = .ok (.ldc_w 285, 3) := by decide +kernel
theorem dX11_cell_28 : decode cX11_cell 28 = .ok (.ireturn, 1) := by decide +kernel
theorem dX11_crowd_0 : decode cX11_crowd 0 = .ok (.aload_n 0, 1) := by decide +kernel
theorem dX11_crowd_1 : decode cX11_crowd 1 = .ok (.iload_n 1, 1) := by decide +kernel
theorem dX11_crowd_2 : decode cX11_crowd 2 = .ok (.invokevirtual 301, 3) := by decide +kernel
theorem dX11_crowd_5 : decode cX11_crowd 5 = .ok (.ifCond .ne 7, 3) := by decide +kernel
theorem dX11_crowd_8 : decode cX11_crowd 8 = .ok (.ldc_w 285, 3) := by decide +kernel
theorem dX11_crowd_11 : decode cX11_crowd 11 = .ok (.ireturn, 1) := by decide +kernel
theorem dX11_crowd_12 : decode cX11_crowd 12 = .ok (.iload_n 2, 1) := by decide +kernel
theorem dX11_crowd_13 : decode cX11_crowd 13 = .ok (.tableswitch 113 0 6 #[43, 50, 57, 64, 71, 82, 106], 43) := by decide +kernel
theorem dX11_crowd_56 : decode cX11_crowd 56 = .ok (.aload_n 0, 1) := by decide +kernel
theorem dX11_crowd_57 : decode cX11_crowd 57 = .ok (.getfield 13, 3) := by decide +kernel
theorem dX11_crowd_60 : decode cX11_crowd 60 = .ok (.iload_n 1, 1) := by decide +kernel
theorem dX11_crowd_61 : decode cX11_crowd 61 = .ok (.iaload, 1) := by decide +kernel
theorem dX11_crowd_62 : decode cX11_crowd 62 = .ok (.ireturn, 1) := by decide +kernel
theorem dX11_crowd_63 : decode cX11_crowd 63 = .ok (.aload_n 0, 1) := by decide +kernel
theorem dX11_crowd_64 : decode cX11_crowd 64 = .ok (.getfield 16, 3) := by decide +kernel
theorem dX11_crowd_67 : decode cX11_crowd 67 = .ok (.iload_n 1, 1) := by decide +kernel
theorem dX11_crowd_68 : decode cX11_crowd 68 = .ok (.iaload, 1) := by decide +kernel
theorem dX11_crowd_69 : decode cX11_crowd 69 = .ok (.ireturn, 1) := by decide +kernel
theorem dX11_crowd_70 : decode cX11_crowd 70 = .ok (.aload_n 0, 1) := by decide +kernel
theorem dX11_crowd_71 : decode cX11_crowd 71 = .ok (.getfield 19, 3) := by decide +kernel
theorem dX11_crowd_74 : decode cX11_crowd 74 = .ok (.iload_n 1, 1) := by decide +kernel
theorem dX11_crowd_75 : decode cX11_crowd 75 = .ok (.iaload, 1) := by decide +kernel
theorem dX11_crowd_76 : decode cX11_crowd 76 = .ok (.ireturn, 1) := by decide +kernel
theorem dX11_crowd_77 : decode cX11_crowd 77 = .ok (.aload_n 0, 1) := by decide +kernel
theorem dX11_crowd_78 : decode cX11_crowd 78 = .ok (.getfield 22, 3) := by decide +kernel
theorem dX11_crowd_81 : decode cX11_crowd 81 = .ok (.iload_n 1, 1) := by decide +kernel
theorem dX11_crowd_82 : decode cX11_crowd 82 = .ok (.iaload, 1) := by decide +kernel
theorem dX11_crowd_83 : decode cX11_crowd 83 = .ok (.ireturn, 1) := by decide +kernel
theorem dX11_crowd_84 : decode cX11_crowd 84 = .ok (.aload_n 0, 1) := by decide +kernel
theorem dX11_crowd_85 : decode cX11_crowd 85 = .ok (.aload_n 0, 1) := by decide +kernel
theorem dX11_crowd_86 : decode cX11_crowd 86 = .ok (.getfield 38, 3) := by decide +kernel
theorem dX11_crowd_89 : decode cX11_crowd 89 = .ok (.iload_n 1, 1) := by decide +kernel
theorem dX11_crowd_90 : decode cX11_crowd 90 = .ok (.iaload, 1) := by decide +kernel
theorem dX11_crowd_91 : decode cX11_crowd 91 = .ok (.invokevirtual 292, 3) := by decide +kernel
theorem dX11_crowd_94 : decode cX11_crowd 94 = .ok (.ireturn, 1) := by decide +kernel
theorem dX11_crowd_95 : decode cX11_crowd 95 = .ok (.aload_n 0, 1) := by decide +kernel
theorem dX11_crowd_96 : decode cX11_crowd 96 = .ok (.getfield 41, 3) := by decide +kernel
theorem dX11_crowd_99 : decode cX11_crowd 99 = .ok (.iload_n 1, 1) := by decide +kernel
theorem dX11_crowd_100 : decode cX11_crowd 100 = .ok (.iaload, 1) := by decide +kernel
theorem dX11_crowd_101 : decode cX11_crowd 101 = .ok (.ifCond .ge 7, 3) := by decide +kernel
theorem dX11_crowd_104 : decode cX11_crowd 104 = .ok (.iconst (-1), 1) := by decide +kernel
theorem dX11_crowd_105 : decode cX11_crowd 105 = .ok (.goto 13, 3) := by decide +kernel
theorem dX11_crowd_108 : decode cX11_crowd 108 = .ok (.aload_n 0, 1) := by decide +kernel
theorem dX11_crowd_109 : decode cX11_crowd 109 = .ok (.aload_n 0, 1) := by decide +kernel
theorem dX11_crowd_110 : decode cX11_crowd 110 = .ok (.getfield 41, 3) := by decide +kernel
theorem dX11_crowd_113 : decode cX11_crowd 113 = .ok (.iload_n 1, 1) := by decide +kernel
theorem dX11_crowd_114 : decode cX11_crowd 114 = .ok (.iaload, 1) := by decide +kernel
theorem dX11_crowd_115 : decode cX11_crowd 115 = .ok (.invokevirtual 292, 3) := by decide +kernel
theorem dX11_crowd_118 : decode cX11_crowd 118 = .ok (.ireturn, 1) := by decide +kernel
theorem dX11_crowd_119 : decode cX11_crowd 119 = .ok (.aload_n 0, 1) := by decide +kernel
theorem dX11_crowd_120 : decode cX11_crowd 120 = .ok (.getfield 44, 3) := by decide +kernel
theorem dX11_crowd_123 : decode cX11_crowd 123 = .ok (.iload_n 1, 1) := by decide +kernel
theorem dX11_crowd_124 : decode cX11_crowd 124 = .ok (.iaload, 1) := by decide +kernel
theorem dX11_crowd_125 : decode cX11_crowd 125 = .ok (.ireturn, 1) := by decide +kernel
theorem dX11_crowd_126 : decode cX11_crowd 126 = .ok (.ldc 129, 2) := by decide +kernel
theorem dX11_crowd_128 : decode cX11_crowd 128 = .ok (.ireturn, 1) := by decide +kernel
theorem dX11_hears_0 : decode cX11_hears 0 = .ok (.aload_n 0, 1) := by decide +kernel
theorem dX11_hears_1 : decode cX11_hears 1 = .ok (.iload_n 1, 1) := by decide +kernel
theorem dX11_hears_2 : decode cX11_hears 2 = .ok (.invokevirtual 304, 3) := by decide +kernel
theorem dX11_hears_5 : decode cX11_hears 5 = .ok (.ifCond .eq 53, 3) := by decide +kernel
theorem dX11_hears_8 : decode cX11_hears 8 = .ok (.aload_n 0, 1) := by decide +kernel
theorem dX11_hears_9 : decode cX11_hears 9 = .ok (.getfield 25, 3) := by decide +kernel
theorem dX11_hears_12 : decode cX11_hears 12 = .ok (.iload_n 2, 1) := by decide +kernel
theorem dX11_hears_13 : decode cX11_hears 13 = .ok (.iaload, 1) := by decide +kernel
theorem dX11_hears_14 : decode cX11_hears 14 = .ok (.aload_n 0, 1) := by decide +kernel
theorem dX11_hears_15 : decode cX11_hears 15 = .ok (.getfield 13, 3) := by decide +kernel
theorem dX11_hears_18 : decode cX11_hears 18 = .ok (.iload_n 1, 1) := by decide +kernel
theorem dX11_hears_19 : decode cX11_hears 19 = .ok (.iaload, 1) := by decide +kernel
theorem dX11_hears_20 : decode cX11_hears 20 = .ok (.invokestatic 307, 3) := by decide +kernel
theorem dX11_hears_23 : decode cX11_hears 23 = .ok (.ifCond .eq 35, 3) := by decide +kernel
theorem dX11_hears_26 : decode cX11_hears 26 = .ok (.aload_n 0, 1) := by decide +kernel
theorem dX11_hears_27 : decode cX11_hears 27 = .ok (.getfield 77, 3) := by decide +kernel
theorem dX11_hears_30 : decode cX11_hears 30 = .ok (.bipush 42, 2) := by decide +kernel
theorem dX11_hears_32 : decode cX11_hears 32 = .ok (.aload_n 0, 1) := by decide +kernel
theorem dX11_hears_33 : decode cX11_hears 33 = .ok (.getfield 259, 3) := by decide +kernel
theorem dX11_hears_36 : decode cX11_hears 36 = .ok (.imul, 1) := by decide +kernel
theorem dX11_hears_37 : decode cX11_hears 37 = .ok (.aload_n 0, 1) := by decide +kernel
theorem dX11_hears_38 : decode cX11_hears 38 = .ok (.getfield 38, 3) := by decide +kernel
theorem dX11_hears_41 : decode cX11_hears 41 = .ok (.iload_n 1, 1) := by decide +kernel
theorem dX11_hears_42 : decode cX11_hears 42 = .ok (.iaload, 1) := by decide +kernel
theorem dX11_hears_43 : decode cX11_hears 43 = .ok (.iadd, 1) := by decide +kernel
theorem dX11_hears_44 : decode cX11_hears 44 = .ok (.iaload, 1) := by decide +kernel
theorem dX11_hears_45 : decode cX11_hears 45 = .ok (.aload_n 0, 1) := by decide +kernel
theorem dX11_hears_46 : decode cX11_hears 46 = .ok (.getfield 28, 3) := by decide +kernel
theorem dX11_hears_49 : decode cX11_hears 49 = .ok (.iload_n 2, 1) := by decide +kernel
theorem dX11_hears_50 : decode cX11_hears 50 = .ok (.iaload, 1) := by decide +kernel
theorem dX11_hears_51 : decode cX11_hears 51 = .ok (.if_icmp .gt 7, 3) := by decide +kernel
theorem dX11_hears_54 : decode cX11_hears 54 = .ok (.iconst 1, 1) := by decide +kernel
theorem dX11_hears_55 : decode cX11_hears 55 = .ok (.goto 4, 3) := by decide +kernel
theorem dX11_hears_58 : decode cX11_hears 58 = .ok (.iconst 0, 1) := by decide +kernel
theorem dX11_hears_59 : decode cX11_hears 59 = .ok (.ireturn, 1) := by decide +kernel
theorem dX11_tune_0 : decode cX11_tune 0 = .ok (.aload_n 0, 1) := by decide +kernel
theorem dX11_tune_1 : decode cX11_tune 1 = .ok (.iload_n 1, 1) := by decide +kernel
theorem dX11_tune_2 : decode cX11_tune 2 = .ok (.invokevirtual 310, 3) := by decide +kernel
theorem dX11_tune_5 : decode cX11_tune 5 = .ok (.ifCond .ne 7, 3) := by decide +kernel
theorem dX11_tune_8 : decode cX11_tune 8 = .ok (.ldc_w 285, 3) := by decide +kernel
theorem dX11_tune_11 : decode cX11_tune 11 = .ok (.ireturn, 1) := by decide +kernel
theorem dX11_tune_12 : decode cX11_tune 12 = .ok (.iload_n 2, 1) := by decide +kernel
theorem dX11_tune_13 : decode cX11_tune 13 = .ok (.iconst 2, 1) := by decide +kernel
theorem dX11_tune_14 : decode cX11_tune 14 = .ok (.if_icmp .ne 46, 3) := by decide +kernel
theorem dX11_tune_17 : decode cX11_tune 17 = .ok (.iconst 0, 1) := by decide +kernel
theorem dX11_tune_18 : decode cX11_tune 18 = .ok (.istore_n 3, 1) := by decide +kernel
theorem dX11_tune_19 : decode cX11_tune 19 = .ok (.iconst 0, 1) := by decide +kernel
theorem dX11_tune_20 : decode cX11_tune 20 = .ok (.istore 4, 2) := by decide +kernel
theorem dX11_tune_22 : decode cX11_tune 22 = .ok (.iload 4, 2) := by decide +kernel
theorem dX11_tune_24 : decode cX11_tune 24 = .ok (.aload_n 0, 1) := by decide +kernel
theorem dX11_tune_25 : decode cX11_tune 25 = .ok (.getfield 121, 3) := by decide +kernel
theorem dX11_tune_28 : decode cX11_tune 28 = .ok (.if_icmp .ge 30, 3) := by decide +kernel
theorem dX11_tune_31 : decode cX11_tune 31 = .ok (.iload_n 3, 1) := by decide +kernel
theorem dX11_tune_32 : decode cX11_tune 32 = .ok (.aload_n 0, 1) := by decide +kernel
theorem dX11_tune_33 : decode cX11_tune 33 = .ok (.iload 4, 2) := by decide +kernel
theorem dX11_tune_35 : decode cX11_tune 35 = .ok (.iload_n 1, 1) := by decide +kernel
theorem dX11_tune_36 : decode cX11_tune 36 = .ok (.invokevirtual 313, 3) := by decide +kernel
theorem dX11_tune_39 : decode cX11_tune 39 = .ok (.ifCond .eq 10, 3) := by decide +kernel
theorem dX11_tune_42 : decode cX11_tune 42 = .ok (.iconst 1, 1) := by decide +kernel
theorem dX11_tune_43 : decode cX11_tune 43 = .ok (.iload 4, 2) := by decide +kernel
theorem dX11_tune_45 : decode cX11_tune 45 = .ok (.ishl, 1) := by decide +kernel
theorem dX11_tune_46 : decode cX11_tune 46 = .ok (.goto 4, 3) := by decide +kernel
theorem dX11_tune_49 : decode cX11_tune 49 = .ok (.iconst 0, 1) := by decide +kernel
theorem dX11_tune_50 : decode cX11_tune 50 = .ok (.ior, 1) := by decide +kernel
theorem dX11_tune_51 : decode cX11_tune 51 = .ok (.istore_n 3, 1) := by decide +kernel
theorem dX11_tune_52 : decode cX11_tune 52 = .ok (.iinc 4 1, 3) := by decide +kernel
theorem dX11_tune_55 : decode cX11_tune 55 = .ok (.goto (-33), 3) := by decide +kernel
theorem dX11_tune_58 : decode cX11_tune 58 = .ok (.iload_n 3, 1) := by decide +kernel
theorem dX11_tune_59 : decode cX11_tune 59 = .ok (.ireturn, 1) := by decide +kernel
theorem dX11_tune_60 : decode cX11_tune 60 = .ok (.iload_n 2, 1) := by decide +kernel
theorem dX11_tune_61 : decode cX11_tune 61 = .ok (.ifCond .ne 12, 3) := by decide +kernel
theorem dX11_tune_64 : decode cX11_tune 64 = .ok (.aload_n 0, 1) := by decide +kernel
theorem dX11_tune_65 : decode cX11_tune 65 = .ok (.getfield 25, 3) := by decide +kernel
theorem dX11_tune_68 : decode cX11_tune 68 = .ok (.iload_n 1, 1) := by decide +kernel
theorem dX11_tune_69 : decode cX11_tune 69 = .ok (.iaload, 1) := by decide +kernel
theorem dX11_tune_70 : decode cX11_tune 70 = .ok (.goto 19, 3) := by decide +kernel
theorem dX11_tune_73 : decode cX11_tune 73 = .ok (.iload_n 2, 1) := by decide +kernel
theorem dX11_tune_74 : decode cX11_tune 74 = .ok (.iconst 1, 1) := by decide +kernel
theorem dX11_tune_75 : decode cX11_tune 75 = .ok (.if_icmp .ne 12, 3) := by decide +kernel
theorem dX11_tune_78 : decode cX11_tune 78 = .ok (.aload_n 0, 1) := by decide +kernel
theorem dX11_tune_79 : decode cX11_tune 79 = .ok (.getfield 28, 3) := by decide +kernel
theorem dX11_tune_82 : decode cX11_tune 82 = .ok (.iload_n 1, 1) := by decide +kernel
theorem dX11_tune_83 : decode cX11_tune 83 = .ok (.iaload, 1) := by decide +kernel
theorem dX11_tune_84 : decode cX11_tune 84 = .ok (.goto 5, 3) := by decide +kernel
theorem dX11_tune_87 : decode cX11_tune 87 = .ok (.ldc 129, 2) := by decide +kernel
theorem dX11_tune_89 : decode cX11_tune 89 = .ok (.ireturn, 1) := by decide +kernel
theorem dX11_stepTo_0 : decode cX11_stepTo 0 = .ok (.aload_n 0, 1) := by decide +kernel
theorem dX11_stepTo_1 : decode cX11_stepTo 1 = .ok (.getfield 111, 3) := by decide +kernel
theorem dX11_stepTo_4 : decode cX11_stepTo 4 = .ok (.ifCond .ne 7, 3) := by decide +kernel
theorem dX11_stepTo_7 : decode cX11_stepTo 7 = .ok (.iconst (-1), 1) := by decide +kernel
theorem dX11_stepTo_8 : decode cX11_stepTo 8 = .ok (.goto 23, 3) := by decide +kernel
theorem dX11_stepTo_11 : decode cX11_stepTo 11 = .ok (.iload_n 1, 1) := by decide +kernel
theorem dX11_stepTo_12 : decode cX11_stepTo 12 = .ok (.ifCond .ne 10, 3) := by decide +kernel
theorem dX11_stepTo_15 : decode cX11_stepTo 15 = .ok (.aload_n 0, 1) := by decide +kernel
theorem dX11_stepTo_16 : decode cX11_stepTo 16 = .ok (.getfield 259, 3) := by decide +kernel
theorem dX11_stepTo_19 : decode cX11_stepTo 19 = .ok (.goto 12, 3) := by decide +kernel
theorem dX11_stepTo_22 : decode cX11_stepTo 22 = .ok (.aload_n 0, 1) := by decide +kernel
theorem dX11_stepTo_23 : decode cX11_stepTo 23 = .ok (.aload_n 0, 1) := by decide +kernel
theorem dX11_stepTo_24 : decode cX11_stepTo 24 = .ok (.getfield 259, 3) := by decide +kernel
theorem dX11_stepTo_27 : decode cX11_stepTo 27 = .ok (.iload_n 1, 1) := by decide +kernel
theorem dX11_stepTo_28 : decode cX11_stepTo 28 = .ok (.invokevirtual 278, 3) := by decide +kernel
theorem dX11_stepTo_31 : decode cX11_stepTo 31 = .ok (.istore_n 2, 1) := by decide +kernel
theorem dX11_stepTo_32 : decode cX11_stepTo 32 = .ok (.iload_n 2, 1) := by decide +kernel
theorem dX11_stepTo_33 : decode cX11_stepTo 33 = .ok (.ifCond .lt 27, 3) := by decide +kernel
theorem dX11_stepTo_36 : decode cX11_stepTo 36 = .ok (.iload_n 1, 1) := by decide +kernel
theorem dX11_stepTo_37 : decode cX11_stepTo 37 = .ok (.ifCond .le 27, 3) := by decide +kernel
theorem dX11_stepTo_40 : decode cX11_stepTo 40 = .ok (.aload_n 0, 1) := by decide +kernel
theorem dX11_stepTo_41 : decode cX11_stepTo 41 = .ok (.getfield 7, 3) := by decide +kernel
theorem dX11_stepTo_44 : decode cX11_stepTo 44 = .ok (.iload_n 2, 1) := by decide +kernel
theorem dX11_stepTo_45 : decode cX11_stepTo 45 = .ok (.iaload, 1) := by decide +kernel
theorem dX11_stepTo_46 : decode cX11_stepTo 46 = .ok (.iconst 1, 1) := by decide +kernel
theorem dX11_stepTo_47 : decode cX11_stepTo 47 = .ok (.if_icmp .eq 13, 3) := by decide +kernel
theorem dX11_stepTo_50 : decode cX11_stepTo 50 = .ok (.aload_n 0, 1) := by decide +kernel
theorem dX11_stepTo_51 : decode cX11_stepTo 51 = .ok (.getfield 7, 3) := by decide +kernel
theorem dX11_stepTo_54 : decode cX11_stepTo 54 = .ok (.iload_n 2, 1) := by decide +kernel
theorem dX11_stepTo_55 : decode cX11_stepTo 55 = .ok (.iaload, 1) := by decide +kernel
theorem dX11_stepTo_56 : decode cX11_stepTo 56 = .ok (.iconst 2, 1) := by decide +kernel
theorem dX11_stepTo_57 : decode cX11_stepTo 57 = .ok (.if_icmp .ne 7, 3) := by decide +kernel
theorem dX11_stepTo_60 : decode cX11_stepTo 60 = .ok (.iconst (-1), 1) := by decide +kernel
theorem dX11_stepTo_61 : decode cX11_stepTo 61 = .ok (.goto 4, 3) := by decide +kernel
theorem dX11_stepTo_64 : decode cX11_stepTo 64 = .ok (.iload_n 2, 1) := by decide +kernel
theorem dX11_stepTo_65 : decode cX11_stepTo 65 = .ok (.ireturn, 1) := by decide +kernel
theorem dX11_stepOn_0 : decode cX11_stepOn 0 = .ok (.iconst 1, 1) := by decide +kernel
theorem dX11_stepOn_1 : decode cX11_stepOn 1 = .ok (.istore_n 2, 1) := by decide +kernel
theorem dX11_stepOn_2 : decode cX11_stepOn 2 = .ok (.iload_n 2, 1) := by decide +kernel
theorem dX11_stepOn_3 : decode cX11_stepOn 3 = .ok (.iconst 5, 1) := by decide +kernel
theorem dX11_stepOn_4 : decode cX11_stepOn 4 = .ok (.if_icmp .ge 110, 3) := by decide +kernel
theorem dX11_stepOn_7 : decode cX11_stepOn 7 = .ok (.aload_n 0, 1) := by decide +kernel
theorem dX11_stepOn_8 : decode cX11_stepOn 8 = .ok (.aload_n 0, 1) := by decide +kernel
theorem dX11_stepOn_9 : decode cX11_stepOn 9 = .ok (.getfield 38, 3) := by decide +kernel
theorem dX11_stepOn_12 : decode cX11_stepOn 12 = .ok (.iload_n 1, 1) := by decide +kernel
theorem dX11_stepOn_13 : decode cX11_stepOn 13 = .ok (.iaload, 1) := by decide +kernel
theorem dX11_stepOn_14 : decode cX11_stepOn 14 = .ok (.iload_n 2, 1) := by decide +kernel
theorem dX11_stepOn_15 : decode cX11_stepOn 15 = .ok (.invokevirtual 278, 3) := by decide +kernel
theorem dX11_stepOn_18 : decode cX11_stepOn 18 = .ok (.istore_n 3, 1) := by decide +kernel
theorem dX11_stepOn_19 : decode cX11_stepOn 19 = .ok (.iload_n 3, 1) := by decide +kernel
theorem dX11_stepOn_20 : decode cX11_stepOn 20 = .ok (.ifCond .lt 88, 3) := by decide +kernel
theorem dX11_stepOn_23 : decode cX11_stepOn 23 = .ok (.aload_n 0, 1) := by decide +kernel
theorem dX11_stepOn_24 : decode cX11_stepOn 24 = .ok (.getfield 77, 3) := by decide +kernel
theorem dX11_stepOn_27 : decode cX11_stepOn 27 = .ok (.bipush 42, 2) := by decide +kernel
theorem dX11_stepOn_29 : decode cX11_stepOn 29 = .ok (.aload_n 0, 1) := by decide +kernel
theorem dX11_stepOn_30 : decode cX11_stepOn 30 = .ok (.getfield 41, 3) := by decide +kernel
theorem dX11_stepOn_33 : decode cX11_stepOn 33 = .ok (.iload_n 1, 1) := by decide +kernel
theorem dX11_stepOn_34 : decode cX11_stepOn 34 = .ok (.iaload, 1) := by decide +kernel
theorem dX11_stepOn_35 : decode cX11_stepOn 35 = .ok (.imul, 1) := by decide +kernel
theorem dX11_stepOn_36 : decode cX11_stepOn 36 = .ok (.iload_n 3, 1) := by decide +kernel
theorem dX11_stepOn_37 : decode cX11_stepOn 37 = .ok (.iadd, 1) := by decide +kernel
theorem dX11_stepOn_38 : decode cX11_stepOn 38 = .ok (.iaload, 1) := by decide +kernel
theorem dX11_stepOn_39 : decode cX11_stepOn 39 = .ok (.aload_n 0, 1) := by decide +kernel
theorem dX11_stepOn_40 : decode cX11_stepOn 40 = .ok (.getfield 77, 3) := by decide +kernel
theorem dX11_stepOn_43 : decode cX11_stepOn 43 = .ok (.bipush 42, 2) := by decide +kernel
theorem dX11_stepOn_45 : decode cX11_stepOn 45 = .ok (.aload_n 0, 1) := by decide +kernel
theorem dX11_stepOn_46 : decode cX11_stepOn 46 = .ok (.getfield 41, 3) := by decide +kernel
theorem dX11_stepOn_49 : decode cX11_stepOn 49 = .ok (.iload_n 1, 1) := by decide +kernel
theorem dX11_stepOn_50 : decode cX11_stepOn 50 = .ok (.iaload, 1) := by decide +kernel
theorem dX11_stepOn_51 : decode cX11_stepOn 51 = .ok (.imul, 1) := by decide +kernel
theorem dX11_stepOn_52 : decode cX11_stepOn 52 = .ok (.aload_n 0, 1) := by decide +kernel
theorem dX11_stepOn_53 : decode cX11_stepOn 53 = .ok (.getfield 38, 3) := by decide +kernel
theorem dX11_stepOn_56 : decode cX11_stepOn 56 = .ok (.iload_n 1, 1) := by decide +kernel
theorem dX11_stepOn_57 : decode cX11_stepOn 57 = .ok (.iaload, 1) := by decide +kernel
theorem dX11_stepOn_58 : decode cX11_stepOn 58 = .ok (.iadd, 1) := by decide +kernel
theorem dX11_stepOn_59 : decode cX11_stepOn 59 = .ok (.iaload, 1) := by decide +kernel
theorem dX11_stepOn_60 : decode cX11_stepOn 60 = .ok (.iconst 1, 1) := by decide +kernel
theorem dX11_stepOn_61 : decode cX11_stepOn 61 = .ok (.isub, 1) := by decide +kernel
theorem dX11_stepOn_62 : decode cX11_stepOn 62 = .ok (.if_icmp .ne 46, 3) := by decide +kernel
theorem dX11_stepOn_65 : decode cX11_stepOn 65 = .ok (.aload_n 0, 1) := by decide +kernel
theorem dX11_stepOn_66 : decode cX11_stepOn 66 = .ok (.getfield 38, 3) := by decide +kernel
theorem dX11_stepOn_69 : decode cX11_stepOn 69 = .ok (.iload_n 1, 1) := by decide +kernel
theorem dX11_stepOn_70 : decode cX11_stepOn 70 = .ok (.iload_n 3, 1) := by decide +kernel
theorem dX11_stepOn_71 : decode cX11_stepOn 71 = .ok (.iastore, 1) := by decide +kernel
theorem dX11_stepOn_72 : decode cX11_stepOn 72 = .ok (.aload_n 0, 1) := by decide +kernel
theorem dX11_stepOn_73 : decode cX11_stepOn 73 = .ok (.getfield 44, 3) := by decide +kernel
theorem dX11_stepOn_76 : decode cX11_stepOn 76 = .ok (.iload_n 1, 1) := by decide +kernel
theorem dX11_stepOn_77 : decode cX11_stepOn 77 = .ok (.aload_n 0, 1) := by decide +kernel
theorem dX11_stepOn_78 : decode cX11_stepOn 78 = .ok (.getfield 7, 3) := by decide +kernel
theorem dX11_stepOn_81 : decode cX11_stepOn 81 = .ok (.iload_n 3, 1) := by decide +kernel
theorem dX11_stepOn_82 : decode cX11_stepOn 82 = .ok (.iaload, 1) := by decide +kernel
theorem dX11_stepOn_83 : decode cX11_stepOn 83 = .ok (.iconst 2, 1) := by decide +kernel
theorem dX11_stepOn_84 : decode cX11_stepOn 84 = .ok (.if_icmp .ne 7, 3) := by decide +kernel
theorem dX11_stepOn_87 : decode cX11_stepOn 87 = .ok (.iconst 2, 1) := by decide +kernel
theorem dX11_stepOn_88 : decode cX11_stepOn 88 = .ok (.goto 18, 3) := by decide +kernel
theorem dX11_stepOn_91 : decode cX11_stepOn 91 = .ok (.aload_n 0, 1) := by decide +kernel
theorem dX11_stepOn_92 : decode cX11_stepOn 92 = .ok (.getfield 7, 3) := by decide +kernel
theorem dX11_stepOn_95 : decode cX11_stepOn 95 = .ok (.iload_n 3, 1) := by decide +kernel
theorem dX11_stepOn_96 : decode cX11_stepOn 96 = .ok (.iaload, 1) := by decide +kernel
theorem dX11_stepOn_97 : decode cX11_stepOn 97 = .ok (.iconst 3, 1) := by decide +kernel
theorem dX11_stepOn_98 : decode cX11_stepOn 98 = .ok (.if_icmp .ne 7, 3) := by decide +kernel
theorem dX11_stepOn_101 : decode cX11_stepOn 101 = .ok (.iconst 1, 1) := by decide +kernel
theorem dX11_stepOn_102 : decode cX11_stepOn 102 = .ok (.goto 4, 3) := by decide +kernel
theorem dX11_stepOn_105 : decode cX11_stepOn 105 = .ok (.iconst 0, 1) := by decide +kernel
theorem dX11_stepOn_106 : decode cX11_stepOn 106 = .ok (.iastore, 1) := by decide +kernel
theorem dX11_stepOn_107 : decode cX11_stepOn 107 = .ok (.return_, 1) := by decide +kernel
theorem dX11_stepOn_108 : decode cX11_stepOn 108 = .ok (.iinc 2 1, 3) := by decide +kernel
theorem dX11_stepOn_111 : decode cX11_stepOn 111 = .ok (.goto (-109), 3) := by decide +kernel
theorem dX11_stepOn_114 : decode cX11_stepOn 114 = .ok (.return_, 1) := by decide +kernel
theorem dX11_walkOn_0 : decode cX11_walkOn 0 = .ok (.iconst 0, 1) := by decide +kernel
theorem dX11_walkOn_1 : decode cX11_walkOn 1 = .ok (.istore_n 2, 1) := by decide +kernel
theorem dX11_walkOn_2 : decode cX11_walkOn 2 = .ok (.iload_n 2, 1) := by decide +kernel
theorem dX11_walkOn_3 : decode cX11_walkOn 3 = .ok (.aload_n 0, 1) := by decide +kernel
theorem dX11_walkOn_4 : decode cX11_walkOn 4 = .ok (.getfield 19, 3) := by decide +kernel
theorem dX11_walkOn_7 : decode cX11_walkOn 7 = .ok (.iload_n 1, 1) := by decide +kernel
theorem dX11_walkOn_8 : decode cX11_walkOn 8 = .ok (.iaload, 1) := by decide +kernel
theorem dX11_walkOn_9 : decode cX11_walkOn 9 = .ok (.if_icmp .ge 65, 3) := by decide +kernel
theorem dX11_walkOn_12 : decode cX11_walkOn 12 = .ok (.aload_n 0, 1) := by decide +kernel
theorem dX11_walkOn_13 : decode cX11_walkOn 13 = .ok (.getfield 44, 3) := by decide +kernel
theorem dX11_walkOn_16 : decode cX11_walkOn 16 = .ok (.iload_n 1, 1) := by decide +kernel
theorem dX11_walkOn_17 : decode cX11_walkOn 17 = .ok (.iaload, 1) := by decide +kernel
theorem dX11_walkOn_18 : decode cX11_walkOn 18 = .ok (.ifCond .ne 56, 3) := by decide +kernel
theorem dX11_walkOn_21 : decode cX11_walkOn 21 = .ok (.aload_n 0, 1) := by decide +kernel
theorem dX11_walkOn_22 : decode cX11_walkOn 22 = .ok (.getfield 38, 3) := by decide +kernel
theorem dX11_walkOn_25 : decode cX11_walkOn 25 = .ok (.iload_n 1, 1) := by decide +kernel
theorem dX11_walkOn_26 : decode cX11_walkOn 26 = .ok (.iaload, 1) := by decide +kernel
theorem dX11_walkOn_27 : decode cX11_walkOn 27 = .ok (.aload_n 0, 1) := by decide +kernel
theorem dX11_walkOn_28 : decode cX11_walkOn 28 = .ok (.getfield 41, 3) := by decide +kernel
theorem dX11_walkOn_31 : decode cX11_walkOn 31 = .ok (.iload_n 1, 1) := by decide +kernel
theorem dX11_walkOn_32 : decode cX11_walkOn 32 = .ok (.iaload, 1) := by decide +kernel
theorem dX11_walkOn_33 : decode cX11_walkOn 33 = .ok (.if_icmp .eq 41, 3) := by decide +kernel
theorem dX11_walkOn_36 : decode cX11_walkOn 36 = .ok (.aload_n 0, 1) := by decide +kernel
theorem dX11_walkOn_37 : decode cX11_walkOn 37 = .ok (.getfield 77, 3) := by decide +kernel
theorem dX11_walkOn_40 : decode cX11_walkOn 40 = .ok (.bipush 42, 2) := by decide +kernel
theorem dX11_walkOn_42 : decode cX11_walkOn 42 = .ok (.aload_n 0, 1) := by decide +kernel
theorem dX11_walkOn_43 : decode cX11_walkOn 43 = .ok (.getfield 41, 3) := by decide +kernel
theorem dX11_walkOn_46 : decode cX11_walkOn 46 = .ok (.iload_n 1, 1) := by decide +kernel
theorem dX11_walkOn_47 : decode cX11_walkOn 47 = .ok (.iaload, 1) := by decide +kernel
theorem dX11_walkOn_48 : decode cX11_walkOn 48 = .ok (.imul, 1) := by decide +kernel
theorem dX11_walkOn_49 : decode cX11_walkOn 49 = .ok (.aload_n 0, 1) := by decide +kernel
theorem dX11_walkOn_50 : decode cX11_walkOn 50 = .ok (.getfield 38, 3) := by decide +kernel
theorem dX11_walkOn_53 : decode cX11_walkOn 53 = .ok (.iload_n 1, 1) := by decide +kernel
theorem dX11_walkOn_54 : decode cX11_walkOn 54 = .ok (.iaload, 1) := by decide +kernel
theorem dX11_walkOn_55 : decode cX11_walkOn 55 = .ok (.iadd, 1) := by decide +kernel
theorem dX11_walkOn_56 : decode cX11_walkOn 56 = .ok (.iaload, 1) := by decide +kernel
theorem dX11_walkOn_57 : decode cX11_walkOn 57 = .ok (.sipush 1000, 3) := by decide +kernel
theorem dX11_walkOn_60 : decode cX11_walkOn 60 = .ok (.if_icmp .ge 14, 3) := by decide +kernel
theorem dX11_walkOn_63 : decode cX11_walkOn 63 = .ok (.aload_n 0, 1) := by decide +kernel
theorem dX11_walkOn_64 : decode cX11_walkOn 64 = .ok (.iload_n 1, 1) := by decide +kernel
theorem dX11_walkOn_65 : decode cX11_walkOn 65 = .ok (.invokevirtual 316, 3) := by decide +kernel
theorem dX11_walkOn_68 : decode cX11_walkOn 68 = .ok (.iinc 2 1, 3) := by decide +kernel
theorem dX11_walkOn_71 : decode cX11_walkOn 71 = .ok (.goto (-69), 3) := by decide +kernel
theorem dX11_walkOn_74 : decode cX11_walkOn 74 = .ok (.aload_n 0, 1) := by decide +kernel
theorem dX11_walkOn_75 : decode cX11_walkOn 75 = .ok (.getfield 41, 3) := by decide +kernel
theorem dX11_walkOn_78 : decode cX11_walkOn 78 = .ok (.iload_n 1, 1) := by decide +kernel
theorem dX11_walkOn_79 : decode cX11_walkOn 79 = .ok (.aload_n 0, 1) := by decide +kernel
theorem dX11_walkOn_80 : decode cX11_walkOn 80 = .ok (.getfield 44, 3) := by decide +kernel
theorem dX11_walkOn_83 : decode cX11_walkOn 83 = .ok (.iload_n 1, 1) := by decide +kernel
theorem dX11_walkOn_84 : decode cX11_walkOn 84 = .ok (.iaload, 1) := by decide +kernel
theorem dX11_walkOn_85 : decode cX11_walkOn 85 = .ok (.ifCond .gt 18, 3) := by decide +kernel
theorem dX11_walkOn_88 : decode cX11_walkOn 88 = .ok (.aload_n 0, 1) := by decide +kernel
theorem dX11_walkOn_89 : decode cX11_walkOn 89 = .ok (.getfield 38, 3) := by decide +kernel
theorem dX11_walkOn_92 : decode cX11_walkOn 92 = .ok (.iload_n 1, 1) := by decide +kernel
theorem dX11_walkOn_93 : decode cX11_walkOn 93 = .ok (.iaload, 1) := by decide +kernel
theorem dX11_walkOn_94 : decode cX11_walkOn 94 = .ok (.aload_n 0, 1) := by decide +kernel
theorem dX11_walkOn_95 : decode cX11_walkOn 95 = .ok (.getfield 41, 3) := by decide +kernel
theorem dX11_walkOn_98 : decode cX11_walkOn 98 = .ok (.iload_n 1, 1) := by decide +kernel
theorem dX11_walkOn_99 : decode cX11_walkOn 99 = .ok (.iaload, 1) := by decide +kernel
theorem dX11_walkOn_100 : decode cX11_walkOn 100 = .ok (.if_icmp .ne 7, 3) := by decide +kernel
theorem dX11_walkOn_103 : decode cX11_walkOn 103 = .ok (.iconst (-1), 1) := by decide +kernel
theorem dX11_walkOn_104 : decode cX11_walkOn 104 = .ok (.goto 9, 3) := by decide +kernel
theorem dX11_walkOn_107 : decode cX11_walkOn 107 = .ok (.aload_n 0, 1) := by decide +kernel
theorem dX11_walkOn_108 : decode cX11_walkOn 108 = .ok (.getfield 41, 3) := by decide +kernel
theorem dX11_walkOn_111 : decode cX11_walkOn 111 = .ok (.iload_n 1, 1) := by decide +kernel
theorem dX11_walkOn_112 : decode cX11_walkOn 112 = .ok (.iaload, 1) := by decide +kernel
theorem dX11_walkOn_113 : decode cX11_walkOn 113 = .ok (.iastore, 1) := by decide +kernel
theorem dX11_walkOn_114 : decode cX11_walkOn 114 = .ok (.return_, 1) := by decide +kernel
theorem dX11_minuteBy_0 : decode cX11_minuteBy 0 = .ok (.aload_n 0, 1) := by decide +kernel
theorem dX11_minuteBy_1 : decode cX11_minuteBy 1 = .ok (.iload_n 1, 1) := by decide +kernel
theorem dX11_minuteBy_2 : decode cX11_minuteBy 2 = .ok (.invokevirtual 319, 3) := by decide +kernel
theorem dX11_minuteBy_5 : decode cX11_minuteBy 5 = .ok (.istore_n 3, 1) := by decide +kernel
theorem dX11_minuteBy_6 : decode cX11_minuteBy 6 = .ok (.iload_n 3, 1) := by decide +kernel
theorem dX11_minuteBy_7 : decode cX11_minuteBy 7 = .ok (.ifCond .ge 5, 3) := by decide +kernel
theorem dX11_minuteBy_10 : decode cX11_minuteBy 10 = .ok (.iconst 0, 1) := by decide +kernel
theorem dX11_minuteBy_11 : decode cX11_minuteBy 11 = .ok (.ireturn, 1) := by decide +kernel
theorem dX11_minuteBy_12 : decode cX11_minuteBy 12 = .ok (.aload_n 0, 1) := by decide +kernel
theorem dX11_minuteBy_13 : decode cX11_minuteBy 13 = .ok (.iload_n 3, 1) := by decide +kernel
theorem dX11_minuteBy_14 : decode cX11_minuteBy 14 = .ok (.putfield 259, 3) := by decide +kernel
theorem dX11_minuteBy_17 : decode cX11_minuteBy 17 = .ok (.iconst 0, 1) := by decide +kernel
theorem dX11_minuteBy_18 : decode cX11_minuteBy 18 = .ok (.istore 4, 2) := by decide +kernel
theorem dX11_minuteBy_20 : decode cX11_minuteBy 20 = .ok (.iload 4, 2) := by decide +kernel
theorem dX11_minuteBy_22 : decode cX11_minuteBy 22 = .ok (.aload_n 0, 1) := by decide +kernel
theorem dX11_minuteBy_23 : decode cX11_minuteBy 23 = .ok (.getfield 121, 3) := by decide +kernel
theorem dX11_minuteBy_26 : decode cX11_minuteBy 26 = .ok (.if_icmp .ge 45, 3) := by decide +kernel
theorem dX11_minuteBy_29 : decode cX11_minuteBy 29 = .ok (.iload_n 2, 1) := by decide +kernel
theorem dX11_minuteBy_30 : decode cX11_minuteBy 30 = .ok (.iconst (-1), 1) := by decide +kernel
theorem dX11_minuteBy_31 : decode cX11_minuteBy 31 = .ok (.if_icmp .eq 40, 3) := by decide +kernel
theorem dX11_minuteBy_34 : decode cX11_minuteBy 34 = .ok (.aload_n 0, 1) := by decide +kernel
theorem dX11_minuteBy_35 : decode cX11_minuteBy 35 = .ok (.getfield 41, 3) := by decide +kernel
theorem dX11_minuteBy_38 : decode cX11_minuteBy 38 = .ok (.iload 4, 2) := by decide +kernel
theorem dX11_minuteBy_40 : decode cX11_minuteBy 40 = .ok (.aload_n 0, 1) := by decide +kernel
theorem dX11_minuteBy_41 : decode cX11_minuteBy 41 = .ok (.iload 4, 2) := by decide +kernel
theorem dX11_minuteBy_43 : decode cX11_minuteBy 43 = .ok (.iload_n 2, 1) := by decide +kernel
theorem dX11_minuteBy_44 : decode cX11_minuteBy 44 = .ok (.invokevirtual 313, 3) := by decide +kernel
theorem dX11_minuteBy_47 : decode cX11_minuteBy 47 = .ok (.ifCond .eq 10, 3) := by decide +kernel
theorem dX11_minuteBy_50 : decode cX11_minuteBy 50 = .ok (.aload_n 0, 1) := by decide +kernel
theorem dX11_minuteBy_51 : decode cX11_minuteBy 51 = .ok (.getfield 259, 3) := by decide +kernel
theorem dX11_minuteBy_54 : decode cX11_minuteBy 54 = .ok (.goto 10, 3) := by decide +kernel
theorem dX11_minuteBy_57 : decode cX11_minuteBy 57 = .ok (.aload_n 0, 1) := by decide +kernel
theorem dX11_minuteBy_58 : decode cX11_minuteBy 58 = .ok (.getfield 41, 3) := by decide +kernel
theorem dX11_minuteBy_61 : decode cX11_minuteBy 61 = .ok (.iload 4, 2) := by decide +kernel
theorem dX11_minuteBy_63 : decode cX11_minuteBy 63 = .ok (.iaload, 1) := by decide +kernel
theorem dX11_minuteBy_64 : decode cX11_minuteBy 64 = .ok (.iastore, 1) := by decide +kernel
theorem dX11_minuteBy_65 : decode cX11_minuteBy 65 = .ok (.iinc 4 1, 3) := by decide +kernel
theorem dX11_minuteBy_68 : decode cX11_minuteBy 68 = .ok (.goto (-48), 3) := by decide +kernel
theorem dX11_minuteBy_71 : decode cX11_minuteBy 71 = .ok (.iconst 0, 1) := by decide +kernel
theorem dX11_minuteBy_72 : decode cX11_minuteBy 72 = .ok (.istore 4, 2) := by decide +kernel
theorem dX11_minuteBy_74 : decode cX11_minuteBy 74 = .ok (.iload 4, 2) := by decide +kernel
theorem dX11_minuteBy_76 : decode cX11_minuteBy 76 = .ok (.aload_n 0, 1) := by decide +kernel
theorem dX11_minuteBy_77 : decode cX11_minuteBy 77 = .ok (.getfield 121, 3) := by decide +kernel
theorem dX11_minuteBy_80 : decode cX11_minuteBy 80 = .ok (.if_icmp .ge 26, 3) := by decide +kernel
theorem dX11_minuteBy_83 : decode cX11_minuteBy 83 = .ok (.aload_n 0, 1) := by decide +kernel
theorem dX11_minuteBy_84 : decode cX11_minuteBy 84 = .ok (.getfield 41, 3) := by decide +kernel
theorem dX11_minuteBy_87 : decode cX11_minuteBy 87 = .ok (.iload 4, 2) := by decide +kernel
theorem dX11_minuteBy_89 : decode cX11_minuteBy 89 = .ok (.iaload, 1) := by decide +kernel
theorem dX11_minuteBy_90 : decode cX11_minuteBy 90 = .ok (.iconst (-1), 1) := by decide +kernel
theorem dX11_minuteBy_91 : decode cX11_minuteBy 91 = .ok (.if_icmp .eq 9, 3) := by decide +kernel
theorem dX11_minuteBy_94 : decode cX11_minuteBy 94 = .ok (.aload_n 0, 1) := by decide +kernel
theorem dX11_minuteBy_95 : decode cX11_minuteBy 95 = .ok (.iload 4, 2) := by decide +kernel
theorem dX11_minuteBy_97 : decode cX11_minuteBy 97 = .ok (.invokevirtual 322, 3) := by decide +kernel
theorem dX11_minuteBy_100 : decode cX11_minuteBy 100 = .ok (.iinc 4 1, 3) := by decide +kernel
theorem dX11_minuteBy_103 : decode cX11_minuteBy 103 = .ok (.goto (-29), 3) := by decide +kernel
theorem dX11_minuteBy_106 : decode cX11_minuteBy 106 = .ok (.iconst 1, 1) := by decide +kernel
theorem dX11_minuteBy_107 : decode cX11_minuteBy 107 = .ok (.ireturn, 1) := by decide +kernel
theorem dX11_minute_0 : decode cX11_minute 0 = .ok (.iload_n 2, 1) := by decide +kernel
theorem dX11_minute_1 : decode cX11_minute 1 = .ok (.iconst (-1), 1) := by decide +kernel
theorem dX11_minute_2 : decode cX11_minute 2 = .ok (.if_icmp .eq 15, 3) := by decide +kernel
theorem dX11_minute_5 : decode cX11_minute 5 = .ok (.aload_n 0, 1) := by decide +kernel
theorem dX11_minute_6 : decode cX11_minute 6 = .ok (.iload_n 2, 1) := by decide +kernel
theorem dX11_minute_7 : decode cX11_minute 7 = .ok (.invokevirtual 310, 3) := by decide +kernel
theorem dX11_minute_10 : decode cX11_minute 10 = .ok (.ifCond .ne 7, 3) := by decide +kernel
theorem dX11_minute_13 : decode cX11_minute 13 = .ok (.ldc_w 285, 3) := by decide +kernel
theorem dX11_minute_16 : decode cX11_minute 16 = .ok (.ireturn, 1) := by decide +kernel
theorem dX11_minute_17 : decode cX11_minute 17 = .ok (.iload_n 1, 1) := by decide +kernel
theorem dX11_minute_18 : decode cX11_minute 18 = .ok (.i2l, 1) := by decide +kernel
theorem dX11_minute_19 : decode cX11_minute 19 = .ok (.lconst 0, 1) := by decide +kernel
theorem dX11_minute_20 : decode cX11_minute 20 = .ok (.ldc2_w 325, 3) := by decide +kernel
theorem dX11_minute_23 : decode cX11_minute 23 = .ok (.invokestatic 114, 3) := by decide +kernel
theorem dX11_minute_26 : decode cX11_minute 26 = .ok (.ifCond .ne 6, 3) := by decide +kernel
theorem dX11_minute_29 : decode cX11_minute 29 = .ok (.ldc 129, 2) := by decide +kernel
theorem dX11_minute_31 : decode cX11_minute 31 = .ok (.ireturn, 1) := by decide +kernel
theorem dX11_minute_32 : decode cX11_minute 32 = .ok (.aload_n 0, 1) := by decide +kernel
theorem dX11_minute_33 : decode cX11_minute 33 = .ok (.iload_n 1, 1) := by decide +kernel
theorem dX11_minute_34 : decode cX11_minute 34 = .ok (.iload_n 2, 1) := by decide +kernel
theorem dX11_minute_35 : decode cX11_minute 35 = .ok (.invokevirtual 327, 3) := by decide +kernel
theorem dX11_minute_38 : decode cX11_minute 38 = .ok (.ifCond .ne 7, 3) := by decide +kernel
theorem dX11_minute_41 : decode cX11_minute 41 = .ok (.ldc_w 330, 3) := by decide +kernel
theorem dX11_minute_44 : decode cX11_minute 44 = .ok (.ireturn, 1) := by decide +kernel
theorem dX11_minute_45 : decode cX11_minute 45 = .ok (.aload_n 0, 1) := by decide +kernel
theorem dX11_minute_46 : decode cX11_minute 46 = .ok (.dup, 1) := by decide +kernel
theorem dX11_minute_47 : decode cX11_minute 47 = .ok (.getfield 262, 3) := by decide +kernel
theorem dX11_minute_50 : decode cX11_minute 50 = .ok (.iconst 1, 1) := by decide +kernel
theorem dX11_minute_51 : decode cX11_minute 51 = .ok (.iadd, 1) := by decide +kernel
theorem dX11_minute_52 : decode cX11_minute 52 = .ok (.putfield 262, 3) := by decide +kernel
theorem dX11_minute_55 : decode cX11_minute 55 = .ok (.aload_n 0, 1) := by decide +kernel
theorem dX11_minute_56 : decode cX11_minute 56 = .ok (.aload_n 0, 1) := by decide +kernel
theorem dX11_minute_57 : decode cX11_minute 57 = .ok (.getfield 259, 3) := by decide +kernel
theorem dX11_minute_60 : decode cX11_minute 60 = .ok (.invokevirtual 292, 3) := by decide +kernel
theorem dX11_minute_63 : decode cX11_minute 63 = .ok (.ireturn, 1) := by decide +kernel
theorem dX11_isSomebody_0 : decode cX11_isSomebody 0 = .ok (.aload_n 0, 1) := by decide +kernel
theorem dX11_isSomebody_1 : decode cX11_isSomebody 1 = .ok (.getfield 259, 3) := by decide +kernel
theorem dX11_isSomebody_4 : decode cX11_isSomebody 4 = .ok (.iload_n 1, 1) := by decide +kernel
theorem dX11_isSomebody_5 : decode cX11_isSomebody 5 = .ok (.if_icmp .ne 7, 3) := by decide +kernel
theorem dX11_isSomebody_8 : decode cX11_isSomebody 8 = .ok (.iconst 1, 1) := by decide +kernel
theorem dX11_isSomebody_9 : decode cX11_isSomebody 9 = .ok (.goto 4, 3) := by decide +kernel
theorem dX11_isSomebody_12 : decode cX11_isSomebody 12 = .ok (.iconst 0, 1) := by decide +kernel
theorem dX11_isSomebody_13 : decode cX11_isSomebody 13 = .ok (.istore_n 2, 1) := by decide +kernel
theorem dX11_isSomebody_14 : decode cX11_isSomebody 14 = .ok (.iconst 0, 1) := by decide +kernel
theorem dX11_isSomebody_15 : decode cX11_isSomebody 15 = .ok (.istore_n 3, 1) := by decide +kernel
theorem dX11_isSomebody_16 : decode cX11_isSomebody 16 = .ok (.iload_n 3, 1) := by decide +kernel
theorem dX11_isSomebody_17 : decode cX11_isSomebody 17 = .ok (.aload_n 0, 1) := by decide +kernel
theorem dX11_isSomebody_18 : decode cX11_isSomebody 18 = .ok (.getfield 121, 3) := by decide +kernel
theorem dX11_isSomebody_21 : decode cX11_isSomebody 21 = .ok (.if_icmp .ge 37, 3) := by decide +kernel
theorem dX11_isSomebody_24 : decode cX11_isSomebody 24 = .ok (.iload_n 2, 1) := by decide +kernel
theorem dX11_isSomebody_25 : decode cX11_isSomebody 25 = .ok (.ifCond .ne 21, 3) := by decide +kernel
theorem dX11_isSomebody_28 : decode cX11_isSomebody 28 = .ok (.aload_n 0, 1) := by decide +kernel
theorem dX11_isSomebody_29 : decode cX11_isSomebody 29 = .ok (.iload_n 3, 1) := by decide +kernel
theorem dX11_isSomebody_30 : decode cX11_isSomebody 30 = .ok (.invokevirtual 304, 3) := by decide +kernel
theorem dX11_isSomebody_33 : decode cX11_isSomebody 33 = .ok (.ifCond .eq 17, 3) := by decide +kernel
theorem dX11_isSomebody_36 : decode cX11_isSomebody 36 = .ok (.aload_n 0, 1) := by decide +kernel
theorem dX11_isSomebody_37 : decode cX11_isSomebody 37 = .ok (.getfield 38, 3) := by decide +kernel
theorem dX11_isSomebody_40 : decode cX11_isSomebody 40 = .ok (.iload_n 3, 1) := by decide +kernel
theorem dX11_isSomebody_41 : decode cX11_isSomebody 41 = .ok (.iaload, 1) := by decide +kernel
theorem dX11_isSomebody_42 : decode cX11_isSomebody 42 = .ok (.iload_n 1, 1) := by decide +kernel
theorem dX11_isSomebody_43 : decode cX11_isSomebody 43 = .ok (.if_icmp .ne 7, 3) := by decide +kernel
theorem dX11_isSomebody_46 : decode cX11_isSomebody 46 = .ok (.iconst 1, 1) := by decide +kernel
theorem dX11_isSomebody_47 : decode cX11_isSomebody 47 = .ok (.goto 4, 3) := by decide +kernel
theorem dX11_isSomebody_50 : decode cX11_isSomebody 50 = .ok (.iconst 0, 1) := by decide +kernel
theorem dX11_isSomebody_51 : decode cX11_isSomebody 51 = .ok (.istore_n 2, 1) := by decide +kernel
theorem dX11_isSomebody_52 : decode cX11_isSomebody 52 = .ok (.iinc 3 1, 3) := by decide +kernel
theorem dX11_isSomebody_55 : decode cX11_isSomebody 55 = .ok (.goto (-39), 3) := by decide +kernel
theorem dX11_isSomebody_58 : decode cX11_isSomebody 58 = .ok (.iload_n 2, 1) := by decide +kernel
theorem dX11_isSomebody_59 : decode cX11_isSomebody 59 = .ok (.ireturn, 1) := by decide +kernel
theorem dX11_wall_0 : decode cX11_wall 0 = .ok (.aload_n 0, 1) := by decide +kernel
theorem dX11_wall_1 : decode cX11_wall 1 = .ok (.iload_n 1, 1) := by decide +kernel
theorem dX11_wall_2 : decode cX11_wall 2 = .ok (.iload_n 2, 1) := by decide +kernel
theorem dX11_wall_3 : decode cX11_wall 3 = .ok (.invokevirtual 274, 3) := by decide +kernel
theorem dX11_wall_6 : decode cX11_wall 6 = .ok (.ifCond .ne 7, 3) := by decide +kernel
theorem dX11_wall_9 : decode cX11_wall 9 = .ok (.ldc_w 285, 3) := by decide +kernel
theorem dX11_wall_12 : decode cX11_wall 12 = .ok (.ireturn, 1) := by decide +kernel
theorem dX11_wall_13 : decode cX11_wall 13 = .ok (.aload_n 0, 1) := by decide +kernel
theorem dX11_wall_14 : decode cX11_wall 14 = .ok (.getfield 111, 3) := by decide +kernel
theorem dX11_wall_17 : decode cX11_wall 17 = .ok (.iload_n 2, 1) := by decide +kernel
theorem dX11_wall_18 : decode cX11_wall 18 = .ok (.imul, 1) := by decide +kernel
theorem dX11_wall_19 : decode cX11_wall 19 = .ok (.iload_n 1, 1) := by decide +kernel
theorem dX11_wall_20 : decode cX11_wall 20 = .ok (.iadd, 1) := by decide +kernel
theorem dX11_wall_21 : decode cX11_wall 21 = .ok (.istore 4, 2) := by decide +kernel
theorem dX11_wall_23 : decode cX11_wall 23 = .ok (.aload_n 0, 1) := by decide +kernel
theorem dX11_wall_24 : decode cX11_wall 24 = .ok (.getfield 7, 3) := by decide +kernel
theorem dX11_wall_27 : decode cX11_wall 27 = .ok (.iload 4, 2) := by decide +kernel
theorem dX11_wall_29 : decode cX11_wall 29 = .ok (.iaload, 1) := by decide +kernel
theorem dX11_wall_30 : decode cX11_wall 30 = .ok (.iconst 1, 1) := by decide +kernel
theorem dX11_wall_31 : decode cX11_wall 31 = .ok (.if_icmp .gt 12, 3) := by decide +kernel
theorem dX11_wall_34 : decode cX11_wall 34 = .ok (.aload_n 0, 1) := by decide +kernel
theorem dX11_wall_35 : decode cX11_wall 35 = .ok (.iload 4, 2) := by decide +kernel
theorem dX11_wall_37 : decode cX11_wall 37 = .ok (.invokevirtual 331, 3) := by decide +kernel
theorem dX11_wall_40 : decode cX11_wall 40 = .ok (.ifCond .eq 7, 3) := by decide +kernel
theorem dX11_wall_43 : decode cX11_wall 43 = .ok (.ldc_w 330, 3) := by decide +kernel
theorem dX11_wall_46 : decode cX11_wall 46 = .ok (.ireturn, 1) := by decide +kernel
theorem dX11_wall_47 : decode cX11_wall 47 = .ok (.aload_n 0, 1) := by decide +kernel
theorem dX11_wall_48 : decode cX11_wall 48 = .ok (.getfield 7, 3) := by decide +kernel
theorem dX11_wall_51 : decode cX11_wall 51 = .ok (.iload 4, 2) := by decide +kernel
theorem dX11_wall_53 : decode cX11_wall 53 = .ok (.iaload, 1) := by decide +kernel
theorem dX11_wall_54 : decode cX11_wall 54 = .ok (.istore 5, 2) := by decide +kernel
theorem dX11_wall_56 : decode cX11_wall 56 = .ok (.aload_n 0, 1) := by decide +kernel
theorem dX11_wall_57 : decode cX11_wall 57 = .ok (.getfield 7, 3) := by decide +kernel
theorem dX11_wall_60 : decode cX11_wall 60 = .ok (.iload 4, 2) := by decide +kernel
theorem dX11_wall_62 : decode cX11_wall 62 = .ok (.iload_n 3, 1) := by decide +kernel
theorem dX11_wall_63 : decode cX11_wall 63 = .ok (.ifCond .eq 7, 3) := by decide +kernel
theorem dX11_wall_66 : decode cX11_wall 66 = .ok (.iconst 1, 1) := by decide +kernel
theorem dX11_wall_67 : decode cX11_wall 67 = .ok (.goto 4, 3) := by decide +kernel
theorem dX11_wall_70 : decode cX11_wall 70 = .ok (.iconst 0, 1) := by decide +kernel
theorem dX11_wall_71 : decode cX11_wall 71 = .ok (.iastore, 1) := by decide +kernel
theorem dX11_wall_72 : decode cX11_wall 72 = .ok (.aload_n 0, 1) := by decide +kernel
theorem dX11_wall_73 : decode cX11_wall 73 = .ok (.invokevirtual 271, 3) := by decide +kernel
theorem dX11_wall_76 : decode cX11_wall 76 = .ok (.iload 5, 2) := by decide +kernel
theorem dX11_wall_78 : decode cX11_wall 78 = .ok (.ireturn, 1) := by decide +kernel
theorem dX11_draw_0 : decode cX11_draw 0 = .ok (.aload_n 0, 1) := by decide +kernel
theorem dX11_draw_1 : decode cX11_draw 1 = .ok (.aload_n 0, 1) := by decide +kernel
theorem dX11_draw_2 : decode cX11_draw 2 = .ok (.getfield 334, 3) := by decide +kernel
theorem dX11_draw_5 : decode cX11_draw 5 = .ok (.i2l, 1) := by decide +kernel
theorem dX11_draw_6 : decode cX11_draw 6 = .ok (.ldc2_w 337, 3) := by decide +kernel
