theorem dX11_init_0 : decode cX11_init 0 = .ok (.aload_n 0, 1) := by decide +kernel
theorem dX11_init_1 : decode cX11_init 1 = .ok (.invokespecial 1, 3) := by decide +kernel
theorem dX11_init_4 : decode cX11_init 4 = .ok (.aload_n 0, 1) := by decide +kernel
theorem dX11_init_5 : decode cX11_init 5 = .ok (.iconst 3, 1) := by decide +kernel
theorem dX11_init_6 : decode cX11_init 6 = .ok (.newarray .int, 2) := by decide +kernel
theorem dX11_init_8 : decode cX11_init 8 = .ok (.putfield 7, 3) := by decide +kernel
theorem dX11_init_11 : decode cX11_init 11 = .ok (.aload_n 0, 1) := by decide +kernel
theorem dX11_init_12 : decode cX11_init 12 = .ok (.iconst (-1), 1) := by decide +kernel
theorem dX11_init_13 : decode cX11_init 13 = .ok (.putfield 13, 3) := by decide +kernel
theorem dX11_init_16 : decode cX11_init 16 = .ok (.aload_n 0, 1) := by decide +kernel
theorem dX11_init_17 : decode cX11_init 17 = .ok (.sipush 500, 3) := by decide +kernel
theorem dX11_init_20 : decode cX11_init 20 = .ok (.newarray .int, 2) := by decide +kernel
theorem dX11_init_22 : decode cX11_init 22 = .ok (.putfield 17, 3) := by decide +kernel
theorem dX11_init_25 : decode cX11_init 25 = .ok (.aload_n 0, 1) := by decide +kernel
theorem dX11_init_26 : decode cX11_init 26 = .ok (.bipush 111, 2) := by decide +kernel
theorem dX11_init_28 : decode cX11_init 28 = .ok (.newarray .int, 2) := by decide +kernel
theorem dX11_init_30 : decode cX11_init 30 = .ok (.putfield 20, 3) := by decide +kernel
theorem dX11_init_33 : decode cX11_init 33 = .ok (.aload_n 0, 1) := by decide +kernel
theorem dX11_init_34 : decode cX11_init 34 = .ok (.bipush 111, 2) := by decide +kernel
theorem dX11_init_36 : decode cX11_init 36 = .ok (.bipush 24, 2) := by decide +kernel
theorem dX11_init_38 : decode cX11_init 38 = .ok (.bipush 6, 2) := by decide +kernel
theorem dX11_init_40 : decode cX11_init 40 = .ok (.multianewarray 23 3, 4) := by decide +kernel
theorem dX11_init_44 : decode cX11_init 44 = .ok (.putfield 25, 3) := by decide +kernel
theorem dX11_init_47 : decode cX11_init 47 = .ok (.aload_n 0, 1) := by decide +kernel
theorem dX11_init_48 : decode cX11_init 48 = .ok (.bipush 9, 2) := by decide +kernel
theorem dX11_init_50 : decode cX11_init 50 = .ok (.newarray .int, 2) := by decide +kernel
theorem dX11_init_52 : decode cX11_init 52 = .ok (.putfield 28, 3) := by decide +kernel
theorem dX11_init_55 : decode cX11_init 55 = .ok (.aload_n 0, 1) := by decide +kernel
theorem dX11_init_56 : decode cX11_init 56 = .ok (.bipush 9, 2) := by decide +kernel
theorem dX11_init_58 : decode cX11_init 58 = .ok (.newarray .int, 2) := by decide +kernel
theorem dX11_init_60 : decode cX11_init 60 = .ok (.putfield 31, 3) := by decide +kernel
theorem dX11_init_63 : decode cX11_init 63 = .ok (.aload_n 0, 1) := by decide +kernel
theorem dX11_init_64 : decode cX11_init 64 = .ok (.bipush 8, 2) := by decide +kernel
theorem dX11_init_66 : decode cX11_init 66 = .ok (.newarray .int, 2) := by decide +kernel
theorem dX11_init_68 : decode cX11_init 68 = .ok (.putfield 34, 3) := by decide +kernel
theorem dX11_init_71 : decode cX11_init 71 = .ok (.aload_n 0, 1) := by decide +kernel
theorem dX11_init_72 : decode cX11_init 72 = .ok (.bipush 9, 2) := by decide +kernel
theorem dX11_init_74 : decode cX11_init 74 = .ok (.bipush 12, 2) := by decide +kernel
theorem dX11_init_76 : decode cX11_init 76 = .ok (.multianewarray 37 2, 4) := by decide +kernel
theorem dX11_init_80 : decode cX11_init 80 = .ok (.putfield 39, 3) := by decide +kernel
theorem dX11_init_83 : decode cX11_init 83 = .ok (.aload_n 0, 1) := by decide +kernel
theorem dX11_init_84 : decode cX11_init 84 = .ok (.bipush 61, 2) := by decide +kernel
theorem dX11_init_86 : decode cX11_init 86 = .ok (.newarray .int, 2) := by decide +kernel
theorem dX11_init_88 : decode cX11_init 88 = .ok (.putfield 42, 3) := by decide +kernel
theorem dX11_init_91 : decode cX11_init 91 = .ok (.aload_n 0, 1) := by decide +kernel
theorem dX11_init_92 : decode cX11_init 92 = .ok (.bipush 61, 2) := by decide +kernel
theorem dX11_init_94 : decode cX11_init 94 = .ok (.newarray .int, 2) := by decide +kernel
theorem dX11_init_96 : decode cX11_init 96 = .ok (.putfield 45, 3) := by decide +kernel
theorem dX11_init_99 : decode cX11_init 99 = .ok (.aload_n 0, 1) := by decide +kernel
theorem dX11_init_100 : decode cX11_init 100 = .ok (.bipush 61, 2) := by decide +kernel
theorem dX11_init_102 : decode cX11_init 102 = .ok (.bipush 9, 2) := by decide +kernel
theorem dX11_init_104 : decode cX11_init 104 = .ok (.multianewarray 37 2, 4) := by decide +kernel
theorem dX11_init_108 : decode cX11_init 108 = .ok (.putfield 48, 3) := by decide +kernel
theorem dX11_init_111 : decode cX11_init 111 = .ok (.aload_n 0, 1) := by decide +kernel
theorem dX11_init_112 : decode cX11_init 112 = .ok (.bipush 61, 2) := by decide +kernel
theorem dX11_init_114 : decode cX11_init 114 = .ok (.bipush 9, 2) := by decide +kernel
theorem dX11_init_116 : decode cX11_init 116 = .ok (.multianewarray 51 2, 4) := by decide +kernel
theorem dX11_init_120 : decode cX11_init 120 = .ok (.putfield 53, 3) := by decide +kernel
theorem dX11_init_123 : decode cX11_init 123 = .ok (.aload_n 0, 1) := by decide +kernel
theorem dX11_init_124 : decode cX11_init 124 = .ok (.bipush 7, 2) := by decide +kernel
theorem dX11_init_126 : decode cX11_init 126 = .ok (.bipush 7, 2) := by decide +kernel
theorem dX11_init_128 : decode cX11_init 128 = .ok (.multianewarray 37 2, 4) := by decide +kernel
theorem dX11_init_132 : decode cX11_init 132 = .ok (.putfield 56, 3) := by decide +kernel
theorem dX11_init_135 : decode cX11_init 135 = .ok (.aload_n 0, 1) := by decide +kernel
theorem dX11_init_136 : decode cX11_init 136 = .ok (.bipush 7, 2) := by decide +kernel
theorem dX11_init_138 : decode cX11_init 138 = .ok (.newarray .long, 2) := by decide +kernel
theorem dX11_init_140 : decode cX11_init 140 = .ok (.putfield 59, 3) := by decide +kernel
theorem dX11_init_143 : decode cX11_init 143 = .ok (.aload_n 0, 1) := by decide +kernel
theorem dX11_init_144 : decode cX11_init 144 = .ok (.bipush 6, 2) := by decide +kernel
theorem dX11_init_146 : decode cX11_init 146 = .ok (.bipush 10, 2) := by decide +kernel
theorem dX11_init_148 : decode cX11_init 148 = .ok (.iconst 4, 1) := by decide +kernel
theorem dX11_init_149 : decode cX11_init 149 = .ok (.multianewarray 23 3, 4) := by decide +kernel
theorem dX11_init_153 : decode cX11_init 153 = .ok (.putfield 63, 3) := by decide +kernel
theorem dX11_init_156 : decode cX11_init 156 = .ok (.aload_n 0, 1) := by decide +kernel
theorem dX11_init_157 : decode cX11_init 157 = .ok (.bipush 8, 2) := by decide +kernel
theorem dX11_init_159 : decode cX11_init 159 = .ok (.newarray .int, 2) := by decide +kernel
theorem dX11_init_161 : decode cX11_init 161 = .ok (.putfield 66, 3) := by decide +kernel
theorem dX11_init_164 : decode cX11_init 164 = .ok (.aload_n 0, 1) := by decide +kernel
theorem dX11_init_165 : decode cX11_init 165 = .ok (.bipush 8, 2) := by decide +kernel
theorem dX11_init_167 : decode cX11_init 167 = .ok (.newarray .int, 2) := by decide +kernel
theorem dX11_init_169 : decode cX11_init 169 = .ok (.dup, 1) := by decide +kernel
theorem dX11_init_170 : decode cX11_init 170 = .ok (.iconst 0, 1) := by decide +kernel
theorem dX11_init_171 : decode cX11_init 171 = .ok (.iconst 0, 1) := by decide +kernel
theorem dX11_init_172 : decode cX11_init 172 = .ok (.iastore, 1) := by decide +kernel
theorem dX11_init_173 : decode cX11_init 173 = .ok (.dup, 1) := by decide +kernel
theorem dX11_init_174 : decode cX11_init 174 = .ok (.iconst 1, 1) := by decide +kernel
theorem dX11_init_175 : decode cX11_init 175 = .ok (.iconst (-1), 1) := by decide +kernel
theorem dX11_init_176 : decode cX11_init 176 = .ok (.iastore, 1) := by decide +kernel
theorem dX11_init_177 : decode cX11_init 177 = .ok (.dup, 1) := by decide +kernel
theorem dX11_init_178 : decode cX11_init 178 = .ok (.iconst 2, 1) := by decide +kernel
theorem dX11_init_179 : decode cX11_init 179 = .ok (.iconst (-1), 1) := by decide +kernel
theorem dX11_init_180 : decode cX11_init 180 = .ok (.iastore, 1) := by decide +kernel
theorem dX11_init_181 : decode cX11_init 181 = .ok (.dup, 1) := by decide +kernel
theorem dX11_init_182 : decode cX11_init 182 = .ok (.iconst 3, 1) := by decide +kernel
theorem dX11_init_183 : decode cX11_init 183 = .ok (.iconst 0, 1) := by decide +kernel
theorem dX11_init_184 : decode cX11_init 184 = .ok (.iastore, 1) := by decide +kernel
theorem dX11_init_185 : decode cX11_init 185 = .ok (.dup, 1) := by decide +kernel
theorem dX11_init_186 : decode cX11_init 186 = .ok (.iconst 4, 1) := by decide +kernel
theorem dX11_init_187 : decode cX11_init 187 = .ok (.iconst 0, 1) := by decide +kernel
theorem dX11_init_188 : decode cX11_init 188 = .ok (.iastore, 1) := by decide +kernel
theorem dX11_init_189 : decode cX11_init 189 = .ok (.dup, 1) := by decide +kernel
theorem dX11_init_190 : decode cX11_init 190 = .ok (.iconst 5, 1) := by decide +kernel
theorem dX11_init_191 : decode cX11_init 191 = .ok (.iconst 0, 1) := by decide +kernel
theorem dX11_init_192 : decode cX11_init 192 = .ok (.iastore, 1) := by decide +kernel
theorem dX11_init_193 : decode cX11_init 193 = .ok (.dup, 1) := by decide +kernel
theorem dX11_init_194 : decode cX11_init 194 = .ok (.bipush 6, 2) := by decide +kernel
theorem dX11_init_196 : decode cX11_init 196 = .ok (.iconst 0, 1) := by decide +kernel
theorem dX11_init_197 : decode cX11_init 197 = .ok (.iastore, 1) := by decide +kernel
theorem dX11_init_198 : decode cX11_init 198 = .ok (.dup, 1) := by decide +kernel
theorem dX11_init_199 : decode cX11_init 199 = .ok (.bipush 7, 2) := by decide +kernel
theorem dX11_init_201 : decode cX11_init 201 = .ok (.iconst 0, 1) := by decide +kernel
theorem dX11_init_202 : decode cX11_init 202 = .ok (.iastore, 1) := by decide +kernel
theorem dX11_init_203 : decode cX11_init 203 = .ok (.putfield 69, 3) := by decide +kernel
theorem dX11_init_206 : decode cX11_init 206 = .ok (.aload_n 0, 1) := by decide +kernel
theorem dX11_init_207 : decode cX11_init 207 = .ok (.sipush 2000, 3) := by decide +kernel
theorem dX11_init_210 : decode cX11_init 210 = .ok (.newarray .int, 2) := by decide +kernel
theorem dX11_init_212 : decode cX11_init 212 = .ok (.putfield 72, 3) := by decide +kernel
theorem dX11_init_215 : decode cX11_init 215 = .ok (.aload_n 0, 1) := by decide +kernel
theorem dX11_init_216 : decode cX11_init 216 = .ok (.sipush 547, 3) := by decide +kernel
theorem dX11_init_219 : decode cX11_init 219 = .ok (.newarray .long, 2) := by decide +kernel
theorem dX11_init_221 : decode cX11_init 221 = .ok (.putfield 75, 3) := by decide +kernel
theorem dX11_init_224 : decode cX11_init 224 = .ok (.iconst 0, 1) := by decide +kernel
theorem dX11_init_225 : decode cX11_init 225 = .ok (.istore_n 1, 1) := by decide +kernel
theorem dX11_init_226 : decode cX11_init 226 = .ok (.iload_n 1, 1) := by decide +kernel
theorem dX11_init_227 : decode cX11_init 227 = .ok (.bipush 60, 2) := by decide +kernel
theorem dX11_init_229 : decode cX11_init 229 = .ok (.if_icmp .gt 17, 3) := by decide +kernel
theorem dX11_init_232 : decode cX11_init 232 = .ok (.aload_n 0, 1) := by decide +kernel
theorem dX11_init_233 : decode cX11_init 233 = .ok (.getfield 42, 3) := by decide +kernel
theorem dX11_init_236 : decode cX11_init 236 = .ok (.iload_n 1, 1) := by decide +kernel
theorem dX11_init_237 : decode cX11_init 237 = .ok (.bipush 12, 2) := by decide +kernel
theorem dX11_init_239 : decode cX11_init 239 = .ok (.iastore, 1) := by decide +kernel
theorem dX11_init_240 : decode cX11_init 240 = .ok (.iinc 1 1, 3) := by decide +kernel
theorem dX11_init_243 : decode cX11_init 243 = .ok (.goto (-17), 3) := by decide +kernel
theorem dX11_init_246 : decode cX11_init 246 = .ok (.iconst 0, 1) := by decide +kernel
theorem dX11_init_247 : decode cX11_init 247 = .ok (.istore_n 1, 1) := by decide +kernel
theorem dX11_init_248 : decode cX11_init 248 = .ok (.iload_n 1, 1) := by decide +kernel
theorem dX11_init_249 : decode cX11_init 249 = .ok (.bipush 6, 2) := by decide +kernel
theorem dX11_init_251 : decode cX11_init 251 = .ok (.if_icmp .gt 18, 3) := by decide +kernel
theorem dX11_init_254 : decode cX11_init 254 = .ok (.aload_n 0, 1) := by decide +kernel
theorem dX11_init_255 : decode cX11_init 255 = .ok (.getfield 56, 3) := by decide +kernel
theorem dX11_init_258 : decode cX11_init 258 = .ok (.iload_n 1, 1) := by decide +kernel
theorem dX11_init_259 : decode cX11_init 259 = .ok (.aaload, 1) := by decide +kernel
theorem dX11_init_260 : decode cX11_init 260 = .ok (.iconst 2, 1) := by decide +kernel
theorem dX11_init_261 : decode cX11_init 261 = .ok (.iconst (-1), 1) := by decide +kernel
theorem dX11_init_262 : decode cX11_init 262 = .ok (.iastore, 1) := by decide +kernel
theorem dX11_init_263 : decode cX11_init 263 = .ok (.iinc 1 1, 3) := by decide +kernel
theorem dX11_init_266 : decode cX11_init 266 = .ok (.goto (-18), 3) := by decide +kernel
theorem dX11_init_269 : decode cX11_init 269 = .ok (.return_, 1) := by decide +kernel
theorem dX11_thrown_0 : decode cX11_thrown 0 = .ok (.aload_n 0, 1) := by decide +kernel
theorem dX11_thrown_1 : decode cX11_thrown 1 = .ok (.getfield 78, 3) := by decide +kernel
theorem dX11_thrown_4 : decode cX11_thrown 4 = .ok (.ireturn, 1) := by decide +kernel
theorem dX11_bad_0 : decode cX11_bad 0 = .ok (.iload_n 1, 1) := by decide +kernel
theorem dX11_bad_1 : decode cX11_bad 1 = .ok (.ifCond .eq 25, 3) := by decide +kernel
theorem dX11_bad_4 : decode cX11_bad 4 = .ok (.aload_n 0, 1) := by decide +kernel
theorem dX11_bad_5 : decode cX11_bad 5 = .ok (.getfield 78, 3) := by decide +kernel
theorem dX11_bad_8 : decode cX11_bad 8 = .ok (.ifCond .ne 18, 3) := by decide +kernel
theorem dX11_bad_11 : decode cX11_bad 11 = .ok (.aload_n 0, 1) := by decide +kernel
theorem dX11_bad_12 : decode cX11_bad 12 = .ok (.iload_n 2, 1) := by decide +kernel
theorem dX11_bad_13 : decode cX11_bad 13 = .ok (.putfield 78, 3) := by decide +kernel
theorem dX11_bad_16 : decode cX11_bad 16 = .ok (.aload_n 0, 1) := by decide +kernel
theorem dX11_bad_17 : decode cX11_bad 17 = .ok (.getfield 7, 3) := by decide +kernel
theorem dX11_bad_20 : decode cX11_bad 20 = .ok (.iload_n 3, 1) := by decide +kernel
theorem dX11_bad_21 : decode cX11_bad 21 = .ok (.dup2, 1) := by decide +kernel
theorem dX11_bad_22 : decode cX11_bad 22 = .ok (.iaload, 1) := by decide +kernel
theorem dX11_bad_23 : decode cX11_bad 23 = .ok (.iconst 1, 1) := by decide +kernel
theorem dX11_bad_24 : decode cX11_bad 24 = .ok (.iadd, 1) := by decide +kernel
theorem dX11_bad_25 : decode cX11_bad 25 = .ok (.iastore, 1) := by decide +kernel
theorem dX11_bad_26 : decode cX11_bad 26 = .ok (.aload_n 0, 1) := by decide +kernel
theorem dX11_bad_27 : decode cX11_bad 27 = .ok (.getfield 78, 3) := by decide +kernel
theorem dX11_bad_30 : decode cX11_bad 30 = .ok (.ifCond .eq 7, 3) := by decide +kernel
theorem dX11_bad_33 : decode cX11_bad 33 = .ok (.iconst 1, 1) := by decide +kernel
theorem dX11_bad_34 : decode cX11_bad 34 = .ok (.goto 4, 3) := by decide +kernel
theorem dX11_bad_37 : decode cX11_bad 37 = .ok (.iconst 0, 1) := by decide +kernel
theorem dX11_bad_38 : decode cX11_bad 38 = .ok (.ireturn, 1) := by decide +kernel
theorem dX11_in_0 : decode cX11_in 0 = .ok (.iload_n 0, 1) := by decide +kernel
theorem dX11_in_1 : decode cX11_in 1 = .ok (.iload_n 1, 1) := by decide +kernel
theorem dX11_in_2 : decode cX11_in 2 = .ok (.if_icmp .lt 12, 3) := by decide +kernel
theorem dX11_in_5 : decode cX11_in 5 = .ok (.iload_n 0, 1) := by decide +kernel
theorem dX11_in_6 : decode cX11_in 6 = .ok (.iload_n 2, 1) := by decide +kernel
theorem dX11_in_7 : decode cX11_in 7 = .ok (.if_icmp .gt 7, 3) := by decide +kernel
theorem dX11_in_10 : decode cX11_in 10 = .ok (.iconst 1, 1) := by decide +kernel
theorem dX11_in_11 : decode cX11_in 11 = .ok (.goto 4, 3) := by decide +kernel
theorem dX11_in_14 : decode cX11_in 14 = .ok (.iconst 0, 1) := by decide +kernel
theorem dX11_in_15 : decode cX11_in 15 = .ok (.ireturn, 1) := by decide +kernel
theorem dX11_less_0 : decode cX11_less 0 = .ok (.iload_n 0, 1) := by decide +kernel
theorem dX11_less_1 : decode cX11_less 1 = .ok (.iload_n 1, 1) := by decide +kernel
theorem dX11_less_2 : decode cX11_less 2 = .ok (.if_icmp .ge 7, 3) := by decide +kernel
theorem dX11_less_5 : decode cX11_less 5 = .ok (.iload_n 0, 1) := by decide +kernel
theorem dX11_less_6 : decode cX11_less 6 = .ok (.goto 4, 3) := by decide +kernel
theorem dX11_less_9 : decode cX11_less 9 = .ok (.iload_n 1, 1) := by decide +kernel
theorem dX11_less_10 : decode cX11_less 10 = .ok (.ireturn, 1) := by decide +kernel
theorem dX11_isBit_0 : decode cX11_isBit 0 = .ok (.iload_n 0, 1) := by decide +kernel
theorem dX11_isBit_1 : decode cX11_isBit 1 = .ok (.iload_n 1, 1) := by decide +kernel
theorem dX11_isBit_2 : decode cX11_isBit 2 = .ok (.ishr, 1) := by decide +kernel
theorem dX11_isBit_3 : decode cX11_isBit 3 = .ok (.iconst 1, 1) := by decide +kernel
theorem dX11_isBit_4 : decode cX11_isBit 4 = .ok (.iand, 1) := by decide +kernel
theorem dX11_isBit_5 : decode cX11_isBit 5 = .ok (.iconst 1, 1) := by decide +kernel
theorem dX11_isBit_6 : decode cX11_isBit 6 = .ok (.if_icmp .ne 7, 3) := by decide +kernel
theorem dX11_isBit_9 : decode cX11_isBit 9 = .ok (.iconst 1, 1) := by decide +kernel
theorem dX11_isBit_10 : decode cX11_isBit 10 = .ok (.goto 4, 3) := by decide +kernel
theorem dX11_isBit_13 : decode cX11_isBit 13 = .ok (.iconst 0, 1) := by decide +kernel
theorem dX11_isBit_14 : decode cX11_isBit 14 = .ok (.ireturn, 1) := by decide +kernel
theorem dX11_feed_0 : decode cX11_feed 0 = .ok (.aload_n 0, 1) := by decide +kernel
theorem dX11_feed_1 : decode cX11_feed 1 = .ok (.iconst 0, 1) := by decide +kernel
theorem dX11_feed_2 : decode cX11_feed 2 = .ok (.putfield 78, 3) := by decide +kernel
theorem dX11_feed_5 : decode cX11_feed 5 = .ok (.aload_n 0, 1) := by decide +kernel
theorem dX11_feed_6 : decode cX11_feed 6 = .ok (.getfield 81, 3) := by decide +kernel
theorem dX11_feed_9 : decode cX11_feed 9 = .ok (.bipush 20, 2) := by decide +kernel
theorem dX11_feed_11 : decode cX11_feed 11 = .ok (.iadd, 1) := by decide +kernel
theorem dX11_feed_12 : decode cX11_feed 12 = .ok (.sipush 500, 3) := by decide +kernel
theorem dX11_feed_15 : decode cX11_feed 15 = .ok (.if_icmp .le 5, 3) := by decide +kernel
theorem dX11_feed_18 : decode cX11_feed 18 = .ok (.iconst (-1), 1) := by decide +kernel
theorem dX11_feed_19 : decode cX11_feed 19 = .ok (.ireturn, 1) := by decide +kernel
theorem dX11_feed_20 : decode cX11_feed 20 = .ok (.iconst 0, 1) := by decide +kernel
theorem dX11_feed_21 : decode cX11_feed 21 = .ok (.istore 6, 2) := by decide +kernel
theorem dX11_feed_23 : decode cX11_feed 23 = .ok (.iload 6, 2) := by decide +kernel
theorem dX11_feed_25 : decode cX11_feed 25 = .ok (.bipush 20, 2) := by decide +kernel
theorem dX11_feed_27 : decode cX11_feed 27 = .ok (.if_icmp .ge 93, 3) := by decide +kernel
theorem dX11_feed_30 : decode cX11_feed 30 = .ok (.iload 6, 2) := by decide +kernel
theorem dX11_feed_32 : decode cX11_feed 32 = .ok (.iconst 4, 1) := by decide +kernel
theorem dX11_feed_33 : decode cX11_feed 33 = .ok (.if_icmp .ge 7, 3) := by decide +kernel
theorem dX11_feed_36 : decode cX11_feed 36 = .ok (.iload_n 1, 1) := by decide +kernel
theorem dX11_feed_37 : decode cX11_feed 37 = .ok (.goto 39, 3) := by decide +kernel
theorem dX11_feed_40 : decode cX11_feed 40 = .ok (.iload 6, 2) := by decide +kernel
theorem dX11_feed_42 : decode cX11_feed 42 = .ok (.bipush 8, 2) := by decide +kernel
theorem dX11_feed_44 : decode cX11_feed 44 = .ok (.if_icmp .ge 7, 3) := by decide +kernel
theorem dX11_feed_47 : decode cX11_feed 47 = .ok (.iload_n 2, 1) := by decide +kernel
theorem dX11_feed_48 : decode cX11_feed 48 = .ok (.goto 28, 3) := by decide +kernel
theorem dX11_feed_51 : decode cX11_feed 51 = .ok (.iload 6, 2) := by decide +kernel
theorem dX11_feed_53 : decode cX11_feed 53 = .ok (.bipush 12, 2) := by decide +kernel
theorem dX11_feed_55 : decode cX11_feed 55 = .ok (.if_icmp .ge 7, 3) := by decide +kernel
theorem dX11_feed_58 : decode cX11_feed 58 = .ok (.iload_n 3, 1) := by decide +kernel
theorem dX11_feed_59 : decode cX11_feed 59 = .ok (.goto 17, 3) := by decide +kernel
theorem dX11_feed_62 : decode cX11_feed 62 = .ok (.iload 6, 2) := by decide +kernel
theorem dX11_feed_64 : decode cX11_feed 64 = .ok (.bipush 16, 2) := by decide +kernel
theorem dX11_feed_66 : decode cX11_feed 66 = .ok (.if_icmp .ge 8, 3) := by decide +kernel
theorem dX11_feed_69 : decode cX11_feed 69 = .ok (.iload 4, 2) := by decide +kernel
theorem dX11_feed_71 : decode cX11_feed 71 = .ok (.goto 5, 3) := by decide +kernel
theorem dX11_feed_74 : decode cX11_feed 74 = .ok (.iload 5, 2) := by decide +kernel
theorem dX11_feed_76 : decode cX11_feed 76 = .ok (.istore 7, 2) := by decide +kernel
theorem dX11_feed_78 : decode cX11_feed 78 = .ok (.aload_n 0, 1) := by decide +kernel
theorem dX11_feed_79 : decode cX11_feed 79 = .ok (.getfield 17, 3) := by decide +kernel
theorem dX11_feed_82 : decode cX11_feed 82 = .ok (.aload_n 0, 1) := by decide +kernel
theorem dX11_feed_83 : decode cX11_feed 83 = .ok (.getfield 81, 3) := by decide +kernel
theorem dX11_feed_86 : decode cX11_feed 86 = .ok (.iload 7, 2) := by decide +kernel
theorem dX11_feed_88 : decode cX11_feed 88 = .ok (.bipush 24, 2) := by decide +kernel
theorem dX11_feed_90 : decode cX11_feed 90 = .ok (.bipush 8, 2) := by decide +kernel
theorem dX11_feed_92 : decode cX11_feed 92 = .ok (.iload 6, 2) := by decide +kernel
theorem dX11_feed_94 : decode cX11_feed 94 = .ok (.iconst 4, 1) := by decide +kernel
theorem dX11_feed_95 : decode cX11_feed 95 = .ok (.irem, 1) := by decide +kernel
theorem dX11_feed_96 : decode cX11_feed 96 = .ok (.imul, 1) := by decide +kernel
theorem dX11_feed_97 : decode cX11_feed 97 = .ok (.isub, 1) := by decide +kernel
theorem dX11_feed_98 : decode cX11_feed 98 = .ok (.ishr, 1) := by decide +kernel
theorem dX11_feed_99 : decode cX11_feed 99 = .ok (.sipush 255, 3) := by decide +kernel
theorem dX11_feed_102 : decode cX11_feed 102 = .ok (.iand, 1) := by decide +kernel
theorem dX11_feed_103 : decode cX11_feed 103 = .ok (.iastore, 1) := by decide +kernel
theorem dX11_feed_104 : decode cX11_feed 104 = .ok (.aload_n 0, 1) := by decide +kernel
theorem dX11_feed_105 : decode cX11_feed 105 = .ok (.dup, 1) := by decide +kernel
theorem dX11_feed_106 : decode cX11_feed 106 = .ok (.getfield 81, 3) := by decide +kernel
theorem dX11_feed_109 : decode cX11_feed 109 = .ok (.iconst 1, 1) := by decide +kernel
theorem dX11_feed_110 : decode cX11_feed 110 = .ok (.iadd, 1) := by decide +kernel
theorem dX11_feed_111 : decode cX11_feed 111 = .ok (.putfield 81, 3) := by decide +kernel
theorem dX11_feed_114 : decode cX11_feed 114 = .ok (.iinc 6 1, 3) := by decide +kernel
theorem dX11_feed_117 : decode cX11_feed 117 = .ok (.goto (-94), 3) := by decide +kernel
theorem dX11_feed_120 : decode cX11_feed 120 = .ok (.aload_n 0, 1) := by decide +kernel
theorem dX11_feed_121 : decode cX11_feed 121 = .ok (.getfield 81, 3) := by decide +kernel
theorem dX11_feed_124 : decode cX11_feed 124 = .ok (.ireturn, 1) := by decide +kernel
theorem dX11_byteAt_0 : decode cX11_byteAt 0 = .ok (.iload_n 1, 1) := by decide +kernel
theorem dX11_byteAt_1 : decode cX11_byteAt 1 = .ok (.aload_n 0, 1) := by decide +kernel
theorem dX11_byteAt_2 : decode cX11_byteAt 2 = .ok (.getfield 84, 3) := by decide +kernel
theorem dX11_byteAt_5 : decode cX11_byteAt 5 = .ok (.if_icmp .lt 7, 3) := by decide +kernel
theorem dX11_byteAt_8 : decode cX11_byteAt 8 = .ok (.iconst (-1), 1) := by decide +kernel
theorem dX11_byteAt_9 : decode cX11_byteAt 9 = .ok (.goto 9, 3) := by decide +kernel
theorem dX11_byteAt_12 : decode cX11_byteAt 12 = .ok (.aload_n 0, 1) := by decide +kernel
theorem dX11_byteAt_13 : decode cX11_byteAt 13 = .ok (.getfield 17, 3) := by decide +kernel
theorem dX11_byteAt_16 : decode cX11_byteAt 16 = .ok (.iload_n 1, 1) := by decide +kernel
theorem dX11_byteAt_17 : decode cX11_byteAt 17 = .ok (.iaload, 1) := by decide +kernel
theorem dX11_byteAt_18 : decode cX11_byteAt 18 = .ok (.ireturn, 1) := by decide +kernel
theorem dX11_here_0 : decode cX11_here 0 = .ok (.aload_n 0, 1) := by decide +kernel
theorem dX11_here_1 : decode cX11_here 1 = .ok (.aload_n 0, 1) := by decide +kernel
theorem dX11_here_2 : decode cX11_here 2 = .ok (.getfield 87, 3) := by decide +kernel
theorem dX11_here_5 : decode cX11_here 5 = .ok (.invokevirtual 90, 3) := by decide +kernel
theorem dX11_here_8 : decode cX11_here 8 = .ok (.bipush 32, 2) := by decide +kernel
theorem dX11_here_10 : decode cX11_here 10 = .ok (.if_icmp .ne 16, 3) := by decide +kernel
theorem dX11_here_13 : decode cX11_here 13 = .ok (.aload_n 0, 1) := by decide +kernel
theorem dX11_here_14 : decode cX11_here 14 = .ok (.dup, 1) := by decide +kernel
theorem dX11_here_15 : decode cX11_here 15 = .ok (.getfield 87, 3) := by decide +kernel
theorem dX11_here_18 : decode cX11_here 18 = .ok (.iconst 1, 1) := by decide +kernel
theorem dX11_here_19 : decode cX11_here 19 = .ok (.iadd, 1) := by decide +kernel
theorem dX11_here_20 : decode cX11_here 20 = .ok (.putfield 87, 3) := by decide +kernel
theorem dX11_here_23 : decode cX11_here 23 = .ok (.goto (-23), 3) := by decide +kernel
theorem dX11_here_26 : decode cX11_here 26 = .ok (.aload_n 0, 1) := by decide +kernel
theorem dX11_here_27 : decode cX11_here 27 = .ok (.aload_n 0, 1) := by decide +kernel
theorem dX11_here_28 : decode cX11_here 28 = .ok (.getfield 87, 3) := by decide +kernel
theorem dX11_here_31 : decode cX11_here 31 = .ok (.invokevirtual 90, 3) := by decide +kernel
theorem dX11_here_34 : decode cX11_here 34 = .ok (.ireturn, 1) := by decide +kernel
theorem dX11_fine_0 : decode cX11_fine 0 = .ok (.aload_n 0, 1) := by decide +kernel
theorem dX11_fine_1 : decode cX11_fine 1 = .ok (.getfield 94, 3) := by decide +kernel
theorem dX11_fine_4 : decode cX11_fine 4 = .ok (.ifCond .ne 7, 3) := by decide +kernel
theorem dX11_fine_7 : decode cX11_fine 7 = .ok (.iconst 1, 1) := by decide +kernel
theorem dX11_fine_8 : decode cX11_fine 8 = .ok (.goto 4, 3) := by decide +kernel
theorem dX11_fine_11 : decode cX11_fine 11 = .ok (.iconst 0, 1) := by decide +kernel
theorem dX11_fine_12 : decode cX11_fine 12 = .ok (.ireturn, 1) := by decide +kernel
theorem dX11_wrong_0 : decode cX11_wrong 0 = .ok (.aload_n 0, 1) := by decide +kernel
theorem dX11_wrong_1 : decode cX11_wrong 1 = .ok (.getfield 94, 3) := by decide +kernel
theorem dX11_wrong_4 : decode cX11_wrong 4 = .ok (.ifCond .ne 13, 3) := by decide +kernel
theorem dX11_wrong_7 : decode cX11_wrong 7 = .ok (.aload_n 0, 1) := by decide +kernel
theorem dX11_wrong_8 : decode cX11_wrong 8 = .ok (.iload_n 1, 1) := by decide +kernel
theorem dX11_wrong_9 : decode cX11_wrong 9 = .ok (.putfield 94, 3) := by decide +kernel
theorem dX11_wrong_12 : decode cX11_wrong 12 = .ok (.aload_n 0, 1) := by decide +kernel
theorem dX11_wrong_13 : decode cX11_wrong 13 = .ok (.iload_n 2, 1) := by decide +kernel
theorem dX11_wrong_14 : decode cX11_wrong 14 = .ok (.putfield 97, 3) := by decide +kernel
theorem dX11_wrong_17 : decode cX11_wrong 17 = .ok (.return_, 1) := by decide +kernel
theorem dX11_starts_0 : decode cX11_starts 0 = .ok (.aload_n 0, 1) := by decide +kernel
theorem dX11_starts_1 : decode cX11_starts 1 = .ok (.iconst 0, 1) := by decide +kernel
theorem dX11_starts_2 : decode cX11_starts 2 = .ok (.putfield 81, 3) := by decide +kernel
theorem dX11_starts_5 : decode cX11_starts 5 = .ok (.aload_n 0, 1) := by decide +kernel
theorem dX11_starts_6 : decode cX11_starts 6 = .ok (.iload_n 1, 1) := by decide +kernel
theorem dX11_starts_7 : decode cX11_starts 7 = .ok (.putfield 84, 3) := by decide +kernel
theorem dX11_starts_10 : decode cX11_starts 10 = .ok (.aload_n 0, 1) := by decide +kernel
theorem dX11_starts_11 : decode cX11_starts 11 = .ok (.iconst 0, 1) := by decide +kernel
theorem dX11_starts_12 : decode cX11_starts 12 = .ok (.putfield 87, 3) := by decide +kernel
theorem dX11_starts_15 : decode cX11_starts 15 = .ok (.aload_n 0, 1) := by decide +kernel
theorem dX11_starts_16 : decode cX11_starts 16 = .ok (.iconst 0, 1) := by decide +kernel
theorem dX11_starts_17 : decode cX11_starts 17 = .ok (.putfield 94, 3) := by decide +kernel
theorem dX11_starts_20 : decode cX11_starts 20 = .ok (.aload_n 0, 1) := by decide +kernel
theorem dX11_starts_21 : decode cX11_starts 21 = .ok (.iconst (-1), 1) := by decide +kernel
theorem dX11_starts_22 : decode cX11_starts 22 = .ok (.putfield 97, 3) := by decide +kernel
theorem dX11_starts_25 : decode cX11_starts 25 = .ok (.return_, 1) := by decide +kernel
theorem dX11_ends_0 : decode cX11_ends 0 = .ok (.aload_n 0, 1) := by decide +kernel
theorem dX11_ends_1 : decode cX11_ends 1 = .ok (.aload_n 0, 1) := by decide +kernel
theorem dX11_ends_2 : decode cX11_ends 2 = .ok (.getfield 97, 3) := by decide +kernel
theorem dX11_ends_5 : decode cX11_ends 5 = .ok (.putfield 13, 3) := by decide +kernel
theorem dX11_ends_8 : decode cX11_ends 8 = .ok (.aload_n 0, 1) := by decide +kernel
theorem dX11_ends_9 : decode cX11_ends 9 = .ok (.invokevirtual 100, 3) := by decide +kernel
theorem dX11_ends_12 : decode cX11_ends 12 = .ok (.ifCond .eq 7, 3) := by decide +kernel
theorem dX11_ends_15 : decode cX11_ends 15 = .ok (.iload_n 1, 1) := by decide +kernel
theorem dX11_ends_16 : decode cX11_ends 16 = .ok (.goto 10, 3) := by decide +kernel
theorem dX11_ends_19 : decode cX11_ends 19 = .ok (.aload_n 0, 1) := by decide +kernel
theorem dX11_ends_20 : decode cX11_ends 20 = .ok (.getfield 94, 3) := by decide +kernel
theorem dX11_ends_23 : decode cX11_ends 23 = .ok (.bipush 10, 2) := by decide +kernel
theorem dX11_ends_25 : decode cX11_ends 25 = .ok (.isub, 1) := by decide +kernel
theorem dX11_ends_26 : decode cX11_ends 26 = .ok (.ireturn, 1) := by decide +kernel
theorem dX11_isDigit_0 : decode cX11_isDigit 0 = .ok (.iload_n 0, 1) := by decide +kernel
theorem dX11_isDigit_1 : decode cX11_isDigit 1 = .ok (.bipush 48, 2) := by decide +kernel
theorem dX11_isDigit_3 : decode cX11_isDigit 3 = .ok (.if_icmp .lt 13, 3) := by decide +kernel
theorem dX11_isDigit_6 : decode cX11_isDigit 6 = .ok (.iload_n 0, 1) := by decide +kernel
theorem dX11_isDigit_7 : decode cX11_isDigit 7 = .ok (.bipush 57, 2) := by decide +kernel
theorem dX11_isDigit_9 : decode cX11_isDigit 9 = .ok (.if_icmp .gt 7, 3) := by decide +kernel
theorem dX11_isDigit_12 : decode cX11_isDigit 12 = .ok (.iconst 1, 1) := by decide +kernel
theorem dX11_isDigit_13 : decode cX11_isDigit 13 = .ok (.goto 4, 3) := by decide +kernel
theorem dX11_isDigit_16 : decode cX11_isDigit 16 = .ok (.iconst 0, 1) := by decide +kernel
theorem dX11_isDigit_17 : decode cX11_isDigit 17 = .ok (.ireturn, 1) := by decide +kernel
theorem dX11_isSmall_0 : decode cX11_isSmall 0 = .ok (.iload_n 0, 1) := by decide +kernel
theorem dX11_isSmall_1 : decode cX11_isSmall 1 = .ok (.bipush 97, 2) := by decide +kernel
theorem dX11_isSmall_3 : decode cX11_isSmall 3 = .ok (.if_icmp .lt 13, 3) := by decide +kernel
theorem dX11_isSmall_6 : decode cX11_isSmall 6 = .ok (.iload_n 0, 1) := by decide +kernel
theorem dX11_isSmall_7 : decode cX11_isSmall 7 = .ok (.bipush 122, 2) := by decide +kernel
theorem dX11_isSmall_9 : decode cX11_isSmall 9 = .ok (.if_icmp .gt 7, 3) := by decide +kernel
theorem dX11_isSmall_12 : decode cX11_isSmall 12 = .ok (.iconst 1, 1) := by decide +kernel
theorem dX11_isSmall_13 : decode cX11_isSmall 13 = .ok (.goto 4, 3) := by decide +kernel
theorem dX11_isSmall_16 : decode cX11_isSmall 16 = .ok (.iconst 0, 1) := by decide +kernel
theorem dX11_isSmall_17 : decode cX11_isSmall 17 = .ok (.ireturn, 1) := by decide +kernel
theorem dX11_number_0 : decode cX11_number 0 = .ok (.aload_n 0, 1) := by decide +kernel
theorem dX11_number_1 : decode cX11_number 1 = .ok (.invokevirtual 100, 3) := by decide +kernel
theorem dX11_number_4 : decode cX11_number 4 = .ok (.ifCond .ne 5, 3) := by decide +kernel
theorem dX11_number_7 : decode cX11_number 7 = .ok (.iconst 0, 1) := by decide +kernel
theorem dX11_number_8 : decode cX11_number 8 = .ok (.ireturn, 1) := by decide +kernel
theorem dX11_number_9 : decode cX11_number 9 = .ok (.aload_n 0, 1) := by decide +kernel
theorem dX11_number_10 : decode cX11_number 10 = .ok (.invokevirtual 104, 3) := by decide +kernel
theorem dX11_number_13 : decode cX11_number 13 = .ok (.invokestatic 108, 3) := by decide +kernel
theorem dX11_number_16 : decode cX11_number 16 = .ok (.ifCond .ne 12, 3) := by decide +kernel
theorem dX11_number_19 : decode cX11_number 19 = .ok (.aload_n 0, 1) := by decide +kernel
theorem dX11_number_20 : decode cX11_number 20 = .ok (.iconst 1, 1) := by decide +kernel
theorem dX11_number_21 : decode cX11_number 21 = .ok (.aload_n 0, 1) := by decide +kernel
theorem dX11_number_22 : decode cX11_number 22 = .ok (.getfield 87, 3) := by decide +kernel
theorem dX11_number_25 : decode cX11_number 25 = .ok (.invokevirtual 112, 3) := by decide +kernel
theorem dX11_number_28 : decode cX11_number 28 = .ok (.aload_n 0, 1) := by decide +kernel
theorem dX11_number_29 : decode cX11_number 29 = .ok (.getfield 87, 3) := by decide +kernel
theorem dX11_number_32 : decode cX11_number 32 = .ok (.istore_n 3, 1) := by decide +kernel
theorem dX11_number_33 : decode cX11_number 33 = .ok (.iconst 0, 1) := by decide +kernel
theorem dX11_number_34 : decode cX11_number 34 = .ok (.istore 4, 2) := by decide +kernel
theorem dX11_number_36 : decode cX11_number 36 = .ok (.aload_n 0, 1) := by decide +kernel
theorem dX11_number_37 : decode cX11_number 37 = .ok (.aload_n 0, 1) := by decide +kernel
theorem dX11_number_38 : decode cX11_number 38 = .ok (.getfield 87, 3) := by decide +kernel
theorem dX11_number_41 : decode cX11_number 41 = .ok (.invokevirtual 90, 3) := by decide +kernel
theorem dX11_number_44 : decode cX11_number 44 = .ok (.invokestatic 108, 3) := by decide +kernel
theorem dX11_number_47 : decode cX11_number 47 = .ok (.ifCond .eq 40, 3) := by decide +kernel
theorem dX11_number_50 : decode cX11_number 50 = .ok (.ldc 116, 2) := by decide +kernel
theorem dX11_number_52 : decode cX11_number 52 = .ok (.bipush 10, 2) := by decide +kernel
theorem dX11_number_54 : decode cX11_number 54 = .ok (.iload 4, 2) := by decide +kernel
theorem dX11_number_56 : decode cX11_number 56 = .ok (.imul, 1) := by decide +kernel
theorem dX11_number_57 : decode cX11_number 57 = .ok (.aload_n 0, 1) := by decide +kernel
theorem dX11_number_58 : decode cX11_number 58 = .ok (.aload_n 0, 1) := by decide +kernel
theorem dX11_number_59 : decode cX11_number 59 = .ok (.getfield 87, 3) := by decide +kernel
theorem dX11_number_62 : decode cX11_number 62 = .ok (.invokevirtual 90, 3) := by decide +kernel
theorem dX11_number_65 : decode cX11_number 65 = .ok (.iadd, 1) := by decide +kernel
theorem dX11_number_66 : decode cX11_number 66 = .ok (.bipush 48, 2) := by decide +kernel
theorem dX11_number_68 : decode cX11_number 68 = .ok (.isub, 1) := by decide +kernel
theorem dX11_number_69 : decode cX11_number 69 = .ok (.invokestatic 117, 3) := by decide +kernel
theorem dX11_number_72 : decode cX11_number 72 = .ok (.istore 4, 2) := by decide +kernel
theorem dX11_number_74 : decode cX11_number 74 = .ok (.aload_n 0, 1) := by decide +kernel
theorem dX11_number_75 : decode cX11_number 75 = .ok (.dup, 1) := by decide +kernel
theorem dX11_number_76 : decode cX11_number 76 = .ok (.getfield 87, 3) := by decide +kernel
theorem dX11_number_79 : decode cX11_number 79 = .ok (.iconst 1, 1) := by decide +kernel
theorem dX11_number_80 : decode cX11_number 80 = .ok (.iadd, 1) := by decide +kernel
theorem dX11_number_81 : decode cX11_number 81 = .ok (.putfield 87, 3) := by decide +kernel
theorem dX11_number_84 : decode cX11_number 84 = .ok (.goto (-48), 3) := by decide +kernel
theorem dX11_number_87 : decode cX11_number 87 = .ok (.iload 4, 2) := by decide +kernel
theorem dX11_number_89 : decode cX11_number 89 = .ok (.iload_n 1, 1) := by decide +kernel
theorem dX11_number_90 : decode cX11_number 90 = .ok (.iload_n 2, 1) := by decide +kernel
theorem dX11_number_91 : decode cX11_number 91 = .ok (.invokestatic 121, 3) := by decide +kernel
theorem dX11_number_94 : decode cX11_number 94 = .ok (.ifCond .ne 9, 3) := by decide +kernel
theorem dX11_number_97 : decode cX11_number 97 = .ok (.aload_n 0, 1) := by decide +kernel
theorem dX11_number_98 : decode cX11_number 98 = .ok (.iconst 2, 1) := by decide +kernel
theorem dX11_number_99 : decode cX11_number 99 = .ok (.iload_n 3, 1) := by decide +kernel
theorem dX11_number_100 : decode cX11_number 100 = .ok (.invokevirtual 112, 3) := by decide +kernel
theorem dX11_number_103 : decode cX11_number 103 = .ok (.aload_n 0, 1) := by decide +kernel
theorem dX11_number_104 : decode cX11_number 104 = .ok (.invokevirtual 100, 3) := by decide +kernel
theorem dX11_number_107 : decode cX11_number 107 = .ok (.ifCond .eq 8, 3) := by decide +kernel
theorem dX11_number_110 : decode cX11_number 110 = .ok (.iload 4, 2) := by decide +kernel
theorem dX11_number_112 : decode cX11_number 112 = .ok (.goto 4, 3) := by decide +kernel
theorem dX11_number_115 : decode cX11_number 115 = .ok (.iconst 0, 1) := by decide +kernel
theorem dX11_number_116 : decode cX11_number 116 = .ok (.ireturn, 1) := by decide +kernel
theorem dX11_wordHere_0 : decode cX11_wordHere 0 = .ok (.aload_n 0, 1) := by decide +kernel
theorem dX11_wordHere_1 : decode cX11_wordHere 1 = .ok (.invokevirtual 104, 3) := by decide +kernel
theorem dX11_wordHere_4 : decode cX11_wordHere 4 = .ok (.pop, 1) := by decide +kernel
theorem dX11_wordHere_5 : decode cX11_wordHere 5 = .ok (.lconst 0, 1) := by decide +kernel
theorem dX11_wordHere_6 : decode cX11_wordHere 6 = .ok (.lstore_n 1, 1) := by decide +kernel
theorem dX11_wordHere_7 : decode cX11_wordHere 7 = .ok (.iconst 0, 1) := by decide +kernel
theorem dX11_wordHere_8 : decode cX11_wordHere 8 = .ok (.istore_n 3, 1) := by decide +kernel
theorem dX11_wordHere_9 : decode cX11_wordHere 9 = .ok (.aload_n 0, 1) := by decide +kernel
theorem dX11_wordHere_10 : decode cX11_wordHere 10 = .ok (.aload_n 0, 1) := by decide +kernel
theorem dX11_wordHere_11 : decode cX11_wordHere 11 = .ok (.getfield 87, 3) := by decide +kernel
theorem dX11_wordHere_14 : decode cX11_wordHere 14 = .ok (.iload_n 3, 1) := by decide +kernel
theorem dX11_wordHere_15 : decode cX11_wordHere 15 = .ok (.iadd, 1) := by decide +kernel
theorem dX11_wordHere_16 : decode cX11_wordHere 16 = .ok (.invokevirtual 90, 3) := by decide +kernel
theorem dX11_wordHere_19 : decode cX11_wordHere 19 = .ok (.invokestatic 125, 3) := by decide +kernel
theorem dX11_wordHere_22 : decode cX11_wordHere 22 = .ok (.ifCond .eq 40, 3) := by decide +kernel
theorem dX11_wordHere_25 : decode cX11_wordHere 25 = .ok (.ldc2_w 128, 3) := by decide +kernel
theorem dX11_wordHere_28 : decode cX11_wordHere 28 = .ok (.lload_n 1, 1) := by decide +kernel
theorem dX11_wordHere_29 : decode cX11_wordHere 29 = .ok (.lmul, 1) := by decide +kernel
theorem dX11_wordHere_30 : decode cX11_wordHere 30 = .ok (.aload_n 0, 1) := by decide +kernel
theorem dX11_wordHere_31 : decode cX11_wordHere 31 = .ok (.aload_n 0, 1) := by decide +kernel
theorem dX11_wordHere_32 : decode cX11_wordHere 32 = .ok (.getfield 87, 3) := by decide +kernel
theorem dX11_wordHere_35 : decode cX11_wordHere 35 = .ok (.iload_n 3, 1) := by decide +kernel
theorem dX11_wordHere_36 : decode cX11_wordHere 36 = .ok (.iadd, 1) := by decide +kernel
theorem dX11_wordHere_37 : decode cX11_wordHere 37 = .ok (.invokevirtual 90, 3) := by decide +kernel
theorem dX11_wordHere_40 : decode cX11_wordHere 40 = .ok (.i2l, 1) := by decide +kernel
theorem dX11_wordHere_41 : decode cX11_wordHere 41 = .ok (.ladd, 1) := by decide +kernel
theorem dX11_wordHere_42 : decode cX11_wordHere 42 = .ok (.ldc2_w 130, 3) := by decide +kernel
theorem dX11_wordHere_45 : decode cX11_wordHere 45 = .ok (.lsub, 1) := by decide +kernel
theorem dX11_wordHere_46 : decode cX11_wordHere 46 = .ok (.lconst 1, 1) := by decide +kernel
theorem dX11_wordHere_47 : decode cX11_wordHere 47 = .ok (.ladd, 1) := by decide +kernel
theorem dX11_wordHere_48 : decode cX11_wordHere 48 = .ok (.lstore_n 1, 1) := by decide +kernel
theorem dX11_wordHere_49 : decode cX11_wordHere 49 = .ok (.iinc 3 1, 3) := by decide +kernel
theorem dX11_wordHere_52 : decode cX11_wordHere 52 = .ok (.iload_n 3, 1) := by decide +kernel
theorem dX11_wordHere_53 : decode cX11_wordHere 53 = .ok (.bipush 6, 2) := by decide +kernel
theorem dX11_wordHere_55 : decode cX11_wordHere 55 = .ok (.if_icmp .le (-46), 3) := by decide +kernel
theorem dX11_wordHere_58 : decode cX11_wordHere 58 = .ok (.ldc2_w 132, 3) := by decide +kernel
theorem dX11_wordHere_61 : decode cX11_wordHere 61 = .ok (.lreturn, 1) := by decide +kernel
theorem dX11_wordHere_62 : decode cX11_wordHere 62 = .ok (.iload_n 3, 1) := by decide +kernel
theorem dX11_wordHere_63 : decode cX11_wordHere 63 = .ok (.ifCond .ne 9, 3) := by decide +kernel
theorem dX11_wordHere_66 : decode cX11_wordHere 66 = .ok (.ldc2_w 132, 3) := by decide +kernel
theorem dX11_wordHere_69 : decode cX11_wordHere 69 = .ok (.goto 4, 3) := by decide +kernel
theorem dX11_wordHere_72 : decode cX11_wordHere 72 = .ok (.lload_n 1, 1) := by decide +kernel
theorem dX11_wordHere_73 : decode cX11_wordHere 73 = .ok (.lreturn, 1) := by decide +kernel
theorem dX11_coded_0 : decode cX11_coded 0 = .ok (.lconst 0, 1) := by decide +kernel
theorem dX11_coded_1 : decode cX11_coded 1 = .ok (.lstore_n 1, 1) := by decide +kernel
theorem dX11_coded_2 : decode cX11_coded 2 = .ok (.iconst 0, 1) := by decide +kernel
theorem dX11_coded_3 : decode cX11_coded 3 = .ok (.istore_n 3, 1) := by decide +kernel
theorem dX11_coded_4 : decode cX11_coded 4 = .ok (.iload_n 3, 1) := by decide +kernel
theorem dX11_coded_5 : decode cX11_coded 5 = .ok (.aload_n 0, 1) := by decide +kernel
theorem dX11_coded_6 : decode cX11_coded 6 = .ok (.invokevirtual 134, 3) := by decide +kernel
theorem dX11_coded_9 : decode cX11_coded 9 = .ok (.if_icmp .ge 28, 3) := by decide +kernel
theorem dX11_coded_12 : decode cX11_coded 12 = .ok (.ldc2_w 128, 3) := by decide +kernel
theorem dX11_coded_15 : decode cX11_coded 15 = .ok (.lload_n 1, 1) := by decide +kernel
theorem dX11_coded_16 : decode cX11_coded 16 = .ok (.lmul, 1) := by decide +kernel
theorem dX11_coded_17 : decode cX11_coded 17 = .ok (.aload_n 0, 1) := by decide +kernel
theorem dX11_coded_18 : decode cX11_coded 18 = .ok (.iload_n 3, 1) := by decide +kernel
theorem dX11_coded_19 : decode cX11_coded 19 = .ok (.invokevirtual 139, 3) := by decide +kernel
theorem dX11_coded_22 : decode cX11_coded 22 = .ok (.i2l, 1) := by decide +kernel
theorem dX11_coded_23 : decode cX11_coded 23 = .ok (.ladd, 1) := by decide +kernel
theorem dX11_coded_24 : decode cX11_coded 24 = .ok (.ldc2_w 130, 3) := by decide +kernel
theorem dX11_coded_27 : decode cX11_coded 27 = .ok (.lsub, 1) := by decide +kernel
theorem dX11_coded_28 : decode cX11_coded 28 = .ok (.lconst 1, 1) := by decide +kernel
theorem dX11_coded_29 : decode cX11_coded 29 = .ok (.ladd, 1) := by decide +kernel
theorem dX11_coded_30 : decode cX11_coded 30 = .ok (.lstore_n 1, 1) := by decide +kernel
theorem dX11_coded_31 : decode cX11_coded 31 = .ok (.iinc 3 1, 3) := by decide +kernel
theorem dX11_coded_34 : decode cX11_coded 34 = .ok (.goto (-30), 3) := by decide +kernel
theorem dX11_coded_37 : decode cX11_coded 37 = .ok (.lload_n 1, 1) := by decide +kernel
theorem dX11_coded_38 : decode cX11_coded 38 = .ok (.lreturn, 1) := by decide +kernel
theorem dX11_skipWord_0 : decode cX11_skipWord 0 = .ok (.aload_n 0, 1) := by decide +kernel
theorem dX11_skipWord_1 : decode cX11_skipWord 1 = .ok (.aload_n 0, 1) := by decide +kernel
theorem dX11_skipWord_2 : decode cX11_skipWord 2 = .ok (.getfield 87, 3) := by decide +kernel
theorem dX11_skipWord_5 : decode cX11_skipWord 5 = .ok (.invokevirtual 90, 3) := by decide +kernel
theorem dX11_skipWord_8 : decode cX11_skipWord 8 = .ok (.invokestatic 125, 3) := by decide +kernel
theorem dX11_skipWord_11 : decode cX11_skipWord 11 = .ok (.ifCond .eq 16, 3) := by decide +kernel
theorem dX11_skipWord_14 : decode cX11_skipWord 14 = .ok (.aload_n 0, 1) := by decide +kernel
theorem dX11_skipWord_15 : decode cX11_skipWord 15 = .ok (.dup, 1) := by decide +kernel
theorem dX11_skipWord_16 : decode cX11_skipWord 16 = .ok (.getfield 87, 3) := by decide +kernel
theorem dX11_skipWord_19 : decode cX11_skipWord 19 = .ok (.iconst 1, 1) := by decide +kernel
theorem dX11_skipWord_20 : decode cX11_skipWord 20 = .ok (.iadd, 1) := by decide +kernel
theorem dX11_skipWord_21 : decode cX11_skipWord 21 = .ok (.putfield 87, 3) := by decide +kernel
theorem dX11_skipWord_24 : decode cX11_skipWord 24 = .ok (.goto (-24), 3) := by decide +kernel
theorem dX11_skipWord_27 : decode cX11_skipWord 27 = .ok (.return_, 1) := by decide +kernel
theorem dX11_takes_0 : decode cX11_takes 0 = .ok (.aload_n 0, 1) := by decide +kernel
theorem dX11_takes_1 : decode cX11_takes 1 = .ok (.invokevirtual 100, 3) := by decide +kernel
theorem dX11_takes_4 : decode cX11_takes 4 = .ok (.ifCond .eq 15, 3) := by decide +kernel
theorem dX11_takes_7 : decode cX11_takes 7 = .ok (.aload_n 0, 1) := by decide +kernel
theorem dX11_takes_8 : decode cX11_takes 8 = .ok (.invokevirtual 143, 3) := by decide +kernel
theorem dX11_takes_11 : decode cX11_takes 11 = .ok (.aload_n 1, 1) := by decide +kernel
theorem dX11_takes_12 : decode cX11_takes 12 = .ok (.invokestatic 147, 3) := by decide +kernel
theorem dX11_takes_15 : decode cX11_takes 15 = .ok (.lcmp, 1) := by decide +kernel
theorem dX11_takes_16 : decode cX11_takes 16 = .ok (.ifCond .eq 5, 3) := by decide +kernel
theorem dX11_takes_19 : decode cX11_takes 19 = .ok (.iconst 0, 1) := by decide +kernel
theorem dX11_takes_20 : decode cX11_takes 20 = .ok (.ireturn, 1) := by decide +kernel
theorem dX11_takes_21 : decode cX11_takes 21 = .ok (.aload_n 0, 1) := by decide +kernel
theorem dX11_takes_22 : decode cX11_takes 22 = .ok (.invokevirtual 151, 3) := by decide +kernel
theorem dX11_takes_25 : decode cX11_takes 25 = .ok (.iconst 1, 1) := by decide +kernel
theorem dX11_takes_26 : decode cX11_takes 26 = .ok (.ireturn, 1) := by decide +kernel
theorem dX11_sign_0 : decode cX11_sign 0 = .ok (.aload_n 0, 1) := by decide +kernel
theorem dX11_sign_1 : decode cX11_sign 1 = .ok (.invokevirtual 100, 3) := by decide +kernel
theorem dX11_sign_4 : decode cX11_sign 4 = .ok (.ifCond .ne 4, 3) := by decide +kernel
theorem dX11_sign_7 : decode cX11_sign 7 = .ok (.return_, 1) := by decide +kernel
theorem dX11_sign_8 : decode cX11_sign 8 = .ok (.aload_n 0, 1) := by decide +kernel
theorem dX11_sign_9 : decode cX11_sign 9 = .ok (.invokevirtual 104, 3) := by decide +kernel
theorem dX11_sign_12 : decode cX11_sign 12 = .ok (.iload_n 1, 1) := by decide +kernel
theorem dX11_sign_13 : decode cX11_sign 13 = .ok (.if_icmp .ne 16, 3) := by decide +kernel
theorem dX11_sign_16 : decode cX11_sign 16 = .ok (.aload_n 0, 1) := by decide +kernel
theorem dX11_sign_17 : decode cX11_sign 17 = .ok (.dup, 1) := by decide +kernel
theorem dX11_sign_18 : decode cX11_sign 18 = .ok (.getfield 87, 3) := by decide +kernel
theorem dX11_sign_21 : decode cX11_sign 21 = .ok (.iconst 1, 1) := by decide +kernel
theorem dX11_sign_22 : decode cX11_sign 22 = .ok (.iadd, 1) := by decide +kernel
theorem dX11_sign_23 : decode cX11_sign 23 = .ok (.putfield 87, 3) := by decide +kernel
theorem dX11_sign_26 : decode cX11_sign 26 = .ok (.goto 12, 3) := by decide +kernel
theorem dX11_sign_29 : decode cX11_sign 29 = .ok (.aload_n 0, 1) := by decide +kernel
theorem dX11_sign_30 : decode cX11_sign 30 = .ok (.iconst 1, 1) := by decide +kernel
theorem dX11_sign_31 : decode cX11_sign 31 = .ok (.aload_n 0, 1) := by decide +kernel
theorem dX11_sign_32 : decode cX11_sign 32 = .ok (.getfield 87, 3) := by decide +kernel
theorem dX11_sign_35 : decode cX11_sign 35 = .ok (.invokevirtual 112, 3) := by decide +kernel
theorem dX11_sign_38 : decode cX11_sign 38 = .ok (.return_, 1) := by decide +kernel
theorem dX11_deedOf_0 : decode cX11_deedOf 0 = .ok (.lload_n 0, 1) := by decide +kernel
theorem dX11_deedOf_1 : decode cX11_deedOf 1 = .ok (.ldc 154, 2) := by decide +kernel
theorem dX11_deedOf_3 : decode cX11_deedOf 3 = .ok (.invokestatic 147, 3) := by decide +kernel
theorem dX11_deedOf_6 : decode cX11_deedOf 6 = .ok (.lcmp, 1) := by decide +kernel
theorem dX11_deedOf_7 : decode cX11_deedOf 7 = .ok (.ifCond .ne 5, 3) := by decide +kernel
theorem dX11_deedOf_10 : decode cX11_deedOf 10 = .ok (.iconst 0, 1) := by decide +kernel
theorem dX11_deedOf_11 : decode cX11_deedOf 11 = .ok (.ireturn, 1) := by decide +kernel
theorem dX11_deedOf_12 : decode cX11_deedOf 12 = .ok (.lload_n 0, 1) := by decide +kernel
theorem dX11_deedOf_13 : decode cX11_deedOf 13 = .ok (.ldc 156, 2) := by decide +kernel
theorem dX11_deedOf_15 : decode cX11_deedOf 15 = .ok (.invokestatic 147, 3) := by decide +kernel
theorem dX11_deedOf_18 : decode cX11_deedOf 18 = .ok (.lcmp, 1) := by decide +kernel
theorem dX11_deedOf_19 : decode cX11_deedOf 19 = .ok (.ifCond .ne 5, 3) := by decide +kernel
theorem dX11_deedOf_22 : decode cX11_deedOf 22 = .ok (.iconst 1, 1) := by decide +kernel
theorem dX11_deedOf_23 : decode cX11_deedOf 23 = .ok (.ireturn, 1) := by decide +kernel
theorem dX11_deedOf_24 : decode cX11_deedOf 24 = .ok (.lload_n 0, 1) := by decide +kernel
theorem dX11_deedOf_25 : decode cX11_deedOf 25 = .ok (.ldc 158, 2) := by decide +kernel
theorem dX11_deedOf_27 : decode cX11_deedOf 27 = .ok (.invokestatic 147, 3) := by decide +kernel
theorem dX11_deedOf_30 : decode cX11_deedOf 30 = .ok (.lcmp, 1) := by decide +kernel
theorem dX11_deedOf_31 : decode cX11_deedOf 31 = .ok (.ifCond .ne 5, 3) := by decide +kernel
theorem dX11_deedOf_34 : decode cX11_deedOf 34 = .ok (.iconst 2, 1) := by decide +kernel
theorem dX11_deedOf_35 : decode cX11_deedOf 35 = .ok (.ireturn, 1) := by decide +kernel
theorem dX11_deedOf_36 : decode cX11_deedOf 36 = .ok (.lload_n 0, 1) := by decide +kernel
theorem dX11_deedOf_37 : decode cX11_deedOf 37 = .ok (.ldc 160, 2) := by decide +kernel
theorem dX11_deedOf_39 : decode cX11_deedOf 39 = .ok (.invokestatic 147, 3) := by decide +kernel
theorem dX11_deedOf_42 : decode cX11_deedOf 42 = .ok (.lcmp, 1) := by decide +kernel
theorem dX11_deedOf_43 : decode cX11_deedOf 43 = .ok (.ifCond .ne 5, 3) := by decide +kernel
theorem dX11_deedOf_46 : decode cX11_deedOf 46 = .ok (.iconst 3, 1) := by decide +kernel
theorem dX11_deedOf_47 : decode cX11_deedOf 47 = .ok (.ireturn, 1) := by decide +kernel
theorem dX11_deedOf_48 : decode cX11_deedOf 48 = .ok (.lload_n 0, 1) := by decide +kernel
theorem dX11_deedOf_49 : decode cX11_deedOf 49 = .ok (.ldc 162, 2) := by decide +kernel
theorem dX11_deedOf_51 : decode cX11_deedOf 51 = .ok (.invokestatic 147, 3) := by decide +kernel
theorem dX11_deedOf_54 : decode cX11_deedOf 54 = .ok (.lcmp, 1) := by decide +kernel
theorem dX11_deedOf_55 : decode cX11_deedOf 55 = .ok (.ifCond .ne 5, 3) := by decide +kernel
theorem dX11_deedOf_58 : decode cX11_deedOf 58 = .ok (.iconst 4, 1) := by decide +kernel
theorem dX11_deedOf_59 : decode cX11_deedOf 59 = .ok (.ireturn, 1) := by decide +kernel
theorem dX11_deedOf_60 : decode cX11_deedOf 60 = .ok (.lload_n 0, 1) := by decide +kernel
theorem dX11_deedOf_61 : decode cX11_deedOf 61 = .ok (.ldc 164, 2) := by decide +kernel
theorem dX11_deedOf_63 : decode cX11_deedOf 63 = .ok (.invokestatic 147, 3) := by decide +kernel
theorem dX11_deedOf_66 : decode cX11_deedOf 66 = .ok (.lcmp, 1) := by decide +kernel
theorem dX11_deedOf_67 : decode cX11_deedOf 67 = .ok (.ifCond .ne 5, 3) := by decide +kernel
theorem dX11_deedOf_70 : decode cX11_deedOf 70 = .ok (.iconst 5, 1) := by decide +kernel
theorem dX11_deedOf_71 : decode cX11_deedOf 71 = .ok (.ireturn, 1) := by decide +kernel
theorem dX11_deedOf_72 : decode cX11_deedOf 72 = .ok (.lload_n 0, 1) := by decide +kernel
theorem dX11_deedOf_73 : decode cX11_deedOf 73 = .ok (.ldc 166, 2) := by decide +kernel
theorem dX11_deedOf_75 : decode cX11_deedOf 75 = .ok (.invokestatic 147, 3) := by decide +kernel
theorem dX11_deedOf_78 : decode cX11_deedOf 78 = .ok (.lcmp, 1) := by decide +kernel
theorem dX11_deedOf_79 : decode cX11_deedOf 79 = .ok (.ifCond .ne 6, 3) := by decide +kernel
theorem dX11_deedOf_82 : decode cX11_deedOf 82 = .ok (.bipush 6, 2) := by decide +kernel
theorem dX11_deedOf_84 : decode cX11_deedOf 84 = .ok (.ireturn, 1) := by decide +kernel
theorem dX11_deedOf_85 : decode cX11_deedOf 85 = .ok (.lload_n 0, 1) := by decide +kernel
theorem dX11_deedOf_86 : decode cX11_deedOf 86 = .ok (.ldc 168, 2) := by decide +kernel
theorem dX11_deedOf_88 : decode cX11_deedOf 88 = .ok (.invokestatic 147, 3) := by decide +kernel
theorem dX11_deedOf_91 : decode cX11_deedOf 91 = .ok (.lcmp, 1) := by decide +kernel
theorem dX11_deedOf_92 : decode cX11_deedOf 92 = .ok (.ifCond .ne 6, 3) := by decide +kernel
theorem dX11_deedOf_95 : decode cX11_deedOf 95 = .ok (.bipush 7, 2) := by decide +kernel
theorem dX11_deedOf_97 : decode cX11_deedOf 97 = .ok (.ireturn, 1) := by decide +kernel
theorem dX11_deedOf_98 : decode cX11_deedOf 98 = .ok (.lload_n 0, 1) := by decide +kernel
theorem dX11_deedOf_99 : decode cX11_deedOf 99 = .ok (.ldc 170, 2) := by decide +kernel
theorem dX11_deedOf_101 : decode cX11_deedOf 101 = .ok (.invokestatic 147, 3) := by decide +kernel
theorem dX11_deedOf_104 : decode cX11_deedOf 104 = .ok (.lcmp, 1) := by decide +kernel
theorem dX11_deedOf_105 : decode cX11_deedOf 105 = .ok (.ifCond .ne 6, 3) := by decide +kernel
theorem dX11_deedOf_108 : decode cX11_deedOf 108 = .ok (.bipush 8, 2) := by decide +kernel
theorem dX11_deedOf_110 : decode cX11_deedOf 110 = .ok (.ireturn, 1) := by decide +kernel
theorem dX11_deedOf_111 : decode cX11_deedOf 111 = .ok (.lload_n 0, 1) := by decide +kernel
theorem dX11_deedOf_112 : decode cX11_deedOf 112 = .ok (.ldc 172, 2) := by decide +kernel
theorem dX11_deedOf_114 : decode cX11_deedOf 114 = .ok (.invokestatic 147, 3) := by decide +kernel
theorem dX11_deedOf_117 : decode cX11_deedOf 117 = .ok (.lcmp, 1) := by decide +kernel
theorem dX11_deedOf_118 : decode cX11_deedOf 118 = .ok (.ifCond .ne 6, 3) := by decide +kernel
theorem dX11_deedOf_121 : decode cX11_deedOf 121 = .ok (.bipush 9, 2) := by decide +kernel
theorem dX11_deedOf_123 : decode cX11_deedOf 123 = .ok (.ireturn, 1) := by decide +kernel
theorem dX11_deedOf_124 : decode cX11_deedOf 124 = .ok (.lload_n 0, 1) := by decide +kernel
theorem dX11_deedOf_125 : decode cX11_deedOf 125 = .ok (.ldc 174, 2) := by decide +kernel
theorem dX11_deedOf_127 : decode cX11_deedOf 127 = .ok (.invokestatic 147, 3) := by decide +kernel
theorem dX11_deedOf_130 : decode cX11_deedOf 130 = .ok (.lcmp, 1) := by decide +kernel
theorem dX11_deedOf_131 : decode cX11_deedOf 131 = .ok (.ifCond .ne 6, 3) := by decide +kernel
theorem dX11_deedOf_134 : decode cX11_deedOf 134 = .ok (.bipush 10, 2) := by decide +kernel
theorem dX11_deedOf_136 : decode cX11_deedOf 136 = .ok (.ireturn, 1) := by decide +kernel
theorem dX11_deedOf_137 : decode cX11_deedOf 137 = .ok (.lload_n 0, 1) := by decide +kernel
theorem dX11_deedOf_138 : decode cX11_deedOf 138 = .ok (.ldc 176, 2) := by decide +kernel
theorem dX11_deedOf_140 : decode cX11_deedOf 140 = .ok (.invokestatic 147, 3) := by decide +kernel
theorem dX11_deedOf_143 : decode cX11_deedOf 143 = .ok (.lcmp, 1) := by decide +kernel
theorem dX11_deedOf_144 : decode cX11_deedOf 144 = .ok (.ifCond .ne 6, 3) := by decide +kernel
theorem dX11_deedOf_147 : decode cX11_deedOf 147 = .ok (.bipush 11, 2) := by decide +kernel
theorem dX11_deedOf_149 : decode cX11_deedOf 149 = .ok (.ireturn, 1) := by decide +kernel
theorem dX11_deedOf_150 : decode cX11_deedOf 150 = .ok (.lload_n 0, 1) := by decide +kernel
theorem dX11_deedOf_151 : decode cX11_deedOf 151 = .ok (.ldc 178, 2) := by decide +kernel
theorem dX11_deedOf_153 : decode cX11_deedOf 153 = .ok (.invokestatic 147, 3) := by decide +kernel
theorem dX11_deedOf_156 : decode cX11_deedOf 156 = .ok (.lcmp, 1) := by decide +kernel
theorem dX11_deedOf_157 : decode cX11_deedOf 157 = .ok (.ifCond .ne 6, 3) := by decide +kernel
theorem dX11_deedOf_160 : decode cX11_deedOf 160 = .ok (.bipush 12, 2) := by decide +kernel
theorem dX11_deedOf_162 : decode cX11_deedOf 162 = .ok (.ireturn, 1) := by decide +kernel
theorem dX11_deedOf_163 : decode cX11_deedOf 163 = .ok (.lload_n 0, 1) := by decide +kernel
theorem dX11_deedOf_164 : decode cX11_deedOf 164 = .ok (.ldc 180, 2) := by decide +kernel
theorem dX11_deedOf_166 : decode cX11_deedOf 166 = .ok (.invokestatic 147, 3) := by decide +kernel
theorem dX11_deedOf_169 : decode cX11_deedOf 169 = .ok (.lcmp, 1) := by decide +kernel
theorem dX11_deedOf_170 : decode cX11_deedOf 170 = .ok (.ifCond .ne 6, 3) := by decide +kernel
theorem dX11_deedOf_173 : decode cX11_deedOf 173 = .ok (.bipush 13, 2) := by decide +kernel
theorem dX11_deedOf_175 : decode cX11_deedOf 175 = .ok (.ireturn, 1) := by decide +kernel
theorem dX11_deedOf_176 : decode cX11_deedOf 176 = .ok (.lload_n 0, 1) := by decide +kernel
theorem dX11_deedOf_177 : decode cX11_deedOf 177 = .ok (.ldc 182, 2) := by decide +kernel
theorem dX11_deedOf_179 : decode cX11_deedOf 179 = .ok (.invokestatic 147, 3) := by decide +kernel
theorem dX11_deedOf_182 : decode cX11_deedOf 182 = .ok (.lcmp, 1) := by decide +kernel
theorem dX11_deedOf_183 : decode cX11_deedOf 183 = .ok (.ifCond .ne 6, 3) := by decide +kernel
theorem dX11_deedOf_186 : decode cX11_deedOf 186 = .ok (.bipush 14, 2) := by decide +kernel
theorem dX11_deedOf_188 : decode cX11_deedOf 188 = .ok (.ireturn, 1) := by decide +kernel
theorem dX11_deedOf_189 : decode cX11_deedOf 189 = .ok (.lload_n 0, 1) := by decide +kernel
theorem dX11_deedOf_190 : decode cX11_deedOf 190 = .ok (.ldc 184, 2) := by decide +kernel
theorem dX11_deedOf_192 : decode cX11_deedOf 192 = .ok (.invokestatic 147, 3) := by decide +kernel
theorem dX11_deedOf_195 : decode cX11_deedOf 195 = .ok (.lcmp, 1) := by decide +kernel
theorem dX11_deedOf_196 : decode cX11_deedOf 196 = .ok (.ifCond .ne 6, 3) := by decide +kernel
theorem dX11_deedOf_199 : decode cX11_deedOf 199 = .ok (.bipush 16, 2) := by decide +kernel
theorem dX11_deedOf_201 : decode cX11_deedOf 201 = .ok (.ireturn, 1) := by decide +kernel
theorem dX11_deedOf_202 : decode cX11_deedOf 202 = .ok (.lload_n 0, 1) := by decide +kernel
theorem dX11_deedOf_203 : decode cX11_deedOf 203 = .ok (.ldc 186, 2) := by decide +kernel
theorem dX11_deedOf_205 : decode cX11_deedOf 205 = .ok (.invokestatic 147, 3) := by decide +kernel
theorem dX11_deedOf_208 : decode cX11_deedOf 208 = .ok (.lcmp, 1) := by decide +kernel
theorem dX11_deedOf_209 : decode cX11_deedOf 209 = .ok (.ifCond .ne 6, 3) := by decide +kernel
theorem dX11_deedOf_212 : decode cX11_deedOf 212 = .ok (.bipush 17, 2) := by decide +kernel
theorem dX11_deedOf_214 : decode cX11_deedOf 214 = .ok (.ireturn, 1) := by decide +kernel
theorem dX11_deedOf_215 : decode cX11_deedOf 215 = .ok (.lload_n 0, 1) := by decide +kernel
theorem dX11_deedOf_216 : decode cX11_deedOf 216 = .ok (.ldc 188, 2) := by decide +kernel
theorem dX11_deedOf_218 : decode cX11_deedOf 218 = .ok (.invokestatic 147, 3) := by decide +kernel
theorem dX11_deedOf_221 : decode cX11_deedOf 221 = .ok (.lcmp, 1) := by decide +kernel
theorem dX11_deedOf_222 : decode cX11_deedOf 222 = .ok (.ifCond .ne 6, 3) := by decide +kernel
theorem dX11_deedOf_225 : decode cX11_deedOf 225 = .ok (.bipush 18, 2) := by decide +kernel
theorem dX11_deedOf_227 : decode cX11_deedOf 227 = .ok (.ireturn, 1) := by decide +kernel
theorem dX11_deedOf_228 : decode cX11_deedOf 228 = .ok (.lload_n 0, 1) := by decide +kernel
theorem dX11_deedOf_229 : decode cX11_deedOf 229 = .ok (.ldc 190, 2) := by decide +kernel
theorem dX11_deedOf_231 : decode cX11_deedOf 231 = .ok (.invokestatic 147, 3) := by decide +kernel
theorem dX11_deedOf_234 : decode cX11_deedOf 234 = .ok (.lcmp, 1) := by decide +kernel
theorem dX11_deedOf_235 : decode cX11_deedOf 235 = .ok (.ifCond .ne 8, 3) := by decide +kernel
theorem dX11_deedOf_238 : decode cX11_deedOf 238 = .ok (.bipush 15, 2) := by decide +kernel
theorem dX11_deedOf_240 : decode cX11_deedOf 240 = .ok (.goto 4, 3) := by decide +kernel
theorem dX11_deedOf_243 : decode cX11_deedOf 243 = .ok (.iconst (-1), 1) := by decide +kernel
theorem dX11_deedOf_244 : decode cX11_deedOf 244 = .ok (.ireturn, 1) := by decide +kernel
theorem dX11_kindHere_0 : decode cX11_kindHere 0 = .ok (.aload_n 0, 1) := by decide +kernel
theorem dX11_kindHere_1 : decode cX11_kindHere 1 = .ok (.invokevirtual 100, 3) := by decide +kernel
theorem dX11_kindHere_4 : decode cX11_kindHere 4 = .ok (.ifCond .ne 5, 3) := by decide +kernel
theorem dX11_kindHere_7 : decode cX11_kindHere 7 = .ok (.iconst 0, 1) := by decide +kernel
theorem dX11_kindHere_8 : decode cX11_kindHere 8 = .ok (.ireturn, 1) := by decide +kernel
theorem dX11_kindHere_9 : decode cX11_kindHere 9 = .ok (.aload_n 0, 1) := by decide +kernel
theorem dX11_kindHere_10 : decode cX11_kindHere 10 = .ok (.invokevirtual 143, 3) := by decide +kernel
theorem dX11_kindHere_13 : decode cX11_kindHere 13 = .ok (.lstore_n 2, 1) := by decide +kernel
theorem dX11_kindHere_14 : decode cX11_kindHere 14 = .ok (.ldc 192, 2) := by decide +kernel
theorem dX11_kindHere_16 : decode cX11_kindHere 16 = .ok (.astore 4, 2) := by decide +kernel
theorem dX11_kindHere_18 : decode cX11_kindHere 18 = .ok (.iconst 0, 1) := by decide +kernel
theorem dX11_kindHere_19 : decode cX11_kindHere 19 = .ok (.istore 5, 2) := by decide +kernel
theorem dX11_kindHere_21 : decode cX11_kindHere 21 = .ok (.iload 5, 2) := by decide +kernel
theorem dX11_kindHere_23 : decode cX11_kindHere 23 = .ok (.iload_n 1, 1) := by decide +kernel
theorem dX11_kindHere_24 : decode cX11_kindHere 24 = .ok (.if_icmp .ge 43, 3) := by decide +kernel
theorem dX11_kindHere_27 : decode cX11_kindHere 27 = .ok (.lload_n 2, 1) := by decide +kernel
theorem dX11_kindHere_28 : decode cX11_kindHere 28 = .ok (.aload 4, 2) := by decide +kernel
theorem dX11_kindHere_30 : decode cX11_kindHere 30 = .ok (.iload 5, 2) := by decide +kernel
theorem dX11_kindHere_32 : decode cX11_kindHere 32 = .ok (.invokevirtual 139, 3) := by decide +kernel
theorem dX11_kindHere_35 : decode cX11_kindHere 35 = .ok (.bipush 97, 2) := by decide +kernel
theorem dX11_kindHere_37 : decode cX11_kindHere 37 = .ok (.isub, 1) := by decide +kernel
theorem dX11_kindHere_38 : decode cX11_kindHere 38 = .ok (.iconst 1, 1) := by decide +kernel
theorem dX11_kindHere_39 : decode cX11_kindHere 39 = .ok (.iadd, 1) := by decide +kernel
theorem dX11_kindHere_40 : decode cX11_kindHere 40 = .ok (.i2l, 1) := by decide +kernel
theorem dX11_kindHere_41 : decode cX11_kindHere 41 = .ok (.lcmp, 1) := by decide +kernel
theorem dX11_kindHere_42 : decode cX11_kindHere 42 = .ok (.ifCond .eq 6, 3) := by decide +kernel
theorem dX11_kindHere_45 : decode cX11_kindHere 45 = .ok (.goto 16, 3) := by decide +kernel
theorem dX11_kindHere_48 : decode cX11_kindHere 48 = .ok (.aload_n 0, 1) := by decide +kernel
theorem dX11_kindHere_49 : decode cX11_kindHere 49 = .ok (.dup, 1) := by decide +kernel
theorem dX11_kindHere_50 : decode cX11_kindHere 50 = .ok (.getfield 87, 3) := by decide +kernel
theorem dX11_kindHere_53 : decode cX11_kindHere 53 = .ok (.iconst 1, 1) := by decide +kernel
theorem dX11_kindHere_54 : decode cX11_kindHere 54 = .ok (.iadd, 1) := by decide +kernel
theorem dX11_kindHere_55 : decode cX11_kindHere 55 = .ok (.putfield 87, 3) := by decide +kernel
theorem dX11_kindHere_58 : decode cX11_kindHere 58 = .ok (.iload 5, 2) := by decide +kernel
theorem dX11_kindHere_60 : decode cX11_kindHere 60 = .ok (.ireturn, 1) := by decide +kernel
theorem dX11_kindHere_61 : decode cX11_kindHere 61 = .ok (.iinc 5 1, 3) := by decide +kernel
theorem dX11_kindHere_64 : decode cX11_kindHere 64 = .ok (.goto (-43), 3) := by decide +kernel
theorem dX11_kindHere_67 : decode cX11_kindHere 67 = .ok (.aload_n 0, 1) := by decide +kernel
theorem dX11_kindHere_68 : decode cX11_kindHere 68 = .ok (.iconst 1, 1) := by decide +kernel
theorem dX11_kindHere_69 : decode cX11_kindHere 69 = .ok (.aload_n 0, 1) := by decide +kernel
theorem dX11_kindHere_70 : decode cX11_kindHere 70 = .ok (.getfield 87, 3) := by decide +kernel
theorem dX11_kindHere_73 : decode cX11_kindHere 73 = .ok (.invokevirtual 112, 3) := by decide +kernel
theorem dX11_kindHere_76 : decode cX11_kindHere 76 = .ok (.iconst 0, 1) := by decide +kernel
theorem dX11_kindHere_77 : decode cX11_kindHere 77 = .ok (.ireturn, 1) := by decide +kernel
theorem dX11_rowHere_0 : decode cX11_rowHere 0 = .ok (.aload_n 0, 1) := by decide +kernel
theorem dX11_rowHere_1 : decode cX11_rowHere 1 = .ok (.iconst 0, 1) := by decide +kernel
theorem dX11_rowHere_2 : decode cX11_rowHere 2 = .ok (.bipush 9, 2) := by decide +kernel
theorem dX11_rowHere_4 : decode cX11_rowHere 4 = .ok (.invokevirtual 194, 3) := by decide +kernel
theorem dX11_rowHere_7 : decode cX11_rowHere 7 = .ok (.istore_n 1, 1) := by decide +kernel
theorem dX11_rowHere_8 : decode cX11_rowHere 8 = .ok (.aload_n 0, 1) := by decide +kernel
theorem dX11_rowHere_9 : decode cX11_rowHere 9 = .ok (.invokevirtual 100, 3) := by decide +kernel
theorem dX11_rowHere_12 : decode cX11_rowHere 12 = .ok (.ifCond .eq 12, 3) := by decide +kernel
theorem dX11_rowHere_15 : decode cX11_rowHere 15 = .ok (.aload_n 0, 1) := by decide +kernel
theorem dX11_rowHere_16 : decode cX11_rowHere 16 = .ok (.invokevirtual 104, 3) := by decide +kernel
theorem dX11_rowHere_19 : decode cX11_rowHere 19 = .ok (.bipush 46, 2) := by decide +kernel
theorem dX11_rowHere_21 : decode cX11_rowHere 21 = .ok (.if_icmp .eq 5, 3) := by decide +kernel
theorem dX11_rowHere_24 : decode cX11_rowHere 24 = .ok (.iload_n 1, 1) := by decide +kernel
theorem dX11_rowHere_25 : decode cX11_rowHere 25 = .ok (.ireturn, 1) := by decide +kernel
theorem dX11_rowHere_26 : decode cX11_rowHere 26 = .ok (.aload_n 0, 1) := by decide +kernel
theorem dX11_rowHere_27 : decode cX11_rowHere 27 = .ok (.dup, 1) := by decide +kernel
theorem dX11_rowHere_28 : decode cX11_rowHere 28 = .ok (.getfield 87, 3) := by decide +kernel
theorem dX11_rowHere_31 : decode cX11_rowHere 31 = .ok (.iconst 1, 1) := by decide +kernel
theorem dX11_rowHere_32 : decode cX11_rowHere 32 = .ok (.iadd, 1) := by decide +kernel
theorem dX11_rowHere_33 : decode cX11_rowHere 33 = .ok (.putfield 87, 3) := by decide +kernel
theorem dX11_rowHere_36 : decode cX11_rowHere 36 = .ok (.bipush 10, 2) := by decide +kernel
theorem dX11_rowHere_38 : decode cX11_rowHere 38 = .ok (.iconst 5, 1) := by decide +kernel
theorem dX11_rowHere_39 : decode cX11_rowHere 39 = .ok (.iload_n 1, 1) := by decide +kernel
theorem dX11_rowHere_40 : decode cX11_rowHere 40 = .ok (.imul, 1) := by decide +kernel
theorem dX11_rowHere_41 : decode cX11_rowHere 41 = .ok (.iadd, 1) := by decide +kernel
theorem dX11_rowHere_42 : decode cX11_rowHere 42 = .ok (.aload_n 0, 1) := by decide +kernel
theorem dX11_rowHere_43 : decode cX11_rowHere 43 = .ok (.iconst 0, 1) := by decide +kernel
theorem dX11_rowHere_44 : decode cX11_rowHere 44 = .ok (.iconst 4, 1) := by decide +kernel
theorem dX11_rowHere_45 : decode cX11_rowHere 45 = .ok (.invokevirtual 194, 3) := by decide +kernel
theorem dX11_rowHere_48 : decode cX11_rowHere 48 = .ok (.iadd, 1) := by decide +kernel
theorem dX11_rowHere_49 : decode cX11_rowHere 49 = .ok (.ireturn, 1) := by decide +kernel
theorem dX11_signed_0 : decode cX11_signed 0 = .ok (.aload_n 0, 1) := by decide +kernel
theorem dX11_signed_1 : decode cX11_signed 1 = .ok (.invokevirtual 100, 3) := by decide +kernel
theorem dX11_signed_4 : decode cX11_signed 4 = .ok (.ifCond .ne 5, 3) := by decide +kernel
theorem dX11_signed_7 : decode cX11_signed 7 = .ok (.iconst 0, 1) := by decide +kernel
theorem dX11_signed_8 : decode cX11_signed 8 = .ok (.ireturn, 1) := by decide +kernel
theorem dX11_signed_9 : decode cX11_signed 9 = .ok (.aload_n 0, 1) := by decide +kernel
theorem dX11_signed_10 : decode cX11_signed 10 = .ok (.invokevirtual 104, 3) := by decide +kernel
theorem dX11_signed_13 : decode cX11_signed 13 = .ok (.bipush 45, 2) := by decide +kernel
theorem dX11_signed_15 : decode cX11_signed 15 = .ok (.if_icmp .ne 7, 3) := by decide +kernel
theorem dX11_signed_18 : decode cX11_signed 18 = .ok (.iconst 1, 1) := by decide +kernel
theorem dX11_signed_19 : decode cX11_signed 19 = .ok (.goto 4, 3) := by decide +kernel
theorem dX11_signed_22 : decode cX11_signed 22 = .ok (.iconst 0, 1) := by decide +kernel
theorem dX11_signed_23 : decode cX11_signed 23 = .ok (.istore_n 1, 1) := by decide +kernel
theorem dX11_signed_24 : decode cX11_signed 24 = .ok (.iload_n 1, 1) := by decide +kernel
theorem dX11_signed_25 : decode cX11_signed 25 = .ok (.ifCond .eq 13, 3) := by decide +kernel
theorem dX11_signed_28 : decode cX11_signed 28 = .ok (.aload_n 0, 1) := by decide +kernel
theorem dX11_signed_29 : decode cX11_signed 29 = .ok (.dup, 1) := by decide +kernel
theorem dX11_signed_30 : decode cX11_signed 30 = .ok (.getfield 87, 3) := by decide +kernel
theorem dX11_signed_33 : decode cX11_signed 33 = .ok (.iconst 1, 1) := by decide +kernel
theorem dX11_signed_34 : decode cX11_signed 34 = .ok (.iadd, 1) := by decide +kernel
theorem dX11_signed_35 : decode cX11_signed 35 = .ok (.putfield 87, 3) := by decide +kernel
theorem dX11_signed_38 : decode cX11_signed 38 = .ok (.iconst 0, 1) := by decide +kernel
theorem dX11_signed_39 : decode cX11_signed 39 = .ok (.istore_n 2, 1) := by decide +kernel
theorem dX11_signed_40 : decode cX11_signed 40 = .ok (.aload_n 0, 1) := by decide +kernel
theorem dX11_signed_41 : decode cX11_signed 41 = .ok (.invokevirtual 104, 3) := by decide +kernel
theorem dX11_signed_44 : decode cX11_signed 44 = .ok (.invokestatic 108, 3) := by decide +kernel
theorem dX11_signed_47 : decode cX11_signed 47 = .ok (.ifCond .ne 12, 3) := by decide +kernel
theorem dX11_signed_50 : decode cX11_signed 50 = .ok (.aload_n 0, 1) := by decide +kernel
theorem dX11_signed_51 : decode cX11_signed 51 = .ok (.iconst 1, 1) := by decide +kernel
theorem dX11_signed_52 : decode cX11_signed 52 = .ok (.aload_n 0, 1) := by decide +kernel
theorem dX11_signed_53 : decode cX11_signed 53 = .ok (.getfield 87, 3) := by decide +kernel
theorem dX11_signed_56 : decode cX11_signed 56 = .ok (.invokevirtual 112, 3) := by decide +kernel
theorem dX11_signed_59 : decode cX11_signed 59 = .ok (.aload_n 0, 1) := by decide +kernel
theorem dX11_signed_60 : decode cX11_signed 60 = .ok (.getfield 87, 3) := by decide +kernel
theorem dX11_signed_63 : decode cX11_signed 63 = .ok (.istore_n 3, 1) := by decide +kernel
theorem dX11_signed_64 : decode cX11_signed 64 = .ok (.aload_n 0, 1) := by decide +kernel
theorem dX11_signed_65 : decode cX11_signed 65 = .ok (.aload_n 0, 1) := by decide +kernel
theorem dX11_signed_66 : decode cX11_signed 66 = .ok (.getfield 87, 3) := by decide +kernel
theorem dX11_signed_69 : decode cX11_signed 69 = .ok (.invokevirtual 90, 3) := by decide +kernel
theorem dX11_signed_72 : decode cX11_signed 72 = .ok (.invokestatic 108, 3) := by decide +kernel
theorem dX11_signed_75 : decode cX11_signed 75 = .ok (.ifCond .eq 38, 3) := by decide +kernel
theorem dX11_signed_78 : decode cX11_signed 78 = .ok (.ldc 116, 2) := by decide +kernel
theorem dX11_signed_80 : decode cX11_signed 80 = .ok (.bipush 10, 2) := by decide +kernel
theorem dX11_signed_82 : decode cX11_signed 82 = .ok (.iload_n 2, 1) := by decide +kernel
theorem dX11_signed_83 : decode cX11_signed 83 = .ok (.imul, 1) := by decide +kernel
theorem dX11_signed_84 : decode cX11_signed 84 = .ok (.aload_n 0, 1) := by decide +kernel
theorem dX11_signed_85 : decode cX11_signed 85 = .ok (.aload_n 0, 1) := by decide +kernel
theorem dX11_signed_86 : decode cX11_signed 86 = .ok (.getfield 87, 3) := by decide +kernel
theorem dX11_signed_89 : decode cX11_signed 89 = .ok (.invokevirtual 90, 3) := by decide +kernel
theorem dX11_signed_92 : decode cX11_signed 92 = .ok (.iadd, 1) := by decide +kernel
theorem dX11_signed_93 : decode cX11_signed 93 = .ok (.bipush 48, 2) := by decide +kernel
theorem dX11_signed_95 : decode cX11_signed 95 = .ok (.isub, 1) := by decide +kernel
theorem dX11_signed_96 : decode cX11_signed 96 = .ok (.invokestatic 117, 3) := by decide +kernel
theorem dX11_signed_99 : decode cX11_signed 99 = .ok (.istore_n 2, 1) := by decide +kernel
theorem dX11_signed_100 : decode cX11_signed 100 = .ok (.aload_n 0, 1) := by decide +kernel
theorem dX11_signed_101 : decode cX11_signed 101 = .ok (.dup, 1) := by decide +kernel
theorem dX11_signed_102 : decode cX11_signed 102 = .ok (.getfield 87, 3) := by decide +kernel
theorem dX11_signed_105 : decode cX11_signed 105 = .ok (.iconst 1, 1) := by decide +kernel
theorem dX11_signed_106 : decode cX11_signed 106 = .ok (.iadd, 1) := by decide +kernel
theorem dX11_signed_107 : decode cX11_signed 107 = .ok (.putfield 87, 3) := by decide +kernel
theorem dX11_signed_110 : decode cX11_signed 110 = .ok (.goto (-46), 3) := by decide +kernel
theorem dX11_signed_113 : decode cX11_signed 113 = .ok (.iload_n 2, 1) := by decide +kernel
theorem dX11_signed_114 : decode cX11_signed 114 = .ok (.ldc 196, 2) := by decide +kernel
theorem dX11_signed_116 : decode cX11_signed 116 = .ok (.if_icmp .le 9, 3) := by decide +kernel
theorem dX11_signed_119 : decode cX11_signed 119 = .ok (.aload_n 0, 1) := by decide +kernel
theorem dX11_signed_120 : decode cX11_signed 120 = .ok (.iconst 2, 1) := by decide +kernel
theorem dX11_signed_121 : decode cX11_signed 121 = .ok (.iload_n 3, 1) := by decide +kernel
theorem dX11_signed_122 : decode cX11_signed 122 = .ok (.invokevirtual 112, 3) := by decide +kernel
theorem dX11_signed_125 : decode cX11_signed 125 = .ok (.iload_n 1, 1) := by decide +kernel
theorem dX11_signed_126 : decode cX11_signed 126 = .ok (.ifCond .eq 8, 3) := by decide +kernel
theorem dX11_signed_129 : decode cX11_signed 129 = .ok (.iload_n 2, 1) := by decide +kernel
theorem dX11_signed_130 : decode cX11_signed 130 = .ok (.ineg, 1) := by decide +kernel
theorem dX11_signed_131 : decode cX11_signed 131 = .ok (.goto 4, 3) := by decide +kernel
theorem dX11_signed_134 : decode cX11_signed 134 = .ok (.iload_n 2, 1) := by decide +kernel
theorem dX11_signed_135 : decode cX11_signed 135 = .ok (.ireturn, 1) := by decide +kernel
theorem dX11_readsDeed_0 : decode cX11_readsDeed 0 = .ok (.aload_n 0, 1) := by decide +kernel
theorem dX11_readsDeed_1 : decode cX11_readsDeed 1 = .ok (.invokevirtual 143, 3) := by decide +kernel
theorem dX11_readsDeed_4 : decode cX11_readsDeed 4 = .ok (.lstore_n 2, 1) := by decide +kernel
theorem dX11_readsDeed_5 : decode cX11_readsDeed 5 = .ok (.aload_n 1, 1) := by decide +kernel
theorem dX11_readsDeed_6 : decode cX11_readsDeed 6 = .ok (.iconst 0, 1) := by decide +kernel
theorem dX11_readsDeed_7 : decode cX11_readsDeed 7 = .ok (.lload_n 2, 1) := by decide +kernel
theorem dX11_readsDeed_8 : decode cX11_readsDeed 8 = .ok (.invokestatic 197, 3) := by decide +kernel
theorem dX11_readsDeed_11 : decode cX11_readsDeed 11 = .ok (.iastore, 1) := by decide +kernel
theorem dX11_readsDeed_12 : decode cX11_readsDeed 12 = .ok (.aload_n 1, 1) := by decide +kernel
theorem dX11_readsDeed_13 : decode cX11_readsDeed 13 = .ok (.iconst 0, 1) := by decide +kernel
theorem dX11_readsDeed_14 : decode cX11_readsDeed 14 = .ok (.iaload, 1) := by decide +kernel
theorem dX11_readsDeed_15 : decode cX11_readsDeed 15 = .ok (.iconst (-1), 1) := by decide +kernel
theorem dX11_readsDeed_16 : decode cX11_readsDeed 16 = .ok (.if_icmp .ne 12, 3) := by decide +kernel
theorem dX11_readsDeed_19 : decode cX11_readsDeed 19 = .ok (.aload_n 0, 1) := by decide +kernel
theorem dX11_readsDeed_20 : decode cX11_readsDeed 20 = .ok (.iconst 1, 1) := by decide +kernel
theorem dX11_readsDeed_21 : decode cX11_readsDeed 21 = .ok (.aload_n 0, 1) := by decide +kernel
theorem dX11_readsDeed_22 : decode cX11_readsDeed 22 = .ok (.getfield 87, 3) := by decide +kernel
theorem dX11_readsDeed_25 : decode cX11_readsDeed 25 = .ok (.invokevirtual 112, 3) := by decide +kernel
theorem dX11_readsDeed_28 : decode cX11_readsDeed 28 = .ok (.aload_n 0, 1) := by decide +kernel
theorem dX11_readsDeed_29 : decode cX11_readsDeed 29 = .ok (.invokevirtual 100, 3) := by decide +kernel
theorem dX11_readsDeed_32 : decode cX11_readsDeed 32 = .ok (.ifCond .ne 4, 3) := by decide +kernel
theorem dX11_readsDeed_35 : decode cX11_readsDeed 35 = .ok (.return_, 1) := by decide +kernel
theorem dX11_readsDeed_36 : decode cX11_readsDeed 36 = .ok (.aload_n 0, 1) := by decide +kernel
theorem dX11_readsDeed_37 : decode cX11_readsDeed 37 = .ok (.invokevirtual 151, 3) := by decide +kernel
theorem dX11_readsDeed_40 : decode cX11_readsDeed 40 = .ok (.aload_n 1, 1) := by decide +kernel
theorem dX11_readsDeed_41 : decode cX11_readsDeed 41 = .ok (.iconst 0, 1) := by decide +kernel
theorem dX11_readsDeed_42 : decode cX11_readsDeed 42 = .ok (.iaload, 1) := by decide +kernel
theorem dX11_readsDeed_43 : decode cX11_readsDeed 43 = .ok (.tableswitch 312 0 18 #[89, 312, 312, 102, 102, 312, 312, 115, 134, 312, 142, 142, 186, 186, 206, 206, 280, 258, 258], 89) := by decide +kernel
theorem dX11_readsDeed_132 : decode cX11_readsDeed 132 = .ok (.aload_n 1, 1) := by decide +kernel
theorem dX11_readsDeed_133 : decode cX11_readsDeed 133 = .ok (.iconst 1, 1) := by decide +kernel
theorem dX11_readsDeed_134 : decode cX11_readsDeed 134 = .ok (.aload_n 0, 1) := by decide +kernel
theorem dX11_readsDeed_135 : decode cX11_readsDeed 135 = .ok (.iconst 0, 1) := by decide +kernel
theorem dX11_readsDeed_136 : decode cX11_readsDeed 136 = .ok (.bipush 11, 2) := by decide +kernel
theorem dX11_readsDeed_138 : decode cX11_readsDeed 138 = .ok (.invokevirtual 194, 3) := by decide +kernel
theorem dX11_readsDeed_141 : decode cX11_readsDeed 141 = .ok (.iastore, 1) := by decide +kernel
theorem dX11_readsDeed_142 : decode cX11_readsDeed 142 = .ok (.goto 213, 3) := by decide +kernel
theorem dX11_readsDeed_145 : decode cX11_readsDeed 145 = .ok (.aload_n 1, 1) := by decide +kernel
theorem dX11_readsDeed_146 : decode cX11_readsDeed 146 = .ok (.iconst 1, 1) := by decide +kernel
theorem dX11_readsDeed_147 : decode cX11_readsDeed 147 = .ok (.aload_n 0, 1) := by decide +kernel
theorem dX11_readsDeed_148 : decode cX11_readsDeed 148 = .ok (.iconst 0, 1) := by decide +kernel
theorem dX11_readsDeed_149 : decode cX11_readsDeed 149 = .ok (.bipush 99, 2) := by decide +kernel
theorem dX11_readsDeed_151 : decode cX11_readsDeed 151 = .ok (.invokevirtual 194, 3) := by decide +kernel
theorem dX11_readsDeed_154 : decode cX11_readsDeed 154 = .ok (.iastore, 1) := by decide +kernel
theorem dX11_readsDeed_155 : decode cX11_readsDeed 155 = .ok (.goto 200, 3) := by decide +kernel
theorem dX11_readsDeed_158 : decode cX11_readsDeed 158 = .ok (.aload_n 1, 1) := by decide +kernel
theorem dX11_readsDeed_159 : decode cX11_readsDeed 159 = .ok (.iconst 1, 1) := by decide +kernel
theorem dX11_readsDeed_160 : decode cX11_readsDeed 160 = .ok (.aload_n 0, 1) := by decide +kernel
theorem dX11_readsDeed_161 : decode cX11_readsDeed 161 = .ok (.bipush 8, 2) := by decide +kernel
theorem dX11_readsDeed_163 : decode cX11_readsDeed 163 = .ok (.invokevirtual 201, 3) := by decide +kernel
theorem dX11_readsDeed_166 : decode cX11_readsDeed 166 = .ok (.iastore, 1) := by decide +kernel
theorem dX11_readsDeed_167 : decode cX11_readsDeed 167 = .ok (.aload_n 1, 1) := by decide +kernel
theorem dX11_readsDeed_168 : decode cX11_readsDeed 168 = .ok (.iconst 2, 1) := by decide +kernel
theorem dX11_readsDeed_169 : decode cX11_readsDeed 169 = .ok (.aload_n 0, 1) := by decide +kernel
theorem dX11_readsDeed_170 : decode cX11_readsDeed 170 = .ok (.invokevirtual 204, 3) := by decide +kernel
theorem dX11_readsDeed_173 : decode cX11_readsDeed 173 = .ok (.iastore, 1) := by decide +kernel
theorem dX11_readsDeed_174 : decode cX11_readsDeed 174 = .ok (.goto 181, 3) := by decide +kernel
theorem dX11_readsDeed_177 : decode cX11_readsDeed 177 = .ok (.aload_n 0, 1) := by decide +kernel
theorem dX11_readsDeed_178 : decode cX11_readsDeed 178 = .ok (.aload_n 1, 1) := by decide +kernel
theorem dX11_readsDeed_179 : decode cX11_readsDeed 179 = .ok (.invokevirtual 207, 3) := by decide +kernel
theorem dX11_readsDeed_182 : decode cX11_readsDeed 182 = .ok (.goto 173, 3) := by decide +kernel
theorem dX11_readsDeed_185 : decode cX11_readsDeed 185 = .ok (.aload_n 1, 1) := by decide +kernel
theorem dX11_readsDeed_186 : decode cX11_readsDeed 186 = .ok (.iconst 1, 1) := by decide +kernel
theorem dX11_readsDeed_187 : decode cX11_readsDeed 187 = .ok (.aload_n 0, 1) := by decide +kernel
theorem dX11_readsDeed_188 : decode cX11_readsDeed 188 = .ok (.bipush 8, 2) := by decide +kernel
theorem dX11_readsDeed_190 : decode cX11_readsDeed 190 = .ok (.invokevirtual 201, 3) := by decide +kernel
theorem dX11_readsDeed_193 : decode cX11_readsDeed 193 = .ok (.iastore, 1) := by decide +kernel
theorem dX11_readsDeed_194 : decode cX11_readsDeed 194 = .ok (.aload_n 1, 1) := by decide +kernel
theorem dX11_readsDeed_195 : decode cX11_readsDeed 195 = .ok (.iconst 2, 1) := by decide +kernel
theorem dX11_readsDeed_196 : decode cX11_readsDeed 196 = .ok (.aload_n 0, 1) := by decide +kernel
theorem dX11_readsDeed_197 : decode cX11_readsDeed 197 = .ok (.invokevirtual 211, 3) := by decide +kernel
theorem dX11_readsDeed_200 : decode cX11_readsDeed 200 = .ok (.iastore, 1) := by decide +kernel
theorem dX11_readsDeed_201 : decode cX11_readsDeed 201 = .ok (.aload_n 1, 1) := by decide +kernel
theorem dX11_readsDeed_202 : decode cX11_readsDeed 202 = .ok (.iconst 3, 1) := by decide +kernel
theorem dX11_readsDeed_203 : decode cX11_readsDeed 203 = .ok (.aload_n 0, 1) := by decide +kernel
theorem dX11_readsDeed_204 : decode cX11_readsDeed 204 = .ok (.iconst 0, 1) := by decide +kernel
theorem dX11_readsDeed_205 : decode cX11_readsDeed 205 = .ok (.bipush 9, 2) := by decide +kernel
theorem dX11_readsDeed_207 : decode cX11_readsDeed 207 = .ok (.invokevirtual 194, 3) := by decide +kernel
theorem dX11_readsDeed_210 : decode cX11_readsDeed 210 = .ok (.iastore, 1) := by decide +kernel
theorem dX11_readsDeed_211 : decode cX11_readsDeed 211 = .ok (.aload_n 1, 1) := by decide +kernel
theorem dX11_readsDeed_212 : decode cX11_readsDeed 212 = .ok (.iconst 0, 1) := by decide +kernel
theorem dX11_readsDeed_213 : decode cX11_readsDeed 213 = .ok (.iaload, 1) := by decide +kernel
theorem dX11_readsDeed_214 : decode cX11_readsDeed 214 = .ok (.bipush 11, 2) := by decide +kernel
theorem dX11_readsDeed_216 : decode cX11_readsDeed 216 = .ok (.if_icmp .ne 139, 3) := by decide +kernel
theorem dX11_readsDeed_219 : decode cX11_readsDeed 219 = .ok (.aload_n 1, 1) := by decide +kernel
theorem dX11_readsDeed_220 : decode cX11_readsDeed 220 = .ok (.iconst 4, 1) := by decide +kernel
theorem dX11_readsDeed_221 : decode cX11_readsDeed 221 = .ok (.aload_n 0, 1) := by decide +kernel
theorem dX11_readsDeed_222 : decode cX11_readsDeed 222 = .ok (.invokevirtual 204, 3) := by decide +kernel
theorem dX11_readsDeed_225 : decode cX11_readsDeed 225 = .ok (.iastore, 1) := by decide +kernel
theorem dX11_readsDeed_226 : decode cX11_readsDeed 226 = .ok (.goto 129, 3) := by decide +kernel
theorem dX11_readsDeed_229 : decode cX11_readsDeed 229 = .ok (.aload_n 1, 1) := by decide +kernel
theorem dX11_readsDeed_230 : decode cX11_readsDeed 230 = .ok (.iconst 2, 1) := by decide +kernel
theorem dX11_readsDeed_231 : decode cX11_readsDeed 231 = .ok (.aload_n 0, 1) := by decide +kernel
theorem dX11_readsDeed_232 : decode cX11_readsDeed 232 = .ok (.invokevirtual 211, 3) := by decide +kernel
theorem dX11_readsDeed_235 : decode cX11_readsDeed 235 = .ok (.iastore, 1) := by decide +kernel
theorem dX11_readsDeed_236 : decode cX11_readsDeed 236 = .ok (.aload_n 1, 1) := by decide +kernel
theorem dX11_readsDeed_237 : decode cX11_readsDeed 237 = .ok (.iconst 3, 1) := by decide +kernel
theorem dX11_readsDeed_238 : decode cX11_readsDeed 238 = .ok (.aload_n 0, 1) := by decide +kernel
theorem dX11_readsDeed_239 : decode cX11_readsDeed 239 = .ok (.iconst 0, 1) := by decide +kernel
theorem dX11_readsDeed_240 : decode cX11_readsDeed 240 = .ok (.bipush 9, 2) := by decide +kernel
theorem dX11_readsDeed_242 : decode cX11_readsDeed 242 = .ok (.invokevirtual 194, 3) := by decide +kernel
theorem dX11_readsDeed_245 : decode cX11_readsDeed 245 = .ok (.iastore, 1) := by decide +kernel
theorem dX11_readsDeed_246 : decode cX11_readsDeed 246 = .ok (.goto 109, 3) := by decide +kernel
theorem dX11_readsDeed_249 : decode cX11_readsDeed 249 = .ok (.aload_n 1, 1) := by decide +kernel
theorem dX11_readsDeed_250 : decode cX11_readsDeed 250 = .ok (.iconst 2, 1) := by decide +kernel
theorem dX11_readsDeed_251 : decode cX11_readsDeed 251 = .ok (.aload_n 0, 1) := by decide +kernel
theorem dX11_readsDeed_252 : decode cX11_readsDeed 252 = .ok (.iconst 0, 1) := by decide +kernel
theorem dX11_readsDeed_253 : decode cX11_readsDeed 253 = .ok (.bipush 9, 2) := by decide +kernel
theorem dX11_readsDeed_255 : decode cX11_readsDeed 255 = .ok (.invokevirtual 194, 3) := by decide +kernel
theorem dX11_readsDeed_258 : decode cX11_readsDeed 258 = .ok (.iastore, 1) := by decide +kernel
theorem dX11_readsDeed_259 : decode cX11_readsDeed 259 = .ok (.aload_n 1, 1) := by decide +kernel
theorem dX11_readsDeed_260 : decode cX11_readsDeed 260 = .ok (.iconst 3, 1) := by decide +kernel
theorem dX11_readsDeed_261 : decode cX11_readsDeed 261 = .ok (.aload_n 0, 1) := by decide +kernel
theorem dX11_readsDeed_262 : decode cX11_readsDeed 262 = .ok (.iconst 0, 1) := by decide +kernel
theorem dX11_readsDeed_263 : decode cX11_readsDeed 263 = .ok (.iconst 4, 1) := by decide +kernel
theorem dX11_readsDeed_264 : decode cX11_readsDeed 264 = .ok (.invokevirtual 194, 3) := by decide +kernel
theorem dX11_readsDeed_267 : decode cX11_readsDeed 267 = .ok (.iastore, 1) := by decide +kernel
theorem dX11_readsDeed_268 : decode cX11_readsDeed 268 = .ok (.aload_n 1, 1) := by decide +kernel
theorem dX11_readsDeed_269 : decode cX11_readsDeed 269 = .ok (.iconst 0, 1) := by decide +kernel
theorem dX11_readsDeed_270 : decode cX11_readsDeed 270 = .ok (.iaload, 1) := by decide +kernel
theorem dX11_readsDeed_271 : decode cX11_readsDeed 271 = .ok (.bipush 15, 2) := by decide +kernel
theorem dX11_readsDeed_273 : decode cX11_readsDeed 273 = .ok (.if_icmp .ne 6, 3) := by decide +kernel
theorem dX11_readsDeed_276 : decode cX11_readsDeed 276 = .ok (.goto 79, 3) := by decide +kernel
theorem dX11_readsDeed_279 : decode cX11_readsDeed 279 = .ok (.aload_n 1, 1) := by decide +kernel
theorem dX11_readsDeed_280 : decode cX11_readsDeed 280 = .ok (.iconst 1, 1) := by decide +kernel
theorem dX11_readsDeed_281 : decode cX11_readsDeed 281 = .ok (.aload_n 0, 1) := by decide +kernel
theorem dX11_readsDeed_282 : decode cX11_readsDeed 282 = .ok (.bipush 11, 2) := by decide +kernel
theorem dX11_readsDeed_284 : decode cX11_readsDeed 284 = .ok (.invokevirtual 201, 3) := by decide +kernel
theorem dX11_readsDeed_287 : decode cX11_readsDeed 287 = .ok (.iastore, 1) := by decide +kernel
theorem dX11_readsDeed_288 : decode cX11_readsDeed 288 = .ok (.aload_n 1, 1) := by decide +kernel
theorem dX11_readsDeed_289 : decode cX11_readsDeed 289 = .ok (.iconst 4, 1) := by decide +kernel
theorem dX11_readsDeed_290 : decode cX11_readsDeed 290 = .ok (.aload_n 0, 1) := by decide +kernel
theorem dX11_readsDeed_291 : decode cX11_readsDeed 291 = .ok (.iconst 0, 1) := by decide +kernel
theorem dX11_readsDeed_292 : decode cX11_readsDeed 292 = .ok (.bipush 9, 2) := by decide +kernel
theorem dX11_readsDeed_294 : decode cX11_readsDeed 294 = .ok (.invokevirtual 194, 3) := by decide +kernel
theorem dX11_readsDeed_297 : decode cX11_readsDeed 297 = .ok (.iastore, 1) := by decide +kernel
theorem dX11_readsDeed_298 : decode cX11_readsDeed 298 = .ok (.goto 57, 3) := by decide +kernel
theorem dX11_readsDeed_301 : decode cX11_readsDeed 301 = .ok (.aload_n 1, 1) := by decide +kernel
theorem dX11_readsDeed_302 : decode cX11_readsDeed 302 = .ok (.iconst 2, 1) := by decide +kernel
theorem dX11_readsDeed_303 : decode cX11_readsDeed 303 = .ok (.aload_n 0, 1) := by decide +kernel
theorem dX11_readsDeed_304 : decode cX11_readsDeed 304 = .ok (.iconst 0, 1) := by decide +kernel
theorem dX11_readsDeed_305 : decode cX11_readsDeed 305 = .ok (.bipush 9, 2) := by decide +kernel
theorem dX11_readsDeed_307 : decode cX11_readsDeed 307 = .ok (.invokevirtual 194, 3) := by decide +kernel
theorem dX11_readsDeed_310 : decode cX11_readsDeed 310 = .ok (.iastore, 1) := by decide +kernel
theorem dX11_readsDeed_311 : decode cX11_readsDeed 311 = .ok (.aload_n 1, 1) := by decide +kernel
theorem dX11_readsDeed_312 : decode cX11_readsDeed 312 = .ok (.iconst 3, 1) := by decide +kernel
theorem dX11_readsDeed_313 : decode cX11_readsDeed 313 = .ok (.aload_n 0, 1) := by decide +kernel
theorem dX11_readsDeed_314 : decode cX11_readsDeed 314 = .ok (.iconst 0, 1) := by decide +kernel
theorem dX11_readsDeed_315 : decode cX11_readsDeed 315 = .ok (.iconst 4, 1) := by decide +kernel
theorem dX11_readsDeed_316 : decode cX11_readsDeed 316 = .ok (.invokevirtual 194, 3) := by decide +kernel
theorem dX11_readsDeed_319 : decode cX11_readsDeed 319 = .ok (.iastore, 1) := by decide +kernel
theorem dX11_readsDeed_320 : decode cX11_readsDeed 320 = .ok (.goto 35, 3) := by decide +kernel
theorem dX11_readsDeed_323 : decode cX11_readsDeed 323 = .ok (.aload_n 1, 1) := by decide +kernel
theorem dX11_readsDeed_324 : decode cX11_readsDeed 324 = .ok (.iconst 2, 1) := by decide +kernel
theorem dX11_readsDeed_325 : decode cX11_readsDeed 325 = .ok (.aload_n 0, 1) := by decide +kernel
theorem dX11_readsDeed_326 : decode cX11_readsDeed 326 = .ok (.iconst 0, 1) := by decide +kernel
theorem dX11_readsDeed_327 : decode cX11_readsDeed 327 = .ok (.bipush 9, 2) := by decide +kernel
theorem dX11_readsDeed_329 : decode cX11_readsDeed 329 = .ok (.invokevirtual 194, 3) := by decide +kernel
theorem dX11_readsDeed_332 : decode cX11_readsDeed 332 = .ok (.iastore, 1) := by decide +kernel
theorem dX11_readsDeed_333 : decode cX11_readsDeed 333 = .ok (.aload_n 1, 1) := by decide +kernel
theorem dX11_readsDeed_334 : decode cX11_readsDeed 334 = .ok (.iconst 1, 1) := by decide +kernel
theorem dX11_readsDeed_335 : decode cX11_readsDeed 335 = .ok (.aload_n 0, 1) := by decide +kernel
theorem dX11_readsDeed_336 : decode cX11_readsDeed 336 = .ok (.bipush 11, 2) := by decide +kernel
theorem dX11_readsDeed_338 : decode cX11_readsDeed 338 = .ok (.invokevirtual 201, 3) := by decide +kernel
theorem dX11_readsDeed_341 : decode cX11_readsDeed 341 = .ok (.iastore, 1) := by decide +kernel
theorem dX11_readsDeed_342 : decode cX11_readsDeed 342 = .ok (.aload_n 1, 1) := by decide +kernel
theorem dX11_readsDeed_343 : decode cX11_readsDeed 343 = .ok (.iconst 4, 1) := by decide +kernel
theorem dX11_readsDeed_344 : decode cX11_readsDeed 344 = .ok (.aload_n 0, 1) := by decide +kernel
theorem dX11_readsDeed_345 : decode cX11_readsDeed 345 = .ok (.iconst 0, 1) := by decide +kernel
theorem dX11_readsDeed_346 : decode cX11_readsDeed 346 = .ok (.bipush 9, 2) := by decide +kernel
theorem dX11_readsDeed_348 : decode cX11_readsDeed 348 = .ok (.invokevirtual 194, 3) := by decide +kernel
theorem dX11_readsDeed_351 : decode cX11_readsDeed 351 = .ok (.iastore, 1) := by decide +kernel
theorem dX11_readsDeed_352 : decode cX11_readsDeed 352 = .ok (.goto 3, 3) := by decide +kernel
theorem dX11_readsDeed_355 : decode cX11_readsDeed 355 = .ok (.return_, 1) := by decide +kernel
