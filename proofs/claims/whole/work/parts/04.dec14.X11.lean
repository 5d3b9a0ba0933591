theorem dX11_puts_226 : decode cX11_puts 226 = .ok (.iload_n 1, 1) := by decide +kernel
theorem dX11_puts_227 : decode cX11_puts 227 = .ok (.lload_n 2, 1) := by decide +kernel
theorem dX11_puts_228 : decode cX11_puts 228 = .ok (.aload_n 0, 1) := by decide +kernel
theorem dX11_puts_229 : decode cX11_puts 229 = .ok (.getfield 42, 3) := by decide +kernel
theorem dX11_puts_232 : decode cX11_puts 232 = .ok (.iload 4, 2) := by decide +kernel
theorem dX11_puts_234 : decode cX11_puts 234 = .ok (.iaload, 1) := by decide +kernel
theorem dX11_puts_235 : decode cX11_puts 235 = .ok (.invokestatic 296, 3) := by decide +kernel
theorem dX11_puts_238 : decode cX11_puts 238 = .ok (.goto 4, 3) := by decide +kernel
theorem dX11_puts_241 : decode cX11_puts 241 = .ok (.lload_n 2, 1) := by decide +kernel
theorem dX11_puts_242 : decode cX11_puts 242 = .ok (.lastore, 1) := by decide +kernel
theorem dX11_puts_243 : decode cX11_puts 243 = .ok (.iconst 0, 1) := by decide +kernel
theorem dX11_puts_244 : decode cX11_puts 244 = .ok (.ireturn, 1) := by decide +kernel
theorem dX11_deedsOf_0 : decode cX11_deedsOf 0 = .ok (.aload_n 0, 1) := by decide +kernel
theorem dX11_deedsOf_1 : decode cX11_deedsOf 1 = .ok (.getfield 20, 3) := by decide +kernel
theorem dX11_deedsOf_4 : decode cX11_deedsOf 4 = .ok (.aload_n 0, 1) := by decide +kernel
theorem dX11_deedsOf_5 : decode cX11_deedsOf 5 = .ok (.iload_n 1, 1) := by decide +kernel
theorem dX11_deedsOf_6 : decode cX11_deedsOf 6 = .ok (.iload_n 2, 1) := by decide +kernel
theorem dX11_deedsOf_7 : decode cX11_deedsOf 7 = .ok (.invokevirtual 308, 3) := by decide +kernel
theorem dX11_deedsOf_10 : decode cX11_deedsOf 10 = .ok (.iaload, 1) := by decide +kernel
theorem dX11_deedsOf_11 : decode cX11_deedsOf 11 = .ok (.ireturn, 1) := by decide +kernel
theorem dX11_codeIn_0 : decode cX11_codeIn 0 = .ok (.aload_n 0, 1) := by decide +kernel
theorem dX11_codeIn_1 : decode cX11_codeIn 1 = .ok (.getfield 63, 3) := by decide +kernel
theorem dX11_codeIn_4 : decode cX11_codeIn 4 = .ok (.iload_n 1, 1) := by decide +kernel
theorem dX11_codeIn_5 : decode cX11_codeIn 5 = .ok (.aaload, 1) := by decide +kernel
theorem dX11_codeIn_6 : decode cX11_codeIn 6 = .ok (.iload_n 2, 1) := by decide +kernel
theorem dX11_codeIn_7 : decode cX11_codeIn 7 = .ok (.aaload, 1) := by decide +kernel
theorem dX11_codeIn_8 : decode cX11_codeIn 8 = .ok (.astore_n 3, 1) := by decide +kernel
theorem dX11_codeIn_9 : decode cX11_codeIn 9 = .ok (.aload_n 3, 1) := by decide +kernel
theorem dX11_codeIn_10 : decode cX11_codeIn 10 = .ok (.iconst 1, 1) := by decide +kernel
theorem dX11_codeIn_11 : decode cX11_codeIn 11 = .ok (.iaload, 1) := by decide +kernel
theorem dX11_codeIn_12 : decode cX11_codeIn 12 = .ok (.iconst (-1), 1) := by decide +kernel
theorem dX11_codeIn_13 : decode cX11_codeIn 13 = .ok (.if_icmp .ne 9, 3) := by decide +kernel
theorem dX11_codeIn_16 : decode cX11_codeIn 16 = .ok (.aload_n 3, 1) := by decide +kernel
theorem dX11_codeIn_17 : decode cX11_codeIn 17 = .ok (.iconst 0, 1) := by decide +kernel
theorem dX11_codeIn_18 : decode cX11_codeIn 18 = .ok (.iaload, 1) := by decide +kernel
theorem dX11_codeIn_19 : decode cX11_codeIn 19 = .ok (.goto 15, 3) := by decide +kernel
theorem dX11_codeIn_22 : decode cX11_codeIn 22 = .ok (.aload_n 0, 1) := by decide +kernel
theorem dX11_codeIn_23 : decode cX11_codeIn 23 = .ok (.getfield 39, 3) := by decide +kernel
theorem dX11_codeIn_26 : decode cX11_codeIn 26 = .ok (.aload_n 3, 1) := by decide +kernel
theorem dX11_codeIn_27 : decode cX11_codeIn 27 = .ok (.iconst 1, 1) := by decide +kernel
theorem dX11_codeIn_28 : decode cX11_codeIn 28 = .ok (.iaload, 1) := by decide +kernel
theorem dX11_codeIn_29 : decode cX11_codeIn 29 = .ok (.aaload, 1) := by decide +kernel
theorem dX11_codeIn_30 : decode cX11_codeIn 30 = .ok (.aload_n 3, 1) := by decide +kernel
theorem dX11_codeIn_31 : decode cX11_codeIn 31 = .ok (.iconst 0, 1) := by decide +kernel
theorem dX11_codeIn_32 : decode cX11_codeIn 32 = .ok (.iaload, 1) := by decide +kernel
theorem dX11_codeIn_33 : decode cX11_codeIn 33 = .ok (.iaload, 1) := by decide +kernel
theorem dX11_codeIn_34 : decode cX11_codeIn 34 = .ok (.ireturn, 1) := by decide +kernel
theorem dX11_isLeft_0 : decode cX11_isLeft 0 = .ok (.aload_n 0, 1) := by decide +kernel
theorem dX11_isLeft_1 : decode cX11_isLeft 1 = .ok (.getfield 69, 3) := by decide +kernel
theorem dX11_isLeft_4 : decode cX11_isLeft 4 = .ok (.iconst 1, 1) := by decide +kernel
theorem dX11_isLeft_5 : decode cX11_isLeft 5 = .ok (.iaload, 1) := by decide +kernel
theorem dX11_isLeft_6 : decode cX11_isLeft 6 = .ok (.iload_n 2, 1) := by decide +kernel
theorem dX11_isLeft_7 : decode cX11_isLeft 7 = .ok (.if_icmp .ne 18, 3) := by decide +kernel
theorem dX11_isLeft_10 : decode cX11_isLeft 10 = .ok (.aload_n 0, 1) := by decide +kernel
theorem dX11_isLeft_11 : decode cX11_isLeft 11 = .ok (.getfield 56, 3) := by decide +kernel
theorem dX11_isLeft_14 : decode cX11_isLeft 14 = .ok (.iload_n 1, 1) := by decide +kernel
theorem dX11_isLeft_15 : decode cX11_isLeft 15 = .ok (.aaload, 1) := by decide +kernel
theorem dX11_isLeft_16 : decode cX11_isLeft 16 = .ok (.iconst 4, 1) := by decide +kernel
theorem dX11_isLeft_17 : decode cX11_isLeft 17 = .ok (.iaload, 1) := by decide +kernel
theorem dX11_isLeft_18 : decode cX11_isLeft 18 = .ok (.ifCond .ne 7, 3) := by decide +kernel
theorem dX11_isLeft_21 : decode cX11_isLeft 21 = .ok (.iconst 1, 1) := by decide +kernel
theorem dX11_isLeft_22 : decode cX11_isLeft 22 = .ok (.goto 4, 3) := by decide +kernel
theorem dX11_isLeft_25 : decode cX11_isLeft 25 = .ok (.iconst 0, 1) := by decide +kernel
theorem dX11_isLeft_26 : decode cX11_isLeft 26 = .ok (.ireturn, 1) := by decide +kernel
theorem dX11_callsBy_0 : decode cX11_callsBy 0 = .ok (.aload_n 0, 1) := by decide +kernel
theorem dX11_callsBy_1 : decode cX11_callsBy 1 = .ok (.getfield 69, 3) := by decide +kernel
theorem dX11_callsBy_4 : decode cX11_callsBy 4 = .ok (.iconst 0, 1) := by decide +kernel
theorem dX11_callsBy_5 : decode cX11_callsBy 5 = .ok (.iaload, 1) := by decide +kernel
theorem dX11_callsBy_6 : decode cX11_callsBy 6 = .ok (.iconst 1, 1) := by decide +kernel
theorem dX11_callsBy_7 : decode cX11_callsBy 7 = .ok (.isub, 1) := by decide +kernel
theorem dX11_callsBy_8 : decode cX11_callsBy 8 = .ok (.istore_n 3, 1) := by decide +kernel
theorem dX11_callsBy_9 : decode cX11_callsBy 9 = .ok (.iload_n 3, 1) := by decide +kernel
theorem dX11_callsBy_10 : decode cX11_callsBy 10 = .ok (.ifCond .lt 48, 3) := by decide +kernel
theorem dX11_callsBy_13 : decode cX11_callsBy 13 = .ok (.aload_n 0, 1) := by decide +kernel
theorem dX11_callsBy_14 : decode cX11_callsBy 14 = .ok (.getfield 28, 3) := by decide +kernel
theorem dX11_callsBy_17 : decode cX11_callsBy 17 = .ok (.aload_n 0, 1) := by decide +kernel
theorem dX11_callsBy_18 : decode cX11_callsBy 18 = .ok (.getfield 66, 3) := by decide +kernel
theorem dX11_callsBy_21 : decode cX11_callsBy 21 = .ok (.iload_n 3, 1) := by decide +kernel
theorem dX11_callsBy_22 : decode cX11_callsBy 22 = .ok (.iaload, 1) := by decide +kernel
theorem dX11_callsBy_23 : decode cX11_callsBy 23 = .ok (.iaload, 1) := by decide +kernel
theorem dX11_callsBy_24 : decode cX11_callsBy 24 = .ok (.iload_n 2, 1) := by decide +kernel
theorem dX11_callsBy_25 : decode cX11_callsBy 25 = .ok (.invokestatic 248, 3) := by decide +kernel
theorem dX11_callsBy_28 : decode cX11_callsBy 28 = .ok (.ifCond .eq 24, 3) := by decide +kernel
theorem dX11_callsBy_31 : decode cX11_callsBy 31 = .ok (.aload_n 0, 1) := by decide +kernel
theorem dX11_callsBy_32 : decode cX11_callsBy 32 = .ok (.iload_n 1, 1) := by decide +kernel
theorem dX11_callsBy_33 : decode cX11_callsBy 33 = .ok (.aload_n 0, 1) := by decide +kernel
theorem dX11_callsBy_34 : decode cX11_callsBy 34 = .ok (.getfield 66, 3) := by decide +kernel
theorem dX11_callsBy_37 : decode cX11_callsBy 37 = .ok (.iload_n 3, 1) := by decide +kernel
theorem dX11_callsBy_38 : decode cX11_callsBy 38 = .ok (.iaload, 1) := by decide +kernel
theorem dX11_callsBy_39 : decode cX11_callsBy 39 = .ok (.invokevirtual 311, 3) := by decide +kernel
theorem dX11_callsBy_42 : decode cX11_callsBy 42 = .ok (.ifCond .ne 10, 3) := by decide +kernel
theorem dX11_callsBy_45 : decode cX11_callsBy 45 = .ok (.aload_n 0, 1) := by decide +kernel
theorem dX11_callsBy_46 : decode cX11_callsBy 46 = .ok (.getfield 66, 3) := by decide +kernel
theorem dX11_callsBy_49 : decode cX11_callsBy 49 = .ok (.iload_n 3, 1) := by decide +kernel
theorem dX11_callsBy_50 : decode cX11_callsBy 50 = .ok (.iaload, 1) := by decide +kernel
theorem dX11_callsBy_51 : decode cX11_callsBy 51 = .ok (.ireturn, 1) := by decide +kernel
theorem dX11_callsBy_52 : decode cX11_callsBy 52 = .ok (.iinc 3 (-1), 3) := by decide +kernel
theorem dX11_callsBy_55 : decode cX11_callsBy 55 = .ok (.goto (-46), 3) := by decide +kernel
theorem dX11_callsBy_58 : decode cX11_callsBy 58 = .ok (.iconst (-1), 1) := by decide +kernel
theorem dX11_callsBy_59 : decode cX11_callsBy 59 = .ok (.ireturn, 1) := by decide +kernel
theorem dX11_pushes_0 : decode cX11_pushes 0 = .ok (.aload_n 0, 1) := by decide +kernel
theorem dX11_pushes_1 : decode cX11_pushes 1 = .ok (.getfield 63, 3) := by decide +kernel
theorem dX11_pushes_4 : decode cX11_pushes 4 = .ok (.iload_n 1, 1) := by decide +kernel
theorem dX11_pushes_5 : decode cX11_pushes 5 = .ok (.aaload, 1) := by decide +kernel
theorem dX11_pushes_6 : decode cX11_pushes 6 = .ok (.aload_n 0, 1) := by decide +kernel
theorem dX11_pushes_7 : decode cX11_pushes 7 = .ok (.getfield 56, 3) := by decide +kernel
theorem dX11_pushes_10 : decode cX11_pushes 10 = .ok (.iload_n 1, 1) := by decide +kernel
theorem dX11_pushes_11 : decode cX11_pushes 11 = .ok (.aaload, 1) := by decide +kernel
theorem dX11_pushes_12 : decode cX11_pushes 12 = .ok (.iconst 0, 1) := by decide +kernel
theorem dX11_pushes_13 : decode cX11_pushes 13 = .ok (.iaload, 1) := by decide +kernel
theorem dX11_pushes_14 : decode cX11_pushes 14 = .ok (.aaload, 1) := by decide +kernel
theorem dX11_pushes_15 : decode cX11_pushes 15 = .ok (.astore_n 3, 1) := by decide +kernel
theorem dX11_pushes_16 : decode cX11_pushes 16 = .ok (.aload_n 3, 1) := by decide +kernel
theorem dX11_pushes_17 : decode cX11_pushes 17 = .ok (.iconst 0, 1) := by decide +kernel
theorem dX11_pushes_18 : decode cX11_pushes 18 = .ok (.iload_n 2, 1) := by decide +kernel
theorem dX11_pushes_19 : decode cX11_pushes 19 = .ok (.iastore, 1) := by decide +kernel
theorem dX11_pushes_20 : decode cX11_pushes 20 = .ok (.aload_n 3, 1) := by decide +kernel
theorem dX11_pushes_21 : decode cX11_pushes 21 = .ok (.iconst 1, 1) := by decide +kernel
theorem dX11_pushes_22 : decode cX11_pushes 22 = .ok (.aload_n 0, 1) := by decide +kernel
theorem dX11_pushes_23 : decode cX11_pushes 23 = .ok (.iload_n 1, 1) := by decide +kernel
theorem dX11_pushes_24 : decode cX11_pushes 24 = .ok (.iload_n 2, 1) := by decide +kernel
theorem dX11_pushes_25 : decode cX11_pushes 25 = .ok (.invokevirtual 314, 3) := by decide +kernel
theorem dX11_pushes_28 : decode cX11_pushes 28 = .ok (.iastore, 1) := by decide +kernel
theorem dX11_pushes_29 : decode cX11_pushes 29 = .ok (.aload_n 3, 1) := by decide +kernel
theorem dX11_pushes_30 : decode cX11_pushes 30 = .ok (.iconst 2, 1) := by decide +kernel
theorem dX11_pushes_31 : decode cX11_pushes 31 = .ok (.iconst 0, 1) := by decide +kernel
theorem dX11_pushes_32 : decode cX11_pushes 32 = .ok (.iastore, 1) := by decide +kernel
theorem dX11_pushes_33 : decode cX11_pushes 33 = .ok (.aload_n 3, 1) := by decide +kernel
theorem dX11_pushes_34 : decode cX11_pushes 34 = .ok (.iconst 3, 1) := by decide +kernel
theorem dX11_pushes_35 : decode cX11_pushes 35 = .ok (.iconst 0, 1) := by decide +kernel
theorem dX11_pushes_36 : decode cX11_pushes 36 = .ok (.iastore, 1) := by decide +kernel
theorem dX11_pushes_37 : decode cX11_pushes 37 = .ok (.aload_n 0, 1) := by decide +kernel
theorem dX11_pushes_38 : decode cX11_pushes 38 = .ok (.getfield 56, 3) := by decide +kernel
theorem dX11_pushes_41 : decode cX11_pushes 41 = .ok (.iload_n 1, 1) := by decide +kernel
theorem dX11_pushes_42 : decode cX11_pushes 42 = .ok (.aaload, 1) := by decide +kernel
theorem dX11_pushes_43 : decode cX11_pushes 43 = .ok (.iconst 0, 1) := by decide +kernel
theorem dX11_pushes_44 : decode cX11_pushes 44 = .ok (.dup2, 1) := by decide +kernel
theorem dX11_pushes_45 : decode cX11_pushes 45 = .ok (.iaload, 1) := by decide +kernel
theorem dX11_pushes_46 : decode cX11_pushes 46 = .ok (.iconst 1, 1) := by decide +kernel
theorem dX11_pushes_47 : decode cX11_pushes 47 = .ok (.iadd, 1) := by decide +kernel
theorem dX11_pushes_48 : decode cX11_pushes 48 = .ok (.iastore, 1) := by decide +kernel
theorem dX11_pushes_49 : decode cX11_pushes 49 = .ok (.return_, 1) := by decide +kernel
theorem dX11_does_0 : decode cX11_does 0 = .ok (.iconst 0, 1) := by decide +kernel
theorem dX11_does_1 : decode cX11_does 1 = .ok (.istore_n 3, 1) := by decide +kernel
theorem dX11_does_2 : decode cX11_does 2 = .ok (.aload_n 2, 1) := by decide +kernel
theorem dX11_does_3 : decode cX11_does 3 = .ok (.iconst 0, 1) := by decide +kernel
theorem dX11_does_4 : decode cX11_does 4 = .ok (.iaload, 1) := by decide +kernel
theorem dX11_does_5 : decode cX11_does 5 = .ok (.tableswitch 289 7 18 #[63, 91, 122, 140, 205, 140, 222, 247, 247, 253, 267, 278], 63) := by decide +kernel
theorem dX11_does_68 : decode cX11_does 68 = .ok (.aload_n 0, 1) := by decide +kernel
theorem dX11_does_69 : decode cX11_does 69 = .ok (.getfield 56, 3) := by decide +kernel
theorem dX11_does_72 : decode cX11_does 72 = .ok (.iload_n 1, 1) := by decide +kernel
theorem dX11_does_73 : decode cX11_does 73 = .ok (.aaload, 1) := by decide +kernel
theorem dX11_does_74 : decode cX11_does 74 = .ok (.iconst 2, 1) := by decide +kernel
theorem dX11_does_75 : decode cX11_does 75 = .ok (.aload_n 2, 1) := by decide +kernel
theorem dX11_does_76 : decode cX11_does 76 = .ok (.iconst 1, 1) := by decide +kernel
theorem dX11_does_77 : decode cX11_does 77 = .ok (.iaload, 1) := by decide +kernel
theorem dX11_does_78 : decode cX11_does 78 = .ok (.iastore, 1) := by decide +kernel
theorem dX11_does_79 : decode cX11_does 79 = .ok (.aload_n 0, 1) := by decide +kernel
theorem dX11_does_80 : decode cX11_does 80 = .ok (.getfield 59, 3) := by decide +kernel
theorem dX11_does_83 : decode cX11_does 83 = .ok (.iload_n 1, 1) := by decide +kernel
theorem dX11_does_84 : decode cX11_does 84 = .ok (.aload_n 2, 1) := by decide +kernel
theorem dX11_does_85 : decode cX11_does 85 = .ok (.iconst 2, 1) := by decide +kernel
theorem dX11_does_86 : decode cX11_does 86 = .ok (.iaload, 1) := by decide +kernel
theorem dX11_does_87 : decode cX11_does 87 = .ok (.aload_n 2, 1) := by decide +kernel
theorem dX11_does_88 : decode cX11_does 88 = .ok (.iconst 1, 1) := by decide +kernel
theorem dX11_does_89 : decode cX11_does 89 = .ok (.iaload, 1) := by decide +kernel
theorem dX11_does_90 : decode cX11_does 90 = .ok (.invokestatic 304, 3) := by decide +kernel
theorem dX11_does_93 : decode cX11_does 93 = .ok (.lastore, 1) := by decide +kernel
theorem dX11_does_94 : decode cX11_does 94 = .ok (.iconst 0, 1) := by decide +kernel
theorem dX11_does_95 : decode cX11_does 95 = .ok (.ireturn, 1) := by decide +kernel
theorem dX11_does_96 : decode cX11_does 96 = .ok (.aload_n 0, 1) := by decide +kernel
theorem dX11_does_97 : decode cX11_does 97 = .ok (.getfield 56, 3) := by decide +kernel
theorem dX11_does_100 : decode cX11_does 100 = .ok (.iload_n 1, 1) := by decide +kernel
theorem dX11_does_101 : decode cX11_does 101 = .ok (.aaload, 1) := by decide +kernel
theorem dX11_does_102 : decode cX11_does 102 = .ok (.iconst 2, 1) := by decide +kernel
theorem dX11_does_103 : decode cX11_does 103 = .ok (.bipush 8, 2) := by decide +kernel
theorem dX11_does_105 : decode cX11_does 105 = .ok (.iastore, 1) := by decide +kernel
theorem dX11_does_106 : decode cX11_does 106 = .ok (.aload_n 0, 1) := by decide +kernel
theorem dX11_does_107 : decode cX11_does 107 = .ok (.getfield 59, 3) := by decide +kernel
theorem dX11_does_110 : decode cX11_does 110 = .ok (.iload_n 1, 1) := by decide +kernel
theorem dX11_does_111 : decode cX11_does 111 = .ok (.ldc2_w 214, 3) := by decide +kernel
theorem dX11_does_114 : decode cX11_does 114 = .ok (.aload_n 2, 1) := by decide +kernel
theorem dX11_does_115 : decode cX11_does 115 = .ok (.iconst 1, 1) := by decide +kernel
theorem dX11_does_116 : decode cX11_does 116 = .ok (.iaload, 1) := by decide +kernel
theorem dX11_does_117 : decode cX11_does 117 = .ok (.i2l, 1) := by decide +kernel
theorem dX11_does_118 : decode cX11_does 118 = .ok (.lmul, 1) := by decide +kernel
theorem dX11_does_119 : decode cX11_does 119 = .ok (.aload_n 2, 1) := by decide +kernel
theorem dX11_does_120 : decode cX11_does 120 = .ok (.iconst 2, 1) := by decide +kernel
theorem dX11_does_121 : decode cX11_does 121 = .ok (.iaload, 1) := by decide +kernel
theorem dX11_does_122 : decode cX11_does 122 = .ok (.i2l, 1) := by decide +kernel
theorem dX11_does_123 : decode cX11_does 123 = .ok (.ladd, 1) := by decide +kernel
theorem dX11_does_124 : decode cX11_does 124 = .ok (.lastore, 1) := by decide +kernel
theorem dX11_does_125 : decode cX11_does 125 = .ok (.iconst 0, 1) := by decide +kernel
theorem dX11_does_126 : decode cX11_does 126 = .ok (.ireturn, 1) := by decide +kernel
theorem dX11_does_127 : decode cX11_does 127 = .ok (.aload_n 0, 1) := by decide +kernel
theorem dX11_does_128 : decode cX11_does 128 = .ok (.getfield 56, 3) := by decide +kernel
theorem dX11_does_131 : decode cX11_does 131 = .ok (.iload_n 1, 1) := by decide +kernel
theorem dX11_does_132 : decode cX11_does 132 = .ok (.aaload, 1) := by decide +kernel
theorem dX11_does_133 : decode cX11_does 133 = .ok (.iconst 2, 1) := by decide +kernel
theorem dX11_does_134 : decode cX11_does 134 = .ok (.iconst (-1), 1) := by decide +kernel
theorem dX11_does_135 : decode cX11_does 135 = .ok (.iastore, 1) := by decide +kernel
theorem dX11_does_136 : decode cX11_does 136 = .ok (.aload_n 0, 1) := by decide +kernel
theorem dX11_does_137 : decode cX11_does 137 = .ok (.getfield 59, 3) := by decide +kernel
theorem dX11_does_140 : decode cX11_does 140 = .ok (.iload_n 1, 1) := by decide +kernel
theorem dX11_does_141 : decode cX11_does 141 = .ok (.lconst 0, 1) := by decide +kernel
theorem dX11_does_142 : decode cX11_does 142 = .ok (.lastore, 1) := by decide +kernel
theorem dX11_does_143 : decode cX11_does 143 = .ok (.iconst 0, 1) := by decide +kernel
theorem dX11_does_144 : decode cX11_does 144 = .ok (.ireturn, 1) := by decide +kernel
theorem dX11_does_145 : decode cX11_does 145 = .ok (.aload_n 2, 1) := by decide +kernel
theorem dX11_does_146 : decode cX11_does 146 = .ok (.iconst 0, 1) := by decide +kernel
theorem dX11_does_147 : decode cX11_does 147 = .ok (.iaload, 1) := by decide +kernel
theorem dX11_does_148 : decode cX11_does 148 = .ok (.bipush 10, 2) := by decide +kernel
theorem dX11_does_150 : decode cX11_does 150 = .ok (.if_icmp .ne 19, 3) := by decide +kernel
theorem dX11_does_153 : decode cX11_does 153 = .ok (.aload_n 0, 1) := by decide +kernel
theorem dX11_does_154 : decode cX11_does 154 = .ok (.aload_n 2, 1) := by decide +kernel
theorem dX11_does_155 : decode cX11_does 155 = .ok (.iconst 1, 1) := by decide +kernel
theorem dX11_does_156 : decode cX11_does 156 = .ok (.iaload, 1) := by decide +kernel
theorem dX11_does_157 : decode cX11_does 157 = .ok (.aload_n 2, 1) := by decide +kernel
theorem dX11_does_158 : decode cX11_does 158 = .ok (.iconst 2, 1) := by decide +kernel
theorem dX11_does_159 : decode cX11_does 159 = .ok (.iaload, 1) := by decide +kernel
theorem dX11_does_160 : decode cX11_does 160 = .ok (.aload_n 2, 1) := by decide +kernel
theorem dX11_does_161 : decode cX11_does 161 = .ok (.iconst 3, 1) := by decide +kernel
theorem dX11_does_162 : decode cX11_does 162 = .ok (.iaload, 1) := by decide +kernel
theorem dX11_does_163 : decode cX11_does 163 = .ok (.invokevirtual 317, 3) := by decide +kernel
theorem dX11_does_166 : decode cX11_does 166 = .ok (.goto 13, 3) := by decide +kernel
theorem dX11_does_169 : decode cX11_does 169 = .ok (.aload_n 0, 1) := by decide +kernel
theorem dX11_does_170 : decode cX11_does 170 = .ok (.aload_n 2, 1) := by decide +kernel
theorem dX11_does_171 : decode cX11_does 171 = .ok (.iconst 2, 1) := by decide +kernel
theorem dX11_does_172 : decode cX11_does 172 = .ok (.iaload, 1) := by decide +kernel
theorem dX11_does_173 : decode cX11_does 173 = .ok (.aload_n 2, 1) := by decide +kernel
theorem dX11_does_174 : decode cX11_does 174 = .ok (.iconst 3, 1) := by decide +kernel
theorem dX11_does_175 : decode cX11_does 175 = .ok (.iaload, 1) := by decide +kernel
theorem dX11_does_176 : decode cX11_does 176 = .ok (.invokevirtual 321, 3) := by decide +kernel
theorem dX11_does_179 : decode cX11_does 179 = .ok (.istore_n 3, 1) := by decide +kernel
theorem dX11_does_180 : decode cX11_does 180 = .ok (.iload_n 3, 1) := by decide +kernel
theorem dX11_does_181 : decode cX11_does 181 = .ok (.ifCond .le 5, 3) := by decide +kernel
theorem dX11_does_184 : decode cX11_does 184 = .ok (.iload_n 3, 1) := by decide +kernel
theorem dX11_does_185 : decode cX11_does 185 = .ok (.ireturn, 1) := by decide +kernel
theorem dX11_does_186 : decode cX11_does 186 = .ok (.aload_n 0, 1) := by decide +kernel
theorem dX11_does_187 : decode cX11_does 187 = .ok (.getfield 56, 3) := by decide +kernel
theorem dX11_does_190 : decode cX11_does 190 = .ok (.iload_n 1, 1) := by decide +kernel
theorem dX11_does_191 : decode cX11_does 191 = .ok (.aaload, 1) := by decide +kernel
theorem dX11_does_192 : decode cX11_does 192 = .ok (.iconst 2, 1) := by decide +kernel
theorem dX11_does_193 : decode cX11_does 193 = .ok (.aload_n 0, 1) := by decide +kernel
theorem dX11_does_194 : decode cX11_does 194 = .ok (.getfield 293, 3) := by decide +kernel
theorem dX11_does_197 : decode cX11_does 197 = .ok (.iastore, 1) := by decide +kernel
theorem dX11_does_198 : decode cX11_does 198 = .ok (.aload_n 0, 1) := by decide +kernel
theorem dX11_does_199 : decode cX11_does 199 = .ok (.getfield 59, 3) := by decide +kernel
theorem dX11_does_202 : decode cX11_does 202 = .ok (.iload_n 1, 1) := by decide +kernel
theorem dX11_does_203 : decode cX11_does 203 = .ok (.aload_n 0, 1) := by decide +kernel
theorem dX11_does_204 : decode cX11_does 204 = .ok (.getfield 300, 3) := by decide +kernel
theorem dX11_does_207 : decode cX11_does 207 = .ok (.lastore, 1) := by decide +kernel
theorem dX11_does_208 : decode cX11_does 208 = .ok (.iconst 0, 1) := by decide +kernel
theorem dX11_does_209 : decode cX11_does 209 = .ok (.ireturn, 1) := by decide +kernel
theorem dX11_does_210 : decode cX11_does 210 = .ok (.aload_n 0, 1) := by decide +kernel
theorem dX11_does_211 : decode cX11_does 211 = .ok (.aload_n 2, 1) := by decide +kernel
theorem dX11_does_212 : decode cX11_does 212 = .ok (.iconst 1, 1) := by decide +kernel
theorem dX11_does_213 : decode cX11_does 213 = .ok (.iaload, 1) := by decide +kernel
theorem dX11_does_214 : decode cX11_does 214 = .ok (.aload_n 2, 1) := by decide +kernel
theorem dX11_does_215 : decode cX11_does 215 = .ok (.iconst 2, 1) := by decide +kernel
theorem dX11_does_216 : decode cX11_does 216 = .ok (.iaload, 1) := by decide +kernel
theorem dX11_does_217 : decode cX11_does 217 = .ok (.aload_n 2, 1) := by decide +kernel
theorem dX11_does_218 : decode cX11_does 218 = .ok (.iconst 3, 1) := by decide +kernel
theorem dX11_does_219 : decode cX11_does 219 = .ok (.iaload, 1) := by decide +kernel
theorem dX11_does_220 : decode cX11_does 220 = .ok (.aload_n 2, 1) := by decide +kernel
theorem dX11_does_221 : decode cX11_does 221 = .ok (.iconst 4, 1) := by decide +kernel
theorem dX11_does_222 : decode cX11_does 222 = .ok (.iaload, 1) := by decide +kernel
theorem dX11_does_223 : decode cX11_does 223 = .ok (.invokevirtual 324, 3) := by decide +kernel
theorem dX11_does_226 : decode cX11_does 226 = .ok (.ireturn, 1) := by decide +kernel
theorem dX11_does_227 : decode cX11_does 227 = .ok (.aload_n 0, 1) := by decide +kernel
theorem dX11_does_228 : decode cX11_does 228 = .ok (.aload_n 0, 1) := by decide +kernel
theorem dX11_does_229 : decode cX11_does 229 = .ok (.getfield 56, 3) := by decide +kernel
theorem dX11_does_232 : decode cX11_does 232 = .ok (.iload_n 1, 1) := by decide +kernel
theorem dX11_does_233 : decode cX11_does 233 = .ok (.aaload, 1) := by decide +kernel
theorem dX11_does_234 : decode cX11_does 234 = .ok (.iconst 2, 1) := by decide +kernel
theorem dX11_does_235 : decode cX11_does 235 = .ok (.iaload, 1) := by decide +kernel
theorem dX11_does_236 : decode cX11_does 236 = .ok (.aload_n 0, 1) := by decide +kernel
theorem dX11_does_237 : decode cX11_does 237 = .ok (.getfield 59, 3) := by decide +kernel
theorem dX11_does_240 : decode cX11_does 240 = .ok (.iload_n 1, 1) := by decide +kernel
theorem dX11_does_241 : decode cX11_does 241 = .ok (.laload, 1) := by decide +kernel
theorem dX11_does_242 : decode cX11_does 242 = .ok (.aload_n 2, 1) := by decide +kernel
theorem dX11_does_243 : decode cX11_does 243 = .ok (.iconst 2, 1) := by decide +kernel
theorem dX11_does_244 : decode cX11_does 244 = .ok (.iaload, 1) := by decide +kernel
theorem dX11_does_245 : decode cX11_does 245 = .ok (.aload_n 2, 1) := by decide +kernel
theorem dX11_does_246 : decode cX11_does 246 = .ok (.iconst 3, 1) := by decide +kernel
theorem dX11_does_247 : decode cX11_does 247 = .ok (.iaload, 1) := by decide +kernel
theorem dX11_does_248 : decode cX11_does 248 = .ok (.invokevirtual 328, 3) := by decide +kernel
theorem dX11_does_251 : decode cX11_does 251 = .ok (.ireturn, 1) := by decide +kernel
theorem dX11_does_252 : decode cX11_does 252 = .ok (.aload_n 0, 1) := by decide +kernel
theorem dX11_does_253 : decode cX11_does 253 = .ok (.aload_n 2, 1) := by decide +kernel
theorem dX11_does_254 : decode cX11_does 254 = .ok (.invokevirtual 332, 3) := by decide +kernel
theorem dX11_does_257 : decode cX11_does 257 = .ok (.ireturn, 1) := by decide +kernel
theorem dX11_does_258 : decode cX11_does 258 = .ok (.aload_n 0, 1) := by decide +kernel
theorem dX11_does_259 : decode cX11_does 259 = .ok (.aload_n 2, 1) := by decide +kernel
theorem dX11_does_260 : decode cX11_does 260 = .ok (.iconst 2, 1) := by decide +kernel
theorem dX11_does_261 : decode cX11_does 261 = .ok (.iaload, 1) := by decide +kernel
theorem dX11_does_262 : decode cX11_does 262 = .ok (.aload_n 2, 1) := by decide +kernel
theorem dX11_does_263 : decode cX11_does 263 = .ok (.iconst 1, 1) := by decide +kernel
theorem dX11_does_264 : decode cX11_does 264 = .ok (.iaload, 1) := by decide +kernel
theorem dX11_does_265 : decode cX11_does 265 = .ok (.aload_n 2, 1) := by decide +kernel
theorem dX11_does_266 : decode cX11_does 266 = .ok (.iconst 4, 1) := by decide +kernel
theorem dX11_does_267 : decode cX11_does 267 = .ok (.iaload, 1) := by decide +kernel
theorem dX11_does_268 : decode cX11_does 268 = .ok (.invokevirtual 336, 3) := by decide +kernel
theorem dX11_does_271 : decode cX11_does 271 = .ok (.ireturn, 1) := by decide +kernel
theorem dX11_does_272 : decode cX11_does 272 = .ok (.aload_n 0, 1) := by decide +kernel
theorem dX11_does_273 : decode cX11_does 273 = .ok (.aload_n 2, 1) := by decide +kernel
theorem dX11_does_274 : decode cX11_does 274 = .ok (.iconst 2, 1) := by decide +kernel
theorem dX11_does_275 : decode cX11_does 275 = .ok (.iaload, 1) := by decide +kernel
theorem dX11_does_276 : decode cX11_does 276 = .ok (.aload_n 2, 1) := by decide +kernel
theorem dX11_does_277 : decode cX11_does 277 = .ok (.iconst 3, 1) := by decide +kernel
theorem dX11_does_278 : decode cX11_does 278 = .ok (.iaload, 1) := by decide +kernel
theorem dX11_does_279 : decode cX11_does 279 = .ok (.invokevirtual 339, 3) := by decide +kernel
theorem dX11_does_282 : decode cX11_does 282 = .ok (.ireturn, 1) := by decide +kernel
theorem dX11_does_283 : decode cX11_does 283 = .ok (.aload_n 0, 1) := by decide +kernel
theorem dX11_does_284 : decode cX11_does 284 = .ok (.aload_n 2, 1) := by decide +kernel
theorem dX11_does_285 : decode cX11_does 285 = .ok (.iconst 2, 1) := by decide +kernel
theorem dX11_does_286 : decode cX11_does 286 = .ok (.iaload, 1) := by decide +kernel
theorem dX11_does_287 : decode cX11_does 287 = .ok (.aload_n 2, 1) := by decide +kernel
theorem dX11_does_288 : decode cX11_does 288 = .ok (.iconst 3, 1) := by decide +kernel
theorem dX11_does_289 : decode cX11_does 289 = .ok (.iaload, 1) := by decide +kernel
theorem dX11_does_290 : decode cX11_does 290 = .ok (.invokevirtual 342, 3) := by decide +kernel
theorem dX11_does_293 : decode cX11_does 293 = .ok (.ireturn, 1) := by decide +kernel
theorem dX11_does_294 : decode cX11_does 294 = .ok (.iconst 0, 1) := by decide +kernel
theorem dX11_does_295 : decode cX11_does 295 = .ok (.ireturn, 1) := by decide +kernel
theorem dX11_makes_0 : decode cX11_makes 0 = .ok (.aload_n 0, 1) := by decide +kernel
theorem dX11_makes_1 : decode cX11_makes 1 = .ok (.getfield 42, 3) := by decide +kernel
theorem dX11_makes_4 : decode cX11_makes 4 = .ok (.aload_n 1, 1) := by decide +kernel
theorem dX11_makes_5 : decode cX11_makes 5 = .ok (.iconst 2, 1) := by decide +kernel
theorem dX11_makes_6 : decode cX11_makes 6 = .ok (.iaload, 1) := by decide +kernel
theorem dX11_makes_7 : decode cX11_makes 7 = .ok (.iaload, 1) := by decide +kernel
theorem dX11_makes_8 : decode cX11_makes 8 = .ok (.bipush 12, 2) := by decide +kernel
theorem dX11_makes_10 : decode cX11_makes 10 = .ok (.if_icmp .ne 5, 3) := by decide +kernel
theorem dX11_makes_13 : decode cX11_makes 13 = .ok (.iconst 3, 1) := by decide +kernel
theorem dX11_makes_14 : decode cX11_makes 14 = .ok (.ireturn, 1) := by decide +kernel
theorem dX11_makes_15 : decode cX11_makes 15 = .ok (.aload_n 0, 1) := by decide +kernel
theorem dX11_makes_16 : decode cX11_makes 16 = .ok (.aload_n 1, 1) := by decide +kernel
theorem dX11_makes_17 : decode cX11_makes 17 = .ok (.iconst 2, 1) := by decide +kernel
theorem dX11_makes_18 : decode cX11_makes 18 = .ok (.iaload, 1) := by decide +kernel
theorem dX11_makes_19 : decode cX11_makes 19 = .ok (.aload_n 1, 1) := by decide +kernel
theorem dX11_makes_20 : decode cX11_makes 20 = .ok (.iconst 3, 1) := by decide +kernel
theorem dX11_makes_21 : decode cX11_makes 21 = .ok (.iaload, 1) := by decide +kernel
theorem dX11_makes_22 : decode cX11_makes 22 = .ok (.invokevirtual 345, 3) := by decide +kernel
theorem dX11_makes_25 : decode cX11_makes 25 = .ok (.istore_n 2, 1) := by decide +kernel
theorem dX11_makes_26 : decode cX11_makes 26 = .ok (.aload_n 1, 1) := by decide +kernel
theorem dX11_makes_27 : decode cX11_makes 27 = .ok (.iconst 0, 1) := by decide +kernel
theorem dX11_makes_28 : decode cX11_makes 28 = .ok (.iaload, 1) := by decide +kernel
theorem dX11_makes_29 : decode cX11_makes 29 = .ok (.bipush 15, 2) := by decide +kernel
theorem dX11_makes_31 : decode cX11_makes 31 = .ok (.if_icmp .ne 26, 3) := by decide +kernel
theorem dX11_makes_34 : decode cX11_makes 34 = .ok (.aload_n 0, 1) := by decide +kernel
theorem dX11_makes_35 : decode cX11_makes 35 = .ok (.getfield 42, 3) := by decide +kernel
theorem dX11_makes_38 : decode cX11_makes 38 = .ok (.iload_n 2, 1) := by decide +kernel
theorem dX11_makes_39 : decode cX11_makes 39 = .ok (.iaload, 1) := by decide +kernel
theorem dX11_makes_40 : decode cX11_makes 40 = .ok (.bipush 12, 2) := by decide +kernel
theorem dX11_makes_42 : decode cX11_makes 42 = .ok (.if_icmp .ne 5, 3) := by decide +kernel
theorem dX11_makes_45 : decode cX11_makes 45 = .ok (.iconst 3, 1) := by decide +kernel
theorem dX11_makes_46 : decode cX11_makes 46 = .ok (.ireturn, 1) := by decide +kernel
theorem dX11_makes_47 : decode cX11_makes 47 = .ok (.aload_n 0, 1) := by decide +kernel
theorem dX11_makes_48 : decode cX11_makes 48 = .ok (.iload_n 2, 1) := by decide +kernel
theorem dX11_makes_49 : decode cX11_makes 49 = .ok (.bipush 12, 2) := by decide +kernel
theorem dX11_makes_51 : decode cX11_makes 51 = .ok (.iconst 0, 1) := by decide +kernel
theorem dX11_makes_52 : decode cX11_makes 52 = .ok (.invokevirtual 348, 3) := by decide +kernel
theorem dX11_makes_55 : decode cX11_makes 55 = .ok (.iconst 0, 1) := by decide +kernel
theorem dX11_makes_56 : decode cX11_makes 56 = .ok (.ireturn, 1) := by decide +kernel
theorem dX11_makes_57 : decode cX11_makes 57 = .ok (.aload_n 0, 1) := by decide +kernel
theorem dX11_makes_58 : decode cX11_makes 58 = .ok (.getfield 42, 3) := by decide +kernel
theorem dX11_makes_61 : decode cX11_makes 61 = .ok (.iload_n 2, 1) := by decide +kernel
theorem dX11_makes_62 : decode cX11_makes 62 = .ok (.iaload, 1) := by decide +kernel
theorem dX11_makes_63 : decode cX11_makes 63 = .ok (.bipush 12, 2) := by decide +kernel
theorem dX11_makes_65 : decode cX11_makes 65 = .ok (.if_icmp .ne 14, 3) := by decide +kernel
theorem dX11_makes_68 : decode cX11_makes 68 = .ok (.aload_n 0, 1) := by decide +kernel
theorem dX11_makes_69 : decode cX11_makes 69 = .ok (.iload_n 2, 1) := by decide +kernel
theorem dX11_makes_70 : decode cX11_makes 70 = .ok (.aload_n 1, 1) := by decide +kernel
theorem dX11_makes_71 : decode cX11_makes 71 = .ok (.iconst 1, 1) := by decide +kernel
theorem dX11_makes_72 : decode cX11_makes 72 = .ok (.iaload, 1) := by decide +kernel
theorem dX11_makes_73 : decode cX11_makes 73 = .ok (.aload_n 1, 1) := by decide +kernel
theorem dX11_makes_74 : decode cX11_makes 74 = .ok (.iconst 4, 1) := by decide +kernel
theorem dX11_makes_75 : decode cX11_makes 75 = .ok (.iaload, 1) := by decide +kernel
theorem dX11_makes_76 : decode cX11_makes 76 = .ok (.invokevirtual 348, 3) := by decide +kernel
theorem dX11_makes_79 : decode cX11_makes 79 = .ok (.iconst 0, 1) := by decide +kernel
theorem dX11_makes_80 : decode cX11_makes 80 = .ok (.ireturn, 1) := by decide +kernel
theorem dX11_copiesRow_0 : decode cX11_copiesRow 0 = .ok (.aload_n 0, 1) := by decide +kernel
theorem dX11_copiesRow_1 : decode cX11_copiesRow 1 = .ok (.getfield 42, 3) := by decide +kernel
theorem dX11_copiesRow_4 : decode cX11_copiesRow 4 = .ok (.iload_n 2, 1) := by decide +kernel
theorem dX11_copiesRow_5 : decode cX11_copiesRow 5 = .ok (.aload_n 0, 1) := by decide +kernel
theorem dX11_copiesRow_6 : decode cX11_copiesRow 6 = .ok (.getfield 42, 3) := by decide +kernel
theorem dX11_copiesRow_9 : decode cX11_copiesRow 9 = .ok (.iload_n 1, 1) := by decide +kernel
theorem dX11_copiesRow_10 : decode cX11_copiesRow 10 = .ok (.iaload, 1) := by decide +kernel
theorem dX11_copiesRow_11 : decode cX11_copiesRow 11 = .ok (.iastore, 1) := by decide +kernel
theorem dX11_copiesRow_12 : decode cX11_copiesRow 12 = .ok (.aload_n 0, 1) := by decide +kernel
theorem dX11_copiesRow_13 : decode cX11_copiesRow 13 = .ok (.getfield 45, 3) := by decide +kernel
theorem dX11_copiesRow_16 : decode cX11_copiesRow 16 = .ok (.iload_n 2, 1) := by decide +kernel
theorem dX11_copiesRow_17 : decode cX11_copiesRow 17 = .ok (.aload_n 0, 1) := by decide +kernel
theorem dX11_copiesRow_18 : decode cX11_copiesRow 18 = .ok (.getfield 45, 3) := by decide +kernel
theorem dX11_copiesRow_21 : decode cX11_copiesRow 21 = .ok (.iload_n 1, 1) := by decide +kernel
theorem dX11_copiesRow_22 : decode cX11_copiesRow 22 = .ok (.iaload, 1) := by decide +kernel
theorem dX11_copiesRow_23 : decode cX11_copiesRow 23 = .ok (.iastore, 1) := by decide +kernel
theorem dX11_copiesRow_24 : decode cX11_copiesRow 24 = .ok (.iconst 0, 1) := by decide +kernel
theorem dX11_copiesRow_25 : decode cX11_copiesRow 25 = .ok (.istore_n 3, 1) := by decide +kernel
theorem dX11_copiesRow_26 : decode cX11_copiesRow 26 = .ok (.iload_n 3, 1) := by decide +kernel
theorem dX11_copiesRow_27 : decode cX11_copiesRow 27 = .ok (.bipush 9, 2) := by decide +kernel
theorem dX11_copiesRow_29 : decode cX11_copiesRow 29 = .ok (.if_icmp .ge 41, 3) := by decide +kernel
theorem dX11_copiesRow_32 : decode cX11_copiesRow 32 = .ok (.aload_n 0, 1) := by decide +kernel
theorem dX11_copiesRow_33 : decode cX11_copiesRow 33 = .ok (.getfield 48, 3) := by decide +kernel
theorem dX11_copiesRow_36 : decode cX11_copiesRow 36 = .ok (.iload_n 2, 1) := by decide +kernel
theorem dX11_copiesRow_37 : decode cX11_copiesRow 37 = .ok (.aaload, 1) := by decide +kernel
theorem dX11_copiesRow_38 : decode cX11_copiesRow 38 = .ok (.iload_n 3, 1) := by decide +kernel
theorem dX11_copiesRow_39 : decode cX11_copiesRow 39 = .ok (.aload_n 0, 1) := by decide +kernel
theorem dX11_copiesRow_40 : decode cX11_copiesRow 40 = .ok (.getfield 48, 3) := by decide +kernel
theorem dX11_copiesRow_43 : decode cX11_copiesRow 43 = .ok (.iload_n 1, 1) := by decide +kernel
theorem dX11_copiesRow_44 : decode cX11_copiesRow 44 = .ok (.aaload, 1) := by decide +kernel
theorem dX11_copiesRow_45 : decode cX11_copiesRow 45 = .ok (.iload_n 3, 1) := by decide +kernel
theorem dX11_copiesRow_46 : decode cX11_copiesRow 46 = .ok (.iaload, 1) := by decide +kernel
theorem dX11_copiesRow_47 : decode cX11_copiesRow 47 = .ok (.iastore, 1) := by decide +kernel
theorem dX11_copiesRow_48 : decode cX11_copiesRow 48 = .ok (.aload_n 0, 1) := by decide +kernel
theorem dX11_copiesRow_49 : decode cX11_copiesRow 49 = .ok (.getfield 53, 3) := by decide +kernel
theorem dX11_copiesRow_52 : decode cX11_copiesRow 52 = .ok (.iload_n 2, 1) := by decide +kernel
theorem dX11_copiesRow_53 : decode cX11_copiesRow 53 = .ok (.aaload, 1) := by decide +kernel
theorem dX11_copiesRow_54 : decode cX11_copiesRow 54 = .ok (.iload_n 3, 1) := by decide +kernel
theorem dX11_copiesRow_55 : decode cX11_copiesRow 55 = .ok (.aload_n 0, 1) := by decide +kernel
theorem dX11_copiesRow_56 : decode cX11_copiesRow 56 = .ok (.getfield 53, 3) := by decide +kernel
theorem dX11_copiesRow_59 : decode cX11_copiesRow 59 = .ok (.iload_n 1, 1) := by decide +kernel
theorem dX11_copiesRow_60 : decode cX11_copiesRow 60 = .ok (.aaload, 1) := by decide +kernel
theorem dX11_copiesRow_61 : decode cX11_copiesRow 61 = .ok (.iload_n 3, 1) := by decide +kernel
theorem dX11_copiesRow_62 : decode cX11_copiesRow 62 = .ok (.laload, 1) := by decide +kernel
theorem dX11_copiesRow_63 : decode cX11_copiesRow 63 = .ok (.lastore, 1) := by decide +kernel
theorem dX11_copiesRow_64 : decode cX11_copiesRow 64 = .ok (.iinc 3 1, 3) := by decide +kernel
theorem dX11_copiesRow_67 : decode cX11_copiesRow 67 = .ok (.goto (-41), 3) := by decide +kernel
theorem dX11_copiesRow_70 : decode cX11_copiesRow 70 = .ok (.return_, 1) := by decide +kernel
theorem dX11_shapesSpare_0 : decode cX11_shapesSpare 0 = .ok (.aload_n 0, 1) := by decide +kernel
theorem dX11_shapesSpare_1 : decode cX11_shapesSpare 1 = .ok (.getfield 42, 3) := by decide +kernel
theorem dX11_shapesSpare_4 : decode cX11_shapesSpare 4 = .ok (.iload_n 1, 1) := by decide +kernel
theorem dX11_shapesSpare_5 : decode cX11_shapesSpare 5 = .ok (.iaload, 1) := by decide +kernel
theorem dX11_shapesSpare_6 : decode cX11_shapesSpare 6 = .ok (.bipush 12, 2) := by decide +kernel
theorem dX11_shapesSpare_8 : decode cX11_shapesSpare 8 = .ok (.if_icmp .ne 5, 3) := by decide +kernel
theorem dX11_shapesSpare_11 : decode cX11_shapesSpare 11 = .ok (.iconst 3, 1) := by decide +kernel
theorem dX11_shapesSpare_12 : decode cX11_shapesSpare 12 = .ok (.ireturn, 1) := by decide +kernel
theorem dX11_shapesSpare_13 : decode cX11_shapesSpare 13 = .ok (.aload_n 0, 1) := by decide +kernel
theorem dX11_shapesSpare_14 : decode cX11_shapesSpare 14 = .ok (.getfield 42, 3) := by decide +kernel
theorem dX11_shapesSpare_17 : decode cX11_shapesSpare 17 = .ok (.iload_n 1, 1) := by decide +kernel
theorem dX11_shapesSpare_18 : decode cX11_shapesSpare 18 = .ok (.iaload, 1) := by decide +kernel
theorem dX11_shapesSpare_19 : decode cX11_shapesSpare 19 = .ok (.bipush 11, 2) := by decide +kernel
theorem dX11_shapesSpare_21 : decode cX11_shapesSpare 21 = .ok (.if_icmp .ne 5, 3) := by decide +kernel
theorem dX11_shapesSpare_24 : decode cX11_shapesSpare 24 = .ok (.iconst 2, 1) := by decide +kernel
theorem dX11_shapesSpare_25 : decode cX11_shapesSpare 25 = .ok (.ireturn, 1) := by decide +kernel
theorem dX11_shapesSpare_26 : decode cX11_shapesSpare 26 = .ok (.aload_n 0, 1) := by decide +kernel
theorem dX11_shapesSpare_27 : decode cX11_shapesSpare 27 = .ok (.bipush 60, 2) := by decide +kernel
theorem dX11_shapesSpare_29 : decode cX11_shapesSpare 29 = .ok (.iload_n 2, 1) := by decide +kernel
theorem dX11_shapesSpare_30 : decode cX11_shapesSpare 30 = .ok (.iload_n 3, 1) := by decide +kernel
theorem dX11_shapesSpare_31 : decode cX11_shapesSpare 31 = .ok (.invokevirtual 348, 3) := by decide +kernel
theorem dX11_shapesSpare_34 : decode cX11_shapesSpare 34 = .ok (.iconst 0, 1) := by decide +kernel
theorem dX11_shapesSpare_35 : decode cX11_shapesSpare 35 = .ok (.istore 4, 2) := by decide +kernel
theorem dX11_shapesSpare_37 : decode cX11_shapesSpare 37 = .ok (.iload 4, 2) := by decide +kernel
theorem dX11_shapesSpare_39 : decode cX11_shapesSpare 39 = .ok (.iload_n 3, 1) := by decide +kernel
theorem dX11_shapesSpare_40 : decode cX11_shapesSpare 40 = .ok (.aload_n 0, 1) := by decide +kernel
theorem dX11_shapesSpare_41 : decode cX11_shapesSpare 41 = .ok (.getfield 45, 3) := by decide +kernel
theorem dX11_shapesSpare_44 : decode cX11_shapesSpare 44 = .ok (.iload_n 1, 1) := by decide +kernel
theorem dX11_shapesSpare_45 : decode cX11_shapesSpare 45 = .ok (.iaload, 1) := by decide +kernel
theorem dX11_shapesSpare_46 : decode cX11_shapesSpare 46 = .ok (.invokestatic 117, 3) := by decide +kernel
theorem dX11_shapesSpare_49 : decode cX11_shapesSpare 49 = .ok (.if_icmp .ge 38, 3) := by decide +kernel
theorem dX11_shapesSpare_52 : decode cX11_shapesSpare 52 = .ok (.aload_n 0, 1) := by decide +kernel
theorem dX11_shapesSpare_53 : decode cX11_shapesSpare 53 = .ok (.iload_n 1, 1) := by decide +kernel
theorem dX11_shapesSpare_54 : decode cX11_shapesSpare 54 = .ok (.iload 4, 2) := by decide +kernel
theorem dX11_shapesSpare_56 : decode cX11_shapesSpare 56 = .ok (.invokevirtual 321, 3) := by decide +kernel
theorem dX11_shapesSpare_59 : decode cX11_shapesSpare 59 = .ok (.pop, 1) := by decide +kernel
theorem dX11_shapesSpare_60 : decode cX11_shapesSpare 60 = .ok (.aload_n 0, 1) := by decide +kernel
theorem dX11_shapesSpare_61 : decode cX11_shapesSpare 61 = .ok (.aload_n 0, 1) := by decide +kernel
theorem dX11_shapesSpare_62 : decode cX11_shapesSpare 62 = .ok (.getfield 293, 3) := by decide +kernel
theorem dX11_shapesSpare_65 : decode cX11_shapesSpare 65 = .ok (.aload_n 0, 1) := by decide +kernel
theorem dX11_shapesSpare_66 : decode cX11_shapesSpare 66 = .ok (.getfield 300, 3) := by decide +kernel
theorem dX11_shapesSpare_69 : decode cX11_shapesSpare 69 = .ok (.bipush 60, 2) := by decide +kernel
theorem dX11_shapesSpare_71 : decode cX11_shapesSpare 71 = .ok (.iload 4, 2) := by decide +kernel
theorem dX11_shapesSpare_73 : decode cX11_shapesSpare 73 = .ok (.invokevirtual 328, 3) := by decide +kernel
theorem dX11_shapesSpare_76 : decode cX11_shapesSpare 76 = .ok (.ifCond .le 5, 3) := by decide +kernel
theorem dX11_shapesSpare_79 : decode cX11_shapesSpare 79 = .ok (.iconst 2, 1) := by decide +kernel
theorem dX11_shapesSpare_80 : decode cX11_shapesSpare 80 = .ok (.ireturn, 1) := by decide +kernel
theorem dX11_shapesSpare_81 : decode cX11_shapesSpare 81 = .ok (.iinc 4 1, 3) := by decide +kernel
theorem dX11_shapesSpare_84 : decode cX11_shapesSpare 84 = .ok (.goto (-47), 3) := by decide +kernel
theorem dX11_shapesSpare_87 : decode cX11_shapesSpare 87 = .ok (.iconst 0, 1) := by decide +kernel
theorem dX11_shapesSpare_88 : decode cX11_shapesSpare 88 = .ok (.ireturn, 1) := by decide +kernel
theorem dX11_becomes_0 : decode cX11_becomes 0 = .ok (.aload_n 0, 1) := by decide +kernel
theorem dX11_becomes_1 : decode cX11_becomes 1 = .ok (.iload_n 1, 1) := by decide +kernel
theorem dX11_becomes_2 : decode cX11_becomes 2 = .ok (.iload_n 2, 1) := by decide +kernel
theorem dX11_becomes_3 : decode cX11_becomes 3 = .ok (.iload_n 3, 1) := by decide +kernel
theorem dX11_becomes_4 : decode cX11_becomes 4 = .ok (.invokevirtual 352, 3) := by decide +kernel
theorem dX11_becomes_7 : decode cX11_becomes 7 = .ok (.istore 4, 2) := by decide +kernel
theorem dX11_becomes_9 : decode cX11_becomes 9 = .ok (.iload 4, 2) := by decide +kernel
theorem dX11_becomes_11 : decode cX11_becomes 11 = .ok (.ifCond .ne 10, 3) := by decide +kernel
theorem dX11_becomes_14 : decode cX11_becomes 14 = .ok (.aload_n 0, 1) := by decide +kernel
theorem dX11_becomes_15 : decode cX11_becomes 15 = .ok (.bipush 60, 2) := by decide +kernel
theorem dX11_becomes_17 : decode cX11_becomes 17 = .ok (.iload_n 1, 1) := by decide +kernel
theorem dX11_becomes_18 : decode cX11_becomes 18 = .ok (.invokevirtual 355, 3) := by decide +kernel
theorem dX11_becomes_21 : decode cX11_becomes 21 = .ok (.iload 4, 2) := by decide +kernel
theorem dX11_becomes_23 : decode cX11_becomes 23 = .ok (.ireturn, 1) := by decide +kernel
theorem dX11_keeps_0 : decode cX11_keeps 0 = .ok (.aload_n 0, 1) := by decide +kernel
theorem dX11_keeps_1 : decode cX11_keeps 1 = .ok (.getfield 42, 3) := by decide +kernel
theorem dX11_keeps_4 : decode cX11_keeps 4 = .ok (.iload_n 1, 1) := by decide +kernel
theorem dX11_keeps_5 : decode cX11_keeps 5 = .ok (.iaload, 1) := by decide +kernel
theorem dX11_keeps_6 : decode cX11_keeps 6 = .ok (.bipush 12, 2) := by decide +kernel
theorem dX11_keeps_8 : decode cX11_keeps 8 = .ok (.if_icmp .ne 5, 3) := by decide +kernel
theorem dX11_keeps_11 : decode cX11_keeps 11 = .ok (.iconst 3, 1) := by decide +kernel
theorem dX11_keeps_12 : decode cX11_keeps 12 = .ok (.ireturn, 1) := by decide +kernel
theorem dX11_keeps_13 : decode cX11_keeps 13 = .ok (.aload_n 0, 1) := by decide +kernel
theorem dX11_keeps_14 : decode cX11_keeps 14 = .ok (.getfield 42, 3) := by decide +kernel
theorem dX11_keeps_17 : decode cX11_keeps 17 = .ok (.iload_n 1, 1) := by decide +kernel
theorem dX11_keeps_18 : decode cX11_keeps 18 = .ok (.iaload, 1) := by decide +kernel
theorem dX11_keeps_19 : decode cX11_keeps 19 = .ok (.bipush 11, 2) := by decide +kernel
theorem dX11_keeps_21 : decode cX11_keeps 21 = .ok (.if_icmp .ne 5, 3) := by decide +kernel
theorem dX11_keeps_24 : decode cX11_keeps 24 = .ok (.iconst 2, 1) := by decide +kernel
theorem dX11_keeps_25 : decode cX11_keeps 25 = .ok (.ireturn, 1) := by decide +kernel
theorem dX11_keeps_26 : decode cX11_keeps 26 = .ok (.aload_n 0, 1) := by decide +kernel
theorem dX11_keeps_27 : decode cX11_keeps 27 = .ok (.iload_n 1, 1) := by decide +kernel
theorem dX11_keeps_28 : decode cX11_keeps 28 = .ok (.aload_n 0, 1) := by decide +kernel
theorem dX11_keeps_29 : decode cX11_keeps 29 = .ok (.iload_n 1, 1) := by decide +kernel
theorem dX11_keeps_30 : decode cX11_keeps 30 = .ok (.iload_n 2, 1) := by decide +kernel
theorem dX11_keeps_31 : decode cX11_keeps 31 = .ok (.invokevirtual 345, 3) := by decide +kernel
theorem dX11_keeps_34 : decode cX11_keeps 34 = .ok (.invokevirtual 355, 3) := by decide +kernel
theorem dX11_keeps_37 : decode cX11_keeps 37 = .ok (.iconst 0, 1) := by decide +kernel
theorem dX11_keeps_38 : decode cX11_keeps 38 = .ok (.ireturn, 1) := by decide +kernel
theorem dX11_lifts_0 : decode cX11_lifts 0 = .ok (.aload_n 0, 1) := by decide +kernel
theorem dX11_lifts_1 : decode cX11_lifts 1 = .ok (.iload_n 1, 1) := by decide +kernel
theorem dX11_lifts_2 : decode cX11_lifts 2 = .ok (.iload_n 2, 1) := by decide +kernel
theorem dX11_lifts_3 : decode cX11_lifts 3 = .ok (.invokevirtual 345, 3) := by decide +kernel
theorem dX11_lifts_6 : decode cX11_lifts 6 = .ok (.istore_n 3, 1) := by decide +kernel
theorem dX11_lifts_7 : decode cX11_lifts 7 = .ok (.aload_n 0, 1) := by decide +kernel
theorem dX11_lifts_8 : decode cX11_lifts 8 = .ok (.iload_n 3, 1) := by decide +kernel
theorem dX11_lifts_9 : decode cX11_lifts 9 = .ok (.invokevirtual 287, 3) := by decide +kernel
theorem dX11_lifts_12 : decode cX11_lifts 12 = .ok (.ifCond .eq 5, 3) := by decide +kernel
theorem dX11_lifts_15 : decode cX11_lifts 15 = .ok (.iconst 3, 1) := by decide +kernel
theorem dX11_lifts_16 : decode cX11_lifts 16 = .ok (.ireturn, 1) := by decide +kernel
theorem dX11_lifts_17 : decode cX11_lifts 17 = .ok (.aload_n 0, 1) := by decide +kernel
theorem dX11_lifts_18 : decode cX11_lifts 18 = .ok (.iload_n 3, 1) := by decide +kernel
theorem dX11_lifts_19 : decode cX11_lifts 19 = .ok (.iload_n 1, 1) := by decide +kernel
theorem dX11_lifts_20 : decode cX11_lifts 20 = .ok (.invokevirtual 355, 3) := by decide +kernel
theorem dX11_lifts_23 : decode cX11_lifts 23 = .ok (.aload_n 0, 1) := by decide +kernel
theorem dX11_lifts_24 : decode cX11_lifts 24 = .ok (.iload_n 3, 1) := by decide +kernel
theorem dX11_lifts_25 : decode cX11_lifts 25 = .ok (.bipush 12, 2) := by decide +kernel
theorem dX11_lifts_27 : decode cX11_lifts 27 = .ok (.iconst 0, 1) := by decide +kernel
theorem dX11_lifts_28 : decode cX11_lifts 28 = .ok (.invokevirtual 348, 3) := by decide +kernel
theorem dX11_lifts_31 : decode cX11_lifts 31 = .ok (.iconst 0, 1) := by decide +kernel
theorem dX11_lifts_32 : decode cX11_lifts 32 = .ok (.ireturn, 1) := by decide +kernel
theorem dX11_shape_0 : decode cX11_shape 0 = .ok (.aload_n 0, 1) := by decide +kernel
theorem dX11_shape_1 : decode cX11_shape 1 = .ok (.iconst 0, 1) := by decide +kernel
theorem dX11_shape_2 : decode cX11_shape 2 = .ok (.putfield 78, 3) := by decide +kernel
theorem dX11_shape_5 : decode cX11_shape 5 = .ok (.aload_n 0, 1) := by decide +kernel
theorem dX11_shape_6 : decode cX11_shape 6 = .ok (.aload_n 0, 1) := by decide +kernel
theorem dX11_shape_7 : decode cX11_shape 7 = .ok (.iload_n 1, 1) := by decide +kernel
theorem dX11_shape_8 : decode cX11_shape 8 = .ok (.invokevirtual 358, 3) := by decide +kernel
theorem dX11_shape_11 : decode cX11_shape 11 = .ok (.ifCond .ne 7, 3) := by decide +kernel
theorem dX11_shape_14 : decode cX11_shape 14 = .ok (.iconst 1, 1) := by decide +kernel
theorem dX11_shape_15 : decode cX11_shape 15 = .ok (.goto 4, 3) := by decide +kernel
theorem dX11_shape_18 : decode cX11_shape 18 = .ok (.iconst 0, 1) := by decide +kernel
theorem dX11_shape_19 : decode cX11_shape 19 = .ok (.iconst 1, 1) := by decide +kernel
theorem dX11_shape_20 : decode cX11_shape 20 = .ok (.iconst 0, 1) := by decide +kernel
theorem dX11_shape_21 : decode cX11_shape 21 = .ok (.invokevirtual 229, 3) := by decide +kernel
theorem dX11_shape_24 : decode cX11_shape 24 = .ok (.ifCond .ne 37, 3) := by decide +kernel
theorem dX11_shape_27 : decode cX11_shape 27 = .ok (.aload_n 0, 1) := by decide +kernel
theorem dX11_shape_28 : decode cX11_shape 28 = .ok (.iload_n 2, 1) := by decide +kernel
theorem dX11_shape_29 : decode cX11_shape 29 = .ok (.iconst 0, 1) := by decide +kernel
theorem dX11_shape_30 : decode cX11_shape 30 = .ok (.bipush 10, 2) := by decide +kernel
theorem dX11_shape_32 : decode cX11_shape 32 = .ok (.invokestatic 121, 3) := by decide +kernel
theorem dX11_shape_35 : decode cX11_shape 35 = .ok (.ifCond .eq 13, 3) := by decide +kernel
theorem dX11_shape_38 : decode cX11_shape 38 = .ok (.iload_n 3, 1) := by decide +kernel
theorem dX11_shape_39 : decode cX11_shape 39 = .ok (.iconst 0, 1) := by decide +kernel
theorem dX11_shape_40 : decode cX11_shape 40 = .ok (.bipush 9, 2) := by decide +kernel
theorem dX11_shape_42 : decode cX11_shape 42 = .ok (.invokestatic 121, 3) := by decide +kernel
theorem dX11_shape_45 : decode cX11_shape 45 = .ok (.ifCond .ne 7, 3) := by decide +kernel
theorem dX11_shape_48 : decode cX11_shape 48 = .ok (.iconst 1, 1) := by decide +kernel
theorem dX11_shape_49 : decode cX11_shape 49 = .ok (.goto 4, 3) := by decide +kernel
theorem dX11_shape_52 : decode cX11_shape 52 = .ok (.iconst 0, 1) := by decide +kernel
theorem dX11_shape_53 : decode cX11_shape 53 = .ok (.iconst 2, 1) := by decide +kernel
theorem dX11_shape_54 : decode cX11_shape 54 = .ok (.iconst 1, 1) := by decide +kernel
theorem dX11_shape_55 : decode cX11_shape 55 = .ok (.invokevirtual 229, 3) := by decide +kernel
theorem dX11_shape_58 : decode cX11_shape 58 = .ok (.ifCond .eq 5, 3) := by decide +kernel
theorem dX11_shape_61 : decode cX11_shape 61 = .ok (.iconst 0, 1) := by decide +kernel
theorem dX11_shape_62 : decode cX11_shape 62 = .ok (.ireturn, 1) := by decide +kernel
theorem dX11_shape_63 : decode cX11_shape 63 = .ok (.aload_n 0, 1) := by decide +kernel
theorem dX11_shape_64 : decode cX11_shape 64 = .ok (.iload_n 1, 1) := by decide +kernel
theorem dX11_shape_65 : decode cX11_shape 65 = .ok (.iload_n 2, 1) := by decide +kernel
theorem dX11_shape_66 : decode cX11_shape 66 = .ok (.iload_n 3, 1) := by decide +kernel
theorem dX11_shape_67 : decode cX11_shape 67 = .ok (.invokevirtual 336, 3) := by decide +kernel
theorem dX11_shape_70 : decode cX11_shape 70 = .ok (.ireturn, 1) := by decide +kernel
theorem dX11_keep_0 : decode cX11_keep 0 = .ok (.aload_n 0, 1) := by decide +kernel
theorem dX11_keep_1 : decode cX11_keep 1 = .ok (.iconst 0, 1) := by decide +kernel
theorem dX11_keep_2 : decode cX11_keep 2 = .ok (.putfield 78, 3) := by decide +kernel
theorem dX11_keep_5 : decode cX11_keep 5 = .ok (.aload_n 0, 1) := by decide +kernel
theorem dX11_keep_6 : decode cX11_keep 6 = .ok (.aload_n 0, 1) := by decide +kernel
theorem dX11_keep_7 : decode cX11_keep 7 = .ok (.iload_n 1, 1) := by decide +kernel
theorem dX11_keep_8 : decode cX11_keep 8 = .ok (.invokevirtual 358, 3) := by decide +kernel
theorem dX11_keep_11 : decode cX11_keep 11 = .ok (.ifCond .eq 12, 3) := by decide +kernel
theorem dX11_keep_14 : decode cX11_keep 14 = .ok (.iload_n 2, 1) := by decide +kernel
theorem dX11_keep_15 : decode cX11_keep 15 = .ok (.iconst 0, 1) := by decide +kernel
theorem dX11_keep_16 : decode cX11_keep 16 = .ok (.iconst 4, 1) := by decide +kernel
theorem dX11_keep_17 : decode cX11_keep 17 = .ok (.invokestatic 121, 3) := by decide +kernel
theorem dX11_keep_20 : decode cX11_keep 20 = .ok (.ifCond .ne 7, 3) := by decide +kernel
theorem dX11_keep_23 : decode cX11_keep 23 = .ok (.iconst 1, 1) := by decide +kernel
theorem dX11_keep_24 : decode cX11_keep 24 = .ok (.goto 4, 3) := by decide +kernel
theorem dX11_keep_27 : decode cX11_keep 27 = .ok (.iconst 0, 1) := by decide +kernel
theorem dX11_keep_28 : decode cX11_keep 28 = .ok (.iconst 1, 1) := by decide +kernel
theorem dX11_keep_29 : decode cX11_keep 29 = .ok (.iconst 0, 1) := by decide +kernel
theorem dX11_keep_30 : decode cX11_keep 30 = .ok (.invokevirtual 229, 3) := by decide +kernel
theorem dX11_keep_33 : decode cX11_keep 33 = .ok (.ifCond .ne 26, 3) := by decide +kernel
theorem dX11_keep_36 : decode cX11_keep 36 = .ok (.aload_n 0, 1) := by decide +kernel
theorem dX11_keep_37 : decode cX11_keep 37 = .ok (.iload_n 3, 1) := by decide +kernel
theorem dX11_keep_38 : decode cX11_keep 38 = .ok (.iconst 0, 1) := by decide +kernel
theorem dX11_keep_39 : decode cX11_keep 39 = .ok (.iconst 1, 1) := by decide +kernel
theorem dX11_keep_40 : decode cX11_keep 40 = .ok (.invokestatic 121, 3) := by decide +kernel
theorem dX11_keep_43 : decode cX11_keep 43 = .ok (.ifCond .ne 7, 3) := by decide +kernel
theorem dX11_keep_46 : decode cX11_keep 46 = .ok (.iconst 1, 1) := by decide +kernel
theorem dX11_keep_47 : decode cX11_keep 47 = .ok (.goto 4, 3) := by decide +kernel
theorem dX11_keep_50 : decode cX11_keep 50 = .ok (.iconst 0, 1) := by decide +kernel
theorem dX11_keep_51 : decode cX11_keep 51 = .ok (.iconst 2, 1) := by decide +kernel
theorem dX11_keep_52 : decode cX11_keep 52 = .ok (.iconst 1, 1) := by decide +kernel
theorem dX11_keep_53 : decode cX11_keep 53 = .ok (.invokevirtual 229, 3) := by decide +kernel
theorem dX11_keep_56 : decode cX11_keep 56 = .ok (.ifCond .eq 5, 3) := by decide +kernel
theorem dX11_keep_59 : decode cX11_keep 59 = .ok (.iconst 0, 1) := by decide +kernel
theorem dX11_keep_60 : decode cX11_keep 60 = .ok (.ireturn, 1) := by decide +kernel
theorem dX11_keep_61 : decode cX11_keep 61 = .ok (.iload_n 3, 1) := by decide +kernel
theorem dX11_keep_62 : decode cX11_keep 62 = .ok (.ifCond .ne 12, 3) := by decide +kernel
theorem dX11_keep_65 : decode cX11_keep 65 = .ok (.aload_n 0, 1) := by decide +kernel
theorem dX11_keep_66 : decode cX11_keep 66 = .ok (.iload_n 1, 1) := by decide +kernel
theorem dX11_keep_67 : decode cX11_keep 67 = .ok (.iload_n 2, 1) := by decide +kernel
theorem dX11_keep_68 : decode cX11_keep 68 = .ok (.invokevirtual 339, 3) := by decide +kernel
theorem dX11_keep_71 : decode cX11_keep 71 = .ok (.goto 9, 3) := by decide +kernel
theorem dX11_keep_74 : decode cX11_keep 74 = .ok (.aload_n 0, 1) := by decide +kernel
theorem dX11_keep_75 : decode cX11_keep 75 = .ok (.iload_n 1, 1) := by decide +kernel
theorem dX11_keep_76 : decode cX11_keep 76 = .ok (.iload_n 2, 1) := by decide +kernel
theorem dX11_keep_77 : decode cX11_keep 77 = .ok (.invokevirtual 342, 3) := by decide +kernel
theorem dX11_keep_80 : decode cX11_keep 80 = .ok (.ireturn, 1) := by decide +kernel
theorem dX11_shapes_0 : decode cX11_shapes 0 = .ok (.aload_n 0, 1) := by decide +kernel
theorem dX11_shapes_1 : decode cX11_shapes 1 = .ok (.iconst 0, 1) := by decide +kernel
theorem dX11_shapes_2 : decode cX11_shapes 2 = .ok (.putfield 78, 3) := by decide +kernel
theorem dX11_shapes_5 : decode cX11_shapes 5 = .ok (.aload_n 0, 1) := by decide +kernel
theorem dX11_shapes_6 : decode cX11_shapes 6 = .ok (.aload_n 0, 1) := by decide +kernel
theorem dX11_shapes_7 : decode cX11_shapes 7 = .ok (.iload_n 1, 1) := by decide +kernel
theorem dX11_shapes_8 : decode cX11_shapes 8 = .ok (.invokevirtual 358, 3) := by decide +kernel
theorem dX11_shapes_11 : decode cX11_shapes 11 = .ok (.ifCond .ne 7, 3) := by decide +kernel
theorem dX11_shapes_14 : decode cX11_shapes 14 = .ok (.iconst 1, 1) := by decide +kernel
theorem dX11_shapes_15 : decode cX11_shapes 15 = .ok (.goto 4, 3) := by decide +kernel
theorem dX11_shapes_18 : decode cX11_shapes 18 = .ok (.iconst 0, 1) := by decide +kernel
theorem dX11_shapes_19 : decode cX11_shapes 19 = .ok (.iconst 1, 1) := by decide +kernel
theorem dX11_shapes_20 : decode cX11_shapes 20 = .ok (.iconst 0, 1) := by decide +kernel
theorem dX11_shapes_21 : decode cX11_shapes 21 = .ok (.invokevirtual 229, 3) := by decide +kernel
theorem dX11_shapes_24 : decode cX11_shapes 24 = .ok (.ifCond .eq 5, 3) := by decide +kernel
theorem dX11_shapes_27 : decode cX11_shapes 27 = .ok (.iconst 0, 1) := by decide +kernel
theorem dX11_shapes_28 : decode cX11_shapes 28 = .ok (.ireturn, 1) := by decide +kernel
theorem dX11_shapes_29 : decode cX11_shapes 29 = .ok (.iconst 0, 1) := by decide +kernel
theorem dX11_shapes_30 : decode cX11_shapes 30 = .ok (.istore_n 2, 1) := by decide +kernel
theorem dX11_shapes_31 : decode cX11_shapes 31 = .ok (.iconst 0, 1) := by decide +kernel
theorem dX11_shapes_32 : decode cX11_shapes 32 = .ok (.istore_n 3, 1) := by decide +kernel
theorem dX11_shapes_33 : decode cX11_shapes 33 = .ok (.iload_n 3, 1) := by decide +kernel
theorem dX11_shapes_34 : decode cX11_shapes 34 = .ok (.bipush 10, 2) := by decide +kernel
theorem dX11_shapes_36 : decode cX11_shapes 36 = .ok (.if_icmp .gt 34, 3) := by decide +kernel
theorem dX11_shapes_39 : decode cX11_shapes 39 = .ok (.iload_n 2, 1) := by decide +kernel
theorem dX11_shapes_40 : decode cX11_shapes 40 = .ok (.aload_n 0, 1) := by decide +kernel
theorem dX11_shapes_41 : decode cX11_shapes 41 = .ok (.iload_n 1, 1) := by decide +kernel
theorem dX11_shapes_42 : decode cX11_shapes 42 = .ok (.iload_n 3, 1) := by decide +kernel
theorem dX11_shapes_43 : decode cX11_shapes 43 = .ok (.aload_n 0, 1) := by decide +kernel
theorem dX11_shapes_44 : decode cX11_shapes 44 = .ok (.getfield 45, 3) := by decide +kernel
theorem dX11_shapes_47 : decode cX11_shapes 47 = .ok (.iload_n 1, 1) := by decide +kernel
theorem dX11_shapes_48 : decode cX11_shapes 48 = .ok (.iaload, 1) := by decide +kernel
theorem dX11_shapes_49 : decode cX11_shapes 49 = .ok (.invokevirtual 352, 3) := by decide +kernel
theorem dX11_shapes_52 : decode cX11_shapes 52 = .ok (.ifCond .ne 9, 3) := by decide +kernel
theorem dX11_shapes_55 : decode cX11_shapes 55 = .ok (.iconst 1, 1) := by decide +kernel
theorem dX11_shapes_56 : decode cX11_shapes 56 = .ok (.iload_n 3, 1) := by decide +kernel
theorem dX11_shapes_57 : decode cX11_shapes 57 = .ok (.ishl, 1) := by decide +kernel
theorem dX11_shapes_58 : decode cX11_shapes 58 = .ok (.goto 4, 3) := by decide +kernel
theorem dX11_shapes_61 : decode cX11_shapes 61 = .ok (.iconst 0, 1) := by decide +kernel
theorem dX11_shapes_62 : decode cX11_shapes 62 = .ok (.ior, 1) := by decide +kernel
theorem dX11_shapes_63 : decode cX11_shapes 63 = .ok (.istore_n 2, 1) := by decide +kernel
theorem dX11_shapes_64 : decode cX11_shapes 64 = .ok (.iinc 3 1, 3) := by decide +kernel
theorem dX11_shapes_67 : decode cX11_shapes 67 = .ok (.goto (-34), 3) := by decide +kernel
theorem dX11_shapes_70 : decode cX11_shapes 70 = .ok (.iload_n 2, 1) := by decide +kernel
theorem dX11_shapes_71 : decode cX11_shapes 71 = .ok (.ireturn, 1) := by decide +kernel
theorem dX11_isNought_0 : decode cX11_isNought 0 = .ok (.aload_n 0, 1) := by decide +kernel
theorem dX11_isNought_1 : decode cX11_isNought 1 = .ok (.getfield 56, 3) := by decide +kernel
theorem dX11_isNought_4 : decode cX11_isNought 4 = .ok (.iload_n 1, 1) := by decide +kernel
theorem dX11_isNought_5 : decode cX11_isNought 5 = .ok (.aaload, 1) := by decide +kernel
theorem dX11_isNought_6 : decode cX11_isNought 6 = .ok (.iconst 2, 1) := by decide +kernel
theorem dX11_isNought_7 : decode cX11_isNought 7 = .ok (.iaload, 1) := by decide +kernel
theorem dX11_isNought_8 : decode cX11_isNought 8 = .ok (.iconst (-1), 1) := by decide +kernel
theorem dX11_isNought_9 : decode cX11_isNought 9 = .ok (.if_icmp .eq 27, 3) := by decide +kernel
theorem dX11_isNought_12 : decode cX11_isNought 12 = .ok (.aload_n 0, 1) := by decide +kernel
theorem dX11_isNought_13 : decode cX11_isNought 13 = .ok (.getfield 56, 3) := by decide +kernel
theorem dX11_isNought_16 : decode cX11_isNought 16 = .ok (.iload_n 1, 1) := by decide +kernel
theorem dX11_isNought_17 : decode cX11_isNought 17 = .ok (.aaload, 1) := by decide +kernel
theorem dX11_isNought_18 : decode cX11_isNought 18 = .ok (.iconst 2, 1) := by decide +kernel
theorem dX11_isNought_19 : decode cX11_isNought 19 = .ok (.iaload, 1) := by decide +kernel
theorem dX11_isNought_20 : decode cX11_isNought 20 = .ok (.bipush 8, 2) := by decide +kernel
theorem dX11_isNought_22 : decode cX11_isNought 22 = .ok (.if_icmp .eq 18, 3) := by decide +kernel
theorem dX11_isNought_25 : decode cX11_isNought 25 = .ok (.aload_n 0, 1) := by decide +kernel
theorem dX11_isNought_26 : decode cX11_isNought 26 = .ok (.getfield 59, 3) := by decide +kernel
theorem dX11_isNought_29 : decode cX11_isNought 29 = .ok (.iload_n 1, 1) := by decide +kernel
theorem dX11_isNought_30 : decode cX11_isNought 30 = .ok (.laload, 1) := by decide +kernel
theorem dX11_isNought_31 : decode cX11_isNought 31 = .ok (.lconst 0, 1) := by decide +kernel
theorem dX11_isNought_32 : decode cX11_isNought 32 = .ok (.lcmp, 1) := by decide +kernel
theorem dX11_isNought_33 : decode cX11_isNought 33 = .ok (.ifCond .ne 7, 3) := by decide +kernel
theorem dX11_isNought_36 : decode cX11_isNought 36 = .ok (.iconst 1, 1) := by decide +kernel
theorem dX11_isNought_37 : decode cX11_isNought 37 = .ok (.goto 4, 3) := by decide +kernel
theorem dX11_isNought_40 : decode cX11_isNought 40 = .ok (.iconst 0, 1) := by decide +kernel
theorem dX11_isNought_41 : decode cX11_isNought 41 = .ok (.ireturn, 1) := by decide +kernel
theorem dX11_goesOn_0 : decode cX11_goesOn 0 = .ok (.aload_n 0, 1) := by decide +kernel
theorem dX11_goesOn_1 : decode cX11_goesOn 1 = .ok (.getfield 56, 3) := by decide +kernel
theorem dX11_goesOn_4 : decode cX11_goesOn 4 = .ok (.iload_n 1, 1) := by decide +kernel
theorem dX11_goesOn_5 : decode cX11_goesOn 5 = .ok (.aaload, 1) := by decide +kernel
theorem dX11_goesOn_6 : decode cX11_goesOn 6 = .ok (.astore_n 2, 1) := by decide +kernel
theorem dX11_goesOn_7 : decode cX11_goesOn 7 = .ok (.aload_n 2, 1) := by decide +kernel
theorem dX11_goesOn_8 : decode cX11_goesOn 8 = .ok (.iconst 3, 1) := by decide +kernel
theorem dX11_goesOn_9 : decode cX11_goesOn 9 = .ok (.iaload, 1) := by decide +kernel
theorem dX11_goesOn_10 : decode cX11_goesOn 10 = .ok (.ifCond .le 36, 3) := by decide +kernel
theorem dX11_goesOn_13 : decode cX11_goesOn 13 = .ok (.aload_n 2, 1) := by decide +kernel
theorem dX11_goesOn_14 : decode cX11_goesOn 14 = .ok (.iconst 3, 1) := by decide +kernel
theorem dX11_goesOn_15 : decode cX11_goesOn 15 = .ok (.dup2, 1) := by decide +kernel
theorem dX11_goesOn_16 : decode cX11_goesOn 16 = .ok (.iaload, 1) := by decide +kernel
theorem dX11_goesOn_17 : decode cX11_goesOn 17 = .ok (.iconst 1, 1) := by decide +kernel
theorem dX11_goesOn_18 : decode cX11_goesOn 18 = .ok (.isub, 1) := by decide +kernel
theorem dX11_goesOn_19 : decode cX11_goesOn 19 = .ok (.iastore, 1) := by decide +kernel
theorem dX11_goesOn_20 : decode cX11_goesOn 20 = .ok (.aload_n 2, 1) := by decide +kernel
theorem dX11_goesOn_21 : decode cX11_goesOn 21 = .ok (.iconst 3, 1) := by decide +kernel
theorem dX11_goesOn_22 : decode cX11_goesOn 22 = .ok (.iaload, 1) := by decide +kernel
theorem dX11_goesOn_23 : decode cX11_goesOn 23 = .ok (.ifCond .ne 21, 3) := by decide +kernel
theorem dX11_goesOn_26 : decode cX11_goesOn 26 = .ok (.aload_n 0, 1) := by decide +kernel
theorem dX11_goesOn_27 : decode cX11_goesOn 27 = .ok (.getfield 63, 3) := by decide +kernel
theorem dX11_goesOn_30 : decode cX11_goesOn 30 = .ok (.iload_n 1, 1) := by decide +kernel
theorem dX11_goesOn_31 : decode cX11_goesOn 31 = .ok (.aaload, 1) := by decide +kernel
theorem dX11_goesOn_32 : decode cX11_goesOn 32 = .ok (.aload_n 2, 1) := by decide +kernel
theorem dX11_goesOn_33 : decode cX11_goesOn 33 = .ok (.iconst 0, 1) := by decide +kernel
theorem dX11_goesOn_34 : decode cX11_goesOn 34 = .ok (.iaload, 1) := by decide +kernel
theorem dX11_goesOn_35 : decode cX11_goesOn 35 = .ok (.iconst 1, 1) := by decide +kernel
theorem dX11_goesOn_36 : decode cX11_goesOn 36 = .ok (.isub, 1) := by decide +kernel
theorem dX11_goesOn_37 : decode cX11_goesOn 37 = .ok (.aaload, 1) := by decide +kernel
theorem dX11_goesOn_38 : decode cX11_goesOn 38 = .ok (.iconst 2, 1) := by decide +kernel
theorem dX11_goesOn_39 : decode cX11_goesOn 39 = .ok (.dup2, 1) := by decide +kernel
theorem dX11_goesOn_40 : decode cX11_goesOn 40 = .ok (.iaload, 1) := by decide +kernel
theorem dX11_goesOn_41 : decode cX11_goesOn 41 = .ok (.iconst 1, 1) := by decide +kernel
theorem dX11_goesOn_42 : decode cX11_goesOn 42 = .ok (.iadd, 1) := by decide +kernel
theorem dX11_goesOn_43 : decode cX11_goesOn 43 = .ok (.iastore, 1) := by decide +kernel
theorem dX11_goesOn_44 : decode cX11_goesOn 44 = .ok (.iconst 0, 1) := by decide +kernel
theorem dX11_goesOn_45 : decode cX11_goesOn 45 = .ok (.ireturn, 1) := by decide +kernel
theorem dX11_goesOn_46 : decode cX11_goesOn 46 = .ok (.aload_n 0, 1) := by decide +kernel
theorem dX11_goesOn_47 : decode cX11_goesOn 47 = .ok (.getfield 63, 3) := by decide +kernel
theorem dX11_goesOn_50 : decode cX11_goesOn 50 = .ok (.iload_n 1, 1) := by decide +kernel
theorem dX11_goesOn_51 : decode cX11_goesOn 51 = .ok (.aaload, 1) := by decide +kernel
theorem dX11_goesOn_52 : decode cX11_goesOn 52 = .ok (.aload_n 2, 1) := by decide +kernel
theorem dX11_goesOn_53 : decode cX11_goesOn 53 = .ok (.iconst 0, 1) := by decide +kernel
theorem dX11_goesOn_54 : decode cX11_goesOn 54 = .ok (.iaload, 1) := by decide +kernel
theorem dX11_goesOn_55 : decode cX11_goesOn 55 = .ok (.iconst 1, 1) := by decide +kernel
theorem dX11_goesOn_56 : decode cX11_goesOn 56 = .ok (.isub, 1) := by decide +kernel
theorem dX11_goesOn_57 : decode cX11_goesOn 57 = .ok (.aaload, 1) := by decide +kernel
theorem dX11_goesOn_58 : decode cX11_goesOn 58 = .ok (.astore_n 3, 1) := by decide +kernel
theorem dX11_goesOn_59 : decode cX11_goesOn 59 = .ok (.aload_n 0, 1) := by decide +kernel
theorem dX11_goesOn_60 : decode cX11_goesOn 60 = .ok (.iload_n 1, 1) := by decide +kernel
theorem dX11_goesOn_61 : decode cX11_goesOn 61 = .ok (.aload_n 2, 1) := by decide +kernel
theorem dX11_goesOn_62 : decode cX11_goesOn 62 = .ok (.iconst 0, 1) := by decide +kernel
theorem dX11_goesOn_63 : decode cX11_goesOn 63 = .ok (.iaload, 1) := by decide +kernel
theorem dX11_goesOn_64 : decode cX11_goesOn 64 = .ok (.iconst 1, 1) := by decide +kernel
theorem dX11_goesOn_65 : decode cX11_goesOn 65 = .ok (.isub, 1) := by decide +kernel
theorem dX11_goesOn_66 : decode cX11_goesOn 66 = .ok (.invokevirtual 361, 3) := by decide +kernel
theorem dX11_goesOn_69 : decode cX11_goesOn 69 = .ok (.aload_n 3, 1) := by decide +kernel
theorem dX11_goesOn_70 : decode cX11_goesOn 70 = .ok (.iconst 2, 1) := by decide +kernel
theorem dX11_goesOn_71 : decode cX11_goesOn 71 = .ok (.iaload, 1) := by decide +kernel
theorem dX11_goesOn_72 : decode cX11_goesOn 72 = .ok (.isub, 1) := by decide +kernel
theorem dX11_goesOn_73 : decode cX11_goesOn 73 = .ok (.istore 4, 2) := by decide +kernel
theorem dX11_goesOn_75 : decode cX11_goesOn 75 = .ok (.iload 4, 2) := by decide +kernel
theorem dX11_goesOn_77 : decode cX11_goesOn 77 = .ok (.ifCond .le 25, 3) := by decide +kernel
theorem dX11_goesOn_80 : decode cX11_goesOn 80 = .ok (.aload_n 0, 1) := by decide +kernel
theorem dX11_goesOn_81 : decode cX11_goesOn 81 = .ok (.getfield 25, 3) := by decide +kernel
theorem dX11_goesOn_84 : decode cX11_goesOn 84 = .ok (.aload_n 0, 1) := by decide +kernel
theorem dX11_goesOn_85 : decode cX11_goesOn 85 = .ok (.iload_n 1, 1) := by decide +kernel
theorem dX11_goesOn_86 : decode cX11_goesOn 86 = .ok (.aload_n 2, 1) := by decide +kernel
theorem dX11_goesOn_87 : decode cX11_goesOn 87 = .ok (.iconst 0, 1) := by decide +kernel
theorem dX11_goesOn_88 : decode cX11_goesOn 88 = .ok (.iaload, 1) := by decide +kernel
theorem dX11_goesOn_89 : decode cX11_goesOn 89 = .ok (.iconst 1, 1) := by decide +kernel
theorem dX11_goesOn_90 : decode cX11_goesOn 90 = .ok (.isub, 1) := by decide +kernel
theorem dX11_goesOn_91 : decode cX11_goesOn 91 = .ok (.invokevirtual 308, 3) := by decide +kernel
theorem dX11_goesOn_94 : decode cX11_goesOn 94 = .ok (.aaload, 1) := by decide +kernel
theorem dX11_goesOn_95 : decode cX11_goesOn 95 = .ok (.aload_n 3, 1) := by decide +kernel
theorem dX11_goesOn_96 : decode cX11_goesOn 96 = .ok (.iconst 2, 1) := by decide +kernel
theorem dX11_goesOn_97 : decode cX11_goesOn 97 = .ok (.iaload, 1) := by decide +kernel
theorem dX11_goesOn_98 : decode cX11_goesOn 98 = .ok (.aaload, 1) := by decide +kernel
theorem dX11_goesOn_99 : decode cX11_goesOn 99 = .ok (.goto 4, 3) := by decide +kernel
theorem dX11_goesOn_102 : decode cX11_goesOn 102 = .ok (.aconst_null, 1) := by decide +kernel
theorem dX11_goesOn_103 : decode cX11_goesOn 103 = .ok (.astore 5, 2) := by decide +kernel
theorem dX11_goesOn_105 : decode cX11_goesOn 105 = .ok (.aload 5, 2) := by decide +kernel
theorem dX11_goesOn_107 : decode cX11_goesOn 107 = .ok (.ifnonnull 7, 3) := by decide +kernel
theorem dX11_goesOn_110 : decode cX11_goesOn 110 = .ok (.iconst 1, 1) := by decide +kernel
theorem dX11_goesOn_111 : decode cX11_goesOn 111 = .ok (.goto 7, 3) := by decide +kernel
theorem dX11_goesOn_114 : decode cX11_goesOn 114 = .ok (.aload 5, 2) := by decide +kernel
theorem dX11_goesOn_116 : decode cX11_goesOn 116 = .ok (.iconst 0, 1) := by decide +kernel
theorem dX11_goesOn_117 : decode cX11_goesOn 117 = .ok (.iaload, 1) := by decide +kernel
theorem dX11_goesOn_118 : decode cX11_goesOn 118 = .ok (.istore 6, 2) := by decide +kernel
theorem dX11_goesOn_120 : decode cX11_goesOn 120 = .ok (.aload_n 2, 1) := by decide +kernel
theorem dX11_goesOn_121 : decode cX11_goesOn 121 = .ok (.bipush 6, 2) := by decide +kernel
theorem dX11_goesOn_123 : decode cX11_goesOn 123 = .ok (.dup2, 1) := by decide +kernel
theorem dX11_goesOn_124 : decode cX11_goesOn 124 = .ok (.iaload, 1) := by decide +kernel
theorem dX11_goesOn_125 : decode cX11_goesOn 125 = .ok (.iconst 1, 1) := by decide +kernel
theorem dX11_goesOn_126 : decode cX11_goesOn 126 = .ok (.iadd, 1) := by decide +kernel
theorem dX11_goesOn_127 : decode cX11_goesOn 127 = .ok (.iastore, 1) := by decide +kernel
theorem dX11_goesOn_128 : decode cX11_goesOn 128 = .ok (.aload_n 2, 1) := by decide +kernel
theorem dX11_goesOn_129 : decode cX11_goesOn 129 = .ok (.iconst 1, 1) := by decide +kernel
theorem dX11_goesOn_130 : decode cX11_goesOn 130 = .ok (.iconst 0, 1) := by decide +kernel
theorem dX11_goesOn_131 : decode cX11_goesOn 131 = .ok (.iastore, 1) := by decide +kernel
theorem dX11_goesOn_132 : decode cX11_goesOn 132 = .ok (.iload 6, 2) := by decide +kernel
theorem dX11_goesOn_134 : decode cX11_goesOn 134 = .ok (.tableswitch 175 0 6 #[42, 76, 86, 93, 117, 151, 151], 42) := by decide +kernel
theorem dX11_goesOn_176 : decode cX11_goesOn 176 = .ok (.aload_n 3, 1) := by decide +kernel
theorem dX11_goesOn_177 : decode cX11_goesOn 177 = .ok (.iconst 2, 1) := by decide +kernel
theorem dX11_goesOn_178 : decode cX11_goesOn 178 = .ok (.dup2, 1) := by decide +kernel
theorem dX11_goesOn_179 : decode cX11_goesOn 179 = .ok (.iaload, 1) := by decide +kernel
theorem dX11_goesOn_180 : decode cX11_goesOn 180 = .ok (.iconst 1, 1) := by decide +kernel
theorem dX11_goesOn_181 : decode cX11_goesOn 181 = .ok (.iadd, 1) := by decide +kernel
theorem dX11_goesOn_182 : decode cX11_goesOn 182 = .ok (.iastore, 1) := by decide +kernel
theorem dX11_goesOn_183 : decode cX11_goesOn 183 = .ok (.aload_n 2, 1) := by decide +kernel
theorem dX11_goesOn_184 : decode cX11_goesOn 184 = .ok (.iconst 0, 1) := by decide +kernel
theorem dX11_goesOn_185 : decode cX11_goesOn 185 = .ok (.iaload, 1) := by decide +kernel
theorem dX11_goesOn_186 : decode cX11_goesOn 186 = .ok (.bipush 10, 2) := by decide +kernel
theorem dX11_goesOn_188 : decode cX11_goesOn 188 = .ok (.if_icmp .ne 10, 3) := by decide +kernel
theorem dX11_goesOn_191 : decode cX11_goesOn 191 = .ok (.aload_n 2, 1) := by decide +kernel
theorem dX11_goesOn_192 : decode cX11_goesOn 192 = .ok (.iconst 1, 1) := by decide +kernel
theorem dX11_goesOn_193 : decode cX11_goesOn 193 = .ok (.iconst 3, 1) := by decide +kernel
theorem dX11_goesOn_194 : decode cX11_goesOn 194 = .ok (.iastore, 1) := by decide +kernel
theorem dX11_goesOn_195 : decode cX11_goesOn 195 = .ok (.goto 131, 3) := by decide +kernel
theorem dX11_goesOn_198 : decode cX11_goesOn 198 = .ok (.aload_n 0, 1) := by decide +kernel
theorem dX11_goesOn_199 : decode cX11_goesOn 199 = .ok (.iload_n 1, 1) := by decide +kernel
theorem dX11_goesOn_200 : decode cX11_goesOn 200 = .ok (.aload 5, 2) := by decide +kernel
theorem dX11_goesOn_202 : decode cX11_goesOn 202 = .ok (.iconst 1, 1) := by decide +kernel
theorem dX11_goesOn_203 : decode cX11_goesOn 203 = .ok (.iaload, 1) := by decide +kernel
theorem dX11_goesOn_204 : decode cX11_goesOn 204 = .ok (.invokevirtual 364, 3) := by decide +kernel
theorem dX11_goesOn_207 : decode cX11_goesOn 207 = .ok (.goto 119, 3) := by decide +kernel
theorem dX11_goesOn_210 : decode cX11_goesOn 210 = .ok (.aload_n 2, 1) := by decide +kernel
theorem dX11_goesOn_211 : decode cX11_goesOn 211 = .ok (.iconst 0, 1) := by decide +kernel
theorem dX11_goesOn_212 : decode cX11_goesOn 212 = .ok (.dup2, 1) := by decide +kernel
theorem dX11_goesOn_213 : decode cX11_goesOn 213 = .ok (.iaload, 1) := by decide +kernel
theorem dX11_goesOn_214 : decode cX11_goesOn 214 = .ok (.iconst 1, 1) := by decide +kernel
theorem dX11_goesOn_215 : decode cX11_goesOn 215 = .ok (.isub, 1) := by decide +kernel
theorem dX11_goesOn_216 : decode cX11_goesOn 216 = .ok (.iastore, 1) := by decide +kernel
theorem dX11_goesOn_217 : decode cX11_goesOn 217 = .ok (.goto 109, 3) := by decide +kernel
theorem dX11_goesOn_220 : decode cX11_goesOn 220 = .ok (.aload_n 3, 1) := by decide +kernel
theorem dX11_goesOn_221 : decode cX11_goesOn 221 = .ok (.iconst 2, 1) := by decide +kernel
theorem dX11_goesOn_222 : decode cX11_goesOn 222 = .ok (.iconst 0, 1) := by decide +kernel
theorem dX11_goesOn_223 : decode cX11_goesOn 223 = .ok (.iastore, 1) := by decide +kernel
theorem dX11_goesOn_224 : decode cX11_goesOn 224 = .ok (.goto 102, 3) := by decide +kernel
theorem dX11_goesOn_227 : decode cX11_goesOn 227 = .ok (.aload_n 2, 1) := by decide +kernel
theorem dX11_goesOn_228 : decode cX11_goesOn 228 = .ok (.iconst 3, 1) := by decide +kernel
theorem dX11_goesOn_229 : decode cX11_goesOn 229 = .ok (.aload 5, 2) := by decide +kernel
theorem dX11_goesOn_231 : decode cX11_goesOn 231 = .ok (.iconst 1, 1) := by decide +kernel
theorem dX11_goesOn_232 : decode cX11_goesOn 232 = .ok (.iaload, 1) := by decide +kernel
theorem dX11_goesOn_233 : decode cX11_goesOn 233 = .ok (.iastore, 1) := by decide +kernel
theorem dX11_goesOn_234 : decode cX11_goesOn 234 = .ok (.aload 5, 2) := by decide +kernel
theorem dX11_goesOn_236 : decode cX11_goesOn 236 = .ok (.iconst 1, 1) := by decide +kernel
theorem dX11_goesOn_237 : decode cX11_goesOn 237 = .ok (.iaload, 1) := by decide +kernel
theorem dX11_goesOn_238 : decode cX11_goesOn 238 = .ok (.ifCond .ne 88, 3) := by decide +kernel
theorem dX11_goesOn_241 : decode cX11_goesOn 241 = .ok (.aload_n 3, 1) := by decide +kernel
theorem dX11_goesOn_242 : decode cX11_goesOn 242 = .ok (.iconst 2, 1) := by decide +kernel
theorem dX11_goesOn_243 : decode cX11_goesOn 243 = .ok (.dup2, 1) := by decide +kernel
theorem dX11_goesOn_244 : decode cX11_goesOn 244 = .ok (.iaload, 1) := by decide +kernel
theorem dX11_goesOn_245 : decode cX11_goesOn 245 = .ok (.iconst 1, 1) := by decide +kernel
theorem dX11_goesOn_246 : decode cX11_goesOn 246 = .ok (.iadd, 1) := by decide +kernel
theorem dX11_goesOn_247 : decode cX11_goesOn 247 = .ok (.iastore, 1) := by decide +kernel
theorem dX11_goesOn_248 : decode cX11_goesOn 248 = .ok (.goto 78, 3) := by decide +kernel
theorem dX11_goesOn_251 : decode cX11_goesOn 251 = .ok (.aload_n 3, 1) := by decide +kernel
theorem dX11_goesOn_252 : decode cX11_goesOn 252 = .ok (.iconst 2, 1) := by decide +kernel
theorem dX11_goesOn_253 : decode cX11_goesOn 253 = .ok (.dup2, 1) := by decide +kernel
theorem dX11_goesOn_254 : decode cX11_goesOn 254 = .ok (.iaload, 1) := by decide +kernel
theorem dX11_goesOn_255 : decode cX11_goesOn 255 = .ok (.iconst 1, 1) := by decide +kernel
theorem dX11_goesOn_256 : decode cX11_goesOn 256 = .ok (.aload_n 0, 1) := by decide +kernel
theorem dX11_goesOn_257 : decode cX11_goesOn 257 = .ok (.iload_n 1, 1) := by decide +kernel
theorem dX11_goesOn_258 : decode cX11_goesOn 258 = .ok (.invokevirtual 367, 3) := by decide +kernel
theorem dX11_goesOn_261 : decode cX11_goesOn 261 = .ok (.ifCond .eq 17, 3) := by decide +kernel
theorem dX11_goesOn_264 : decode cX11_goesOn 264 = .ok (.aload 5, 2) := by decide +kernel
theorem dX11_goesOn_266 : decode cX11_goesOn 266 = .ok (.iconst 1, 1) := by decide +kernel
theorem dX11_goesOn_267 : decode cX11_goesOn 267 = .ok (.iaload, 1) := by decide +kernel
theorem dX11_goesOn_268 : decode cX11_goesOn 268 = .ok (.iload 4, 2) := by decide +kernel
theorem dX11_goesOn_270 : decode cX11_goesOn 270 = .ok (.iconst 1, 1) := by decide +kernel
theorem dX11_goesOn_271 : decode cX11_goesOn 271 = .ok (.isub, 1) := by decide +kernel
theorem dX11_goesOn_272 : decode cX11_goesOn 272 = .ok (.invokestatic 117, 3) := by decide +kernel
theorem dX11_goesOn_275 : decode cX11_goesOn 275 = .ok (.goto 4, 3) := by decide +kernel
theorem dX11_goesOn_278 : decode cX11_goesOn 278 = .ok (.iconst 0, 1) := by decide +kernel
theorem dX11_goesOn_279 : decode cX11_goesOn 279 = .ok (.iadd, 1) := by decide +kernel
theorem dX11_goesOn_280 : decode cX11_goesOn 280 = .ok (.iadd, 1) := by decide +kernel
theorem dX11_goesOn_281 : decode cX11_goesOn 281 = .ok (.iastore, 1) := by decide +kernel
theorem dX11_goesOn_282 : decode cX11_goesOn 282 = .ok (.goto 44, 3) := by decide +kernel
theorem dX11_goesOn_285 : decode cX11_goesOn 285 = .ok (.aload_n 3, 1) := by decide +kernel
theorem dX11_goesOn_286 : decode cX11_goesOn 286 = .ok (.iconst 3, 1) := by decide +kernel
theorem dX11_goesOn_287 : decode cX11_goesOn 287 = .ok (.iload 6, 2) := by decide +kernel
theorem dX11_goesOn_289 : decode cX11_goesOn 289 = .ok (.iconst 5, 1) := by decide +kernel
theorem dX11_goesOn_290 : decode cX11_goesOn 290 = .ok (.if_icmp .ne 7, 3) := by decide +kernel
theorem dX11_goesOn_293 : decode cX11_goesOn 293 = .ok (.iconst 1, 1) := by decide +kernel
theorem dX11_goesOn_294 : decode cX11_goesOn 294 = .ok (.goto 4, 3) := by decide +kernel
theorem dX11_goesOn_297 : decode cX11_goesOn 297 = .ok (.iconst 0, 1) := by decide +kernel
theorem dX11_goesOn_298 : decode cX11_goesOn 298 = .ok (.iastore, 1) := by decide +kernel
theorem dX11_goesOn_299 : decode cX11_goesOn 299 = .ok (.aload_n 3, 1) := by decide +kernel
theorem dX11_goesOn_300 : decode cX11_goesOn 300 = .ok (.iconst 2, 1) := by decide +kernel
theorem dX11_goesOn_301 : decode cX11_goesOn 301 = .ok (.dup2, 1) := by decide +kernel
theorem dX11_goesOn_302 : decode cX11_goesOn 302 = .ok (.iaload, 1) := by decide +kernel
theorem dX11_goesOn_303 : decode cX11_goesOn 303 = .ok (.iconst 1, 1) := by decide +kernel
theorem dX11_goesOn_304 : decode cX11_goesOn 304 = .ok (.iadd, 1) := by decide +kernel
theorem dX11_goesOn_305 : decode cX11_goesOn 305 = .ok (.iastore, 1) := by decide +kernel
theorem dX11_goesOn_306 : decode cX11_goesOn 306 = .ok (.goto 20, 3) := by decide +kernel
theorem dX11_goesOn_309 : decode cX11_goesOn 309 = .ok (.aload_n 2, 1) := by decide +kernel
theorem dX11_goesOn_310 : decode cX11_goesOn 310 = .ok (.iconst 1, 1) := by decide +kernel
theorem dX11_goesOn_311 : decode cX11_goesOn 311 = .ok (.aload_n 0, 1) := by decide +kernel
theorem dX11_goesOn_312 : decode cX11_goesOn 312 = .ok (.iload_n 1, 1) := by decide +kernel
theorem dX11_goesOn_313 : decode cX11_goesOn 313 = .ok (.aload 5, 2) := by decide +kernel
theorem dX11_goesOn_315 : decode cX11_goesOn 315 = .ok (.invokevirtual 370, 3) := by decide +kernel
theorem dX11_goesOn_318 : decode cX11_goesOn 318 = .ok (.iastore, 1) := by decide +kernel
theorem dX11_goesOn_319 : decode cX11_goesOn 319 = .ok (.aload_n 3, 1) := by decide +kernel
theorem dX11_goesOn_320 : decode cX11_goesOn 320 = .ok (.iconst 2, 1) := by decide +kernel
theorem dX11_goesOn_321 : decode cX11_goesOn 321 = .ok (.dup2, 1) := by decide +kernel
theorem dX11_goesOn_322 : decode cX11_goesOn 322 = .ok (.iaload, 1) := by decide +kernel
theorem dX11_goesOn_323 : decode cX11_goesOn 323 = .ok (.iconst 1, 1) := by decide +kernel
theorem dX11_goesOn_324 : decode cX11_goesOn 324 = .ok (.iadd, 1) := by decide +kernel
theorem dX11_goesOn_325 : decode cX11_goesOn 325 = .ok (.iastore, 1) := by decide +kernel
theorem dX11_goesOn_326 : decode cX11_goesOn 326 = .ok (.aload_n 2, 1) := by decide +kernel
theorem dX11_goesOn_327 : decode cX11_goesOn 327 = .ok (.iconst 1, 1) := by decide +kernel
theorem dX11_goesOn_328 : decode cX11_goesOn 328 = .ok (.iaload, 1) := by decide +kernel
theorem dX11_goesOn_329 : decode cX11_goesOn 329 = .ok (.ifCond .le 14, 3) := by decide +kernel
theorem dX11_goesOn_332 : decode cX11_goesOn 332 = .ok (.aload_n 0, 1) := by decide +kernel
theorem dX11_goesOn_333 : decode cX11_goesOn 333 = .ok (.getfield 69, 3) := by decide +kernel
theorem dX11_goesOn_336 : decode cX11_goesOn 336 = .ok (.bipush 6, 2) := by decide +kernel
theorem dX11_goesOn_338 : decode cX11_goesOn 338 = .ok (.dup2, 1) := by decide +kernel
theorem dX11_goesOn_339 : decode cX11_goesOn 339 = .ok (.iaload, 1) := by decide +kernel
theorem dX11_goesOn_340 : decode cX11_goesOn 340 = .ok (.iconst 1, 1) := by decide +kernel
theorem dX11_goesOn_341 : decode cX11_goesOn 341 = .ok (.iadd, 1) := by decide +kernel
theorem dX11_goesOn_342 : decode cX11_goesOn 342 = .ok (.iastore, 1) := by decide +kernel
theorem dX11_goesOn_343 : decode cX11_goesOn 343 = .ok (.aload_n 2, 1) := by decide +kernel
theorem dX11_goesOn_344 : decode cX11_goesOn 344 = .ok (.iconst 1, 1) := by decide +kernel
theorem dX11_goesOn_345 : decode cX11_goesOn 345 = .ok (.iaload, 1) := by decide +kernel
theorem dX11_goesOn_346 : decode cX11_goesOn 346 = .ok (.ireturn, 1) := by decide +kernel
theorem dX11_doesAll_0 : decode cX11_doesAll 0 = .ok (.aload_n 0, 1) := by decide +kernel
theorem dX11_doesAll_1 : decode cX11_doesAll 1 = .ok (.getfield 56, 3) := by decide +kernel
theorem dX11_doesAll_4 : decode cX11_doesAll 4 = .ok (.bipush 6, 2) := by decide +kernel
theorem dX11_doesAll_6 : decode cX11_doesAll 6 = .ok (.aaload, 1) := by decide +kernel
theorem dX11_doesAll_7 : decode cX11_doesAll 7 = .ok (.iconst 2, 1) := by decide +kernel
theorem dX11_doesAll_8 : decode cX11_doesAll 8 = .ok (.iconst (-1), 1) := by decide +kernel
theorem dX11_doesAll_9 : decode cX11_doesAll 9 = .ok (.iastore, 1) := by decide +kernel
theorem dX11_doesAll_10 : decode cX11_doesAll 10 = .ok (.aload_n 0, 1) := by decide +kernel
theorem dX11_doesAll_11 : decode cX11_doesAll 11 = .ok (.getfield 59, 3) := by decide +kernel
theorem dX11_doesAll_14 : decode cX11_doesAll 14 = .ok (.bipush 6, 2) := by decide +kernel
theorem dX11_doesAll_16 : decode cX11_doesAll 16 = .ok (.lconst 0, 1) := by decide +kernel
theorem dX11_doesAll_17 : decode cX11_doesAll 17 = .ok (.lastore, 1) := by decide +kernel
theorem dX11_doesAll_18 : decode cX11_doesAll 18 = .ok (.iconst 0, 1) := by decide +kernel
theorem dX11_doesAll_19 : decode cX11_doesAll 19 = .ok (.istore_n 2, 1) := by decide +kernel
theorem dX11_doesAll_20 : decode cX11_doesAll 20 = .ok (.iload_n 2, 1) := by decide +kernel
theorem dX11_doesAll_21 : decode cX11_doesAll 21 = .ok (.aload_n 0, 1) := by decide +kernel
theorem dX11_doesAll_22 : decode cX11_doesAll 22 = .ok (.getfield 20, 3) := by decide +kernel
theorem dX11_doesAll_25 : decode cX11_doesAll 25 = .ok (.iload_n 1, 1) := by decide +kernel
theorem dX11_doesAll_26 : decode cX11_doesAll 26 = .ok (.iaload, 1) := by decide +kernel
theorem dX11_doesAll_27 : decode cX11_doesAll 27 = .ok (.if_icmp .ge 69, 3) := by decide +kernel
theorem dX11_doesAll_30 : decode cX11_doesAll 30 = .ok (.aload_n 0, 1) := by decide +kernel
theorem dX11_doesAll_31 : decode cX11_doesAll 31 = .ok (.getfield 25, 3) := by decide +kernel
theorem dX11_doesAll_34 : decode cX11_doesAll 34 = .ok (.iload_n 1, 1) := by decide +kernel
theorem dX11_doesAll_35 : decode cX11_doesAll 35 = .ok (.aaload, 1) := by decide +kernel
theorem dX11_doesAll_36 : decode cX11_doesAll 36 = .ok (.iload_n 2, 1) := by decide +kernel
theorem dX11_doesAll_37 : decode cX11_doesAll 37 = .ok (.aaload, 1) := by decide +kernel
theorem dX11_doesAll_38 : decode cX11_doesAll 38 = .ok (.astore_n 3, 1) := by decide +kernel
theorem dX11_doesAll_39 : decode cX11_doesAll 39 = .ok (.aload_n 3, 1) := by decide +kernel
theorem dX11_doesAll_40 : decode cX11_doesAll 40 = .ok (.iconst 0, 1) := by decide +kernel
theorem dX11_doesAll_41 : decode cX11_doesAll 41 = .ok (.iaload, 1) := by decide +kernel
theorem dX11_doesAll_42 : decode cX11_doesAll 42 = .ok (.iconst 1, 1) := by decide +kernel
theorem dX11_doesAll_43 : decode cX11_doesAll 43 = .ok (.if_icmp .ne 4, 3) := by decide +kernel
theorem dX11_doesAll_46 : decode cX11_doesAll 46 = .ok (.return_, 1) := by decide +kernel
theorem dX11_doesAll_47 : decode cX11_doesAll 47 = .ok (.aload_n 3, 1) := by decide +kernel
theorem dX11_doesAll_48 : decode cX11_doesAll 48 = .ok (.iconst 0, 1) := by decide +kernel
theorem dX11_doesAll_49 : decode cX11_doesAll 49 = .ok (.iaload, 1) := by decide +kernel
theorem dX11_doesAll_50 : decode cX11_doesAll 50 = .ok (.iconst 4, 1) := by decide +kernel
theorem dX11_doesAll_51 : decode cX11_doesAll 51 = .ok (.if_icmp .ne 18, 3) := by decide +kernel
theorem dX11_doesAll_54 : decode cX11_doesAll 54 = .ok (.aload_n 0, 1) := by decide +kernel
theorem dX11_doesAll_55 : decode cX11_doesAll 55 = .ok (.bipush 6, 2) := by decide +kernel
theorem dX11_doesAll_57 : decode cX11_doesAll 57 = .ok (.invokevirtual 367, 3) := by decide +kernel
theorem dX11_doesAll_60 : decode cX11_doesAll 60 = .ok (.ifCond .eq 9, 3) := by decide +kernel
theorem dX11_doesAll_63 : decode cX11_doesAll 63 = .ok (.iload_n 2, 1) := by decide +kernel
theorem dX11_doesAll_64 : decode cX11_doesAll 64 = .ok (.aload_n 3, 1) := by decide +kernel
theorem dX11_doesAll_65 : decode cX11_doesAll 65 = .ok (.iconst 1, 1) := by decide +kernel
theorem dX11_doesAll_66 : decode cX11_doesAll 66 = .ok (.iaload, 1) := by decide +kernel
theorem dX11_doesAll_67 : decode cX11_doesAll 67 = .ok (.iadd, 1) := by decide +kernel
theorem dX11_doesAll_68 : decode cX11_doesAll 68 = .ok (.istore_n 2, 1) := by decide +kernel
theorem dX11_doesAll_69 : decode cX11_doesAll 69 = .ok (.aload_n 0, 1) := by decide +kernel
theorem dX11_doesAll_70 : decode cX11_doesAll 70 = .ok (.bipush 6, 2) := by decide +kernel
theorem dX11_doesAll_72 : decode cX11_doesAll 72 = .ok (.aload_n 3, 1) := by decide +kernel
theorem dX11_doesAll_73 : decode cX11_doesAll 73 = .ok (.invokevirtual 370, 3) := by decide +kernel
theorem dX11_doesAll_76 : decode cX11_doesAll 76 = .ok (.ifCond .le 14, 3) := by decide +kernel
theorem dX11_doesAll_79 : decode cX11_doesAll 79 = .ok (.aload_n 0, 1) := by decide +kernel
theorem dX11_doesAll_80 : decode cX11_doesAll 80 = .ok (.getfield 69, 3) := by decide +kernel
theorem dX11_doesAll_83 : decode cX11_doesAll 83 = .ok (.bipush 7, 2) := by decide +kernel
theorem dX11_doesAll_85 : decode cX11_doesAll 85 = .ok (.dup2, 1) := by decide +kernel
theorem dX11_doesAll_86 : decode cX11_doesAll 86 = .ok (.iaload, 1) := by decide +kernel
theorem dX11_doesAll_87 : decode cX11_doesAll 87 = .ok (.iconst 1, 1) := by decide +kernel
theorem dX11_doesAll_88 : decode cX11_doesAll 88 = .ok (.iadd, 1) := by decide +kernel
theorem dX11_doesAll_89 : decode cX11_doesAll 89 = .ok (.iastore, 1) := by decide +kernel
theorem dX11_doesAll_90 : decode cX11_doesAll 90 = .ok (.iinc 2 1, 3) := by decide +kernel
theorem dX11_doesAll_93 : decode cX11_doesAll 93 = .ok (.goto (-73), 3) := by decide +kernel
theorem dX11_doesAll_96 : decode cX11_doesAll 96 = .ok (.return_, 1) := by decide +kernel
theorem dX11_stuckAt_0 : decode cX11_stuckAt 0 = .ok (.aload_n 0, 1) := by decide +kernel
theorem dX11_stuckAt_1 : decode cX11_stuckAt 1 = .ok (.getfield 69, 3) := by decide +kernel
theorem dX11_stuckAt_4 : decode cX11_stuckAt 4 = .ok (.iconst 1, 1) := by decide +kernel
theorem dX11_stuckAt_5 : decode cX11_stuckAt 5 = .ok (.iaload, 1) := by decide +kernel
theorem dX11_stuckAt_6 : decode cX11_stuckAt 6 = .ok (.istore_n 2, 1) := by decide +kernel
theorem dX11_stuckAt_7 : decode cX11_stuckAt 7 = .ok (.iconst 0, 1) := by decide +kernel
theorem dX11_stuckAt_8 : decode cX11_stuckAt 8 = .ok (.istore_n 3, 1) := by decide +kernel
theorem dX11_stuckAt_9 : decode cX11_stuckAt 9 = .ok (.iload_n 3, 1) := by decide +kernel
theorem dX11_stuckAt_10 : decode cX11_stuckAt 10 = .ok (.aload_n 0, 1) := by decide +kernel
