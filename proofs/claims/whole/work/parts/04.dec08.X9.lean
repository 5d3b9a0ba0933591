theorem dX9_init_0 : decode cX9_init 0 = .ok (.aload_n 0, 1) := by decide +kernel
theorem dX9_init_1 : decode cX9_init 1 = .ok (.invokespecial 3, 3) := by decide +kernel
theorem dX9_init_4 : decode cX9_init 4 = .ok (.aload_n 0, 1) := by decide +kernel
theorem dX9_init_5 : decode cX9_init 5 = .ok (.bipush 12, 2) := by decide +kernel
theorem dX9_init_7 : decode cX9_init 7 = .ok (.anewarray 9, 3) := by decide +kernel
theorem dX9_init_10 : decode cX9_init 10 = .ok (.putfield 11, 3) := by decide +kernel
theorem dX9_init_13 : decode cX9_init 13 = .ok (.aload_n 0, 1) := by decide +kernel
theorem dX9_init_14 : decode cX9_init 14 = .ok (.bipush 8, 2) := by decide +kernel
theorem dX9_init_16 : decode cX9_init 16 = .ok (.anewarray 17, 3) := by decide +kernel
theorem dX9_init_19 : decode cX9_init 19 = .ok (.putfield 19, 3) := by decide +kernel
theorem dX9_init_22 : decode cX9_init 22 = .ok (.aload_n 0, 1) := by decide +kernel
theorem dX9_init_23 : decode cX9_init 23 = .ok (.bipush 60, 2) := by decide +kernel
theorem dX9_init_25 : decode cX9_init 25 = .ok (.anewarray 23, 3) := by decide +kernel
theorem dX9_init_28 : decode cX9_init 28 = .ok (.putfield 25, 3) := by decide +kernel
theorem dX9_init_31 : decode cX9_init 31 = .ok (.aload_n 0, 1) := by decide +kernel
theorem dX9_init_32 : decode cX9_init 32 = .ok (.bipush 6, 2) := by decide +kernel
theorem dX9_init_34 : decode cX9_init 34 = .ok (.anewarray 29, 3) := by decide +kernel
theorem dX9_init_37 : decode cX9_init 37 = .ok (.putfield 31, 3) := by decide +kernel
theorem dX9_init_40 : decode cX9_init 40 = .ok (.aload_n 0, 1) := by decide +kernel
theorem dX9_init_41 : decode cX9_init 41 = .ok (.bipush 8, 2) := by decide +kernel
theorem dX9_init_43 : decode cX9_init 43 = .ok (.newarray .int, 2) := by decide +kernel
theorem dX9_init_45 : decode cX9_init 45 = .ok (.putfield 35, 3) := by decide +kernel
theorem dX9_init_48 : decode cX9_init 48 = .ok (.aload_n 0, 1) := by decide +kernel
theorem dX9_init_49 : decode cX9_init 49 = .ok (.bipush 8, 2) := by decide +kernel
theorem dX9_init_51 : decode cX9_init 51 = .ok (.newarray .int, 2) := by decide +kernel
theorem dX9_init_53 : decode cX9_init 53 = .ok (.putfield 39, 3) := by decide +kernel
theorem dX9_init_56 : decode cX9_init 56 = .ok (.aload_n 0, 1) := by decide +kernel
theorem dX9_init_57 : decode cX9_init 57 = .ok (.new 42, 3) := by decide +kernel
theorem dX9_init_60 : decode cX9_init 60 = .ok (.dup, 1) := by decide +kernel
theorem dX9_init_61 : decode cX9_init 61 = .ok (.invokespecial 44, 3) := by decide +kernel
theorem dX9_init_64 : decode cX9_init 64 = .ok (.putfield 45, 3) := by decide +kernel
theorem dX9_init_67 : decode cX9_init 67 = .ok (.aload_n 0, 1) := by decide +kernel
theorem dX9_init_68 : decode cX9_init 68 = .ok (.iconst (-1), 1) := by decide +kernel
theorem dX9_init_69 : decode cX9_init 69 = .ok (.putfield 49, 3) := by decide +kernel
theorem dX9_init_72 : decode cX9_init 72 = .ok (.iconst 0, 1) := by decide +kernel
theorem dX9_init_73 : decode cX9_init 73 = .ok (.istore_n 1, 1) := by decide +kernel
theorem dX9_init_74 : decode cX9_init 74 = .ok (.iload_n 1, 1) := by decide +kernel
theorem dX9_init_75 : decode cX9_init 75 = .ok (.bipush 12, 2) := by decide +kernel
theorem dX9_init_77 : decode cX9_init 77 = .ok (.if_icmp .ge 22, 3) := by decide +kernel
theorem dX9_init_80 : decode cX9_init 80 = .ok (.aload_n 0, 1) := by decide +kernel
theorem dX9_init_81 : decode cX9_init 81 = .ok (.getfield 11, 3) := by decide +kernel
theorem dX9_init_84 : decode cX9_init 84 = .ok (.iload_n 1, 1) := by decide +kernel
theorem dX9_init_85 : decode cX9_init 85 = .ok (.new 9, 3) := by decide +kernel
theorem dX9_init_88 : decode cX9_init 88 = .ok (.dup, 1) := by decide +kernel
theorem dX9_init_89 : decode cX9_init 89 = .ok (.invokespecial 53, 3) := by decide +kernel
theorem dX9_init_92 : decode cX9_init 92 = .ok (.aastore, 1) := by decide +kernel
theorem dX9_init_93 : decode cX9_init 93 = .ok (.iinc 1 1, 3) := by decide +kernel
theorem dX9_init_96 : decode cX9_init 96 = .ok (.goto (-22), 3) := by decide +kernel
theorem dX9_init_99 : decode cX9_init 99 = .ok (.iconst 0, 1) := by decide +kernel
theorem dX9_init_100 : decode cX9_init 100 = .ok (.istore_n 1, 1) := by decide +kernel
theorem dX9_init_101 : decode cX9_init 101 = .ok (.iload_n 1, 1) := by decide +kernel
theorem dX9_init_102 : decode cX9_init 102 = .ok (.aload_n 0, 1) := by decide +kernel
theorem dX9_init_103 : decode cX9_init 103 = .ok (.getfield 25, 3) := by decide +kernel
theorem dX9_init_106 : decode cX9_init 106 = .ok (.arraylength, 1) := by decide +kernel
theorem dX9_init_107 : decode cX9_init 107 = .ok (.if_icmp .ge 22, 3) := by decide +kernel
theorem dX9_init_110 : decode cX9_init 110 = .ok (.aload_n 0, 1) := by decide +kernel
theorem dX9_init_111 : decode cX9_init 111 = .ok (.getfield 25, 3) := by decide +kernel
theorem dX9_init_114 : decode cX9_init 114 = .ok (.iload_n 1, 1) := by decide +kernel
theorem dX9_init_115 : decode cX9_init 115 = .ok (.new 23, 3) := by decide +kernel
theorem dX9_init_118 : decode cX9_init 118 = .ok (.dup, 1) := by decide +kernel
theorem dX9_init_119 : decode cX9_init 119 = .ok (.invokespecial 54, 3) := by decide +kernel
theorem dX9_init_122 : decode cX9_init 122 = .ok (.aastore, 1) := by decide +kernel
theorem dX9_init_123 : decode cX9_init 123 = .ok (.iinc 1 1, 3) := by decide +kernel
theorem dX9_init_126 : decode cX9_init 126 = .ok (.goto (-25), 3) := by decide +kernel
theorem dX9_init_129 : decode cX9_init 129 = .ok (.iconst 0, 1) := by decide +kernel
theorem dX9_init_130 : decode cX9_init 130 = .ok (.istore_n 1, 1) := by decide +kernel
theorem dX9_init_131 : decode cX9_init 131 = .ok (.iload_n 1, 1) := by decide +kernel
theorem dX9_init_132 : decode cX9_init 132 = .ok (.bipush 6, 2) := by decide +kernel
theorem dX9_init_134 : decode cX9_init 134 = .ok (.if_icmp .ge 22, 3) := by decide +kernel
theorem dX9_init_137 : decode cX9_init 137 = .ok (.aload_n 0, 1) := by decide +kernel
theorem dX9_init_138 : decode cX9_init 138 = .ok (.getfield 31, 3) := by decide +kernel
theorem dX9_init_141 : decode cX9_init 141 = .ok (.iload_n 1, 1) := by decide +kernel
theorem dX9_init_142 : decode cX9_init 142 = .ok (.new 29, 3) := by decide +kernel
theorem dX9_init_145 : decode cX9_init 145 = .ok (.dup, 1) := by decide +kernel
theorem dX9_init_146 : decode cX9_init 146 = .ok (.invokespecial 55, 3) := by decide +kernel
theorem dX9_init_149 : decode cX9_init 149 = .ok (.aastore, 1) := by decide +kernel
theorem dX9_init_150 : decode cX9_init 150 = .ok (.iinc 1 1, 3) := by decide +kernel
theorem dX9_init_153 : decode cX9_init 153 = .ok (.goto (-22), 3) := by decide +kernel
theorem dX9_init_156 : decode cX9_init 156 = .ok (.return_, 1) := by decide +kernel
theorem dX9_copyFrom_0 : decode cX9_copyFrom 0 = .ok (.aload_n 1, 1) := by decide +kernel
theorem dX9_copyFrom_1 : decode cX9_copyFrom 1 = .ok (.getfield 11, 3) := by decide +kernel
theorem dX9_copyFrom_4 : decode cX9_copyFrom 4 = .ok (.iconst 0, 1) := by decide +kernel
theorem dX9_copyFrom_5 : decode cX9_copyFrom 5 = .ok (.aload_n 0, 1) := by decide +kernel
theorem dX9_copyFrom_6 : decode cX9_copyFrom 6 = .ok (.getfield 11, 3) := by decide +kernel
theorem dX9_copyFrom_9 : decode cX9_copyFrom 9 = .ok (.iconst 0, 1) := by decide +kernel
theorem dX9_copyFrom_10 : decode cX9_copyFrom 10 = .ok (.bipush 12, 2) := by decide +kernel
theorem dX9_copyFrom_12 : decode cX9_copyFrom 12 = .ok (.invokestatic 56, 3) := by decide +kernel
theorem dX9_copyFrom_15 : decode cX9_copyFrom 15 = .ok (.aload_n 1, 1) := by decide +kernel
theorem dX9_copyFrom_16 : decode cX9_copyFrom 16 = .ok (.getfield 19, 3) := by decide +kernel
theorem dX9_copyFrom_19 : decode cX9_copyFrom 19 = .ok (.iconst 0, 1) := by decide +kernel
theorem dX9_copyFrom_20 : decode cX9_copyFrom 20 = .ok (.aload_n 0, 1) := by decide +kernel
theorem dX9_copyFrom_21 : decode cX9_copyFrom 21 = .ok (.getfield 19, 3) := by decide +kernel
theorem dX9_copyFrom_24 : decode cX9_copyFrom 24 = .ok (.iconst 0, 1) := by decide +kernel
theorem dX9_copyFrom_25 : decode cX9_copyFrom 25 = .ok (.bipush 8, 2) := by decide +kernel
theorem dX9_copyFrom_27 : decode cX9_copyFrom 27 = .ok (.invokestatic 56, 3) := by decide +kernel
theorem dX9_copyFrom_30 : decode cX9_copyFrom 30 = .ok (.iconst 0, 1) := by decide +kernel
theorem dX9_copyFrom_31 : decode cX9_copyFrom 31 = .ok (.istore_n 2, 1) := by decide +kernel
theorem dX9_copyFrom_32 : decode cX9_copyFrom 32 = .ok (.iload_n 2, 1) := by decide +kernel
theorem dX9_copyFrom_33 : decode cX9_copyFrom 33 = .ok (.aload_n 0, 1) := by decide +kernel
theorem dX9_copyFrom_34 : decode cX9_copyFrom 34 = .ok (.getfield 25, 3) := by decide +kernel
theorem dX9_copyFrom_37 : decode cX9_copyFrom 37 = .ok (.arraylength, 1) := by decide +kernel
theorem dX9_copyFrom_38 : decode cX9_copyFrom 38 = .ok (.if_icmp .ge 24, 3) := by decide +kernel
theorem dX9_copyFrom_41 : decode cX9_copyFrom 41 = .ok (.aload_n 0, 1) := by decide +kernel
theorem dX9_copyFrom_42 : decode cX9_copyFrom 42 = .ok (.getfield 25, 3) := by decide +kernel
theorem dX9_copyFrom_45 : decode cX9_copyFrom 45 = .ok (.iload_n 2, 1) := by decide +kernel
theorem dX9_copyFrom_46 : decode cX9_copyFrom 46 = .ok (.aaload, 1) := by decide +kernel
theorem dX9_copyFrom_47 : decode cX9_copyFrom 47 = .ok (.aload_n 1, 1) := by decide +kernel
theorem dX9_copyFrom_48 : decode cX9_copyFrom 48 = .ok (.getfield 25, 3) := by decide +kernel
theorem dX9_copyFrom_51 : decode cX9_copyFrom 51 = .ok (.iload_n 2, 1) := by decide +kernel
theorem dX9_copyFrom_52 : decode cX9_copyFrom 52 = .ok (.aaload, 1) := by decide +kernel
theorem dX9_copyFrom_53 : decode cX9_copyFrom 53 = .ok (.invokevirtual 62, 3) := by decide +kernel
theorem dX9_copyFrom_56 : decode cX9_copyFrom 56 = .ok (.iinc 2 1, 3) := by decide +kernel
theorem dX9_copyFrom_59 : decode cX9_copyFrom 59 = .ok (.goto (-27), 3) := by decide +kernel
theorem dX9_copyFrom_62 : decode cX9_copyFrom 62 = .ok (.iconst 0, 1) := by decide +kernel
theorem dX9_copyFrom_63 : decode cX9_copyFrom 63 = .ok (.istore_n 2, 1) := by decide +kernel
theorem dX9_copyFrom_64 : decode cX9_copyFrom 64 = .ok (.iload_n 2, 1) := by decide +kernel
theorem dX9_copyFrom_65 : decode cX9_copyFrom 65 = .ok (.bipush 6, 2) := by decide +kernel
theorem dX9_copyFrom_67 : decode cX9_copyFrom 67 = .ok (.if_icmp .ge 24, 3) := by decide +kernel
theorem dX9_copyFrom_70 : decode cX9_copyFrom 70 = .ok (.aload_n 0, 1) := by decide +kernel
theorem dX9_copyFrom_71 : decode cX9_copyFrom 71 = .ok (.getfield 31, 3) := by decide +kernel
theorem dX9_copyFrom_74 : decode cX9_copyFrom 74 = .ok (.iload_n 2, 1) := by decide +kernel
theorem dX9_copyFrom_75 : decode cX9_copyFrom 75 = .ok (.aaload, 1) := by decide +kernel
theorem dX9_copyFrom_76 : decode cX9_copyFrom 76 = .ok (.aload_n 1, 1) := by decide +kernel
theorem dX9_copyFrom_77 : decode cX9_copyFrom 77 = .ok (.getfield 31, 3) := by decide +kernel
theorem dX9_copyFrom_80 : decode cX9_copyFrom 80 = .ok (.iload_n 2, 1) := by decide +kernel
theorem dX9_copyFrom_81 : decode cX9_copyFrom 81 = .ok (.aaload, 1) := by decide +kernel
theorem dX9_copyFrom_82 : decode cX9_copyFrom 82 = .ok (.invokevirtual 66, 3) := by decide +kernel
theorem dX9_copyFrom_85 : decode cX9_copyFrom 85 = .ok (.iinc 2 1, 3) := by decide +kernel
theorem dX9_copyFrom_88 : decode cX9_copyFrom 88 = .ok (.goto (-24), 3) := by decide +kernel
theorem dX9_copyFrom_91 : decode cX9_copyFrom 91 = .ok (.aload_n 1, 1) := by decide +kernel
theorem dX9_copyFrom_92 : decode cX9_copyFrom 92 = .ok (.getfield 35, 3) := by decide +kernel
theorem dX9_copyFrom_95 : decode cX9_copyFrom 95 = .ok (.iconst 0, 1) := by decide +kernel
theorem dX9_copyFrom_96 : decode cX9_copyFrom 96 = .ok (.aload_n 0, 1) := by decide +kernel
theorem dX9_copyFrom_97 : decode cX9_copyFrom 97 = .ok (.getfield 35, 3) := by decide +kernel
theorem dX9_copyFrom_100 : decode cX9_copyFrom 100 = .ok (.iconst 0, 1) := by decide +kernel
theorem dX9_copyFrom_101 : decode cX9_copyFrom 101 = .ok (.bipush 8, 2) := by decide +kernel
theorem dX9_copyFrom_103 : decode cX9_copyFrom 103 = .ok (.invokestatic 56, 3) := by decide +kernel
theorem dX9_copyFrom_106 : decode cX9_copyFrom 106 = .ok (.aload_n 1, 1) := by decide +kernel
theorem dX9_copyFrom_107 : decode cX9_copyFrom 107 = .ok (.getfield 39, 3) := by decide +kernel
theorem dX9_copyFrom_110 : decode cX9_copyFrom 110 = .ok (.iconst 0, 1) := by decide +kernel
theorem dX9_copyFrom_111 : decode cX9_copyFrom 111 = .ok (.aload_n 0, 1) := by decide +kernel
theorem dX9_copyFrom_112 : decode cX9_copyFrom 112 = .ok (.getfield 39, 3) := by decide +kernel
theorem dX9_copyFrom_115 : decode cX9_copyFrom 115 = .ok (.iconst 0, 1) := by decide +kernel
theorem dX9_copyFrom_116 : decode cX9_copyFrom 116 = .ok (.bipush 8, 2) := by decide +kernel
theorem dX9_copyFrom_118 : decode cX9_copyFrom 118 = .ok (.invokestatic 56, 3) := by decide +kernel
theorem dX9_copyFrom_121 : decode cX9_copyFrom 121 = .ok (.aload_n 0, 1) := by decide +kernel
theorem dX9_copyFrom_122 : decode cX9_copyFrom 122 = .ok (.aload_n 1, 1) := by decide +kernel
theorem dX9_copyFrom_123 : decode cX9_copyFrom 123 = .ok (.getfield 69, 3) := by decide +kernel
theorem dX9_copyFrom_126 : decode cX9_copyFrom 126 = .ok (.putfield 69, 3) := by decide +kernel
theorem dX9_copyFrom_129 : decode cX9_copyFrom 129 = .ok (.aload_n 0, 1) := by decide +kernel
theorem dX9_copyFrom_130 : decode cX9_copyFrom 130 = .ok (.aload_n 1, 1) := by decide +kernel
theorem dX9_copyFrom_131 : decode cX9_copyFrom 131 = .ok (.getfield 49, 3) := by decide +kernel
theorem dX9_copyFrom_134 : decode cX9_copyFrom 134 = .ok (.putfield 49, 3) := by decide +kernel
theorem dX9_copyFrom_137 : decode cX9_copyFrom 137 = .ok (.aload_n 0, 1) := by decide +kernel
theorem dX9_copyFrom_138 : decode cX9_copyFrom 138 = .ok (.aload_n 1, 1) := by decide +kernel
theorem dX9_copyFrom_139 : decode cX9_copyFrom 139 = .ok (.getfield 72, 3) := by decide +kernel
theorem dX9_copyFrom_142 : decode cX9_copyFrom 142 = .ok (.putfield 72, 3) := by decide +kernel
theorem dX9_copyFrom_145 : decode cX9_copyFrom 145 = .ok (.aload_n 0, 1) := by decide +kernel
theorem dX9_copyFrom_146 : decode cX9_copyFrom 146 = .ok (.aload_n 1, 1) := by decide +kernel
theorem dX9_copyFrom_147 : decode cX9_copyFrom 147 = .ok (.getfield 76, 3) := by decide +kernel
theorem dX9_copyFrom_150 : decode cX9_copyFrom 150 = .ok (.putfield 76, 3) := by decide +kernel
theorem dX9_copyFrom_153 : decode cX9_copyFrom 153 = .ok (.aload_n 0, 1) := by decide +kernel
theorem dX9_copyFrom_154 : decode cX9_copyFrom 154 = .ok (.aload_n 1, 1) := by decide +kernel
theorem dX9_copyFrom_155 : decode cX9_copyFrom 155 = .ok (.getfield 79, 3) := by decide +kernel
theorem dX9_copyFrom_158 : decode cX9_copyFrom 158 = .ok (.putfield 79, 3) := by decide +kernel
theorem dX9_copyFrom_161 : decode cX9_copyFrom 161 = .ok (.aload_n 0, 1) := by decide +kernel
theorem dX9_copyFrom_162 : decode cX9_copyFrom 162 = .ok (.aload_n 1, 1) := by decide +kernel
theorem dX9_copyFrom_163 : decode cX9_copyFrom 163 = .ok (.getfield 82, 3) := by decide +kernel
theorem dX9_copyFrom_166 : decode cX9_copyFrom 166 = .ok (.putfield 82, 3) := by decide +kernel
theorem dX9_copyFrom_169 : decode cX9_copyFrom 169 = .ok (.aload_n 0, 1) := by decide +kernel
theorem dX9_copyFrom_170 : decode cX9_copyFrom 170 = .ok (.aload_n 1, 1) := by decide +kernel
theorem dX9_copyFrom_171 : decode cX9_copyFrom 171 = .ok (.getfield 85, 3) := by decide +kernel
theorem dX9_copyFrom_174 : decode cX9_copyFrom 174 = .ok (.putfield 85, 3) := by decide +kernel
theorem dX9_copyFrom_177 : decode cX9_copyFrom 177 = .ok (.return_, 1) := by decide +kernel
theorem dX9_rowAt_0 : decode cX9_rowAt 0 = .ok (.aload_n 0, 1) := by decide +kernel
theorem dX9_rowAt_1 : decode cX9_rowAt 1 = .ok (.getfield 25, 3) := by decide +kernel
theorem dX9_rowAt_4 : decode cX9_rowAt 4 = .ok (.iload_n 1, 1) := by decide +kernel
theorem dX9_rowAt_5 : decode cX9_rowAt 5 = .ok (.bipush 6, 2) := by decide +kernel
theorem dX9_rowAt_7 : decode cX9_rowAt 7 = .ok (.imul, 1) := by decide +kernel
theorem dX9_rowAt_8 : decode cX9_rowAt 8 = .ok (.iload_n 2, 1) := by decide +kernel
theorem dX9_rowAt_9 : decode cX9_rowAt 9 = .ok (.iadd, 1) := by decide +kernel
theorem dX9_rowAt_10 : decode cX9_rowAt 10 = .ok (.iconst 1, 1) := by decide +kernel
theorem dX9_rowAt_11 : decode cX9_rowAt 11 = .ok (.iadd, 1) := by decide +kernel
theorem dX9_rowAt_12 : decode cX9_rowAt 12 = .ok (.aaload, 1) := by decide +kernel
theorem dX9_rowAt_13 : decode cX9_rowAt 13 = .ok (.areturn, 1) := by decide +kernel
theorem dX9_layDatum_0 : decode cX9_layDatum 0 = .ok (.aload_n 0, 1) := by decide +kernel
theorem dX9_layDatum_1 : decode cX9_layDatum 1 = .ok (.iload_n 1, 1) := by decide +kernel
theorem dX9_layDatum_2 : decode cX9_layDatum 2 = .ok (.iconst (-1), 1) := by decide +kernel
theorem dX9_layDatum_3 : decode cX9_layDatum 3 = .ok (.invokevirtual 88, 3) := by decide +kernel
theorem dX9_layDatum_6 : decode cX9_layDatum 6 = .ok (.iload_n 2, 1) := by decide +kernel
theorem dX9_layDatum_7 : decode cX9_layDatum 7 = .ok (.iload_n 3, 1) := by decide +kernel
theorem dX9_layDatum_8 : decode cX9_layDatum 8 = .ok (.invokevirtual 92, 3) := by decide +kernel
theorem dX9_layDatum_11 : decode cX9_layDatum 11 = .ok (.iconst 0, 1) := by decide +kernel
theorem dX9_layDatum_12 : decode cX9_layDatum 12 = .ok (.istore 4, 2) := by decide +kernel
theorem dX9_layDatum_14 : decode cX9_layDatum 14 = .ok (.iload 4, 2) := by decide +kernel
theorem dX9_layDatum_16 : decode cX9_layDatum 16 = .ok (.iconst 5, 1) := by decide +kernel
theorem dX9_layDatum_17 : decode cX9_layDatum 17 = .ok (.if_icmp .ge 22, 3) := by decide +kernel
theorem dX9_layDatum_20 : decode cX9_layDatum 20 = .ok (.aload_n 0, 1) := by decide +kernel
theorem dX9_layDatum_21 : decode cX9_layDatum 21 = .ok (.iload_n 1, 1) := by decide +kernel
theorem dX9_layDatum_22 : decode cX9_layDatum 22 = .ok (.iload 4, 2) := by decide +kernel
theorem dX9_layDatum_24 : decode cX9_layDatum 24 = .ok (.invokevirtual 88, 3) := by decide +kernel
theorem dX9_layDatum_27 : decode cX9_layDatum 27 = .ok (.bipush 12, 2) := by decide +kernel
theorem dX9_layDatum_29 : decode cX9_layDatum 29 = .ok (.iconst 0, 1) := by decide +kernel
theorem dX9_layDatum_30 : decode cX9_layDatum 30 = .ok (.invokevirtual 92, 3) := by decide +kernel
theorem dX9_layDatum_33 : decode cX9_layDatum 33 = .ok (.iinc 4 1, 3) := by decide +kernel
theorem dX9_layDatum_36 : decode cX9_layDatum 36 = .ok (.goto (-22), 3) := by decide +kernel
theorem dX9_layDatum_39 : decode cX9_layDatum 39 = .ok (.return_, 1) := by decide +kernel
theorem dX9_allPlaces_0 : decode cX9_allPlaces 0 = .ok (.iconst 0, 1) := by decide +kernel
theorem dX9_allPlaces_1 : decode cX9_allPlaces 1 = .ok (.istore_n 1, 1) := by decide +kernel
theorem dX9_allPlaces_2 : decode cX9_allPlaces 2 = .ok (.iconst 0, 1) := by decide +kernel
theorem dX9_allPlaces_3 : decode cX9_allPlaces 3 = .ok (.istore_n 2, 1) := by decide +kernel
theorem dX9_allPlaces_4 : decode cX9_allPlaces 4 = .ok (.iload_n 2, 1) := by decide +kernel
theorem dX9_allPlaces_5 : decode cX9_allPlaces 5 = .ok (.aload_n 0, 1) := by decide +kernel
theorem dX9_allPlaces_6 : decode cX9_allPlaces 6 = .ok (.getfield 25, 3) := by decide +kernel
theorem dX9_allPlaces_9 : decode cX9_allPlaces 9 = .ok (.arraylength, 1) := by decide +kernel
theorem dX9_allPlaces_10 : decode cX9_allPlaces 10 = .ok (.if_icmp .ge 21, 3) := by decide +kernel
theorem dX9_allPlaces_13 : decode cX9_allPlaces 13 = .ok (.iload_n 1, 1) := by decide +kernel
theorem dX9_allPlaces_14 : decode cX9_allPlaces 14 = .ok (.aload_n 0, 1) := by decide +kernel
theorem dX9_allPlaces_15 : decode cX9_allPlaces 15 = .ok (.getfield 25, 3) := by decide +kernel
theorem dX9_allPlaces_18 : decode cX9_allPlaces 18 = .ok (.iload_n 2, 1) := by decide +kernel
theorem dX9_allPlaces_19 : decode cX9_allPlaces 19 = .ok (.aaload, 1) := by decide +kernel
theorem dX9_allPlaces_20 : decode cX9_allPlaces 20 = .ok (.getfield 96, 3) := by decide +kernel
theorem dX9_allPlaces_23 : decode cX9_allPlaces 23 = .ok (.iadd, 1) := by decide +kernel
theorem dX9_allPlaces_24 : decode cX9_allPlaces 24 = .ok (.istore_n 1, 1) := by decide +kernel
theorem dX9_allPlaces_25 : decode cX9_allPlaces 25 = .ok (.iinc 2 1, 3) := by decide +kernel
theorem dX9_allPlaces_28 : decode cX9_allPlaces 28 = .ok (.goto (-24), 3) := by decide +kernel
theorem dX9_allPlaces_31 : decode cX9_allPlaces 31 = .ok (.iload_n 1, 1) := by decide +kernel
theorem dX9_allPlaces_32 : decode cX9_allPlaces 32 = .ok (.ireturn, 1) := by decide +kernel
theorem dX9_allShadows_0 : decode cX9_allShadows 0 = .ok (.iconst 0, 1) := by decide +kernel
theorem dX9_allShadows_1 : decode cX9_allShadows 1 = .ok (.istore_n 1, 1) := by decide +kernel
theorem dX9_allShadows_2 : decode cX9_allShadows 2 = .ok (.iconst 0, 1) := by decide +kernel
theorem dX9_allShadows_3 : decode cX9_allShadows 3 = .ok (.istore_n 2, 1) := by decide +kernel
theorem dX9_allShadows_4 : decode cX9_allShadows 4 = .ok (.iload_n 2, 1) := by decide +kernel
theorem dX9_allShadows_5 : decode cX9_allShadows 5 = .ok (.bipush 10, 2) := by decide +kernel
theorem dX9_allShadows_7 : decode cX9_allShadows 7 = .ok (.if_icmp .ge 20, 3) := by decide +kernel
theorem dX9_allShadows_10 : decode cX9_allShadows 10 = .ok (.iload_n 1, 1) := by decide +kernel
theorem dX9_allShadows_11 : decode cX9_allShadows 11 = .ok (.aload_n 0, 1) := by decide +kernel
theorem dX9_allShadows_12 : decode cX9_allShadows 12 = .ok (.iload_n 2, 1) := by decide +kernel
theorem dX9_allShadows_13 : decode cX9_allShadows 13 = .ok (.invokevirtual 99, 3) := by decide +kernel
theorem dX9_allShadows_16 : decode cX9_allShadows 16 = .ok (.invokestatic 103, 3) := by decide +kernel
theorem dX9_allShadows_19 : decode cX9_allShadows 19 = .ok (.iadd, 1) := by decide +kernel
theorem dX9_allShadows_20 : decode cX9_allShadows 20 = .ok (.istore_n 1, 1) := by decide +kernel
theorem dX9_allShadows_21 : decode cX9_allShadows 21 = .ok (.iinc 2 1, 3) := by decide +kernel
theorem dX9_allShadows_24 : decode cX9_allShadows 24 = .ok (.goto (-20), 3) := by decide +kernel
theorem dX9_allShadows_27 : decode cX9_allShadows 27 = .ok (.iload_n 1, 1) := by decide +kernel
theorem dX9_allShadows_28 : decode cX9_allShadows 28 = .ok (.ireturn, 1) := by decide +kernel
theorem dX9_shadowBits_0 : decode cX9_shadowBits 0 = .ok (.iconst 0, 1) := by decide +kernel
theorem dX9_shadowBits_1 : decode cX9_shadowBits 1 = .ok (.istore_n 2, 1) := by decide +kernel
theorem dX9_shadowBits_2 : decode cX9_shadowBits 2 = .ok (.iconst 0, 1) := by decide +kernel
theorem dX9_shadowBits_3 : decode cX9_shadowBits 3 = .ok (.istore_n 3, 1) := by decide +kernel
theorem dX9_shadowBits_4 : decode cX9_shadowBits 4 = .ok (.iload_n 3, 1) := by decide +kernel
theorem dX9_shadowBits_5 : decode cX9_shadowBits 5 = .ok (.iconst 5, 1) := by decide +kernel
theorem dX9_shadowBits_6 : decode cX9_shadowBits 6 = .ok (.if_icmp .ge 29, 3) := by decide +kernel
theorem dX9_shadowBits_9 : decode cX9_shadowBits 9 = .ok (.aload_n 0, 1) := by decide +kernel
theorem dX9_shadowBits_10 : decode cX9_shadowBits 10 = .ok (.iload_n 1, 1) := by decide +kernel
theorem dX9_shadowBits_11 : decode cX9_shadowBits 11 = .ok (.iload_n 3, 1) := by decide +kernel
theorem dX9_shadowBits_12 : decode cX9_shadowBits 12 = .ok (.invokevirtual 88, 3) := by decide +kernel
theorem dX9_shadowBits_15 : decode cX9_shadowBits 15 = .ok (.getfield 108, 3) := by decide +kernel
theorem dX9_shadowBits_18 : decode cX9_shadowBits 18 = .ok (.bipush 12, 2) := by decide +kernel
theorem dX9_shadowBits_20 : decode cX9_shadowBits 20 = .ok (.if_icmp .eq 9, 3) := by decide +kernel
theorem dX9_shadowBits_23 : decode cX9_shadowBits 23 = .ok (.iload_n 2, 1) := by decide +kernel
theorem dX9_shadowBits_24 : decode cX9_shadowBits 24 = .ok (.iconst 1, 1) := by decide +kernel
theorem dX9_shadowBits_25 : decode cX9_shadowBits 25 = .ok (.iload_n 3, 1) := by decide +kernel
theorem dX9_shadowBits_26 : decode cX9_shadowBits 26 = .ok (.ishl, 1) := by decide +kernel
theorem dX9_shadowBits_27 : decode cX9_shadowBits 27 = .ok (.ior, 1) := by decide +kernel
theorem dX9_shadowBits_28 : decode cX9_shadowBits 28 = .ok (.istore_n 2, 1) := by decide +kernel
theorem dX9_shadowBits_29 : decode cX9_shadowBits 29 = .ok (.iinc 3 1, 3) := by decide +kernel
theorem dX9_shadowBits_32 : decode cX9_shadowBits 32 = .ok (.goto (-28), 3) := by decide +kernel
theorem dX9_shadowBits_35 : decode cX9_shadowBits 35 = .ok (.iload_n 2, 1) := by decide +kernel
theorem dX9_shadowBits_36 : decode cX9_shadowBits 36 = .ok (.ireturn, 1) := by decide +kernel
theorem dX9_makeShadow_0 : decode cX9_makeShadow 0 = .ok (.aload_n 0, 1) := by decide +kernel
theorem dX9_makeShadow_1 : decode cX9_makeShadow 1 = .ok (.aload_n 1, 1) := by decide +kernel
theorem dX9_makeShadow_2 : decode cX9_makeShadow 2 = .ok (.getfield 111, 3) := by decide +kernel
theorem dX9_makeShadow_5 : decode cX9_makeShadow 5 = .ok (.iconst (-1), 1) := by decide +kernel
theorem dX9_makeShadow_6 : decode cX9_makeShadow 6 = .ok (.invokevirtual 88, 3) := by decide +kernel
theorem dX9_makeShadow_9 : decode cX9_makeShadow 9 = .ok (.getfield 108, 3) := by decide +kernel
theorem dX9_makeShadow_12 : decode cX9_makeShadow 12 = .ok (.bipush 12, 2) := by decide +kernel
theorem dX9_makeShadow_14 : decode cX9_makeShadow 14 = .ok (.if_icmp .ne 5, 3) := by decide +kernel
theorem dX9_makeShadow_17 : decode cX9_makeShadow 17 = .ok (.iconst 3, 1) := by decide +kernel
theorem dX9_makeShadow_18 : decode cX9_makeShadow 18 = .ok (.ireturn, 1) := by decide +kernel
theorem dX9_makeShadow_19 : decode cX9_makeShadow 19 = .ok (.aload_n 0, 1) := by decide +kernel
theorem dX9_makeShadow_20 : decode cX9_makeShadow 20 = .ok (.aload_n 1, 1) := by decide +kernel
theorem dX9_makeShadow_21 : decode cX9_makeShadow 21 = .ok (.getfield 111, 3) := by decide +kernel
theorem dX9_makeShadow_24 : decode cX9_makeShadow 24 = .ok (.aload_n 1, 1) := by decide +kernel
theorem dX9_makeShadow_25 : decode cX9_makeShadow 25 = .ok (.getfield 116, 3) := by decide +kernel
theorem dX9_makeShadow_28 : decode cX9_makeShadow 28 = .ok (.invokevirtual 88, 3) := by decide +kernel
theorem dX9_makeShadow_31 : decode cX9_makeShadow 31 = .ok (.astore_n 2, 1) := by decide +kernel
theorem dX9_makeShadow_32 : decode cX9_makeShadow 32 = .ok (.aload_n 2, 1) := by decide +kernel
theorem dX9_makeShadow_33 : decode cX9_makeShadow 33 = .ok (.getfield 108, 3) := by decide +kernel
theorem dX9_makeShadow_36 : decode cX9_makeShadow 36 = .ok (.bipush 12, 2) := by decide +kernel
theorem dX9_makeShadow_38 : decode cX9_makeShadow 38 = .ok (.if_icmp .ne 15, 3) := by decide +kernel
theorem dX9_makeShadow_41 : decode cX9_makeShadow 41 = .ok (.aload_n 2, 1) := by decide +kernel
theorem dX9_makeShadow_42 : decode cX9_makeShadow 42 = .ok (.aload_n 1, 1) := by decide +kernel
theorem dX9_makeShadow_43 : decode cX9_makeShadow 43 = .ok (.getfield 119, 3) := by decide +kernel
theorem dX9_makeShadow_46 : decode cX9_makeShadow 46 = .ok (.aload_n 1, 1) := by decide +kernel
theorem dX9_makeShadow_47 : decode cX9_makeShadow 47 = .ok (.getfield 120, 3) := by decide +kernel
theorem dX9_makeShadow_50 : decode cX9_makeShadow 50 = .ok (.invokevirtual 92, 3) := by decide +kernel
theorem dX9_makeShadow_53 : decode cX9_makeShadow 53 = .ok (.iconst 0, 1) := by decide +kernel
theorem dX9_makeShadow_54 : decode cX9_makeShadow 54 = .ok (.ireturn, 1) := by decide +kernel
theorem dX9_freeShadow_0 : decode cX9_freeShadow 0 = .ok (.aload_n 0, 1) := by decide +kernel
theorem dX9_freeShadow_1 : decode cX9_freeShadow 1 = .ok (.iload_n 1, 1) := by decide +kernel
theorem dX9_freeShadow_2 : decode cX9_freeShadow 2 = .ok (.iload_n 2, 1) := by decide +kernel
theorem dX9_freeShadow_3 : decode cX9_freeShadow 3 = .ok (.invokevirtual 88, 3) := by decide +kernel
theorem dX9_freeShadow_6 : decode cX9_freeShadow 6 = .ok (.astore_n 3, 1) := by decide +kernel
theorem dX9_freeShadow_7 : decode cX9_freeShadow 7 = .ok (.aload_n 3, 1) := by decide +kernel
theorem dX9_freeShadow_8 : decode cX9_freeShadow 8 = .ok (.getfield 108, 3) := by decide +kernel
theorem dX9_freeShadow_11 : decode cX9_freeShadow 11 = .ok (.bipush 12, 2) := by decide +kernel
theorem dX9_freeShadow_13 : decode cX9_freeShadow 13 = .ok (.if_icmp .ne 5, 3) := by decide +kernel
theorem dX9_freeShadow_16 : decode cX9_freeShadow 16 = .ok (.iconst 3, 1) := by decide +kernel
theorem dX9_freeShadow_17 : decode cX9_freeShadow 17 = .ok (.ireturn, 1) := by decide +kernel
theorem dX9_freeShadow_18 : decode cX9_freeShadow 18 = .ok (.aload_n 3, 1) := by decide +kernel
theorem dX9_freeShadow_19 : decode cX9_freeShadow 19 = .ok (.bipush 12, 2) := by decide +kernel
theorem dX9_freeShadow_21 : decode cX9_freeShadow 21 = .ok (.iconst 0, 1) := by decide +kernel
theorem dX9_freeShadow_22 : decode cX9_freeShadow 22 = .ok (.invokevirtual 92, 3) := by decide +kernel
theorem dX9_freeShadow_25 : decode cX9_freeShadow 25 = .ok (.iconst 0, 1) := by decide +kernel
theorem dX9_freeShadow_26 : decode cX9_freeShadow 26 = .ok (.ireturn, 1) := by decide +kernel
theorem dX9_keepShadow_0 : decode cX9_keepShadow 0 = .ok (.aload_n 0, 1) := by decide +kernel
theorem dX9_keepShadow_1 : decode cX9_keepShadow 1 = .ok (.iload_n 1, 1) := by decide +kernel
theorem dX9_keepShadow_2 : decode cX9_keepShadow 2 = .ok (.iconst (-1), 1) := by decide +kernel
theorem dX9_keepShadow_3 : decode cX9_keepShadow 3 = .ok (.invokevirtual 88, 3) := by decide +kernel
theorem dX9_keepShadow_6 : decode cX9_keepShadow 6 = .ok (.astore_n 3, 1) := by decide +kernel
theorem dX9_keepShadow_7 : decode cX9_keepShadow 7 = .ok (.aload_n 3, 1) := by decide +kernel
theorem dX9_keepShadow_8 : decode cX9_keepShadow 8 = .ok (.getfield 108, 3) := by decide +kernel
theorem dX9_keepShadow_11 : decode cX9_keepShadow 11 = .ok (.bipush 12, 2) := by decide +kernel
theorem dX9_keepShadow_13 : decode cX9_keepShadow 13 = .ok (.if_icmp .ne 5, 3) := by decide +kernel
theorem dX9_keepShadow_16 : decode cX9_keepShadow 16 = .ok (.iconst 3, 1) := by decide +kernel
theorem dX9_keepShadow_17 : decode cX9_keepShadow 17 = .ok (.ireturn, 1) := by decide +kernel
theorem dX9_keepShadow_18 : decode cX9_keepShadow 18 = .ok (.aload_n 3, 1) := by decide +kernel
theorem dX9_keepShadow_19 : decode cX9_keepShadow 19 = .ok (.getfield 108, 3) := by decide +kernel
theorem dX9_keepShadow_22 : decode cX9_keepShadow 22 = .ok (.bipush 11, 2) := by decide +kernel
theorem dX9_keepShadow_24 : decode cX9_keepShadow 24 = .ok (.if_icmp .ne 5, 3) := by decide +kernel
theorem dX9_keepShadow_27 : decode cX9_keepShadow 27 = .ok (.iconst 2, 1) := by decide +kernel
theorem dX9_keepShadow_28 : decode cX9_keepShadow 28 = .ok (.ireturn, 1) := by decide +kernel
theorem dX9_keepShadow_29 : decode cX9_keepShadow 29 = .ok (.aload_n 0, 1) := by decide +kernel
theorem dX9_keepShadow_30 : decode cX9_keepShadow 30 = .ok (.iload_n 1, 1) := by decide +kernel
theorem dX9_keepShadow_31 : decode cX9_keepShadow 31 = .ok (.iload_n 2, 1) := by decide +kernel
theorem dX9_keepShadow_32 : decode cX9_keepShadow 32 = .ok (.invokevirtual 88, 3) := by decide +kernel
theorem dX9_keepShadow_35 : decode cX9_keepShadow 35 = .ok (.aload_n 3, 1) := by decide +kernel
theorem dX9_keepShadow_36 : decode cX9_keepShadow 36 = .ok (.invokevirtual 62, 3) := by decide +kernel
theorem dX9_keepShadow_39 : decode cX9_keepShadow 39 = .ok (.iconst 0, 1) := by decide +kernel
theorem dX9_keepShadow_40 : decode cX9_keepShadow 40 = .ok (.ireturn, 1) := by decide +kernel
theorem dX9_liftShadow_0 : decode cX9_liftShadow 0 = .ok (.aload_n 0, 1) := by decide +kernel
theorem dX9_liftShadow_1 : decode cX9_liftShadow 1 = .ok (.iload_n 1, 1) := by decide +kernel
theorem dX9_liftShadow_2 : decode cX9_liftShadow 2 = .ok (.iload_n 2, 1) := by decide +kernel
theorem dX9_liftShadow_3 : decode cX9_liftShadow 3 = .ok (.invokevirtual 88, 3) := by decide +kernel
theorem dX9_liftShadow_6 : decode cX9_liftShadow 6 = .ok (.astore_n 3, 1) := by decide +kernel
theorem dX9_liftShadow_7 : decode cX9_liftShadow 7 = .ok (.aload_n 3, 1) := by decide +kernel
theorem dX9_liftShadow_8 : decode cX9_liftShadow 8 = .ok (.getfield 108, 3) := by decide +kernel
theorem dX9_liftShadow_11 : decode cX9_liftShadow 11 = .ok (.bipush 12, 2) := by decide +kernel
theorem dX9_liftShadow_13 : decode cX9_liftShadow 13 = .ok (.if_icmp .ne 5, 3) := by decide +kernel
theorem dX9_liftShadow_16 : decode cX9_liftShadow 16 = .ok (.iconst 3, 1) := by decide +kernel
theorem dX9_liftShadow_17 : decode cX9_liftShadow 17 = .ok (.ireturn, 1) := by decide +kernel
theorem dX9_liftShadow_18 : decode cX9_liftShadow 18 = .ok (.aload_n 0, 1) := by decide +kernel
theorem dX9_liftShadow_19 : decode cX9_liftShadow 19 = .ok (.iload_n 1, 1) := by decide +kernel
theorem dX9_liftShadow_20 : decode cX9_liftShadow 20 = .ok (.iconst (-1), 1) := by decide +kernel
theorem dX9_liftShadow_21 : decode cX9_liftShadow 21 = .ok (.invokevirtual 88, 3) := by decide +kernel
theorem dX9_liftShadow_24 : decode cX9_liftShadow 24 = .ok (.aload_n 3, 1) := by decide +kernel
theorem dX9_liftShadow_25 : decode cX9_liftShadow 25 = .ok (.invokevirtual 62, 3) := by decide +kernel
theorem dX9_liftShadow_28 : decode cX9_liftShadow 28 = .ok (.aload_n 3, 1) := by decide +kernel
theorem dX9_liftShadow_29 : decode cX9_liftShadow 29 = .ok (.bipush 12, 2) := by decide +kernel
theorem dX9_liftShadow_31 : decode cX9_liftShadow 31 = .ok (.iconst 0, 1) := by decide +kernel
theorem dX9_liftShadow_32 : decode cX9_liftShadow 32 = .ok (.invokevirtual 92, 3) := by decide +kernel
theorem dX9_liftShadow_35 : decode cX9_liftShadow 35 = .ok (.iconst 0, 1) := by decide +kernel
theorem dX9_liftShadow_36 : decode cX9_liftShadow 36 = .ok (.ireturn, 1) := by decide +kernel
theorem dX9_doOnData_0 : decode cX9_doOnData 0 = .ok (.aload_n 0, 1) := by decide +kernel
theorem dX9_doOnData_1 : decode cX9_doOnData 1 = .ok (.aload_n 1, 1) := by decide +kernel
theorem dX9_doOnData_2 : decode cX9_doOnData 2 = .ok (.getfield 111, 3) := by decide +kernel
theorem dX9_doOnData_5 : decode cX9_doOnData 5 = .ok (.aload_n 1, 1) := by decide +kernel
theorem dX9_doOnData_6 : decode cX9_doOnData 6 = .ok (.getfield 116, 3) := by decide +kernel
theorem dX9_doOnData_9 : decode cX9_doOnData 9 = .ok (.invokevirtual 88, 3) := by decide +kernel
theorem dX9_doOnData_12 : decode cX9_doOnData 12 = .ok (.astore_n 3, 1) := by decide +kernel
theorem dX9_doOnData_13 : decode cX9_doOnData 13 = .ok (.getstatic 123, 3) := by decide +kernel
theorem dX9_doOnData_16 : decode cX9_doOnData 16 = .ok (.aload_n 1, 1) := by decide +kernel
theorem dX9_doOnData_17 : decode cX9_doOnData 17 = .ok (.getfield 128, 3) := by decide +kernel
theorem dX9_doOnData_20 : decode cX9_doOnData 20 = .ok (.invokevirtual 132, 3) := by decide +kernel
theorem dX9_doOnData_23 : decode cX9_doOnData 23 = .ok (.iaload, 1) := by decide +kernel
theorem dX9_doOnData_24 : decode cX9_doOnData 24 = .ok (.tableswitch 215 1 12 #[64, 85, 98, 106, 120, 137, 147, 157, 163, 176, 189, 202], 64) := by decide +kernel
theorem dX9_doOnData_88 : decode cX9_doOnData 88 = .ok (.aload_n 2, 1) := by decide +kernel
theorem dX9_doOnData_89 : decode cX9_doOnData 89 = .ok (.aload_n 1, 1) := by decide +kernel
theorem dX9_doOnData_90 : decode cX9_doOnData 90 = .ok (.getfield 119, 3) := by decide +kernel
theorem dX9_doOnData_93 : decode cX9_doOnData 93 = .ok (.aload_n 1, 1) := by decide +kernel
theorem dX9_doOnData_94 : decode cX9_doOnData 94 = .ok (.getfield 119, 3) := by decide +kernel
theorem dX9_doOnData_97 : decode cX9_doOnData 97 = .ok (.aload_n 1, 1) := by decide +kernel
theorem dX9_doOnData_98 : decode cX9_doOnData 98 = .ok (.getfield 138, 3) := by decide +kernel
theorem dX9_doOnData_101 : decode cX9_doOnData 101 = .ok (.invokestatic 141, 3) := by decide +kernel
theorem dX9_doOnData_104 : decode cX9_doOnData 104 = .ok (.invokevirtual 145, 3) := by decide +kernel
theorem dX9_doOnData_107 : decode cX9_doOnData 107 = .ok (.iconst 0, 1) := by decide +kernel
theorem dX9_doOnData_108 : decode cX9_doOnData 108 = .ok (.ireturn, 1) := by decide +kernel
theorem dX9_doOnData_109 : decode cX9_doOnData 109 = .ok (.aload_n 2, 1) := by decide +kernel
theorem dX9_doOnData_110 : decode cX9_doOnData 110 = .ok (.bipush 8, 2) := by decide +kernel
theorem dX9_doOnData_112 : decode cX9_doOnData 112 = .ok (.aload_n 1, 1) := by decide +kernel
theorem dX9_doOnData_113 : decode cX9_doOnData 113 = .ok (.getfield 138, 3) := by decide +kernel
theorem dX9_doOnData_116 : decode cX9_doOnData 116 = .ok (.i2l, 1) := by decide +kernel
theorem dX9_doOnData_117 : decode cX9_doOnData 117 = .ok (.invokevirtual 145, 3) := by decide +kernel
theorem dX9_doOnData_120 : decode cX9_doOnData 120 = .ok (.iconst 0, 1) := by decide +kernel
theorem dX9_doOnData_121 : decode cX9_doOnData 121 = .ok (.ireturn, 1) := by decide +kernel
theorem dX9_doOnData_122 : decode cX9_doOnData 122 = .ok (.aload_n 2, 1) := by decide +kernel
theorem dX9_doOnData_123 : decode cX9_doOnData 123 = .ok (.iconst (-1), 1) := by decide +kernel
theorem dX9_doOnData_124 : decode cX9_doOnData 124 = .ok (.lconst 0, 1) := by decide +kernel
theorem dX9_doOnData_125 : decode cX9_doOnData 125 = .ok (.invokevirtual 145, 3) := by decide +kernel
theorem dX9_doOnData_128 : decode cX9_doOnData 128 = .ok (.iconst 0, 1) := by decide +kernel
theorem dX9_doOnData_129 : decode cX9_doOnData 129 = .ok (.ireturn, 1) := by decide +kernel
theorem dX9_doOnData_130 : decode cX9_doOnData 130 = .ok (.aload_n 3, 1) := by decide +kernel
theorem dX9_doOnData_131 : decode cX9_doOnData 131 = .ok (.aload_n 1, 1) := by decide +kernel
theorem dX9_doOnData_132 : decode cX9_doOnData 132 = .ok (.getfield 119, 3) := by decide +kernel
theorem dX9_doOnData_135 : decode cX9_doOnData 135 = .ok (.aload_n 1, 1) := by decide +kernel
theorem dX9_doOnData_136 : decode cX9_doOnData 136 = .ok (.getfield 120, 3) := by decide +kernel
theorem dX9_doOnData_139 : decode cX9_doOnData 139 = .ok (.aload_n 2, 1) := by decide +kernel
theorem dX9_doOnData_140 : decode cX9_doOnData 140 = .ok (.invokevirtual 149, 3) := by decide +kernel
theorem dX9_doOnData_143 : decode cX9_doOnData 143 = .ok (.ireturn, 1) := by decide +kernel
theorem dX9_doOnData_144 : decode cX9_doOnData 144 = .ok (.aload_n 3, 1) := by decide +kernel
theorem dX9_doOnData_145 : decode cX9_doOnData 145 = .ok (.aload_n 1, 1) := by decide +kernel
theorem dX9_doOnData_146 : decode cX9_doOnData 146 = .ok (.getfield 119, 3) := by decide +kernel
theorem dX9_doOnData_149 : decode cX9_doOnData 149 = .ok (.aload_n 1, 1) := by decide +kernel
theorem dX9_doOnData_150 : decode cX9_doOnData 150 = .ok (.getfield 120, 3) := by decide +kernel
theorem dX9_doOnData_153 : decode cX9_doOnData 153 = .ok (.aload_n 1, 1) := by decide +kernel
theorem dX9_doOnData_154 : decode cX9_doOnData 154 = .ok (.getfield 138, 3) := by decide +kernel
theorem dX9_doOnData_157 : decode cX9_doOnData 157 = .ok (.invokevirtual 153, 3) := by decide +kernel
theorem dX9_doOnData_160 : decode cX9_doOnData 160 = .ok (.ireturn, 1) := by decide +kernel
theorem dX9_doOnData_161 : decode cX9_doOnData 161 = .ok (.aload_n 3, 1) := by decide +kernel
theorem dX9_doOnData_162 : decode cX9_doOnData 162 = .ok (.aload_n 1, 1) := by decide +kernel
theorem dX9_doOnData_163 : decode cX9_doOnData 163 = .ok (.getfield 120, 3) := by decide +kernel
theorem dX9_doOnData_166 : decode cX9_doOnData 166 = .ok (.aload_n 2, 1) := by decide +kernel
theorem dX9_doOnData_167 : decode cX9_doOnData 167 = .ok (.invokevirtual 157, 3) := by decide +kernel
theorem dX9_doOnData_170 : decode cX9_doOnData 170 = .ok (.ireturn, 1) := by decide +kernel
theorem dX9_doOnData_171 : decode cX9_doOnData 171 = .ok (.aload_n 3, 1) := by decide +kernel
theorem dX9_doOnData_172 : decode cX9_doOnData 172 = .ok (.aload_n 1, 1) := by decide +kernel
theorem dX9_doOnData_173 : decode cX9_doOnData 173 = .ok (.getfield 120, 3) := by decide +kernel
theorem dX9_doOnData_176 : decode cX9_doOnData 176 = .ok (.aload_n 2, 1) := by decide +kernel
theorem dX9_doOnData_177 : decode cX9_doOnData 177 = .ok (.invokevirtual 161, 3) := by decide +kernel
theorem dX9_doOnData_180 : decode cX9_doOnData 180 = .ok (.ireturn, 1) := by decide +kernel
theorem dX9_doOnData_181 : decode cX9_doOnData 181 = .ok (.aload_n 0, 1) := by decide +kernel
theorem dX9_doOnData_182 : decode cX9_doOnData 182 = .ok (.aload_n 1, 1) := by decide +kernel
theorem dX9_doOnData_183 : decode cX9_doOnData 183 = .ok (.invokevirtual 164, 3) := by decide +kernel
theorem dX9_doOnData_186 : decode cX9_doOnData 186 = .ok (.ireturn, 1) := by decide +kernel
theorem dX9_doOnData_187 : decode cX9_doOnData 187 = .ok (.aload_n 0, 1) := by decide +kernel
theorem dX9_doOnData_188 : decode cX9_doOnData 188 = .ok (.aload_n 1, 1) := by decide +kernel
theorem dX9_doOnData_189 : decode cX9_doOnData 189 = .ok (.getfield 111, 3) := by decide +kernel
theorem dX9_doOnData_192 : decode cX9_doOnData 192 = .ok (.aload_n 1, 1) := by decide +kernel
theorem dX9_doOnData_193 : decode cX9_doOnData 193 = .ok (.getfield 116, 3) := by decide +kernel
theorem dX9_doOnData_196 : decode cX9_doOnData 196 = .ok (.invokevirtual 168, 3) := by decide +kernel
theorem dX9_doOnData_199 : decode cX9_doOnData 199 = .ok (.ireturn, 1) := by decide +kernel
theorem dX9_doOnData_200 : decode cX9_doOnData 200 = .ok (.aload_n 3, 1) := by decide +kernel
theorem dX9_doOnData_201 : decode cX9_doOnData 201 = .ok (.aload_n 1, 1) := by decide +kernel
theorem dX9_doOnData_202 : decode cX9_doOnData 202 = .ok (.getfield 119, 3) := by decide +kernel
theorem dX9_doOnData_205 : decode cX9_doOnData 205 = .ok (.aload_n 1, 1) := by decide +kernel
theorem dX9_doOnData_206 : decode cX9_doOnData 206 = .ok (.getfield 120, 3) := by decide +kernel
theorem dX9_doOnData_209 : decode cX9_doOnData 209 = .ok (.invokevirtual 172, 3) := by decide +kernel
theorem dX9_doOnData_212 : decode cX9_doOnData 212 = .ok (.ireturn, 1) := by decide +kernel
theorem dX9_doOnData_213 : decode cX9_doOnData 213 = .ok (.aload_n 0, 1) := by decide +kernel
theorem dX9_doOnData_214 : decode cX9_doOnData 214 = .ok (.aload_n 1, 1) := by decide +kernel
theorem dX9_doOnData_215 : decode cX9_doOnData 215 = .ok (.getfield 111, 3) := by decide +kernel
theorem dX9_doOnData_218 : decode cX9_doOnData 218 = .ok (.aload_n 1, 1) := by decide +kernel
theorem dX9_doOnData_219 : decode cX9_doOnData 219 = .ok (.getfield 116, 3) := by decide +kernel
theorem dX9_doOnData_222 : decode cX9_doOnData 222 = .ok (.invokevirtual 175, 3) := by decide +kernel
theorem dX9_doOnData_225 : decode cX9_doOnData 225 = .ok (.ireturn, 1) := by decide +kernel
theorem dX9_doOnData_226 : decode cX9_doOnData 226 = .ok (.aload_n 0, 1) := by decide +kernel
theorem dX9_doOnData_227 : decode cX9_doOnData 227 = .ok (.aload_n 1, 1) := by decide +kernel
theorem dX9_doOnData_228 : decode cX9_doOnData 228 = .ok (.getfield 111, 3) := by decide +kernel
theorem dX9_doOnData_231 : decode cX9_doOnData 231 = .ok (.aload_n 1, 1) := by decide +kernel
theorem dX9_doOnData_232 : decode cX9_doOnData 232 = .ok (.getfield 116, 3) := by decide +kernel
theorem dX9_doOnData_235 : decode cX9_doOnData 235 = .ok (.invokevirtual 178, 3) := by decide +kernel
theorem dX9_doOnData_238 : decode cX9_doOnData 238 = .ok (.ireturn, 1) := by decide +kernel
theorem dX9_doOnData_239 : decode cX9_doOnData 239 = .ok (.iconst 0, 1) := by decide +kernel
theorem dX9_doOnData_240 : decode cX9_doOnData 240 = .ok (.ireturn, 1) := by decide +kernel
theorem dX9_launch_0 : decode cX9_launch 0 = .ok (.aload_n 0, 1) := by decide +kernel
theorem dX9_launch_1 : decode cX9_launch 1 = .ok (.iload_n 1, 1) := by decide +kernel
theorem dX9_launch_2 : decode cX9_launch 2 = .ok (.iload_n 2, 1) := by decide +kernel
theorem dX9_launch_3 : decode cX9_launch 3 = .ok (.invokevirtual 181, 3) := by decide +kernel
theorem dX9_launch_6 : decode cX9_launch 6 = .ok (.istore_n 3, 1) := by decide +kernel
theorem dX9_launch_7 : decode cX9_launch 7 = .ok (.aload_n 0, 1) := by decide +kernel
theorem dX9_launch_8 : decode cX9_launch 8 = .ok (.getfield 31, 3) := by decide +kernel
theorem dX9_launch_11 : decode cX9_launch 11 = .ok (.iload_n 1, 1) := by decide +kernel
theorem dX9_launch_12 : decode cX9_launch 12 = .ok (.aaload, 1) := by decide +kernel
theorem dX9_launch_13 : decode cX9_launch 13 = .ok (.getfield 184, 3) := by decide +kernel
theorem dX9_launch_16 : decode cX9_launch 16 = .ok (.iconst (-1), 1) := by decide +kernel
theorem dX9_launch_17 : decode cX9_launch 17 = .ok (.lconst 0, 1) := by decide +kernel
theorem dX9_launch_18 : decode cX9_launch 18 = .ok (.invokevirtual 145, 3) := by decide +kernel
theorem dX9_launch_21 : decode cX9_launch 21 = .ok (.aload_n 0, 1) := by decide +kernel
theorem dX9_launch_22 : decode cX9_launch 22 = .ok (.getfield 31, 3) := by decide +kernel
theorem dX9_launch_25 : decode cX9_launch 25 = .ok (.iload_n 1, 1) := by decide +kernel
theorem dX9_launch_26 : decode cX9_launch 26 = .ok (.aaload, 1) := by decide +kernel
theorem dX9_launch_27 : decode cX9_launch 27 = .ok (.iload_n 2, 1) := by decide +kernel
theorem dX9_launch_28 : decode cX9_launch 28 = .ok (.iload_n 3, 1) := by decide +kernel
theorem dX9_launch_29 : decode cX9_launch 29 = .ok (.invokevirtual 187, 3) := by decide +kernel
theorem dX9_launch_32 : decode cX9_launch 32 = .ok (.pop, 1) := by decide +kernel
theorem dX9_launch_33 : decode cX9_launch 33 = .ok (.iload_n 3, 1) := by decide +kernel
theorem dX9_launch_34 : decode cX9_launch 34 = .ok (.ireturn, 1) := by decide +kernel
theorem dX9_tick_0 : decode cX9_tick 0 = .ok (.iconst 0, 1) := by decide +kernel
theorem dX9_tick_1 : decode cX9_tick 1 = .ok (.istore_n 1, 1) := by decide +kernel
theorem dX9_tick_2 : decode cX9_tick 2 = .ok (.iload_n 1, 1) := by decide +kernel
theorem dX9_tick_3 : decode cX9_tick 3 = .ok (.bipush 6, 2) := by decide +kernel
theorem dX9_tick_5 : decode cX9_tick 5 = .ok (.if_icmp .ge 14, 3) := by decide +kernel
theorem dX9_tick_8 : decode cX9_tick 8 = .ok (.aload_n 0, 1) := by decide +kernel
theorem dX9_tick_9 : decode cX9_tick 9 = .ok (.iload_n 1, 1) := by decide +kernel
theorem dX9_tick_10 : decode cX9_tick 10 = .ok (.invokevirtual 191, 3) := by decide +kernel
theorem dX9_tick_13 : decode cX9_tick 13 = .ok (.iinc 1 1, 3) := by decide +kernel
theorem dX9_tick_16 : decode cX9_tick 16 = .ok (.goto (-14), 3) := by decide +kernel
theorem dX9_tick_19 : decode cX9_tick 19 = .ok (.aload_n 0, 1) := by decide +kernel
theorem dX9_tick_20 : decode cX9_tick 20 = .ok (.dup, 1) := by decide +kernel
theorem dX9_tick_21 : decode cX9_tick 21 = .ok (.getfield 76, 3) := by decide +kernel
theorem dX9_tick_24 : decode cX9_tick 24 = .ok (.iconst 1, 1) := by decide +kernel
theorem dX9_tick_25 : decode cX9_tick 25 = .ok (.iadd, 1) := by decide +kernel
theorem dX9_tick_26 : decode cX9_tick 26 = .ok (.putfield 76, 3) := by decide +kernel
theorem dX9_tick_29 : decode cX9_tick 29 = .ok (.aload_n 0, 1) := by decide +kernel
theorem dX9_tick_30 : decode cX9_tick 30 = .ok (.invokevirtual 195, 3) := by decide +kernel
theorem dX9_tick_33 : decode cX9_tick 33 = .ok (.return_, 1) := by decide +kernel
theorem dX9_act_0 : decode cX9_act 0 = .ok (.aload_n 0, 1) := by decide +kernel
theorem dX9_act_1 : decode cX9_act 1 = .ok (.getfield 31, 3) := by decide +kernel
theorem dX9_act_4 : decode cX9_act 4 = .ok (.iload_n 1, 1) := by decide +kernel
theorem dX9_act_5 : decode cX9_act 5 = .ok (.aaload, 1) := by decide +kernel
theorem dX9_act_6 : decode cX9_act 6 = .ok (.astore_n 2, 1) := by decide +kernel
theorem dX9_act_7 : decode cX9_act 7 = .ok (.aload_n 2, 1) := by decide +kernel
theorem dX9_act_8 : decode cX9_act 8 = .ok (.getfield 198, 3) := by decide +kernel
theorem dX9_act_11 : decode cX9_act 11 = .ok (.iconst 1, 1) := by decide +kernel
theorem dX9_act_12 : decode cX9_act 12 = .ok (.isub, 1) := by decide +kernel
theorem dX9_act_13 : decode cX9_act 13 = .ok (.istore_n 3, 1) := by decide +kernel
theorem dX9_act_14 : decode cX9_act 14 = .ok (.iload_n 3, 1) := by decide +kernel
theorem dX9_act_15 : decode cX9_act 15 = .ok (.bipush 10, 2) := by decide +kernel
theorem dX9_act_17 : decode cX9_act 17 = .ok (.invokestatic 201, 3) := by decide +kernel
theorem dX9_act_20 : decode cX9_act 20 = .ok (.ifCond .ne 4, 3) := by decide +kernel
theorem dX9_act_23 : decode cX9_act 23 = .ok (.return_, 1) := by decide +kernel
theorem dX9_act_24 : decode cX9_act 24 = .ok (.aload_n 2, 1) := by decide +kernel
theorem dX9_act_25 : decode cX9_act 25 = .ok (.getfield 204, 3) := by decide +kernel
theorem dX9_act_28 : decode cX9_act 28 = .ok (.ifCond .le 9, 3) := by decide +kernel
theorem dX9_act_31 : decode cX9_act 31 = .ok (.aload_n 2, 1) := by decide +kernel
theorem dX9_act_32 : decode cX9_act 32 = .ok (.iload_n 3, 1) := by decide +kernel
theorem dX9_act_33 : decode cX9_act 33 = .ok (.invokevirtual 207, 3) := by decide +kernel
theorem dX9_act_36 : decode cX9_act 36 = .ok (.return_, 1) := by decide +kernel
theorem dX9_act_37 : decode cX9_act 37 = .ok (.aload_n 2, 1) := by decide +kernel
theorem dX9_act_38 : decode cX9_act 38 = .ok (.dup, 1) := by decide +kernel
theorem dX9_act_39 : decode cX9_act 39 = .ok (.getfield 210, 3) := by decide +kernel
theorem dX9_act_42 : decode cX9_act 42 = .ok (.iconst 1, 1) := by decide +kernel
theorem dX9_act_43 : decode cX9_act 43 = .ok (.iadd, 1) := by decide +kernel
theorem dX9_act_44 : decode cX9_act 44 = .ok (.putfield 210, 3) := by decide +kernel
theorem dX9_act_47 : decode cX9_act 47 = .ok (.aload_n 2, 1) := by decide +kernel
theorem dX9_act_48 : decode cX9_act 48 = .ok (.aload_n 0, 1) := by decide +kernel
theorem dX9_act_49 : decode cX9_act 49 = .ok (.iload_n 1, 1) := by decide +kernel
theorem dX9_act_50 : decode cX9_act 50 = .ok (.iload_n 3, 1) := by decide +kernel
theorem dX9_act_51 : decode cX9_act 51 = .ok (.invokevirtual 213, 3) := by decide +kernel
theorem dX9_act_54 : decode cX9_act 54 = .ok (.putfield 216, 3) := by decide +kernel
theorem dX9_act_57 : decode cX9_act 57 = .ok (.aload_n 2, 1) := by decide +kernel
theorem dX9_act_58 : decode cX9_act 58 = .ok (.getfield 216, 3) := by decide +kernel
theorem dX9_act_61 : decode cX9_act 61 = .ok (.ifCond .eq 13, 3) := by decide +kernel
theorem dX9_act_64 : decode cX9_act 64 = .ok (.aload_n 0, 1) := by decide +kernel
theorem dX9_act_65 : decode cX9_act 65 = .ok (.dup, 1) := by decide +kernel
theorem dX9_act_66 : decode cX9_act 66 = .ok (.getfield 82, 3) := by decide +kernel
theorem dX9_act_69 : decode cX9_act 69 = .ok (.iconst 1, 1) := by decide +kernel
theorem dX9_act_70 : decode cX9_act 70 = .ok (.iadd, 1) := by decide +kernel
theorem dX9_act_71 : decode cX9_act 71 = .ok (.putfield 82, 3) := by decide +kernel
theorem dX9_act_74 : decode cX9_act 74 = .ok (.return_, 1) := by decide +kernel
theorem dX9_doDeed_0 : decode cX9_doDeed 0 = .ok (.aload_n 0, 1) := by decide +kernel
theorem dX9_doDeed_1 : decode cX9_doDeed 1 = .ok (.getfield 31, 3) := by decide +kernel
theorem dX9_doDeed_4 : decode cX9_doDeed 4 = .ok (.iload_n 1, 1) := by decide +kernel
theorem dX9_doDeed_5 : decode cX9_doDeed 5 = .ok (.aaload, 1) := by decide +kernel
theorem dX9_doDeed_6 : decode cX9_doDeed 6 = .ok (.astore_n 3, 1) := by decide +kernel
theorem dX9_doDeed_7 : decode cX9_doDeed 7 = .ok (.aload_n 0, 1) := by decide +kernel
theorem dX9_doDeed_8 : decode cX9_doDeed 8 = .ok (.aload_n 3, 1) := by decide +kernel
theorem dX9_doDeed_9 : decode cX9_doDeed 9 = .ok (.getfield 219, 3) := by decide +kernel
theorem dX9_doDeed_12 : decode cX9_doDeed 12 = .ok (.iload_n 2, 1) := by decide +kernel
theorem dX9_doDeed_13 : decode cX9_doDeed 13 = .ok (.iaload, 1) := by decide +kernel
theorem dX9_doDeed_14 : decode cX9_doDeed 14 = .ok (.aload_n 3, 1) := by decide +kernel
theorem dX9_doDeed_15 : decode cX9_doDeed 15 = .ok (.getfield 221, 3) := by decide +kernel
theorem dX9_doDeed_18 : decode cX9_doDeed 18 = .ok (.iload_n 2, 1) := by decide +kernel
theorem dX9_doDeed_19 : decode cX9_doDeed 19 = .ok (.iaload, 1) := by decide +kernel
theorem dX9_doDeed_20 : decode cX9_doDeed 20 = .ok (.invokevirtual 223, 3) := by decide +kernel
theorem dX9_doDeed_23 : decode cX9_doDeed 23 = .ok (.astore 4, 2) := by decide +kernel
theorem dX9_doDeed_25 : decode cX9_doDeed 25 = .ok (.aload_n 3, 1) := by decide +kernel
theorem dX9_doDeed_26 : decode cX9_doDeed 26 = .ok (.getfield 227, 3) := by decide +kernel
theorem dX9_doDeed_29 : decode cX9_doDeed 29 = .ok (.iload_n 2, 1) := by decide +kernel
theorem dX9_doDeed_30 : decode cX9_doDeed 30 = .ok (.iaload, 1) := by decide +kernel
theorem dX9_doDeed_31 : decode cX9_doDeed 31 = .ok (.iconst 1, 1) := by decide +kernel
theorem dX9_doDeed_32 : decode cX9_doDeed 32 = .ok (.iadd, 1) := by decide +kernel
theorem dX9_doDeed_33 : decode cX9_doDeed 33 = .ok (.istore 5, 2) := by decide +kernel
theorem dX9_doDeed_35 : decode cX9_doDeed 35 = .ok (.aload 4, 2) := by decide +kernel
theorem dX9_doDeed_37 : decode cX9_doDeed 37 = .ok (.ifnonnull 7, 3) := by decide +kernel
theorem dX9_doDeed_40 : decode cX9_doDeed 40 = .ok (.aconst_null, 1) := by decide +kernel
theorem dX9_doDeed_41 : decode cX9_doDeed 41 = .ok (.goto 12, 3) := by decide +kernel
theorem dX9_doDeed_44 : decode cX9_doDeed 44 = .ok (.aload 4, 2) := by decide +kernel
theorem dX9_doDeed_46 : decode cX9_doDeed 46 = .ok (.iload 5, 2) := by decide +kernel
theorem dX9_doDeed_48 : decode cX9_doDeed 48 = .ok (.iconst 1, 1) := by decide +kernel
theorem dX9_doDeed_49 : decode cX9_doDeed 49 = .ok (.isub, 1) := by decide +kernel
theorem dX9_doDeed_50 : decode cX9_doDeed 50 = .ok (.invokevirtual 229, 3) := by decide +kernel
theorem dX9_doDeed_53 : decode cX9_doDeed 53 = .ok (.astore 6, 2) := by decide +kernel
theorem dX9_doDeed_55 : decode cX9_doDeed 55 = .ok (.aload 6, 2) := by decide +kernel
theorem dX9_doDeed_57 : decode cX9_doDeed 57 = .ok (.ifnonnull 9, 3) := by decide +kernel
theorem dX9_doDeed_60 : decode cX9_doDeed 60 = .ok (.aload_n 3, 1) := by decide +kernel
theorem dX9_doDeed_61 : decode cX9_doDeed 61 = .ok (.invokevirtual 233, 3) := by decide +kernel
theorem dX9_doDeed_64 : decode cX9_doDeed 64 = .ok (.iconst 0, 1) := by decide +kernel
theorem dX9_doDeed_65 : decode cX9_doDeed 65 = .ok (.ireturn, 1) := by decide +kernel
theorem dX9_doDeed_66 : decode cX9_doDeed 66 = .ok (.getstatic 123, 3) := by decide +kernel
theorem dX9_doDeed_69 : decode cX9_doDeed 69 = .ok (.aload 6, 2) := by decide +kernel
theorem dX9_doDeed_71 : decode cX9_doDeed 71 = .ok (.getfield 128, 3) := by decide +kernel
theorem dX9_doDeed_74 : decode cX9_doDeed 74 = .ok (.invokevirtual 132, 3) := by decide +kernel
theorem dX9_doDeed_77 : decode cX9_doDeed 77 = .ok (.iaload, 1) := by decide +kernel
theorem dX9_doDeed_78 : decode cX9_doDeed 78 = .ok (.tableswitch 198 13 19 #[42, 48, 57, 91, 130, 130, 162], 42) := by decide +kernel
theorem dX9_doDeed_120 : decode cX9_doDeed 120 = .ok (.aload_n 3, 1) := by decide +kernel
theorem dX9_doDeed_121 : decode cX9_doDeed 121 = .ok (.invokevirtual 233, 3) := by decide +kernel
theorem dX9_doDeed_124 : decode cX9_doDeed 124 = .ok (.iconst 0, 1) := by decide +kernel
theorem dX9_doDeed_125 : decode cX9_doDeed 125 = .ok (.ireturn, 1) := by decide +kernel
theorem dX9_doDeed_126 : decode cX9_doDeed 126 = .ok (.aload_n 3, 1) := by decide +kernel
theorem dX9_doDeed_127 : decode cX9_doDeed 127 = .ok (.getfield 227, 3) := by decide +kernel
theorem dX9_doDeed_130 : decode cX9_doDeed 130 = .ok (.iload_n 2, 1) := by decide +kernel
theorem dX9_doDeed_131 : decode cX9_doDeed 131 = .ok (.iconst 0, 1) := by decide +kernel
theorem dX9_doDeed_132 : decode cX9_doDeed 132 = .ok (.iastore, 1) := by decide +kernel
theorem dX9_doDeed_133 : decode cX9_doDeed 133 = .ok (.iconst 0, 1) := by decide +kernel
theorem dX9_doDeed_134 : decode cX9_doDeed 134 = .ok (.ireturn, 1) := by decide +kernel
theorem dX9_doDeed_135 : decode cX9_doDeed 135 = .ok (.aload_n 3, 1) := by decide +kernel
theorem dX9_doDeed_136 : decode cX9_doDeed 136 = .ok (.aload 6, 2) := by decide +kernel
theorem dX9_doDeed_138 : decode cX9_doDeed 138 = .ok (.getfield 138, 3) := by decide +kernel
theorem dX9_doDeed_141 : decode cX9_doDeed 141 = .ok (.putfield 204, 3) := by decide +kernel
theorem dX9_doDeed_144 : decode cX9_doDeed 144 = .ok (.aload_n 3, 1) := by decide +kernel
theorem dX9_doDeed_145 : decode cX9_doDeed 145 = .ok (.getfield 227, 3) := by decide +kernel
theorem dX9_doDeed_148 : decode cX9_doDeed 148 = .ok (.iload_n 2, 1) := by decide +kernel
theorem dX9_doDeed_149 : decode cX9_doDeed 149 = .ok (.aload 6, 2) := by decide +kernel
theorem dX9_doDeed_151 : decode cX9_doDeed 151 = .ok (.getfield 138, 3) := by decide +kernel
theorem dX9_doDeed_154 : decode cX9_doDeed 154 = .ok (.ifCond .le 10, 3) := by decide +kernel
theorem dX9_doDeed_157 : decode cX9_doDeed 157 = .ok (.iload 5, 2) := by decide +kernel
theorem dX9_doDeed_159 : decode cX9_doDeed 159 = .ok (.iconst 1, 1) := by decide +kernel
theorem dX9_doDeed_160 : decode cX9_doDeed 160 = .ok (.isub, 1) := by decide +kernel
theorem dX9_doDeed_161 : decode cX9_doDeed 161 = .ok (.goto 5, 3) := by decide +kernel
theorem dX9_doDeed_164 : decode cX9_doDeed 164 = .ok (.iload 5, 2) := by decide +kernel
theorem dX9_doDeed_166 : decode cX9_doDeed 166 = .ok (.iastore, 1) := by decide +kernel
theorem dX9_doDeed_167 : decode cX9_doDeed 167 = .ok (.iconst 0, 1) := by decide +kernel
theorem dX9_doDeed_168 : decode cX9_doDeed 168 = .ok (.ireturn, 1) := by decide +kernel
theorem dX9_doDeed_169 : decode cX9_doDeed 169 = .ok (.aload_n 3, 1) := by decide +kernel
theorem dX9_doDeed_170 : decode cX9_doDeed 170 = .ok (.getfield 227, 3) := by decide +kernel
theorem dX9_doDeed_173 : decode cX9_doDeed 173 = .ok (.iload_n 2, 1) := by decide +kernel
theorem dX9_doDeed_174 : decode cX9_doDeed 174 = .ok (.aload_n 3, 1) := by decide +kernel
theorem dX9_doDeed_175 : decode cX9_doDeed 175 = .ok (.getfield 184, 3) := by decide +kernel
theorem dX9_doDeed_178 : decode cX9_doDeed 178 = .ok (.invokevirtual 236, 3) := by decide +kernel
theorem dX9_doDeed_181 : decode cX9_doDeed 181 = .ok (.ifCond .eq 22, 3) := by decide +kernel
theorem dX9_doDeed_184 : decode cX9_doDeed 184 = .ok (.iload 5, 2) := by decide +kernel
theorem dX9_doDeed_186 : decode cX9_doDeed 186 = .ok (.aload 6, 2) := by decide +kernel
theorem dX9_doDeed_188 : decode cX9_doDeed 188 = .ok (.getfield 138, 3) := by decide +kernel
theorem dX9_doDeed_191 : decode cX9_doDeed 191 = .ok (.iadd, 1) := by decide +kernel
theorem dX9_doDeed_192 : decode cX9_doDeed 192 = .ok (.aload 4, 2) := by decide +kernel
theorem dX9_doDeed_194 : decode cX9_doDeed 194 = .ok (.getfield 240, 3) := by decide +kernel
theorem dX9_doDeed_197 : decode cX9_doDeed 197 = .ok (.invokestatic 243, 3) := by decide +kernel
theorem dX9_doDeed_200 : decode cX9_doDeed 200 = .ok (.goto 5, 3) := by decide +kernel
theorem dX9_doDeed_203 : decode cX9_doDeed 203 = .ok (.iload 5, 2) := by decide +kernel
theorem dX9_doDeed_205 : decode cX9_doDeed 205 = .ok (.iastore, 1) := by decide +kernel
theorem dX9_doDeed_206 : decode cX9_doDeed 206 = .ok (.iconst 0, 1) := by decide +kernel
theorem dX9_doDeed_207 : decode cX9_doDeed 207 = .ok (.ireturn, 1) := by decide +kernel
theorem dX9_doDeed_208 : decode cX9_doDeed 208 = .ok (.aload_n 3, 1) := by decide +kernel
theorem dX9_doDeed_209 : decode cX9_doDeed 209 = .ok (.getfield 248, 3) := by decide +kernel
theorem dX9_doDeed_212 : decode cX9_doDeed 212 = .ok (.iload_n 2, 1) := by decide +kernel
theorem dX9_doDeed_213 : decode cX9_doDeed 213 = .ok (.aload 6, 2) := by decide +kernel
theorem dX9_doDeed_215 : decode cX9_doDeed 215 = .ok (.getfield 128, 3) := by decide +kernel
theorem dX9_doDeed_218 : decode cX9_doDeed 218 = .ok (.getstatic 251, 3) := by decide +kernel
theorem dX9_doDeed_221 : decode cX9_doDeed 221 = .ok (.if_acmp .ne 7, 3) := by decide +kernel
theorem dX9_doDeed_224 : decode cX9_doDeed 224 = .ok (.iconst 1, 1) := by decide +kernel
theorem dX9_doDeed_225 : decode cX9_doDeed 225 = .ok (.goto 4, 3) := by decide +kernel
theorem dX9_doDeed_228 : decode cX9_doDeed 228 = .ok (.iconst 0, 1) := by decide +kernel
theorem dX9_doDeed_229 : decode cX9_doDeed 229 = .ok (.iastore, 1) := by decide +kernel
theorem dX9_doDeed_230 : decode cX9_doDeed 230 = .ok (.aload_n 3, 1) := by decide +kernel
theorem dX9_doDeed_231 : decode cX9_doDeed 231 = .ok (.getfield 227, 3) := by decide +kernel
theorem dX9_doDeed_234 : decode cX9_doDeed 234 = .ok (.iload_n 2, 1) := by decide +kernel
theorem dX9_doDeed_235 : decode cX9_doDeed 235 = .ok (.iload 5, 2) := by decide +kernel
theorem dX9_doDeed_237 : decode cX9_doDeed 237 = .ok (.iastore, 1) := by decide +kernel
theorem dX9_doDeed_238 : decode cX9_doDeed 238 = .ok (.iconst 0, 1) := by decide +kernel
theorem dX9_doDeed_239 : decode cX9_doDeed 239 = .ok (.ireturn, 1) := by decide +kernel
theorem dX9_doDeed_240 : decode cX9_doDeed 240 = .ok (.aload_n 3, 1) := by decide +kernel
theorem dX9_doDeed_241 : decode cX9_doDeed 241 = .ok (.getfield 227, 3) := by decide +kernel
theorem dX9_doDeed_244 : decode cX9_doDeed 244 = .ok (.iload_n 2, 1) := by decide +kernel
theorem dX9_doDeed_245 : decode cX9_doDeed 245 = .ok (.iload 5, 2) := by decide +kernel
theorem dX9_doDeed_247 : decode cX9_doDeed 247 = .ok (.iastore, 1) := by decide +kernel
theorem dX9_doDeed_248 : decode cX9_doDeed 248 = .ok (.aload_n 3, 1) := by decide +kernel
theorem dX9_doDeed_249 : decode cX9_doDeed 249 = .ok (.aload 6, 2) := by decide +kernel
theorem dX9_doDeed_251 : decode cX9_doDeed 251 = .ok (.getfield 138, 3) := by decide +kernel
theorem dX9_doDeed_254 : decode cX9_doDeed 254 = .ok (.aload_n 0, 1) := by decide +kernel
theorem dX9_doDeed_255 : decode cX9_doDeed 255 = .ok (.iload_n 1, 1) := by decide +kernel
theorem dX9_doDeed_256 : decode cX9_doDeed 256 = .ok (.aload 6, 2) := by decide +kernel
theorem dX9_doDeed_258 : decode cX9_doDeed 258 = .ok (.getfield 138, 3) := by decide +kernel
theorem dX9_doDeed_261 : decode cX9_doDeed 261 = .ok (.invokevirtual 181, 3) := by decide +kernel
theorem dX9_doDeed_264 : decode cX9_doDeed 264 = .ok (.invokevirtual 187, 3) := by decide +kernel
theorem dX9_doDeed_267 : decode cX9_doDeed 267 = .ok (.ifCond .eq 7, 3) := by decide +kernel
theorem dX9_doDeed_270 : decode cX9_doDeed 270 = .ok (.iconst 0, 1) := by decide +kernel
theorem dX9_doDeed_271 : decode cX9_doDeed 271 = .ok (.goto 4, 3) := by decide +kernel
theorem dX9_doDeed_274 : decode cX9_doDeed 274 = .ok (.iconst 3, 1) := by decide +kernel
theorem dX9_doDeed_275 : decode cX9_doDeed 275 = .ok (.ireturn, 1) := by decide +kernel
theorem dX9_doDeed_276 : decode cX9_doDeed 276 = .ok (.aload_n 3, 1) := by decide +kernel
theorem dX9_doDeed_277 : decode cX9_doDeed 277 = .ok (.getfield 227, 3) := by decide +kernel
theorem dX9_doDeed_280 : decode cX9_doDeed 280 = .ok (.iload_n 2, 1) := by decide +kernel
theorem dX9_doDeed_281 : decode cX9_doDeed 281 = .ok (.iload 5, 2) := by decide +kernel
theorem dX9_doDeed_283 : decode cX9_doDeed 283 = .ok (.iastore, 1) := by decide +kernel
theorem dX9_doDeed_284 : decode cX9_doDeed 284 = .ok (.aload_n 0, 1) := by decide +kernel
theorem dX9_doDeed_285 : decode cX9_doDeed 285 = .ok (.aload 6, 2) := by decide +kernel
theorem dX9_doDeed_287 : decode cX9_doDeed 287 = .ok (.aload_n 3, 1) := by decide +kernel
theorem dX9_doDeed_288 : decode cX9_doDeed 288 = .ok (.getfield 184, 3) := by decide +kernel
theorem dX9_doDeed_291 : decode cX9_doDeed 291 = .ok (.invokevirtual 254, 3) := by decide +kernel
theorem dX9_doDeed_294 : decode cX9_doDeed 294 = .ok (.ireturn, 1) := by decide +kernel
theorem dX9_codeOf_0 : decode cX9_codeOf 0 = .ok (.iload_n 2, 1) := by decide +kernel
theorem dX9_codeOf_1 : decode cX9_codeOf 1 = .ok (.bipush 8, 2) := by decide +kernel
theorem dX9_codeOf_3 : decode cX9_codeOf 3 = .ok (.invokestatic 201, 3) := by decide +kernel
theorem dX9_codeOf_6 : decode cX9_codeOf 6 = .ok (.ifCond .ne 10, 3) := by decide +kernel
theorem dX9_codeOf_9 : decode cX9_codeOf 9 = .ok (.aload_n 0, 1) := by decide +kernel
theorem dX9_codeOf_10 : decode cX9_codeOf 10 = .ok (.getfield 11, 3) := by decide +kernel
theorem dX9_codeOf_13 : decode cX9_codeOf 13 = .ok (.iload_n 1, 1) := by decide +kernel
theorem dX9_codeOf_14 : decode cX9_codeOf 14 = .ok (.aaload, 1) := by decide +kernel
theorem dX9_codeOf_15 : decode cX9_codeOf 15 = .ok (.areturn, 1) := by decide +kernel
theorem dX9_codeOf_16 : decode cX9_codeOf 16 = .ok (.aload_n 0, 1) := by decide +kernel
theorem dX9_codeOf_17 : decode cX9_codeOf 17 = .ok (.getfield 19, 3) := by decide +kernel
theorem dX9_codeOf_20 : decode cX9_codeOf 20 = .ok (.iload_n 2, 1) := by decide +kernel
theorem dX9_codeOf_21 : decode cX9_codeOf 21 = .ok (.aaload, 1) := by decide +kernel
theorem dX9_codeOf_22 : decode cX9_codeOf 22 = .ok (.ifnonnull 7, 3) := by decide +kernel
theorem dX9_codeOf_25 : decode cX9_codeOf 25 = .ok (.aconst_null, 1) := by decide +kernel
theorem dX9_codeOf_26 : decode cX9_codeOf 26 = .ok (.goto 14, 3) := by decide +kernel
theorem dX9_codeOf_29 : decode cX9_codeOf 29 = .ok (.aload_n 0, 1) := by decide +kernel
theorem dX9_codeOf_30 : decode cX9_codeOf 30 = .ok (.getfield 19, 3) := by decide +kernel
theorem dX9_codeOf_33 : decode cX9_codeOf 33 = .ok (.iload_n 2, 1) := by decide +kernel
theorem dX9_codeOf_34 : decode cX9_codeOf 34 = .ok (.aaload, 1) := by decide +kernel
theorem dX9_codeOf_35 : decode cX9_codeOf 35 = .ok (.getfield 258, 3) := by decide +kernel
theorem dX9_codeOf_38 : decode cX9_codeOf 38 = .ok (.iload_n 1, 1) := by decide +kernel
theorem dX9_codeOf_39 : decode cX9_codeOf 39 = .ok (.aaload, 1) := by decide +kernel
theorem dX9_codeOf_40 : decode cX9_codeOf 40 = .ok (.areturn, 1) := by decide +kernel
theorem dX9_perform_0 : decode cX9_perform 0 = .ok (.aload_n 0, 1) := by decide +kernel
theorem dX9_perform_1 : decode cX9_perform 1 = .ok (.getfield 45, 3) := by decide +kernel
theorem dX9_perform_4 : decode cX9_perform 4 = .ok (.astore_n 2, 1) := by decide +kernel
theorem dX9_perform_5 : decode cX9_perform 5 = .ok (.aload_n 2, 1) := by decide +kernel
theorem dX9_perform_6 : decode cX9_perform 6 = .ok (.iconst (-1), 1) := by decide +kernel
theorem dX9_perform_7 : decode cX9_perform 7 = .ok (.lconst 0, 1) := by decide +kernel
theorem dX9_perform_8 : decode cX9_perform 8 = .ok (.invokevirtual 145, 3) := by decide +kernel
theorem dX9_perform_11 : decode cX9_perform 11 = .ok (.iconst 0, 1) := by decide +kernel
theorem dX9_perform_12 : decode cX9_perform 12 = .ok (.istore_n 3, 1) := by decide +kernel
theorem dX9_perform_13 : decode cX9_perform 13 = .ok (.iload_n 3, 1) := by decide +kernel
theorem dX9_perform_14 : decode cX9_perform 14 = .ok (.aload_n 1, 1) := by decide +kernel
theorem dX9_perform_15 : decode cX9_perform 15 = .ok (.getfield 240, 3) := by decide +kernel
theorem dX9_perform_18 : decode cX9_perform 18 = .ok (.if_icmp .ge 79, 3) := by decide +kernel
theorem dX9_perform_21 : decode cX9_perform 21 = .ok (.aload_n 1, 1) := by decide +kernel
theorem dX9_perform_22 : decode cX9_perform 22 = .ok (.iload_n 3, 1) := by decide +kernel
theorem dX9_perform_23 : decode cX9_perform 23 = .ok (.invokevirtual 229, 3) := by decide +kernel
theorem dX9_perform_26 : decode cX9_perform 26 = .ok (.astore 4, 2) := by decide +kernel
theorem dX9_perform_28 : decode cX9_perform 28 = .ok (.aload 4, 2) := by decide +kernel
theorem dX9_perform_30 : decode cX9_perform 30 = .ok (.ifnull 14, 3) := by decide +kernel
theorem dX9_perform_33 : decode cX9_perform 33 = .ok (.aload 4, 2) := by decide +kernel
theorem dX9_perform_35 : decode cX9_perform 35 = .ok (.getfield 128, 3) := by decide +kernel
theorem dX9_perform_38 : decode cX9_perform 38 = .ok (.getstatic 261, 3) := by decide +kernel
theorem dX9_perform_41 : decode cX9_perform 41 = .ok (.if_acmp .ne 4, 3) := by decide +kernel
theorem dX9_perform_44 : decode cX9_perform 44 = .ok (.return_, 1) := by decide +kernel
theorem dX9_perform_45 : decode cX9_perform 45 = .ok (.aload 4, 2) := by decide +kernel
theorem dX9_perform_47 : decode cX9_perform 47 = .ok (.getfield 128, 3) := by decide +kernel
theorem dX9_perform_50 : decode cX9_perform 50 = .ok (.getstatic 264, 3) := by decide +kernel
theorem dX9_perform_53 : decode cX9_perform 53 = .ok (.if_acmp .ne 18, 3) := by decide +kernel
theorem dX9_perform_56 : decode cX9_perform 56 = .ok (.aload_n 2, 1) := by decide +kernel
theorem dX9_perform_57 : decode cX9_perform 57 = .ok (.invokevirtual 236, 3) := by decide +kernel
theorem dX9_perform_60 : decode cX9_perform 60 = .ok (.ifCond .eq 11, 3) := by decide +kernel
theorem dX9_perform_63 : decode cX9_perform 63 = .ok (.iload_n 3, 1) := by decide +kernel
theorem dX9_perform_64 : decode cX9_perform 64 = .ok (.aload 4, 2) := by decide +kernel
theorem dX9_perform_66 : decode cX9_perform 66 = .ok (.getfield 138, 3) := by decide +kernel
theorem dX9_perform_69 : decode cX9_perform 69 = .ok (.iadd, 1) := by decide +kernel
theorem dX9_perform_70 : decode cX9_perform 70 = .ok (.istore_n 3, 1) := by decide +kernel
theorem dX9_perform_71 : decode cX9_perform 71 = .ok (.aload_n 0, 1) := by decide +kernel
theorem dX9_perform_72 : decode cX9_perform 72 = .ok (.aload 4, 2) := by decide +kernel
theorem dX9_perform_74 : decode cX9_perform 74 = .ok (.aload_n 2, 1) := by decide +kernel
theorem dX9_perform_75 : decode cX9_perform 75 = .ok (.invokevirtual 254, 3) := by decide +kernel
theorem dX9_perform_78 : decode cX9_perform 78 = .ok (.ifCond .eq 13, 3) := by decide +kernel
theorem dX9_perform_81 : decode cX9_perform 81 = .ok (.aload_n 0, 1) := by decide +kernel
theorem dX9_perform_82 : decode cX9_perform 82 = .ok (.dup, 1) := by decide +kernel
theorem dX9_perform_83 : decode cX9_perform 83 = .ok (.getfield 85, 3) := by decide +kernel
theorem dX9_perform_86 : decode cX9_perform 86 = .ok (.iconst 1, 1) := by decide +kernel
theorem dX9_perform_87 : decode cX9_perform 87 = .ok (.iadd, 1) := by decide +kernel
theorem dX9_perform_88 : decode cX9_perform 88 = .ok (.putfield 85, 3) := by decide +kernel
theorem dX9_perform_91 : decode cX9_perform 91 = .ok (.iinc 3 1, 3) := by decide +kernel
theorem dX9_perform_94 : decode cX9_perform 94 = .ok (.goto (-81), 3) := by decide +kernel
theorem dX9_perform_97 : decode cX9_perform 97 = .ok (.return_, 1) := by decide +kernel
theorem dX9_has_0 : decode cX9_has 0 = .ok (.iload_n 1, 1) := by decide +kernel
theorem dX9_has_1 : decode cX9_has 1 = .ok (.bipush 8, 2) := by decide +kernel
theorem dX9_has_3 : decode cX9_has 3 = .ok (.invokestatic 201, 3) := by decide +kernel
theorem dX9_has_6 : decode cX9_has 6 = .ok (.ifCond .eq 30, 3) := by decide +kernel
theorem dX9_has_9 : decode cX9_has 9 = .ok (.aload_n 0, 1) := by decide +kernel
theorem dX9_has_10 : decode cX9_has 10 = .ok (.getfield 19, 3) := by decide +kernel
theorem dX9_has_13 : decode cX9_has 13 = .ok (.iload_n 1, 1) := by decide +kernel
theorem dX9_has_14 : decode cX9_has 14 = .ok (.aaload, 1) := by decide +kernel
theorem dX9_has_15 : decode cX9_has 15 = .ok (.ifnull 21, 3) := by decide +kernel
theorem dX9_has_18 : decode cX9_has 18 = .ok (.aload_n 0, 1) := by decide +kernel
theorem dX9_has_19 : decode cX9_has 19 = .ok (.getfield 19, 3) := by decide +kernel
theorem dX9_has_22 : decode cX9_has 22 = .ok (.iload_n 1, 1) := by decide +kernel
theorem dX9_has_23 : decode cX9_has 23 = .ok (.aaload, 1) := by decide +kernel
theorem dX9_has_24 : decode cX9_has 24 = .ok (.getfield 258, 3) := by decide +kernel
theorem dX9_has_27 : decode cX9_has 27 = .ok (.iload_n 2, 1) := by decide +kernel
theorem dX9_has_28 : decode cX9_has 28 = .ok (.aaload, 1) := by decide +kernel
theorem dX9_has_29 : decode cX9_has 29 = .ok (.ifnull 7, 3) := by decide +kernel
theorem dX9_has_32 : decode cX9_has 32 = .ok (.iconst 1, 1) := by decide +kernel
theorem dX9_has_33 : decode cX9_has 33 = .ok (.goto 4, 3) := by decide +kernel
theorem dX9_has_36 : decode cX9_has 36 = .ok (.iconst 0, 1) := by decide +kernel
theorem dX9_has_37 : decode cX9_has 37 = .ok (.ireturn, 1) := by decide +kernel
theorem dX9_callee_0 : decode cX9_callee 0 = .ok (.aload_n 0, 1) := by decide +kernel
theorem dX9_callee_1 : decode cX9_callee 1 = .ok (.getfield 69, 3) := by decide +kernel
theorem dX9_callee_4 : decode cX9_callee 4 = .ok (.iconst 1, 1) := by decide +kernel
theorem dX9_callee_5 : decode cX9_callee 5 = .ok (.isub, 1) := by decide +kernel
theorem dX9_callee_6 : decode cX9_callee 6 = .ok (.istore_n 3, 1) := by decide +kernel
theorem dX9_callee_7 : decode cX9_callee 7 = .ok (.iload_n 3, 1) := by decide +kernel
theorem dX9_callee_8 : decode cX9_callee 8 = .ok (.ifCond .lt 67, 3) := by decide +kernel
theorem dX9_callee_11 : decode cX9_callee 11 = .ok (.aload_n 0, 1) := by decide +kernel
theorem dX9_callee_12 : decode cX9_callee 12 = .ok (.getfield 35, 3) := by decide +kernel
theorem dX9_callee_15 : decode cX9_callee 15 = .ok (.iload_n 3, 1) := by decide +kernel
theorem dX9_callee_16 : decode cX9_callee 16 = .ok (.iaload, 1) := by decide +kernel
theorem dX9_callee_17 : decode cX9_callee 17 = .ok (.aload_n 0, 1) := by decide +kernel
theorem dX9_callee_18 : decode cX9_callee 18 = .ok (.getfield 49, 3) := by decide +kernel
theorem dX9_callee_21 : decode cX9_callee 21 = .ok (.if_icmp .ne 19, 3) := by decide +kernel
theorem dX9_callee_24 : decode cX9_callee 24 = .ok (.aload_n 0, 1) := by decide +kernel
theorem dX9_callee_25 : decode cX9_callee 25 = .ok (.getfield 31, 3) := by decide +kernel
theorem dX9_callee_28 : decode cX9_callee 28 = .ok (.iload_n 1, 1) := by decide +kernel
theorem dX9_callee_29 : decode cX9_callee 29 = .ok (.aaload, 1) := by decide +kernel
theorem dX9_callee_30 : decode cX9_callee 30 = .ok (.getfield 267, 3) := by decide +kernel
theorem dX9_callee_33 : decode cX9_callee 33 = .ok (.ifCond .ne 7, 3) := by decide +kernel
theorem dX9_callee_36 : decode cX9_callee 36 = .ok (.iconst 1, 1) := by decide +kernel
theorem dX9_callee_37 : decode cX9_callee 37 = .ok (.goto 4, 3) := by decide +kernel
theorem dX9_callee_40 : decode cX9_callee 40 = .ok (.iconst 0, 1) := by decide +kernel
theorem dX9_callee_41 : decode cX9_callee 41 = .ok (.istore 4, 2) := by decide +kernel
theorem dX9_callee_43 : decode cX9_callee 43 = .ok (.iload 4, 2) := by decide +kernel
theorem dX9_callee_45 : decode cX9_callee 45 = .ok (.ifCond .ne 24, 3) := by decide +kernel
theorem dX9_callee_48 : decode cX9_callee 48 = .ok (.aload_n 0, 1) := by decide +kernel
theorem dX9_callee_49 : decode cX9_callee 49 = .ok (.aload_n 0, 1) := by decide +kernel
theorem dX9_callee_50 : decode cX9_callee 50 = .ok (.getfield 35, 3) := by decide +kernel
theorem dX9_callee_53 : decode cX9_callee 53 = .ok (.iload_n 3, 1) := by decide +kernel
theorem dX9_callee_54 : decode cX9_callee 54 = .ok (.iaload, 1) := by decide +kernel
theorem dX9_callee_55 : decode cX9_callee 55 = .ok (.iload_n 2, 1) := by decide +kernel
theorem dX9_callee_56 : decode cX9_callee 56 = .ok (.invokevirtual 270, 3) := by decide +kernel
theorem dX9_callee_59 : decode cX9_callee 59 = .ok (.ifCond .eq 10, 3) := by decide +kernel
theorem dX9_callee_62 : decode cX9_callee 62 = .ok (.aload_n 0, 1) := by decide +kernel
theorem dX9_callee_63 : decode cX9_callee 63 = .ok (.getfield 35, 3) := by decide +kernel
theorem dX9_callee_66 : decode cX9_callee 66 = .ok (.iload_n 3, 1) := by decide +kernel
theorem dX9_callee_67 : decode cX9_callee 67 = .ok (.iaload, 1) := by decide +kernel
theorem dX9_callee_68 : decode cX9_callee 68 = .ok (.ireturn, 1) := by decide +kernel
theorem dX9_callee_69 : decode cX9_callee 69 = .ok (.iinc 3 (-1), 3) := by decide +kernel
theorem dX9_callee_72 : decode cX9_callee 72 = .ok (.goto (-65), 3) := by decide +kernel
theorem dX9_callee_75 : decode cX9_callee 75 = .ok (.iconst (-1), 1) := by decide +kernel
theorem dX9_callee_76 : decode cX9_callee 76 = .ok (.ireturn, 1) := by decide +kernel
theorem dX9_topmostWith_0 : decode cX9_topmostWith 0 = .ok (.aload_n 0, 1) := by decide +kernel
theorem dX9_topmostWith_1 : decode cX9_topmostWith 1 = .ok (.getfield 69, 3) := by decide +kernel
theorem dX9_topmostWith_4 : decode cX9_topmostWith 4 = .ok (.iconst 1, 1) := by decide +kernel
theorem dX9_topmostWith_5 : decode cX9_topmostWith 5 = .ok (.isub, 1) := by decide +kernel
theorem dX9_topmostWith_6 : decode cX9_topmostWith 6 = .ok (.istore_n 2, 1) := by decide +kernel
theorem dX9_topmostWith_7 : decode cX9_topmostWith 7 = .ok (.iload_n 2, 1) := by decide +kernel
theorem dX9_topmostWith_8 : decode cX9_topmostWith 8 = .ok (.ifCond .lt 30, 3) := by decide +kernel
theorem dX9_topmostWith_11 : decode cX9_topmostWith 11 = .ok (.aload_n 0, 1) := by decide +kernel
theorem dX9_topmostWith_12 : decode cX9_topmostWith 12 = .ok (.aload_n 0, 1) := by decide +kernel
theorem dX9_topmostWith_13 : decode cX9_topmostWith 13 = .ok (.getfield 35, 3) := by decide +kernel
theorem dX9_topmostWith_16 : decode cX9_topmostWith 16 = .ok (.iload_n 2, 1) := by decide +kernel
theorem dX9_topmostWith_17 : decode cX9_topmostWith 17 = .ok (.iaload, 1) := by decide +kernel
theorem dX9_topmostWith_18 : decode cX9_topmostWith 18 = .ok (.iload_n 1, 1) := by decide +kernel
theorem dX9_topmostWith_19 : decode cX9_topmostWith 19 = .ok (.invokevirtual 270, 3) := by decide +kernel
theorem dX9_topmostWith_22 : decode cX9_topmostWith 22 = .ok (.ifCond .eq 10, 3) := by decide +kernel
theorem dX9_topmostWith_25 : decode cX9_topmostWith 25 = .ok (.aload_n 0, 1) := by decide +kernel
theorem dX9_topmostWith_26 : decode cX9_topmostWith 26 = .ok (.getfield 35, 3) := by decide +kernel
theorem dX9_topmostWith_29 : decode cX9_topmostWith 29 = .ok (.iload_n 2, 1) := by decide +kernel
theorem dX9_topmostWith_30 : decode cX9_topmostWith 30 = .ok (.iaload, 1) := by decide +kernel
theorem dX9_topmostWith_31 : decode cX9_topmostWith 31 = .ok (.ireturn, 1) := by decide +kernel
theorem dX9_topmostWith_32 : decode cX9_topmostWith 32 = .ok (.iinc 2 (-1), 3) := by decide +kernel
theorem dX9_topmostWith_35 : decode cX9_topmostWith 35 = .ok (.goto (-28), 3) := by decide +kernel
theorem dX9_topmostWith_38 : decode cX9_topmostWith 38 = .ok (.iconst (-1), 1) := by decide +kernel
theorem dX9_topmostWith_39 : decode cX9_topmostWith 39 = .ok (.ireturn, 1) := by decide +kernel
theorem dX9_topmost_0 : decode cX9_topmost 0 = .ok (.aload_n 0, 1) := by decide +kernel
theorem dX9_topmost_1 : decode cX9_topmost 1 = .ok (.getfield 69, 3) := by decide +kernel
theorem dX9_topmost_4 : decode cX9_topmost 4 = .ok (.ifCond .le 17, 3) := by decide +kernel
theorem dX9_topmost_7 : decode cX9_topmost 7 = .ok (.aload_n 0, 1) := by decide +kernel
theorem dX9_topmost_8 : decode cX9_topmost 8 = .ok (.getfield 35, 3) := by decide +kernel
theorem dX9_topmost_11 : decode cX9_topmost 11 = .ok (.aload_n 0, 1) := by decide +kernel
theorem dX9_topmost_12 : decode cX9_topmost 12 = .ok (.getfield 69, 3) := by decide +kernel
theorem dX9_topmost_15 : decode cX9_topmost 15 = .ok (.iconst 1, 1) := by decide +kernel
theorem dX9_topmost_16 : decode cX9_topmost 16 = .ok (.isub, 1) := by decide +kernel
theorem dX9_topmost_17 : decode cX9_topmost 17 = .ok (.iaload, 1) := by decide +kernel
theorem dX9_topmost_18 : decode cX9_topmost 18 = .ok (.goto 4, 3) := by decide +kernel
theorem dX9_topmost_21 : decode cX9_topmost 21 = .ok (.iconst (-1), 1) := by decide +kernel
theorem dX9_topmost_22 : decode cX9_topmost 22 = .ok (.ireturn, 1) := by decide +kernel
theorem dX9_heightOf_0 : decode cX9_heightOf 0 = .ok (.iconst 0, 1) := by decide +kernel
theorem dX9_heightOf_1 : decode cX9_heightOf 1 = .ok (.istore_n 2, 1) := by decide +kernel
theorem dX9_heightOf_2 : decode cX9_heightOf 2 = .ok (.iload_n 2, 1) := by decide +kernel
theorem dX9_heightOf_3 : decode cX9_heightOf 3 = .ok (.aload_n 0, 1) := by decide +kernel
theorem dX9_heightOf_4 : decode cX9_heightOf 4 = .ok (.getfield 69, 3) := by decide +kernel
theorem dX9_heightOf_7 : decode cX9_heightOf 7 = .ok (.if_icmp .ge 21, 3) := by decide +kernel
theorem dX9_heightOf_10 : decode cX9_heightOf 10 = .ok (.aload_n 0, 1) := by decide +kernel
theorem dX9_heightOf_11 : decode cX9_heightOf 11 = .ok (.getfield 35, 3) := by decide +kernel
theorem dX9_heightOf_14 : decode cX9_heightOf 14 = .ok (.iload_n 2, 1) := by decide +kernel
theorem dX9_heightOf_15 : decode cX9_heightOf 15 = .ok (.iaload, 1) := by decide +kernel
theorem dX9_heightOf_16 : decode cX9_heightOf 16 = .ok (.iload_n 1, 1) := by decide +kernel
theorem dX9_heightOf_17 : decode cX9_heightOf 17 = .ok (.if_icmp .ne 5, 3) := by decide +kernel
theorem dX9_heightOf_20 : decode cX9_heightOf 20 = .ok (.iload_n 2, 1) := by decide +kernel
theorem dX9_heightOf_21 : decode cX9_heightOf 21 = .ok (.ireturn, 1) := by decide +kernel
theorem dX9_heightOf_22 : decode cX9_heightOf 22 = .ok (.iinc 2 1, 3) := by decide +kernel
theorem dX9_heightOf_25 : decode cX9_heightOf 25 = .ok (.goto (-23), 3) := by decide +kernel
theorem dX9_heightOf_28 : decode cX9_heightOf 28 = .ok (.iconst (-1), 1) := by decide +kernel
theorem dX9_heightOf_29 : decode cX9_heightOf 29 = .ok (.ireturn, 1) := by decide +kernel
theorem dX9_stackUp_0 : decode cX9_stackUp 0 = .ok (.aload_n 0, 1) := by decide +kernel
theorem dX9_stackUp_1 : decode cX9_stackUp 1 = .ok (.getfield 69, 3) := by decide +kernel
theorem dX9_stackUp_4 : decode cX9_stackUp 4 = .ok (.bipush 8, 2) := by decide +kernel
theorem dX9_stackUp_6 : decode cX9_stackUp 6 = .ok (.if_icmp .ge 65, 3) := by decide +kernel
theorem dX9_stackUp_9 : decode cX9_stackUp 9 = .ok (.aload_n 0, 1) := by decide +kernel
theorem dX9_stackUp_10 : decode cX9_stackUp 10 = .ok (.getfield 19, 3) := by decide +kernel
theorem dX9_stackUp_13 : decode cX9_stackUp 13 = .ok (.iload_n 1, 1) := by decide +kernel
theorem dX9_stackUp_14 : decode cX9_stackUp 14 = .ok (.aaload, 1) := by decide +kernel
theorem dX9_stackUp_15 : decode cX9_stackUp 15 = .ok (.ifnull 56, 3) := by decide +kernel
theorem dX9_stackUp_18 : decode cX9_stackUp 18 = .ok (.aload_n 0, 1) := by decide +kernel
theorem dX9_stackUp_19 : decode cX9_stackUp 19 = .ok (.getfield 39, 3) := by decide +kernel
theorem dX9_stackUp_22 : decode cX9_stackUp 22 = .ok (.iload_n 1, 1) := by decide +kernel
theorem dX9_stackUp_23 : decode cX9_stackUp 23 = .ok (.dup2, 1) := by decide +kernel
theorem dX9_stackUp_24 : decode cX9_stackUp 24 = .ok (.iaload, 1) := by decide +kernel
theorem dX9_stackUp_25 : decode cX9_stackUp 25 = .ok (.iconst 1, 1) := by decide +kernel
theorem dX9_stackUp_26 : decode cX9_stackUp 26 = .ok (.iadd, 1) := by decide +kernel
theorem dX9_stackUp_27 : decode cX9_stackUp 27 = .ok (.iastore, 1) := by decide +kernel
theorem dX9_stackUp_28 : decode cX9_stackUp 28 = .ok (.aload_n 0, 1) := by decide +kernel
theorem dX9_stackUp_29 : decode cX9_stackUp 29 = .ok (.aload_n 0, 1) := by decide +kernel
theorem dX9_stackUp_30 : decode cX9_stackUp 30 = .ok (.getfield 19, 3) := by decide +kernel
theorem dX9_stackUp_33 : decode cX9_stackUp 33 = .ok (.iload_n 1, 1) := by decide +kernel
theorem dX9_stackUp_34 : decode cX9_stackUp 34 = .ok (.aaload, 1) := by decide +kernel
theorem dX9_stackUp_35 : decode cX9_stackUp 35 = .ok (.getfield 273, 3) := by decide +kernel
theorem dX9_stackUp_38 : decode cX9_stackUp 38 = .ok (.invokevirtual 277, 3) := by decide +kernel
theorem dX9_stackUp_41 : decode cX9_stackUp 41 = .ok (.aload_n 0, 1) := by decide +kernel
theorem dX9_stackUp_42 : decode cX9_stackUp 42 = .ok (.getfield 35, 3) := by decide +kernel
theorem dX9_stackUp_45 : decode cX9_stackUp 45 = .ok (.aload_n 0, 1) := by decide +kernel
theorem dX9_stackUp_46 : decode cX9_stackUp 46 = .ok (.getfield 69, 3) := by decide +kernel
theorem dX9_stackUp_49 : decode cX9_stackUp 49 = .ok (.iload_n 1, 1) := by decide +kernel
theorem dX9_stackUp_50 : decode cX9_stackUp 50 = .ok (.iastore, 1) := by decide +kernel
theorem dX9_stackUp_51 : decode cX9_stackUp 51 = .ok (.aload_n 0, 1) := by decide +kernel
theorem dX9_stackUp_52 : decode cX9_stackUp 52 = .ok (.dup, 1) := by decide +kernel
theorem dX9_stackUp_53 : decode cX9_stackUp 53 = .ok (.getfield 69, 3) := by decide +kernel
theorem dX9_stackUp_56 : decode cX9_stackUp 56 = .ok (.iconst 1, 1) := by decide +kernel
theorem dX9_stackUp_57 : decode cX9_stackUp 57 = .ok (.iadd, 1) := by decide +kernel
theorem dX9_stackUp_58 : decode cX9_stackUp 58 = .ok (.putfield 69, 3) := by decide +kernel
theorem dX9_stackUp_61 : decode cX9_stackUp 61 = .ok (.aload_n 0, 1) := by decide +kernel
theorem dX9_stackUp_62 : decode cX9_stackUp 62 = .ok (.iload_n 1, 1) := by decide +kernel
theorem dX9_stackUp_63 : decode cX9_stackUp 63 = .ok (.iconst 1, 1) := by decide +kernel
theorem dX9_stackUp_64 : decode cX9_stackUp 64 = .ok (.invokevirtual 281, 3) := by decide +kernel
theorem dX9_stackUp_67 : decode cX9_stackUp 67 = .ok (.aload_n 0, 1) := by decide +kernel
theorem dX9_stackUp_68 : decode cX9_stackUp 68 = .ok (.invokevirtual 195, 3) := by decide +kernel
theorem dX9_stackUp_71 : decode cX9_stackUp 71 = .ok (.aload_n 0, 1) := by decide +kernel
theorem dX9_stackUp_72 : decode cX9_stackUp 72 = .ok (.invokevirtual 285, 3) := by decide +kernel
theorem dX9_stackUp_75 : decode cX9_stackUp 75 = .ok (.ireturn, 1) := by decide +kernel
theorem dX9_turnOff_0 : decode cX9_turnOff 0 = .ok (.aload_n 0, 1) := by decide +kernel
theorem dX9_turnOff_1 : decode cX9_turnOff 1 = .ok (.aload_n 0, 1) := by decide +kernel
theorem dX9_turnOff_2 : decode cX9_turnOff 2 = .ok (.invokevirtual 288, 3) := by decide +kernel
theorem dX9_turnOff_5 : decode cX9_turnOff 5 = .ok (.iconst 0, 1) := by decide +kernel
theorem dX9_turnOff_6 : decode cX9_turnOff 6 = .ok (.invokevirtual 281, 3) := by decide +kernel
theorem dX9_turnOff_9 : decode cX9_turnOff 9 = .ok (.aload_n 0, 1) := by decide +kernel
theorem dX9_turnOff_10 : decode cX9_turnOff 10 = .ok (.invokevirtual 195, 3) := by decide +kernel
theorem dX9_turnOff_13 : decode cX9_turnOff 13 = .ok (.aload_n 0, 1) := by decide +kernel
theorem dX9_turnOff_14 : decode cX9_turnOff 14 = .ok (.invokevirtual 285, 3) := by decide +kernel
theorem dX9_turnOff_17 : decode cX9_turnOff 17 = .ok (.ireturn, 1) := by decide +kernel
theorem dX9_beginTurning_0 : decode cX9_beginTurning 0 = .ok (.aload_n 0, 1) := by decide +kernel
theorem dX9_beginTurning_1 : decode cX9_beginTurning 1 = .ok (.iload_n 1, 1) := by decide +kernel
theorem dX9_beginTurning_2 : decode cX9_beginTurning 2 = .ok (.putfield 49, 3) := by decide +kernel
theorem dX9_beginTurning_5 : decode cX9_beginTurning 5 = .ok (.aload_n 0, 1) := by decide +kernel
theorem dX9_beginTurning_6 : decode cX9_beginTurning 6 = .ok (.iload_n 2, 1) := by decide +kernel
theorem dX9_beginTurning_7 : decode cX9_beginTurning 7 = .ok (.putfield 72, 3) := by decide +kernel
theorem dX9_beginTurning_10 : decode cX9_beginTurning 10 = .ok (.iconst 0, 1) := by decide +kernel
theorem dX9_beginTurning_11 : decode cX9_beginTurning 11 = .ok (.istore_n 3, 1) := by decide +kernel
theorem dX9_beginTurning_12 : decode cX9_beginTurning 12 = .ok (.iload_n 3, 1) := by decide +kernel
theorem dX9_beginTurning_13 : decode cX9_beginTurning 13 = .ok (.bipush 6, 2) := by decide +kernel
theorem dX9_beginTurning_15 : decode cX9_beginTurning 15 = .ok (.if_icmp .ge 27, 3) := by decide +kernel
theorem dX9_beginTurning_18 : decode cX9_beginTurning 18 = .ok (.aload_n 0, 1) := by decide +kernel
theorem dX9_beginTurning_19 : decode cX9_beginTurning 19 = .ok (.getfield 31, 3) := by decide +kernel
theorem dX9_beginTurning_22 : decode cX9_beginTurning 22 = .ok (.iload_n 3, 1) := by decide +kernel
theorem dX9_beginTurning_23 : decode cX9_beginTurning 23 = .ok (.aaload, 1) := by decide +kernel
theorem dX9_beginTurning_24 : decode cX9_beginTurning 24 = .ok (.iload_n 2, 1) := by decide +kernel
theorem dX9_beginTurning_25 : decode cX9_beginTurning 25 = .ok (.ifCond .ne 7, 3) := by decide +kernel
theorem dX9_beginTurning_28 : decode cX9_beginTurning 28 = .ok (.iconst 1, 1) := by decide +kernel
theorem dX9_beginTurning_29 : decode cX9_beginTurning 29 = .ok (.goto 4, 3) := by decide +kernel
theorem dX9_beginTurning_32 : decode cX9_beginTurning 32 = .ok (.iconst 0, 1) := by decide +kernel
theorem dX9_beginTurning_33 : decode cX9_beginTurning 33 = .ok (.putfield 267, 3) := by decide +kernel
theorem dX9_beginTurning_36 : decode cX9_beginTurning 36 = .ok (.iinc 3 1, 3) := by decide +kernel
theorem dX9_beginTurning_39 : decode cX9_beginTurning 39 = .ok (.goto (-27), 3) := by decide +kernel
theorem dX9_beginTurning_42 : decode cX9_beginTurning 42 = .ok (.return_, 1) := by decide +kernel
theorem dX9_turnBack_0 : decode cX9_turnBack 0 = .ok (.aload_n 0, 1) := by decide +kernel
theorem dX9_turnBack_1 : decode cX9_turnBack 1 = .ok (.aload_n 0, 1) := by decide +kernel
theorem dX9_turnBack_2 : decode cX9_turnBack 2 = .ok (.getfield 72, 3) := by decide +kernel
theorem dX9_turnBack_5 : decode cX9_turnBack 5 = .ok (.ifCond .ne 7, 3) := by decide +kernel
theorem dX9_turnBack_8 : decode cX9_turnBack 8 = .ok (.iconst 1, 1) := by decide +kernel
theorem dX9_turnBack_9 : decode cX9_turnBack 9 = .ok (.goto 4, 3) := by decide +kernel
theorem dX9_turnBack_12 : decode cX9_turnBack 12 = .ok (.iconst 0, 1) := by decide +kernel
theorem dX9_turnBack_13 : decode cX9_turnBack 13 = .ok (.putfield 72, 3) := by decide +kernel
theorem dX9_turnBack_16 : decode cX9_turnBack 16 = .ok (.aload_n 0, 1) := by decide +kernel
theorem dX9_turnBack_17 : decode cX9_turnBack 17 = .ok (.invokevirtual 195, 3) := by decide +kernel
theorem dX9_turnBack_20 : decode cX9_turnBack 20 = .ok (.aload_n 0, 1) := by decide +kernel
theorem dX9_turnBack_21 : decode cX9_turnBack 21 = .ok (.invokevirtual 285, 3) := by decide +kernel
theorem dX9_turnBack_24 : decode cX9_turnBack 24 = .ok (.ireturn, 1) := by decide +kernel
theorem dX9_forceAll_0 : decode cX9_forceAll 0 = .ok (.iconst 0, 1) := by decide +kernel
theorem dX9_forceAll_1 : decode cX9_forceAll 1 = .ok (.istore_n 1, 1) := by decide +kernel
theorem dX9_forceAll_2 : decode cX9_forceAll 2 = .ok (.iconst 0, 1) := by decide +kernel
theorem dX9_forceAll_3 : decode cX9_forceAll 3 = .ok (.istore_n 2, 1) := by decide +kernel
theorem dX9_forceAll_4 : decode cX9_forceAll 4 = .ok (.iload_n 2, 1) := by decide +kernel
theorem dX9_forceAll_5 : decode cX9_forceAll 5 = .ok (.bipush 6, 2) := by decide +kernel
theorem dX9_forceAll_7 : decode cX9_forceAll 7 = .ok (.if_icmp .ge 51, 3) := by decide +kernel
theorem dX9_forceAll_10 : decode cX9_forceAll 10 = .ok (.aload_n 0, 1) := by decide +kernel
theorem dX9_forceAll_11 : decode cX9_forceAll 11 = .ok (.iload_n 2, 1) := by decide +kernel
theorem dX9_forceAll_12 : decode cX9_forceAll 12 = .ok (.invokevirtual 291, 3) := by decide +kernel
theorem dX9_forceAll_15 : decode cX9_forceAll 15 = .ok (.ifCond .ne 37, 3) := by decide +kernel
theorem dX9_forceAll_18 : decode cX9_forceAll 18 = .ok (.iload_n 1, 1) := by decide +kernel
theorem dX9_forceAll_19 : decode cX9_forceAll 19 = .ok (.iconst 1, 1) := by decide +kernel
theorem dX9_forceAll_20 : decode cX9_forceAll 20 = .ok (.iload_n 2, 1) := by decide +kernel
theorem dX9_forceAll_21 : decode cX9_forceAll 21 = .ok (.ishl, 1) := by decide +kernel
theorem dX9_forceAll_22 : decode cX9_forceAll 22 = .ok (.ior, 1) := by decide +kernel
theorem dX9_forceAll_23 : decode cX9_forceAll 23 = .ok (.istore_n 1, 1) := by decide +kernel
theorem dX9_forceAll_24 : decode cX9_forceAll 24 = .ok (.aload_n 0, 1) := by decide +kernel
theorem dX9_forceAll_25 : decode cX9_forceAll 25 = .ok (.getfield 31, 3) := by decide +kernel
theorem dX9_forceAll_28 : decode cX9_forceAll 28 = .ok (.iload_n 2, 1) := by decide +kernel
theorem dX9_forceAll_29 : decode cX9_forceAll 29 = .ok (.aaload, 1) := by decide +kernel
theorem dX9_forceAll_30 : decode cX9_forceAll 30 = .ok (.aload_n 0, 1) := by decide +kernel
theorem dX9_forceAll_31 : decode cX9_forceAll 31 = .ok (.getfield 72, 3) := by decide +kernel
