theorem dX11_readsText_0 : decode cX11_readsText 0 = .ok (.aload_n 0, 1) := by decide +kernel
theorem dX11_readsText_1 : decode cX11_readsText 1 = .ok (.invokevirtual 143, 3) := by decide +kernel
theorem dX11_readsText_4 : decode cX11_readsText 4 = .ok (.lstore_n 2, 1) := by decide +kernel
theorem dX11_readsText_5 : decode cX11_readsText 5 = .ok (.lload_n 2, 1) := by decide +kernel
theorem dX11_readsText_6 : decode cX11_readsText 6 = .ok (.ldc2_w 132, 3) := by decide +kernel
theorem dX11_readsText_9 : decode cX11_readsText 9 = .ok (.lcmp, 1) := by decide +kernel
theorem dX11_readsText_10 : decode cX11_readsText 10 = .ok (.ifCond .ne 12, 3) := by decide +kernel
theorem dX11_readsText_13 : decode cX11_readsText 13 = .ok (.aload_n 0, 1) := by decide +kernel
theorem dX11_readsText_14 : decode cX11_readsText 14 = .ok (.iconst 1, 1) := by decide +kernel
theorem dX11_readsText_15 : decode cX11_readsText 15 = .ok (.aload_n 0, 1) := by decide +kernel
theorem dX11_readsText_16 : decode cX11_readsText 16 = .ok (.getfield 87, 3) := by decide +kernel
theorem dX11_readsText_19 : decode cX11_readsText 19 = .ok (.invokevirtual 112, 3) := by decide +kernel
theorem dX11_readsText_22 : decode cX11_readsText 22 = .ok (.aload_n 0, 1) := by decide +kernel
theorem dX11_readsText_23 : decode cX11_readsText 23 = .ok (.invokevirtual 100, 3) := by decide +kernel
theorem dX11_readsText_26 : decode cX11_readsText 26 = .ok (.ifCond .ne 4, 3) := by decide +kernel
theorem dX11_readsText_29 : decode cX11_readsText 29 = .ok (.return_, 1) := by decide +kernel
theorem dX11_readsText_30 : decode cX11_readsText 30 = .ok (.aload_n 1, 1) := by decide +kernel
theorem dX11_readsText_31 : decode cX11_readsText 31 = .ok (.iconst 1, 1) := by decide +kernel
theorem dX11_readsText_32 : decode cX11_readsText 32 = .ok (.lload_n 2, 1) := by decide +kernel
theorem dX11_readsText_33 : decode cX11_readsText 33 = .ok (.ldc2_w 214, 3) := by decide +kernel
theorem dX11_readsText_36 : decode cX11_readsText 36 = .ok (.ldiv, 1) := by decide +kernel
theorem dX11_readsText_37 : decode cX11_readsText 37 = .ok (.l2i, 1) := by decide +kernel
theorem dX11_readsText_38 : decode cX11_readsText 38 = .ok (.iastore, 1) := by decide +kernel
theorem dX11_readsText_39 : decode cX11_readsText 39 = .ok (.aload_n 1, 1) := by decide +kernel
theorem dX11_readsText_40 : decode cX11_readsText 40 = .ok (.iconst 2, 1) := by decide +kernel
theorem dX11_readsText_41 : decode cX11_readsText 41 = .ok (.lload_n 2, 1) := by decide +kernel
theorem dX11_readsText_42 : decode cX11_readsText 42 = .ok (.ldc2_w 214, 3) := by decide +kernel
theorem dX11_readsText_45 : decode cX11_readsText 45 = .ok (.lrem, 1) := by decide +kernel
theorem dX11_readsText_46 : decode cX11_readsText 46 = .ok (.l2i, 1) := by decide +kernel
theorem dX11_readsText_47 : decode cX11_readsText 47 = .ok (.iastore, 1) := by decide +kernel
theorem dX11_readsText_48 : decode cX11_readsText 48 = .ok (.aload_n 0, 1) := by decide +kernel
theorem dX11_readsText_49 : decode cX11_readsText 49 = .ok (.invokevirtual 151, 3) := by decide +kernel
theorem dX11_readsText_52 : decode cX11_readsText 52 = .ok (.return_, 1) := by decide +kernel
theorem dX11_readsCode_0 : decode cX11_readsCode 0 = .ok (.aload_n 0, 1) := by decide +kernel
theorem dX11_readsCode_1 : decode cX11_readsCode 1 = .ok (.getfield 20, 3) := by decide +kernel
theorem dX11_readsCode_4 : decode cX11_readsCode 4 = .ok (.iload_n 1, 1) := by decide +kernel
theorem dX11_readsCode_5 : decode cX11_readsCode 5 = .ok (.iconst 0, 1) := by decide +kernel
theorem dX11_readsCode_6 : decode cX11_readsCode 6 = .ok (.iastore, 1) := by decide +kernel
theorem dX11_readsCode_7 : decode cX11_readsCode 7 = .ok (.aload_n 0, 1) := by decide +kernel
theorem dX11_readsCode_8 : decode cX11_readsCode 8 = .ok (.invokevirtual 100, 3) := by decide +kernel
theorem dX11_readsCode_11 : decode cX11_readsCode 11 = .ok (.ifCond .eq 110, 3) := by decide +kernel
theorem dX11_readsCode_14 : decode cX11_readsCode 14 = .ok (.aload_n 0, 1) := by decide +kernel
theorem dX11_readsCode_15 : decode cX11_readsCode 15 = .ok (.invokevirtual 104, 3) := by decide +kernel
theorem dX11_readsCode_18 : decode cX11_readsCode 18 = .ok (.iload_n 2, 1) := by decide +kernel
theorem dX11_readsCode_19 : decode cX11_readsCode 19 = .ok (.if_icmp .eq 102, 3) := by decide +kernel
theorem dX11_readsCode_22 : decode cX11_readsCode 22 = .ok (.aload_n 0, 1) := by decide +kernel
theorem dX11_readsCode_23 : decode cX11_readsCode 23 = .ok (.invokevirtual 104, 3) := by decide +kernel
theorem dX11_readsCode_26 : decode cX11_readsCode 26 = .ok (.invokestatic 125, 3) := by decide +kernel
theorem dX11_readsCode_29 : decode cX11_readsCode 29 = .ok (.istore_n 3, 1) := by decide +kernel
theorem dX11_readsCode_30 : decode cX11_readsCode 30 = .ok (.iload_n 3, 1) := by decide +kernel
theorem dX11_readsCode_31 : decode cX11_readsCode 31 = .ok (.ifCond .eq 14, 3) := by decide +kernel
theorem dX11_readsCode_34 : decode cX11_readsCode 34 = .ok (.aload_n 0, 1) := by decide +kernel
theorem dX11_readsCode_35 : decode cX11_readsCode 35 = .ok (.invokevirtual 143, 3) := by decide +kernel
theorem dX11_readsCode_38 : decode cX11_readsCode 38 = .ok (.invokestatic 197, 3) := by decide +kernel
theorem dX11_readsCode_41 : decode cX11_readsCode 41 = .ok (.iconst (-1), 1) := by decide +kernel
theorem dX11_readsCode_42 : decode cX11_readsCode 42 = .ok (.if_icmp .ne 15, 3) := by decide +kernel
theorem dX11_readsCode_45 : decode cX11_readsCode 45 = .ok (.aload_n 0, 1) := by decide +kernel
theorem dX11_readsCode_46 : decode cX11_readsCode 46 = .ok (.iconst 1, 1) := by decide +kernel
theorem dX11_readsCode_47 : decode cX11_readsCode 47 = .ok (.aload_n 0, 1) := by decide +kernel
theorem dX11_readsCode_48 : decode cX11_readsCode 48 = .ok (.getfield 87, 3) := by decide +kernel
theorem dX11_readsCode_51 : decode cX11_readsCode 51 = .ok (.invokevirtual 112, 3) := by decide +kernel
theorem dX11_readsCode_54 : decode cX11_readsCode 54 = .ok (.goto 23, 3) := by decide +kernel
theorem dX11_readsCode_57 : decode cX11_readsCode 57 = .ok (.aload_n 0, 1) := by decide +kernel
theorem dX11_readsCode_58 : decode cX11_readsCode 58 = .ok (.getfield 20, 3) := by decide +kernel
theorem dX11_readsCode_61 : decode cX11_readsCode 61 = .ok (.iload_n 1, 1) := by decide +kernel
theorem dX11_readsCode_62 : decode cX11_readsCode 62 = .ok (.iaload, 1) := by decide +kernel
theorem dX11_readsCode_63 : decode cX11_readsCode 63 = .ok (.bipush 24, 2) := by decide +kernel
theorem dX11_readsCode_65 : decode cX11_readsCode 65 = .ok (.if_icmp .ne 12, 3) := by decide +kernel
theorem dX11_readsCode_68 : decode cX11_readsCode 68 = .ok (.aload_n 0, 1) := by decide +kernel
theorem dX11_readsCode_69 : decode cX11_readsCode 69 = .ok (.iconst 3, 1) := by decide +kernel
theorem dX11_readsCode_70 : decode cX11_readsCode 70 = .ok (.aload_n 0, 1) := by decide +kernel
theorem dX11_readsCode_71 : decode cX11_readsCode 71 = .ok (.getfield 87, 3) := by decide +kernel
theorem dX11_readsCode_74 : decode cX11_readsCode 74 = .ok (.invokevirtual 112, 3) := by decide +kernel
theorem dX11_readsCode_77 : decode cX11_readsCode 77 = .ok (.aload_n 0, 1) := by decide +kernel
theorem dX11_readsCode_78 : decode cX11_readsCode 78 = .ok (.invokevirtual 100, 3) := by decide +kernel
theorem dX11_readsCode_81 : decode cX11_readsCode 81 = .ok (.ifCond .ne 4, 3) := by decide +kernel
theorem dX11_readsCode_84 : decode cX11_readsCode 84 = .ok (.return_, 1) := by decide +kernel
theorem dX11_readsCode_85 : decode cX11_readsCode 85 = .ok (.aload_n 0, 1) := by decide +kernel
theorem dX11_readsCode_86 : decode cX11_readsCode 86 = .ok (.aload_n 0, 1) := by decide +kernel
theorem dX11_readsCode_87 : decode cX11_readsCode 87 = .ok (.getfield 25, 3) := by decide +kernel
theorem dX11_readsCode_90 : decode cX11_readsCode 90 = .ok (.iload_n 1, 1) := by decide +kernel
theorem dX11_readsCode_91 : decode cX11_readsCode 91 = .ok (.aaload, 1) := by decide +kernel
theorem dX11_readsCode_92 : decode cX11_readsCode 92 = .ok (.aload_n 0, 1) := by decide +kernel
theorem dX11_readsCode_93 : decode cX11_readsCode 93 = .ok (.getfield 20, 3) := by decide +kernel
theorem dX11_readsCode_96 : decode cX11_readsCode 96 = .ok (.iload_n 1, 1) := by decide +kernel
theorem dX11_readsCode_97 : decode cX11_readsCode 97 = .ok (.iaload, 1) := by decide +kernel
theorem dX11_readsCode_98 : decode cX11_readsCode 98 = .ok (.aaload, 1) := by decide +kernel
theorem dX11_readsCode_99 : decode cX11_readsCode 99 = .ok (.invokevirtual 216, 3) := by decide +kernel
theorem dX11_readsCode_102 : decode cX11_readsCode 102 = .ok (.aload_n 0, 1) := by decide +kernel
theorem dX11_readsCode_103 : decode cX11_readsCode 103 = .ok (.bipush 59, 2) := by decide +kernel
theorem dX11_readsCode_105 : decode cX11_readsCode 105 = .ok (.invokevirtual 219, 3) := by decide +kernel
theorem dX11_readsCode_108 : decode cX11_readsCode 108 = .ok (.aload_n 0, 1) := by decide +kernel
theorem dX11_readsCode_109 : decode cX11_readsCode 109 = .ok (.getfield 20, 3) := by decide +kernel
theorem dX11_readsCode_112 : decode cX11_readsCode 112 = .ok (.iload_n 1, 1) := by decide +kernel
theorem dX11_readsCode_113 : decode cX11_readsCode 113 = .ok (.dup2, 1) := by decide +kernel
theorem dX11_readsCode_114 : decode cX11_readsCode 114 = .ok (.iaload, 1) := by decide +kernel
theorem dX11_readsCode_115 : decode cX11_readsCode 115 = .ok (.iconst 1, 1) := by decide +kernel
theorem dX11_readsCode_116 : decode cX11_readsCode 116 = .ok (.iadd, 1) := by decide +kernel
theorem dX11_readsCode_117 : decode cX11_readsCode 117 = .ok (.iastore, 1) := by decide +kernel
theorem dX11_readsCode_118 : decode cX11_readsCode 118 = .ok (.goto (-111), 3) := by decide +kernel
theorem dX11_readsCode_121 : decode cX11_readsCode 121 = .ok (.return_, 1) := by decide +kernel
theorem dX11_copiesCode_0 : decode cX11_copiesCode 0 = .ok (.aload_n 0, 1) := by decide +kernel
theorem dX11_copiesCode_1 : decode cX11_copiesCode 1 = .ok (.getfield 20, 3) := by decide +kernel
theorem dX11_copiesCode_4 : decode cX11_copiesCode 4 = .ok (.iload_n 2, 1) := by decide +kernel
theorem dX11_copiesCode_5 : decode cX11_copiesCode 5 = .ok (.aload_n 0, 1) := by decide +kernel
theorem dX11_copiesCode_6 : decode cX11_copiesCode 6 = .ok (.getfield 20, 3) := by decide +kernel
theorem dX11_copiesCode_9 : decode cX11_copiesCode 9 = .ok (.iload_n 1, 1) := by decide +kernel
theorem dX11_copiesCode_10 : decode cX11_copiesCode 10 = .ok (.iaload, 1) := by decide +kernel
theorem dX11_copiesCode_11 : decode cX11_copiesCode 11 = .ok (.iastore, 1) := by decide +kernel
theorem dX11_copiesCode_12 : decode cX11_copiesCode 12 = .ok (.iconst 0, 1) := by decide +kernel
theorem dX11_copiesCode_13 : decode cX11_copiesCode 13 = .ok (.istore_n 3, 1) := by decide +kernel
theorem dX11_copiesCode_14 : decode cX11_copiesCode 14 = .ok (.iload_n 3, 1) := by decide +kernel
theorem dX11_copiesCode_15 : decode cX11_copiesCode 15 = .ok (.aload_n 0, 1) := by decide +kernel
theorem dX11_copiesCode_16 : decode cX11_copiesCode 16 = .ok (.getfield 20, 3) := by decide +kernel
theorem dX11_copiesCode_19 : decode cX11_copiesCode 19 = .ok (.iload_n 1, 1) := by decide +kernel
theorem dX11_copiesCode_20 : decode cX11_copiesCode 20 = .ok (.iaload, 1) := by decide +kernel
theorem dX11_copiesCode_21 : decode cX11_copiesCode 21 = .ok (.if_icmp .ge 47, 3) := by decide +kernel
theorem dX11_copiesCode_24 : decode cX11_copiesCode 24 = .ok (.iconst 0, 1) := by decide +kernel
theorem dX11_copiesCode_25 : decode cX11_copiesCode 25 = .ok (.istore 4, 2) := by decide +kernel
theorem dX11_copiesCode_27 : decode cX11_copiesCode 27 = .ok (.iload 4, 2) := by decide +kernel
theorem dX11_copiesCode_29 : decode cX11_copiesCode 29 = .ok (.bipush 6, 2) := by decide +kernel
theorem dX11_copiesCode_31 : decode cX11_copiesCode 31 = .ok (.if_icmp .ge 31, 3) := by decide +kernel
theorem dX11_copiesCode_34 : decode cX11_copiesCode 34 = .ok (.aload_n 0, 1) := by decide +kernel
theorem dX11_copiesCode_35 : decode cX11_copiesCode 35 = .ok (.getfield 25, 3) := by decide +kernel
theorem dX11_copiesCode_38 : decode cX11_copiesCode 38 = .ok (.iload_n 2, 1) := by decide +kernel
theorem dX11_copiesCode_39 : decode cX11_copiesCode 39 = .ok (.aaload, 1) := by decide +kernel
theorem dX11_copiesCode_40 : decode cX11_copiesCode 40 = .ok (.iload_n 3, 1) := by decide +kernel
theorem dX11_copiesCode_41 : decode cX11_copiesCode 41 = .ok (.aaload, 1) := by decide +kernel
theorem dX11_copiesCode_42 : decode cX11_copiesCode 42 = .ok (.iload 4, 2) := by decide +kernel
theorem dX11_copiesCode_44 : decode cX11_copiesCode 44 = .ok (.aload_n 0, 1) := by decide +kernel
theorem dX11_copiesCode_45 : decode cX11_copiesCode 45 = .ok (.getfield 25, 3) := by decide +kernel
theorem dX11_copiesCode_48 : decode cX11_copiesCode 48 = .ok (.iload_n 1, 1) := by decide +kernel
theorem dX11_copiesCode_49 : decode cX11_copiesCode 49 = .ok (.aaload, 1) := by decide +kernel
theorem dX11_copiesCode_50 : decode cX11_copiesCode 50 = .ok (.iload_n 3, 1) := by decide +kernel
theorem dX11_copiesCode_51 : decode cX11_copiesCode 51 = .ok (.aaload, 1) := by decide +kernel
theorem dX11_copiesCode_52 : decode cX11_copiesCode 52 = .ok (.iload 4, 2) := by decide +kernel
theorem dX11_copiesCode_54 : decode cX11_copiesCode 54 = .ok (.iaload, 1) := by decide +kernel
theorem dX11_copiesCode_55 : decode cX11_copiesCode 55 = .ok (.iastore, 1) := by decide +kernel
theorem dX11_copiesCode_56 : decode cX11_copiesCode 56 = .ok (.iinc 4 1, 3) := by decide +kernel
theorem dX11_copiesCode_59 : decode cX11_copiesCode 59 = .ok (.goto (-32), 3) := by decide +kernel
theorem dX11_copiesCode_62 : decode cX11_copiesCode 62 = .ok (.iinc 3 1, 3) := by decide +kernel
theorem dX11_copiesCode_65 : decode cX11_copiesCode 65 = .ok (.goto (-51), 3) := by decide +kernel
theorem dX11_copiesCode_68 : decode cX11_copiesCode 68 = .ok (.return_, 1) := by decide +kernel
theorem dX11_isFunction_0 : decode cX11_isFunction 0 = .ok (.iload_n 1, 1) := by decide +kernel
theorem dX11_isFunction_1 : decode cX11_isFunction 1 = .ok (.iconst 0, 1) := by decide +kernel
theorem dX11_isFunction_2 : decode cX11_isFunction 2 = .ok (.bipush 11, 2) := by decide +kernel
theorem dX11_isFunction_4 : decode cX11_isFunction 4 = .ok (.invokestatic 121, 3) := by decide +kernel
theorem dX11_isFunction_7 : decode cX11_isFunction 7 = .ok (.ireturn, 1) := by decide +kernel
theorem dX11_isIdle_0 : decode cX11_isIdle 0 = .ok (.aload_n 0, 1) := by decide +kernel
theorem dX11_isIdle_1 : decode cX11_isIdle 1 = .ok (.getfield 56, 3) := by decide +kernel
theorem dX11_isIdle_4 : decode cX11_isIdle 4 = .ok (.iload_n 1, 1) := by decide +kernel
theorem dX11_isIdle_5 : decode cX11_isIdle 5 = .ok (.aaload, 1) := by decide +kernel
theorem dX11_isIdle_6 : decode cX11_isIdle 6 = .ok (.iconst 0, 1) := by decide +kernel
theorem dX11_isIdle_7 : decode cX11_isIdle 7 = .ok (.iaload, 1) := by decide +kernel
theorem dX11_isIdle_8 : decode cX11_isIdle 8 = .ok (.ifCond .ne 7, 3) := by decide +kernel
theorem dX11_isIdle_11 : decode cX11_isIdle 11 = .ok (.iconst 1, 1) := by decide +kernel
theorem dX11_isIdle_12 : decode cX11_isIdle 12 = .ok (.goto 4, 3) := by decide +kernel
theorem dX11_isIdle_15 : decode cX11_isIdle 15 = .ok (.iconst 0, 1) := by decide +kernel
theorem dX11_isIdle_16 : decode cX11_isIdle 16 = .ok (.ireturn, 1) := by decide +kernel
theorem dX11_areIdle_0 : decode cX11_areIdle 0 = .ok (.iconst 0, 1) := by decide +kernel
theorem dX11_areIdle_1 : decode cX11_areIdle 1 = .ok (.istore_n 1, 1) := by decide +kernel
theorem dX11_areIdle_2 : decode cX11_areIdle 2 = .ok (.iload_n 1, 1) := by decide +kernel
theorem dX11_areIdle_3 : decode cX11_areIdle 3 = .ok (.bipush 6, 2) := by decide +kernel
theorem dX11_areIdle_5 : decode cX11_areIdle 5 = .ok (.if_icmp .ge 19, 3) := by decide +kernel
theorem dX11_areIdle_8 : decode cX11_areIdle 8 = .ok (.aload_n 0, 1) := by decide +kernel
theorem dX11_areIdle_9 : decode cX11_areIdle 9 = .ok (.iload_n 1, 1) := by decide +kernel
theorem dX11_areIdle_10 : decode cX11_areIdle 10 = .ok (.invokevirtual 223, 3) := by decide +kernel
theorem dX11_areIdle_13 : decode cX11_areIdle 13 = .ok (.ifCond .ne 5, 3) := by decide +kernel
theorem dX11_areIdle_16 : decode cX11_areIdle 16 = .ok (.iconst 0, 1) := by decide +kernel
theorem dX11_areIdle_17 : decode cX11_areIdle 17 = .ok (.ireturn, 1) := by decide +kernel
theorem dX11_areIdle_18 : decode cX11_areIdle 18 = .ok (.iinc 1 1, 3) := by decide +kernel
theorem dX11_areIdle_21 : decode cX11_areIdle 21 = .ok (.goto (-19), 3) := by decide +kernel
theorem dX11_areIdle_24 : decode cX11_areIdle 24 = .ok (.iconst 1, 1) := by decide +kernel
theorem dX11_areIdle_25 : decode cX11_areIdle 25 = .ok (.ireturn, 1) := by decide +kernel
theorem dX11_function_0 : decode cX11_function 0 = .ok (.aload_n 0, 1) := by decide +kernel
theorem dX11_function_1 : decode cX11_function 1 = .ok (.iconst 0, 1) := by decide +kernel
theorem dX11_function_2 : decode cX11_function 2 = .ok (.putfield 78, 3) := by decide +kernel
theorem dX11_function_5 : decode cX11_function 5 = .ok (.aload_n 0, 1) := by decide +kernel
theorem dX11_function_6 : decode cX11_function 6 = .ok (.aload_n 0, 1) := by decide +kernel
theorem dX11_function_7 : decode cX11_function 7 = .ok (.iload_n 1, 1) := by decide +kernel
theorem dX11_function_8 : decode cX11_function 8 = .ok (.invokevirtual 226, 3) := by decide +kernel
theorem dX11_function_11 : decode cX11_function 11 = .ok (.ifCond .ne 7, 3) := by decide +kernel
theorem dX11_function_14 : decode cX11_function 14 = .ok (.iconst 1, 1) := by decide +kernel
theorem dX11_function_15 : decode cX11_function 15 = .ok (.goto 4, 3) := by decide +kernel
theorem dX11_function_18 : decode cX11_function 18 = .ok (.iconst 0, 1) := by decide +kernel
theorem dX11_function_19 : decode cX11_function 19 = .ok (.iconst 1, 1) := by decide +kernel
theorem dX11_function_20 : decode cX11_function 20 = .ok (.iconst 0, 1) := by decide +kernel
theorem dX11_function_21 : decode cX11_function 21 = .ok (.invokevirtual 229, 3) := by decide +kernel
theorem dX11_function_24 : decode cX11_function 24 = .ok (.ifCond .ne 50, 3) := by decide +kernel
theorem dX11_function_27 : decode cX11_function 27 = .ok (.aload_n 0, 1) := by decide +kernel
theorem dX11_function_28 : decode cX11_function 28 = .ok (.iload_n 2, 1) := by decide +kernel
theorem dX11_function_29 : decode cX11_function 29 = .ok (.iconst 0, 1) := by decide +kernel
theorem dX11_function_30 : decode cX11_function 30 = .ok (.aload_n 0, 1) := by decide +kernel
theorem dX11_function_31 : decode cX11_function 31 = .ok (.getfield 81, 3) := by decide +kernel
theorem dX11_function_34 : decode cX11_function 34 = .ok (.invokestatic 121, 3) := by decide +kernel
theorem dX11_function_37 : decode cX11_function 37 = .ok (.ifCond .ne 7, 3) := by decide +kernel
theorem dX11_function_40 : decode cX11_function 40 = .ok (.iconst 1, 1) := by decide +kernel
theorem dX11_function_41 : decode cX11_function 41 = .ok (.goto 4, 3) := by decide +kernel
theorem dX11_function_44 : decode cX11_function 44 = .ok (.iconst 0, 1) := by decide +kernel
theorem dX11_function_45 : decode cX11_function 45 = .ok (.iconst 2, 1) := by decide +kernel
theorem dX11_function_46 : decode cX11_function 46 = .ok (.iconst 1, 1) := by decide +kernel
theorem dX11_function_47 : decode cX11_function 47 = .ok (.invokevirtual 229, 3) := by decide +kernel
theorem dX11_function_50 : decode cX11_function 50 = .ok (.ifCond .ne 24, 3) := by decide +kernel
theorem dX11_function_53 : decode cX11_function 53 = .ok (.aload_n 0, 1) := by decide +kernel
theorem dX11_function_54 : decode cX11_function 54 = .ok (.aload_n 0, 1) := by decide +kernel
theorem dX11_function_55 : decode cX11_function 55 = .ok (.invokevirtual 233, 3) := by decide +kernel
theorem dX11_function_58 : decode cX11_function 58 = .ok (.ifCond .ne 7, 3) := by decide +kernel
theorem dX11_function_61 : decode cX11_function 61 = .ok (.iconst 1, 1) := by decide +kernel
theorem dX11_function_62 : decode cX11_function 62 = .ok (.goto 4, 3) := by decide +kernel
theorem dX11_function_65 : decode cX11_function 65 = .ok (.iconst 0, 1) := by decide +kernel
theorem dX11_function_66 : decode cX11_function 66 = .ok (.iconst 3, 1) := by decide +kernel
theorem dX11_function_67 : decode cX11_function 67 = .ok (.iconst 2, 1) := by decide +kernel
theorem dX11_function_68 : decode cX11_function 68 = .ok (.invokevirtual 229, 3) := by decide +kernel
theorem dX11_function_71 : decode cX11_function 71 = .ok (.ifCond .eq 5, 3) := by decide +kernel
theorem dX11_function_74 : decode cX11_function 74 = .ok (.iconst 0, 1) := by decide +kernel
theorem dX11_function_75 : decode cX11_function 75 = .ok (.ireturn, 1) := by decide +kernel
theorem dX11_function_76 : decode cX11_function 76 = .ok (.aload_n 0, 1) := by decide +kernel
theorem dX11_function_77 : decode cX11_function 77 = .ok (.iload_n 2, 1) := by decide +kernel
theorem dX11_function_78 : decode cX11_function 78 = .ok (.invokevirtual 236, 3) := by decide +kernel
theorem dX11_function_81 : decode cX11_function 81 = .ok (.aload_n 0, 1) := by decide +kernel
theorem dX11_function_82 : decode cX11_function 82 = .ok (.bipush 100, 2) := by decide +kernel
theorem dX11_function_84 : decode cX11_function 84 = .ok (.iconst (-1), 1) := by decide +kernel
theorem dX11_function_85 : decode cX11_function 85 = .ok (.invokevirtual 239, 3) := by decide +kernel
theorem dX11_function_88 : decode cX11_function 88 = .ok (.aload_n 0, 1) := by decide +kernel
theorem dX11_function_89 : decode cX11_function 89 = .ok (.invokevirtual 100, 3) := by decide +kernel
theorem dX11_function_92 : decode cX11_function 92 = .ok (.ifCond .eq 10, 3) := by decide +kernel
theorem dX11_function_95 : decode cX11_function 95 = .ok (.aload_n 0, 1) := by decide +kernel
theorem dX11_function_96 : decode cX11_function 96 = .ok (.bipush 100, 2) := by decide +kernel
theorem dX11_function_98 : decode cX11_function 98 = .ok (.iload_n 1, 1) := by decide +kernel
theorem dX11_function_99 : decode cX11_function 99 = .ok (.invokevirtual 242, 3) := by decide +kernel
theorem dX11_function_102 : decode cX11_function 102 = .ok (.aload_n 0, 1) := by decide +kernel
theorem dX11_function_103 : decode cX11_function 103 = .ok (.aload_n 0, 1) := by decide +kernel
theorem dX11_function_104 : decode cX11_function 104 = .ok (.getfield 20, 3) := by decide +kernel
theorem dX11_function_107 : decode cX11_function 107 = .ok (.iload_n 1, 1) := by decide +kernel
theorem dX11_function_108 : decode cX11_function 108 = .ok (.iaload, 1) := by decide +kernel
theorem dX11_function_109 : decode cX11_function 109 = .ok (.invokevirtual 245, 3) := by decide +kernel
theorem dX11_function_112 : decode cX11_function 112 = .ok (.ireturn, 1) := by decide +kernel
theorem dX11_readsFunc_0 : decode cX11_readsFunc 0 = .ok (.aload_n 0, 1) := by decide +kernel
theorem dX11_readsFunc_1 : decode cX11_readsFunc 1 = .ok (.invokevirtual 104, 3) := by decide +kernel
theorem dX11_readsFunc_4 : decode cX11_readsFunc 4 = .ok (.pop, 1) := by decide +kernel
theorem dX11_readsFunc_5 : decode cX11_readsFunc 5 = .ok (.aload_n 0, 1) := by decide +kernel
theorem dX11_readsFunc_6 : decode cX11_readsFunc 6 = .ok (.iconst 0, 1) := by decide +kernel
theorem dX11_readsFunc_7 : decode cX11_readsFunc 7 = .ok (.bipush 11, 2) := by decide +kernel
theorem dX11_readsFunc_9 : decode cX11_readsFunc 9 = .ok (.invokevirtual 194, 3) := by decide +kernel
theorem dX11_readsFunc_12 : decode cX11_readsFunc 12 = .ok (.istore_n 2, 1) := by decide +kernel
theorem dX11_readsFunc_13 : decode cX11_readsFunc 13 = .ok (.aload_n 0, 1) := by decide +kernel
theorem dX11_readsFunc_14 : decode cX11_readsFunc 14 = .ok (.invokevirtual 100, 3) := by decide +kernel
theorem dX11_readsFunc_17 : decode cX11_readsFunc 17 = .ok (.ifCond .eq 49, 3) := by decide +kernel
theorem dX11_readsFunc_20 : decode cX11_readsFunc 20 = .ok (.aload_n 0, 1) := by decide +kernel
theorem dX11_readsFunc_21 : decode cX11_readsFunc 21 = .ok (.getfield 28, 3) := by decide +kernel
theorem dX11_readsFunc_24 : decode cX11_readsFunc 24 = .ok (.bipush 8, 2) := by decide +kernel
theorem dX11_readsFunc_26 : decode cX11_readsFunc 26 = .ok (.iaload, 1) := by decide +kernel
theorem dX11_readsFunc_27 : decode cX11_readsFunc 27 = .ok (.iload_n 2, 1) := by decide +kernel
theorem dX11_readsFunc_28 : decode cX11_readsFunc 28 = .ok (.invokestatic 248, 3) := by decide +kernel
theorem dX11_readsFunc_31 : decode cX11_readsFunc 31 = .ok (.ifCond .eq 35, 3) := by decide +kernel
theorem dX11_readsFunc_34 : decode cX11_readsFunc 34 = .ok (.aload_n 0, 1) := by decide +kernel
theorem dX11_readsFunc_35 : decode cX11_readsFunc 35 = .ok (.getfield 87, 3) := by decide +kernel
theorem dX11_readsFunc_38 : decode cX11_readsFunc 38 = .ok (.iconst 1, 1) := by decide +kernel
theorem dX11_readsFunc_39 : decode cX11_readsFunc 39 = .ok (.isub, 1) := by decide +kernel
theorem dX11_readsFunc_40 : decode cX11_readsFunc 40 = .ok (.istore_n 3, 1) := by decide +kernel
theorem dX11_readsFunc_41 : decode cX11_readsFunc 41 = .ok (.aload_n 0, 1) := by decide +kernel
theorem dX11_readsFunc_42 : decode cX11_readsFunc 42 = .ok (.iload_n 3, 1) := by decide +kernel
theorem dX11_readsFunc_43 : decode cX11_readsFunc 43 = .ok (.invokevirtual 90, 3) := by decide +kernel
theorem dX11_readsFunc_46 : decode cX11_readsFunc 46 = .ok (.invokestatic 108, 3) := by decide +kernel
theorem dX11_readsFunc_49 : decode cX11_readsFunc 49 = .ok (.ifCond .eq 9, 3) := by decide +kernel
theorem dX11_readsFunc_52 : decode cX11_readsFunc 52 = .ok (.iinc 3 (-1), 3) := by decide +kernel
theorem dX11_readsFunc_55 : decode cX11_readsFunc 55 = .ok (.goto (-14), 3) := by decide +kernel
theorem dX11_readsFunc_58 : decode cX11_readsFunc 58 = .ok (.aload_n 0, 1) := by decide +kernel
theorem dX11_readsFunc_59 : decode cX11_readsFunc 59 = .ok (.iconst 4, 1) := by decide +kernel
theorem dX11_readsFunc_60 : decode cX11_readsFunc 60 = .ok (.iload_n 3, 1) := by decide +kernel
theorem dX11_readsFunc_61 : decode cX11_readsFunc 61 = .ok (.iconst 1, 1) := by decide +kernel
theorem dX11_readsFunc_62 : decode cX11_readsFunc 62 = .ok (.iadd, 1) := by decide +kernel
theorem dX11_readsFunc_63 : decode cX11_readsFunc 63 = .ok (.invokevirtual 112, 3) := by decide +kernel
theorem dX11_readsFunc_66 : decode cX11_readsFunc 66 = .ok (.aload_n 0, 1) := by decide +kernel
theorem dX11_readsFunc_67 : decode cX11_readsFunc 67 = .ok (.invokevirtual 100, 3) := by decide +kernel
theorem dX11_readsFunc_70 : decode cX11_readsFunc 70 = .ok (.ifCond .ne 4, 3) := by decide +kernel
theorem dX11_readsFunc_73 : decode cX11_readsFunc 73 = .ok (.return_, 1) := by decide +kernel
theorem dX11_readsFunc_74 : decode cX11_readsFunc 74 = .ok (.aload_n 0, 1) := by decide +kernel
theorem dX11_readsFunc_75 : decode cX11_readsFunc 75 = .ok (.getfield 28, 3) := by decide +kernel
theorem dX11_readsFunc_78 : decode cX11_readsFunc 78 = .ok (.bipush 8, 2) := by decide +kernel
theorem dX11_readsFunc_80 : decode cX11_readsFunc 80 = .ok (.dup2, 1) := by decide +kernel
theorem dX11_readsFunc_81 : decode cX11_readsFunc 81 = .ok (.iaload, 1) := by decide +kernel
theorem dX11_readsFunc_82 : decode cX11_readsFunc 82 = .ok (.iconst 1, 1) := by decide +kernel
theorem dX11_readsFunc_83 : decode cX11_readsFunc 83 = .ok (.iload_n 2, 1) := by decide +kernel
theorem dX11_readsFunc_84 : decode cX11_readsFunc 84 = .ok (.ishl, 1) := by decide +kernel
theorem dX11_readsFunc_85 : decode cX11_readsFunc 85 = .ok (.ior, 1) := by decide +kernel
theorem dX11_readsFunc_86 : decode cX11_readsFunc 86 = .ok (.iastore, 1) := by decide +kernel
theorem dX11_readsFunc_87 : decode cX11_readsFunc 87 = .ok (.aload_n 0, 1) := by decide +kernel
theorem dX11_readsFunc_88 : decode cX11_readsFunc 88 = .ok (.getfield 39, 3) := by decide +kernel
theorem dX11_readsFunc_91 : decode cX11_readsFunc 91 = .ok (.bipush 8, 2) := by decide +kernel
theorem dX11_readsFunc_93 : decode cX11_readsFunc 93 = .ok (.aaload, 1) := by decide +kernel
theorem dX11_readsFunc_94 : decode cX11_readsFunc 94 = .ok (.iload_n 2, 1) := by decide +kernel
theorem dX11_readsFunc_95 : decode cX11_readsFunc 95 = .ok (.iload_n 1, 1) := by decide +kernel
theorem dX11_readsFunc_96 : decode cX11_readsFunc 96 = .ok (.iastore, 1) := by decide +kernel
theorem dX11_readsFunc_97 : decode cX11_readsFunc 97 = .ok (.aload_n 0, 1) := by decide +kernel
theorem dX11_readsFunc_98 : decode cX11_readsFunc 98 = .ok (.iload_n 1, 1) := by decide +kernel
theorem dX11_readsFunc_99 : decode cX11_readsFunc 99 = .ok (.invokevirtual 252, 3) := by decide +kernel
theorem dX11_readsFunc_102 : decode cX11_readsFunc 102 = .ok (.return_, 1) := by decide +kernel
theorem dX11_block_0 : decode cX11_block 0 = .ok (.aload_n 0, 1) := by decide +kernel
theorem dX11_block_1 : decode cX11_block 1 = .ok (.bipush 123, 2) := by decide +kernel
theorem dX11_block_3 : decode cX11_block 3 = .ok (.invokevirtual 219, 3) := by decide +kernel
theorem dX11_block_6 : decode cX11_block 6 = .ok (.aload_n 0, 1) := by decide +kernel
theorem dX11_block_7 : decode cX11_block 7 = .ok (.invokevirtual 100, 3) := by decide +kernel
theorem dX11_block_10 : decode cX11_block 10 = .ok (.ifCond .ne 4, 3) := by decide +kernel
theorem dX11_block_13 : decode cX11_block 13 = .ok (.return_, 1) := by decide +kernel
theorem dX11_block_14 : decode cX11_block 14 = .ok (.aload_n 0, 1) := by decide +kernel
theorem dX11_block_15 : decode cX11_block 15 = .ok (.bipush 100, 2) := by decide +kernel
theorem dX11_block_17 : decode cX11_block 17 = .ok (.iload_n 1, 1) := by decide +kernel
theorem dX11_block_18 : decode cX11_block 18 = .ok (.iadd, 1) := by decide +kernel
theorem dX11_block_19 : decode cX11_block 19 = .ok (.bipush 125, 2) := by decide +kernel
theorem dX11_block_21 : decode cX11_block 21 = .ok (.invokevirtual 239, 3) := by decide +kernel
theorem dX11_block_24 : decode cX11_block 24 = .ok (.aload_n 0, 1) := by decide +kernel
theorem dX11_block_25 : decode cX11_block 25 = .ok (.bipush 125, 2) := by decide +kernel
theorem dX11_block_27 : decode cX11_block 27 = .ok (.invokevirtual 219, 3) := by decide +kernel
theorem dX11_block_30 : decode cX11_block 30 = .ok (.return_, 1) := by decide +kernel
theorem dX11_readsPatch_0 : decode cX11_readsPatch 0 = .ok (.aload_n 0, 1) := by decide +kernel
theorem dX11_readsPatch_1 : decode cX11_readsPatch 1 = .ok (.getfield 28, 3) := by decide +kernel
theorem dX11_readsPatch_4 : decode cX11_readsPatch 4 = .ok (.bipush 8, 2) := by decide +kernel
theorem dX11_readsPatch_6 : decode cX11_readsPatch 6 = .ok (.iconst 0, 1) := by decide +kernel
theorem dX11_readsPatch_7 : decode cX11_readsPatch 7 = .ok (.iastore, 1) := by decide +kernel
theorem dX11_readsPatch_8 : decode cX11_readsPatch 8 = .ok (.aload_n 0, 1) := by decide +kernel
theorem dX11_readsPatch_9 : decode cX11_readsPatch 9 = .ok (.getfield 31, 3) := by decide +kernel
theorem dX11_readsPatch_12 : decode cX11_readsPatch 12 = .ok (.bipush 8, 2) := by decide +kernel
theorem dX11_readsPatch_14 : decode cX11_readsPatch 14 = .ok (.aload_n 0, 1) := by decide +kernel
theorem dX11_readsPatch_15 : decode cX11_readsPatch 15 = .ok (.ldc 255, 2) := by decide +kernel
theorem dX11_readsPatch_17 : decode cX11_readsPatch 17 = .ok (.invokevirtual 257, 3) := by decide +kernel
theorem dX11_readsPatch_20 : decode cX11_readsPatch 20 = .ok (.ifCond .eq 7, 3) := by decide +kernel
theorem dX11_readsPatch_23 : decode cX11_readsPatch 23 = .ok (.iconst 1, 1) := by decide +kernel
theorem dX11_readsPatch_24 : decode cX11_readsPatch 24 = .ok (.goto 4, 3) := by decide +kernel
theorem dX11_readsPatch_27 : decode cX11_readsPatch 27 = .ok (.iconst 0, 1) := by decide +kernel
theorem dX11_readsPatch_28 : decode cX11_readsPatch 28 = .ok (.iastore, 1) := by decide +kernel
theorem dX11_readsPatch_29 : decode cX11_readsPatch 29 = .ok (.bipush 8, 2) := by decide +kernel
theorem dX11_readsPatch_31 : decode cX11_readsPatch 31 = .ok (.istore_n 1, 1) := by decide +kernel
theorem dX11_readsPatch_32 : decode cX11_readsPatch 32 = .ok (.iload_n 1, 1) := by decide +kernel
theorem dX11_readsPatch_33 : decode cX11_readsPatch 33 = .ok (.bipush 10, 2) := by decide +kernel
theorem dX11_readsPatch_35 : decode cX11_readsPatch 35 = .ok (.if_icmp .gt 19, 3) := by decide +kernel
theorem dX11_readsPatch_38 : decode cX11_readsPatch 38 = .ok (.aload_n 0, 1) := by decide +kernel
theorem dX11_readsPatch_39 : decode cX11_readsPatch 39 = .ok (.getfield 20, 3) := by decide +kernel
theorem dX11_readsPatch_42 : decode cX11_readsPatch 42 = .ok (.bipush 100, 2) := by decide +kernel
theorem dX11_readsPatch_44 : decode cX11_readsPatch 44 = .ok (.iload_n 1, 1) := by decide +kernel
theorem dX11_readsPatch_45 : decode cX11_readsPatch 45 = .ok (.iadd, 1) := by decide +kernel
theorem dX11_readsPatch_46 : decode cX11_readsPatch 46 = .ok (.iconst 0, 1) := by decide +kernel
theorem dX11_readsPatch_47 : decode cX11_readsPatch 47 = .ok (.iastore, 1) := by decide +kernel
theorem dX11_readsPatch_48 : decode cX11_readsPatch 48 = .ok (.iinc 1 1, 3) := by decide +kernel
theorem dX11_readsPatch_51 : decode cX11_readsPatch 51 = .ok (.goto (-19), 3) := by decide +kernel
theorem dX11_readsPatch_54 : decode cX11_readsPatch 54 = .ok (.iconst 0, 1) := by decide +kernel
theorem dX11_readsPatch_55 : decode cX11_readsPatch 55 = .ok (.istore_n 1, 1) := by decide +kernel
theorem dX11_readsPatch_56 : decode cX11_readsPatch 56 = .ok (.aload_n 0, 1) := by decide +kernel
theorem dX11_readsPatch_57 : decode cX11_readsPatch 57 = .ok (.invokevirtual 100, 3) := by decide +kernel
theorem dX11_readsPatch_60 : decode cX11_readsPatch 60 = .ok (.ifCond .eq 26, 3) := by decide +kernel
theorem dX11_readsPatch_63 : decode cX11_readsPatch 63 = .ok (.aload_n 0, 1) := by decide +kernel
theorem dX11_readsPatch_64 : decode cX11_readsPatch 64 = .ok (.invokevirtual 143, 3) := by decide +kernel
theorem dX11_readsPatch_67 : decode cX11_readsPatch 67 = .ok (.ldc_w 261, 3) := by decide +kernel
theorem dX11_readsPatch_70 : decode cX11_readsPatch 70 = .ok (.invokestatic 147, 3) := by decide +kernel
theorem dX11_readsPatch_73 : decode cX11_readsPatch 73 = .ok (.lcmp, 1) := by decide +kernel
theorem dX11_readsPatch_74 : decode cX11_readsPatch 74 = .ok (.ifCond .eq 12, 3) := by decide +kernel
theorem dX11_readsPatch_77 : decode cX11_readsPatch 77 = .ok (.aload_n 0, 1) := by decide +kernel
theorem dX11_readsPatch_78 : decode cX11_readsPatch 78 = .ok (.iconst 1, 1) := by decide +kernel
theorem dX11_readsPatch_79 : decode cX11_readsPatch 79 = .ok (.aload_n 0, 1) := by decide +kernel
theorem dX11_readsPatch_80 : decode cX11_readsPatch 80 = .ok (.getfield 87, 3) := by decide +kernel
theorem dX11_readsPatch_83 : decode cX11_readsPatch 83 = .ok (.invokevirtual 112, 3) := by decide +kernel
theorem dX11_readsPatch_86 : decode cX11_readsPatch 86 = .ok (.aload_n 0, 1) := by decide +kernel
theorem dX11_readsPatch_87 : decode cX11_readsPatch 87 = .ok (.invokevirtual 100, 3) := by decide +kernel
theorem dX11_readsPatch_90 : decode cX11_readsPatch 90 = .ok (.ifCond .eq 55, 3) := by decide +kernel
theorem dX11_readsPatch_93 : decode cX11_readsPatch 93 = .ok (.aload_n 0, 1) := by decide +kernel
theorem dX11_readsPatch_94 : decode cX11_readsPatch 94 = .ok (.invokevirtual 143, 3) := by decide +kernel
theorem dX11_readsPatch_97 : decode cX11_readsPatch 97 = .ok (.ldc_w 261, 3) := by decide +kernel
theorem dX11_readsPatch_100 : decode cX11_readsPatch 100 = .ok (.invokestatic 147, 3) := by decide +kernel
theorem dX11_readsPatch_103 : decode cX11_readsPatch 103 = .ok (.lcmp, 1) := by decide +kernel
theorem dX11_readsPatch_104 : decode cX11_readsPatch 104 = .ok (.ifCond .ne 41, 3) := by decide +kernel
theorem dX11_readsPatch_107 : decode cX11_readsPatch 107 = .ok (.iload_n 1, 1) := by decide +kernel
theorem dX11_readsPatch_108 : decode cX11_readsPatch 108 = .ok (.bipush 8, 2) := by decide +kernel
theorem dX11_readsPatch_110 : decode cX11_readsPatch 110 = .ok (.if_icmp .ne 12, 3) := by decide +kernel
theorem dX11_readsPatch_113 : decode cX11_readsPatch 113 = .ok (.aload_n 0, 1) := by decide +kernel
theorem dX11_readsPatch_114 : decode cX11_readsPatch 114 = .ok (.iconst 3, 1) := by decide +kernel
theorem dX11_readsPatch_115 : decode cX11_readsPatch 115 = .ok (.aload_n 0, 1) := by decide +kernel
theorem dX11_readsPatch_116 : decode cX11_readsPatch 116 = .ok (.getfield 87, 3) := by decide +kernel
theorem dX11_readsPatch_119 : decode cX11_readsPatch 119 = .ok (.invokevirtual 112, 3) := by decide +kernel
theorem dX11_readsPatch_122 : decode cX11_readsPatch 122 = .ok (.aload_n 0, 1) := by decide +kernel
theorem dX11_readsPatch_123 : decode cX11_readsPatch 123 = .ok (.invokevirtual 100, 3) := by decide +kernel
theorem dX11_readsPatch_126 : decode cX11_readsPatch 126 = .ok (.ifCond .ne 4, 3) := by decide +kernel
theorem dX11_readsPatch_129 : decode cX11_readsPatch 129 = .ok (.return_, 1) := by decide +kernel
theorem dX11_readsPatch_130 : decode cX11_readsPatch 130 = .ok (.aload_n 0, 1) := by decide +kernel
theorem dX11_readsPatch_131 : decode cX11_readsPatch 131 = .ok (.invokevirtual 151, 3) := by decide +kernel
theorem dX11_readsPatch_134 : decode cX11_readsPatch 134 = .ok (.aload_n 0, 1) := by decide +kernel
theorem dX11_readsPatch_135 : decode cX11_readsPatch 135 = .ok (.iload_n 1, 1) := by decide +kernel
theorem dX11_readsPatch_136 : decode cX11_readsPatch 136 = .ok (.invokevirtual 263, 3) := by decide +kernel
theorem dX11_readsPatch_139 : decode cX11_readsPatch 139 = .ok (.iinc 1 1, 3) := by decide +kernel
theorem dX11_readsPatch_142 : decode cX11_readsPatch 142 = .ok (.goto (-56), 3) := by decide +kernel
theorem dX11_readsPatch_145 : decode cX11_readsPatch 145 = .ok (.aload_n 0, 1) := by decide +kernel
theorem dX11_readsPatch_146 : decode cX11_readsPatch 146 = .ok (.ldc_w 266, 3) := by decide +kernel
theorem dX11_readsPatch_149 : decode cX11_readsPatch 149 = .ok (.invokevirtual 257, 3) := by decide +kernel
theorem dX11_readsPatch_152 : decode cX11_readsPatch 152 = .ok (.ifCond .eq 9, 3) := by decide +kernel
theorem dX11_readsPatch_155 : decode cX11_readsPatch 155 = .ok (.aload_n 0, 1) := by decide +kernel
theorem dX11_readsPatch_156 : decode cX11_readsPatch 156 = .ok (.bipush 8, 2) := by decide +kernel
theorem dX11_readsPatch_158 : decode cX11_readsPatch 158 = .ok (.invokevirtual 252, 3) := by decide +kernel
theorem dX11_readsPatch_161 : decode cX11_readsPatch 161 = .ok (.aload_n 0, 1) := by decide +kernel
theorem dX11_readsPatch_162 : decode cX11_readsPatch 162 = .ok (.ldc_w 268, 3) := by decide +kernel
theorem dX11_readsPatch_165 : decode cX11_readsPatch 165 = .ok (.invokevirtual 257, 3) := by decide +kernel
theorem dX11_readsPatch_168 : decode cX11_readsPatch 168 = .ok (.ifCond .eq 9, 3) := by decide +kernel
theorem dX11_readsPatch_171 : decode cX11_readsPatch 171 = .ok (.aload_n 0, 1) := by decide +kernel
theorem dX11_readsPatch_172 : decode cX11_readsPatch 172 = .ok (.bipush 9, 2) := by decide +kernel
theorem dX11_readsPatch_174 : decode cX11_readsPatch 174 = .ok (.invokevirtual 252, 3) := by decide +kernel
theorem dX11_readsPatch_177 : decode cX11_readsPatch 177 = .ok (.aload_n 0, 1) := by decide +kernel
theorem dX11_readsPatch_178 : decode cX11_readsPatch 178 = .ok (.ldc_w 270, 3) := by decide +kernel
theorem dX11_readsPatch_181 : decode cX11_readsPatch 181 = .ok (.invokevirtual 257, 3) := by decide +kernel
theorem dX11_readsPatch_184 : decode cX11_readsPatch 184 = .ok (.ifCond .eq 9, 3) := by decide +kernel
theorem dX11_readsPatch_187 : decode cX11_readsPatch 187 = .ok (.aload_n 0, 1) := by decide +kernel
theorem dX11_readsPatch_188 : decode cX11_readsPatch 188 = .ok (.bipush 10, 2) := by decide +kernel
theorem dX11_readsPatch_190 : decode cX11_readsPatch 190 = .ok (.invokevirtual 252, 3) := by decide +kernel
theorem dX11_readsPatch_193 : decode cX11_readsPatch 193 = .ok (.aload_n 0, 1) := by decide +kernel
theorem dX11_readsPatch_194 : decode cX11_readsPatch 194 = .ok (.invokevirtual 100, 3) := by decide +kernel
theorem dX11_readsPatch_197 : decode cX11_readsPatch 197 = .ok (.ifCond .eq 20, 3) := by decide +kernel
theorem dX11_readsPatch_200 : decode cX11_readsPatch 200 = .ok (.aload_n 0, 1) := by decide +kernel
theorem dX11_readsPatch_201 : decode cX11_readsPatch 201 = .ok (.invokevirtual 104, 3) := by decide +kernel
theorem dX11_readsPatch_204 : decode cX11_readsPatch 204 = .ok (.iconst (-1), 1) := by decide +kernel
theorem dX11_readsPatch_205 : decode cX11_readsPatch 205 = .ok (.if_icmp .eq 12, 3) := by decide +kernel
theorem dX11_readsPatch_208 : decode cX11_readsPatch 208 = .ok (.aload_n 0, 1) := by decide +kernel
theorem dX11_readsPatch_209 : decode cX11_readsPatch 209 = .ok (.iconst 1, 1) := by decide +kernel
theorem dX11_readsPatch_210 : decode cX11_readsPatch 210 = .ok (.aload_n 0, 1) := by decide +kernel
theorem dX11_readsPatch_211 : decode cX11_readsPatch 211 = .ok (.getfield 87, 3) := by decide +kernel
theorem dX11_readsPatch_214 : decode cX11_readsPatch 214 = .ok (.invokevirtual 112, 3) := by decide +kernel
theorem dX11_readsPatch_217 : decode cX11_readsPatch 217 = .ok (.return_, 1) := by decide +kernel
theorem dX11_codeAt_0 : decode cX11_codeAt 0 = .ok (.bipush 12, 2) := by decide +kernel
theorem dX11_codeAt_2 : decode cX11_codeAt 2 = .ok (.bipush 11, 2) := by decide +kernel
theorem dX11_codeAt_4 : decode cX11_codeAt 4 = .ok (.iload_n 0, 1) := by decide +kernel
theorem dX11_codeAt_5 : decode cX11_codeAt 5 = .ok (.imul, 1) := by decide +kernel
theorem dX11_codeAt_6 : decode cX11_codeAt 6 = .ok (.iadd, 1) := by decide +kernel
theorem dX11_codeAt_7 : decode cX11_codeAt 7 = .ok (.iload_n 1, 1) := by decide +kernel
theorem dX11_codeAt_8 : decode cX11_codeAt 8 = .ok (.iadd, 1) := by decide +kernel
theorem dX11_codeAt_9 : decode cX11_codeAt 9 = .ok (.ireturn, 1) := by decide +kernel
theorem dX11_patch_0 : decode cX11_patch 0 = .ok (.aload_n 0, 1) := by decide +kernel
theorem dX11_patch_1 : decode cX11_patch 1 = .ok (.iconst 0, 1) := by decide +kernel
theorem dX11_patch_2 : decode cX11_patch 2 = .ok (.putfield 78, 3) := by decide +kernel
theorem dX11_patch_5 : decode cX11_patch 5 = .ok (.aload_n 0, 1) := by decide +kernel
theorem dX11_patch_6 : decode cX11_patch 6 = .ok (.iload_n 1, 1) := by decide +kernel
theorem dX11_patch_7 : decode cX11_patch 7 = .ok (.iconst 0, 1) := by decide +kernel
theorem dX11_patch_8 : decode cX11_patch 8 = .ok (.aload_n 0, 1) := by decide +kernel
theorem dX11_patch_9 : decode cX11_patch 9 = .ok (.getfield 81, 3) := by decide +kernel
theorem dX11_patch_12 : decode cX11_patch 12 = .ok (.invokestatic 121, 3) := by decide +kernel
theorem dX11_patch_15 : decode cX11_patch 15 = .ok (.ifCond .ne 7, 3) := by decide +kernel
theorem dX11_patch_18 : decode cX11_patch 18 = .ok (.iconst 1, 1) := by decide +kernel
theorem dX11_patch_19 : decode cX11_patch 19 = .ok (.goto 4, 3) := by decide +kernel
theorem dX11_patch_22 : decode cX11_patch 22 = .ok (.iconst 0, 1) := by decide +kernel
theorem dX11_patch_23 : decode cX11_patch 23 = .ok (.iconst 1, 1) := by decide +kernel
theorem dX11_patch_24 : decode cX11_patch 24 = .ok (.iconst 1, 1) := by decide +kernel
theorem dX11_patch_25 : decode cX11_patch 25 = .ok (.invokevirtual 229, 3) := by decide +kernel
theorem dX11_patch_28 : decode cX11_patch 28 = .ok (.ifCond .ne 26, 3) := by decide +kernel
theorem dX11_patch_31 : decode cX11_patch 31 = .ok (.aload_n 0, 1) := by decide +kernel
theorem dX11_patch_32 : decode cX11_patch 32 = .ok (.aload_n 0, 1) := by decide +kernel
theorem dX11_patch_33 : decode cX11_patch 33 = .ok (.getfield 272, 3) := by decide +kernel
theorem dX11_patch_36 : decode cX11_patch 36 = .ok (.bipush 8, 2) := by decide +kernel
theorem dX11_patch_38 : decode cX11_patch 38 = .ok (.if_icmp .ne 7, 3) := by decide +kernel
theorem dX11_patch_41 : decode cX11_patch 41 = .ok (.iconst 1, 1) := by decide +kernel
theorem dX11_patch_42 : decode cX11_patch 42 = .ok (.goto 4, 3) := by decide +kernel
theorem dX11_patch_45 : decode cX11_patch 45 = .ok (.iconst 0, 1) := by decide +kernel
theorem dX11_patch_46 : decode cX11_patch 46 = .ok (.iconst 2, 1) := by decide +kernel
theorem dX11_patch_47 : decode cX11_patch 47 = .ok (.iconst 2, 1) := by decide +kernel
theorem dX11_patch_48 : decode cX11_patch 48 = .ok (.invokevirtual 229, 3) := by decide +kernel
theorem dX11_patch_51 : decode cX11_patch 51 = .ok (.ifCond .eq 5, 3) := by decide +kernel
theorem dX11_patch_54 : decode cX11_patch 54 = .ok (.iconst 0, 1) := by decide +kernel
theorem dX11_patch_55 : decode cX11_patch 55 = .ok (.ireturn, 1) := by decide +kernel
theorem dX11_patch_56 : decode cX11_patch 56 = .ok (.aload_n 0, 1) := by decide +kernel
theorem dX11_patch_57 : decode cX11_patch 57 = .ok (.iload_n 1, 1) := by decide +kernel
theorem dX11_patch_58 : decode cX11_patch 58 = .ok (.invokevirtual 236, 3) := by decide +kernel
theorem dX11_patch_61 : decode cX11_patch 61 = .ok (.aload_n 0, 1) := by decide +kernel
theorem dX11_patch_62 : decode cX11_patch 62 = .ok (.invokevirtual 275, 3) := by decide +kernel
theorem dX11_patch_65 : decode cX11_patch 65 = .ok (.aload_n 0, 1) := by decide +kernel
theorem dX11_patch_66 : decode cX11_patch 66 = .ok (.invokevirtual 100, 3) := by decide +kernel
theorem dX11_patch_69 : decode cX11_patch 69 = .ok (.ifCond .ne 9, 3) := by decide +kernel
theorem dX11_patch_72 : decode cX11_patch 72 = .ok (.aload_n 0, 1) := by decide +kernel
theorem dX11_patch_73 : decode cX11_patch 73 = .ok (.iconst 0, 1) := by decide +kernel
theorem dX11_patch_74 : decode cX11_patch 74 = .ok (.invokevirtual 245, 3) := by decide +kernel
theorem dX11_patch_77 : decode cX11_patch 77 = .ok (.ireturn, 1) := by decide +kernel
theorem dX11_patch_78 : decode cX11_patch 78 = .ok (.aload_n 0, 1) := by decide +kernel
theorem dX11_patch_79 : decode cX11_patch 79 = .ok (.getfield 272, 3) := by decide +kernel
theorem dX11_patch_82 : decode cX11_patch 82 = .ok (.istore_n 2, 1) := by decide +kernel
theorem dX11_patch_83 : decode cX11_patch 83 = .ok (.aload_n 0, 1) := by decide +kernel
theorem dX11_patch_84 : decode cX11_patch 84 = .ok (.getfield 28, 3) := by decide +kernel
theorem dX11_patch_87 : decode cX11_patch 87 = .ok (.iload_n 2, 1) := by decide +kernel
theorem dX11_patch_88 : decode cX11_patch 88 = .ok (.aload_n 0, 1) := by decide +kernel
theorem dX11_patch_89 : decode cX11_patch 89 = .ok (.getfield 28, 3) := by decide +kernel
theorem dX11_patch_92 : decode cX11_patch 92 = .ok (.bipush 8, 2) := by decide +kernel
theorem dX11_patch_94 : decode cX11_patch 94 = .ok (.iaload, 1) := by decide +kernel
theorem dX11_patch_95 : decode cX11_patch 95 = .ok (.iastore, 1) := by decide +kernel
theorem dX11_patch_96 : decode cX11_patch 96 = .ok (.aload_n 0, 1) := by decide +kernel
theorem dX11_patch_97 : decode cX11_patch 97 = .ok (.getfield 31, 3) := by decide +kernel
theorem dX11_patch_100 : decode cX11_patch 100 = .ok (.iload_n 2, 1) := by decide +kernel
theorem dX11_patch_101 : decode cX11_patch 101 = .ok (.aload_n 0, 1) := by decide +kernel
theorem dX11_patch_102 : decode cX11_patch 102 = .ok (.getfield 31, 3) := by decide +kernel
theorem dX11_patch_105 : decode cX11_patch 105 = .ok (.bipush 8, 2) := by decide +kernel
theorem dX11_patch_107 : decode cX11_patch 107 = .ok (.iaload, 1) := by decide +kernel
theorem dX11_patch_108 : decode cX11_patch 108 = .ok (.iastore, 1) := by decide +kernel
theorem dX11_patch_109 : decode cX11_patch 109 = .ok (.iconst 0, 1) := by decide +kernel
theorem dX11_patch_110 : decode cX11_patch 110 = .ok (.istore_n 3, 1) := by decide +kernel
theorem dX11_patch_111 : decode cX11_patch 111 = .ok (.iload_n 3, 1) := by decide +kernel
theorem dX11_patch_112 : decode cX11_patch 112 = .ok (.bipush 12, 2) := by decide +kernel
theorem dX11_patch_114 : decode cX11_patch 114 = .ok (.if_icmp .ge 75, 3) := by decide +kernel
theorem dX11_patch_117 : decode cX11_patch 117 = .ok (.aload_n 0, 1) := by decide +kernel
theorem dX11_patch_118 : decode cX11_patch 118 = .ok (.getfield 28, 3) := by decide +kernel
theorem dX11_patch_121 : decode cX11_patch 121 = .ok (.iload_n 2, 1) := by decide +kernel
theorem dX11_patch_122 : decode cX11_patch 122 = .ok (.iaload, 1) := by decide +kernel
theorem dX11_patch_123 : decode cX11_patch 123 = .ok (.iload_n 3, 1) := by decide +kernel
theorem dX11_patch_124 : decode cX11_patch 124 = .ok (.invokestatic 248, 3) := by decide +kernel
theorem dX11_patch_127 : decode cX11_patch 127 = .ok (.ifCond .ne 6, 3) := by decide +kernel
theorem dX11_patch_130 : decode cX11_patch 130 = .ok (.goto 53, 3) := by decide +kernel
theorem dX11_patch_133 : decode cX11_patch 133 = .ok (.aload_n 0, 1) := by decide +kernel
theorem dX11_patch_134 : decode cX11_patch 134 = .ok (.bipush 100, 2) := by decide +kernel
theorem dX11_patch_136 : decode cX11_patch 136 = .ok (.aload_n 0, 1) := by decide +kernel
theorem dX11_patch_137 : decode cX11_patch 137 = .ok (.getfield 39, 3) := by decide +kernel
theorem dX11_patch_140 : decode cX11_patch 140 = .ok (.bipush 8, 2) := by decide +kernel
theorem dX11_patch_142 : decode cX11_patch 142 = .ok (.aaload, 1) := by decide +kernel
theorem dX11_patch_143 : decode cX11_patch 143 = .ok (.iload_n 3, 1) := by decide +kernel
theorem dX11_patch_144 : decode cX11_patch 144 = .ok (.iaload, 1) := by decide +kernel
theorem dX11_patch_145 : decode cX11_patch 145 = .ok (.iadd, 1) := by decide +kernel
theorem dX11_patch_146 : decode cX11_patch 146 = .ok (.iload_n 2, 1) := by decide +kernel
theorem dX11_patch_147 : decode cX11_patch 147 = .ok (.aload_n 0, 1) := by decide +kernel
theorem dX11_patch_148 : decode cX11_patch 148 = .ok (.getfield 39, 3) := by decide +kernel
theorem dX11_patch_151 : decode cX11_patch 151 = .ok (.bipush 8, 2) := by decide +kernel
theorem dX11_patch_153 : decode cX11_patch 153 = .ok (.aaload, 1) := by decide +kernel
theorem dX11_patch_154 : decode cX11_patch 154 = .ok (.iload_n 3, 1) := by decide +kernel
theorem dX11_patch_155 : decode cX11_patch 155 = .ok (.iaload, 1) := by decide +kernel
theorem dX11_patch_156 : decode cX11_patch 156 = .ok (.invokestatic 278, 3) := by decide +kernel
theorem dX11_patch_159 : decode cX11_patch 159 = .ok (.invokevirtual 242, 3) := by decide +kernel
theorem dX11_patch_162 : decode cX11_patch 162 = .ok (.aload_n 0, 1) := by decide +kernel
theorem dX11_patch_163 : decode cX11_patch 163 = .ok (.getfield 39, 3) := by decide +kernel
theorem dX11_patch_166 : decode cX11_patch 166 = .ok (.iload_n 2, 1) := by decide +kernel
theorem dX11_patch_167 : decode cX11_patch 167 = .ok (.aaload, 1) := by decide +kernel
theorem dX11_patch_168 : decode cX11_patch 168 = .ok (.iload_n 3, 1) := by decide +kernel
theorem dX11_patch_169 : decode cX11_patch 169 = .ok (.iload_n 2, 1) := by decide +kernel
theorem dX11_patch_170 : decode cX11_patch 170 = .ok (.aload_n 0, 1) := by decide +kernel
theorem dX11_patch_171 : decode cX11_patch 171 = .ok (.getfield 39, 3) := by decide +kernel
theorem dX11_patch_174 : decode cX11_patch 174 = .ok (.bipush 8, 2) := by decide +kernel
theorem dX11_patch_176 : decode cX11_patch 176 = .ok (.aaload, 1) := by decide +kernel
theorem dX11_patch_177 : decode cX11_patch 177 = .ok (.iload_n 3, 1) := by decide +kernel
theorem dX11_patch_178 : decode cX11_patch 178 = .ok (.iaload, 1) := by decide +kernel
theorem dX11_patch_179 : decode cX11_patch 179 = .ok (.invokestatic 278, 3) := by decide +kernel
theorem dX11_patch_182 : decode cX11_patch 182 = .ok (.iastore, 1) := by decide +kernel
theorem dX11_patch_183 : decode cX11_patch 183 = .ok (.iinc 3 1, 3) := by decide +kernel
theorem dX11_patch_186 : decode cX11_patch 186 = .ok (.goto (-75), 3) := by decide +kernel
theorem dX11_patch_189 : decode cX11_patch 189 = .ok (.bipush 8, 2) := by decide +kernel
theorem dX11_patch_191 : decode cX11_patch 191 = .ok (.istore_n 3, 1) := by decide +kernel
theorem dX11_patch_192 : decode cX11_patch 192 = .ok (.iload_n 3, 1) := by decide +kernel
theorem dX11_patch_193 : decode cX11_patch 193 = .ok (.bipush 10, 2) := by decide +kernel
theorem dX11_patch_195 : decode cX11_patch 195 = .ok (.if_icmp .gt 22, 3) := by decide +kernel
theorem dX11_patch_198 : decode cX11_patch 198 = .ok (.aload_n 0, 1) := by decide +kernel
theorem dX11_patch_199 : decode cX11_patch 199 = .ok (.bipush 100, 2) := by decide +kernel
theorem dX11_patch_201 : decode cX11_patch 201 = .ok (.iload_n 3, 1) := by decide +kernel
theorem dX11_patch_202 : decode cX11_patch 202 = .ok (.iadd, 1) := by decide +kernel
theorem dX11_patch_203 : decode cX11_patch 203 = .ok (.iload_n 2, 1) := by decide +kernel
theorem dX11_patch_204 : decode cX11_patch 204 = .ok (.iload_n 3, 1) := by decide +kernel
theorem dX11_patch_205 : decode cX11_patch 205 = .ok (.invokestatic 278, 3) := by decide +kernel
theorem dX11_patch_208 : decode cX11_patch 208 = .ok (.invokevirtual 242, 3) := by decide +kernel
theorem dX11_patch_211 : decode cX11_patch 211 = .ok (.iinc 3 1, 3) := by decide +kernel
theorem dX11_patch_214 : decode cX11_patch 214 = .ok (.goto (-22), 3) := by decide +kernel
theorem dX11_patch_217 : decode cX11_patch 217 = .ok (.aload_n 0, 1) := by decide +kernel
theorem dX11_patch_218 : decode cX11_patch 218 = .ok (.dup, 1) := by decide +kernel
theorem dX11_patch_219 : decode cX11_patch 219 = .ok (.getfield 272, 3) := by decide +kernel
theorem dX11_patch_222 : decode cX11_patch 222 = .ok (.iconst 1, 1) := by decide +kernel
theorem dX11_patch_223 : decode cX11_patch 223 = .ok (.iadd, 1) := by decide +kernel
theorem dX11_patch_224 : decode cX11_patch 224 = .ok (.putfield 272, 3) := by decide +kernel
theorem dX11_patch_227 : decode cX11_patch 227 = .ok (.aload_n 0, 1) := by decide +kernel
theorem dX11_patch_228 : decode cX11_patch 228 = .ok (.iload_n 2, 1) := by decide +kernel
theorem dX11_patch_229 : decode cX11_patch 229 = .ok (.invokevirtual 245, 3) := by decide +kernel
theorem dX11_patch_232 : decode cX11_patch 232 = .ok (.ireturn, 1) := by decide +kernel
theorem dX11_fault_0 : decode cX11_fault 0 = .ok (.aload_n 0, 1) := by decide +kernel
theorem dX11_fault_1 : decode cX11_fault 1 = .ok (.iconst 0, 1) := by decide +kernel
theorem dX11_fault_2 : decode cX11_fault 2 = .ok (.putfield 78, 3) := by decide +kernel
theorem dX11_fault_5 : decode cX11_fault 5 = .ok (.aload_n 0, 1) := by decide +kernel
theorem dX11_fault_6 : decode cX11_fault 6 = .ok (.getfield 13, 3) := by decide +kernel
theorem dX11_fault_9 : decode cX11_fault 9 = .ok (.ireturn, 1) := by decide +kernel
theorem dX11_rowOf_0 : decode cX11_rowOf 0 = .ok (.iload_n 2, 1) := by decide +kernel
theorem dX11_rowOf_1 : decode cX11_rowOf 1 = .ok (.iconst (-1), 1) := by decide +kernel
theorem dX11_rowOf_2 : decode cX11_rowOf 2 = .ok (.if_icmp .ne 7, 3) := by decide +kernel
theorem dX11_rowOf_5 : decode cX11_rowOf 5 = .ok (.iload_n 1, 1) := by decide +kernel
theorem dX11_rowOf_6 : decode cX11_rowOf 6 = .ok (.goto 11, 3) := by decide +kernel
theorem dX11_rowOf_9 : decode cX11_rowOf 9 = .ok (.bipush 10, 2) := by decide +kernel
theorem dX11_rowOf_11 : decode cX11_rowOf 11 = .ok (.iconst 5, 1) := by decide +kernel
theorem dX11_rowOf_12 : decode cX11_rowOf 12 = .ok (.iload_n 1, 1) := by decide +kernel
theorem dX11_rowOf_13 : decode cX11_rowOf 13 = .ok (.imul, 1) := by decide +kernel
theorem dX11_rowOf_14 : decode cX11_rowOf 14 = .ok (.iadd, 1) := by decide +kernel
theorem dX11_rowOf_15 : decode cX11_rowOf 15 = .ok (.iload_n 2, 1) := by decide +kernel
theorem dX11_rowOf_16 : decode cX11_rowOf 16 = .ok (.iadd, 1) := by decide +kernel
theorem dX11_rowOf_17 : decode cX11_rowOf 17 = .ok (.ireturn, 1) := by decide +kernel
theorem dX11_isGone_0 : decode cX11_isGone 0 = .ok (.iload_n 1, 1) := by decide +kernel
theorem dX11_isGone_1 : decode cX11_isGone 1 = .ok (.bipush 10, 2) := by decide +kernel
theorem dX11_isGone_3 : decode cX11_isGone 3 = .ok (.if_icmp .lt 25, 3) := by decide +kernel
theorem dX11_isGone_6 : decode cX11_isGone 6 = .ok (.iload_n 1, 1) := by decide +kernel
theorem dX11_isGone_7 : decode cX11_isGone 7 = .ok (.bipush 60, 2) := by decide +kernel
theorem dX11_isGone_9 : decode cX11_isGone 9 = .ok (.if_icmp .ge 19, 3) := by decide +kernel
theorem dX11_isGone_12 : decode cX11_isGone 12 = .ok (.aload_n 0, 1) := by decide +kernel
theorem dX11_isGone_13 : decode cX11_isGone 13 = .ok (.getfield 42, 3) := by decide +kernel
theorem dX11_isGone_16 : decode cX11_isGone 16 = .ok (.iload_n 1, 1) := by decide +kernel
theorem dX11_isGone_17 : decode cX11_isGone 17 = .ok (.bipush 10, 2) := by decide +kernel
theorem dX11_isGone_19 : decode cX11_isGone 19 = .ok (.isub, 1) := by decide +kernel
theorem dX11_isGone_20 : decode cX11_isGone 20 = .ok (.iconst 5, 1) := by decide +kernel
theorem dX11_isGone_21 : decode cX11_isGone 21 = .ok (.idiv, 1) := by decide +kernel
theorem dX11_isGone_22 : decode cX11_isGone 22 = .ok (.iaload, 1) := by decide +kernel
theorem dX11_isGone_23 : decode cX11_isGone 23 = .ok (.bipush 12, 2) := by decide +kernel
theorem dX11_isGone_25 : decode cX11_isGone 25 = .ok (.if_icmp .eq 14, 3) := by decide +kernel
theorem dX11_isGone_28 : decode cX11_isGone 28 = .ok (.aload_n 0, 1) := by decide +kernel
theorem dX11_isGone_29 : decode cX11_isGone 29 = .ok (.getfield 42, 3) := by decide +kernel
theorem dX11_isGone_32 : decode cX11_isGone 32 = .ok (.iload_n 1, 1) := by decide +kernel
theorem dX11_isGone_33 : decode cX11_isGone 33 = .ok (.iaload, 1) := by decide +kernel
theorem dX11_isGone_34 : decode cX11_isGone 34 = .ok (.bipush 12, 2) := by decide +kernel
theorem dX11_isGone_36 : decode cX11_isGone 36 = .ok (.if_icmp .ne 7, 3) := by decide +kernel
theorem dX11_isGone_39 : decode cX11_isGone 39 = .ok (.iconst 1, 1) := by decide +kernel
theorem dX11_isGone_40 : decode cX11_isGone 40 = .ok (.goto 4, 3) := by decide +kernel
theorem dX11_isGone_43 : decode cX11_isGone 43 = .ok (.iconst 0, 1) := by decide +kernel
theorem dX11_isGone_44 : decode cX11_isGone 44 = .ok (.ireturn, 1) := by decide +kernel
theorem dX11_widens_0 : decode cX11_widens 0 = .ok (.iload_n 0, 1) := by decide +kernel
theorem dX11_widens_1 : decode cX11_widens 1 = .ok (.iload_n 1, 1) := by decide +kernel
theorem dX11_widens_2 : decode cX11_widens 2 = .ok (.if_icmp .ne 5, 3) := by decide +kernel
theorem dX11_widens_5 : decode cX11_widens 5 = .ok (.iconst 1, 1) := by decide +kernel
theorem dX11_widens_6 : decode cX11_widens 6 = .ok (.ireturn, 1) := by decide +kernel
theorem dX11_widens_7 : decode cX11_widens 7 = .ok (.iload_n 0, 1) := by decide +kernel
theorem dX11_widens_8 : decode cX11_widens 8 = .ok (.tableswitch 107 1 6 #[40, 61, 61, 69, 77, 95], 40) := by decide +kernel
theorem dX11_widens_48 : decode cX11_widens 48 = .ok (.iload_n 1, 1) := by decide +kernel
theorem dX11_widens_49 : decode cX11_widens 49 = .ok (.iconst 3, 1) := by decide +kernel
theorem dX11_widens_50 : decode cX11_widens 50 = .ok (.if_icmp .eq 13, 3) := by decide +kernel
theorem dX11_widens_53 : decode cX11_widens 53 = .ok (.iload_n 1, 1) := by decide +kernel
theorem dX11_widens_54 : decode cX11_widens 54 = .ok (.iconst 4, 1) := by decide +kernel
theorem dX11_widens_55 : decode cX11_widens 55 = .ok (.bipush 7, 2) := by decide +kernel
theorem dX11_widens_57 : decode cX11_widens 57 = .ok (.invokestatic 121, 3) := by decide +kernel
theorem dX11_widens_60 : decode cX11_widens 60 = .ok (.ifCond .eq 7, 3) := by decide +kernel
theorem dX11_widens_63 : decode cX11_widens 63 = .ok (.iconst 1, 1) := by decide +kernel
theorem dX11_widens_64 : decode cX11_widens 64 = .ok (.goto 4, 3) := by decide +kernel
theorem dX11_widens_67 : decode cX11_widens 67 = .ok (.iconst 0, 1) := by decide +kernel
theorem dX11_widens_68 : decode cX11_widens 68 = .ok (.ireturn, 1) := by decide +kernel
theorem dX11_widens_69 : decode cX11_widens 69 = .ok (.iload_n 1, 1) := by decide +kernel
theorem dX11_widens_70 : decode cX11_widens 70 = .ok (.iconst 4, 1) := by decide +kernel
theorem dX11_widens_71 : decode cX11_widens 71 = .ok (.bipush 7, 2) := by decide +kernel
theorem dX11_widens_73 : decode cX11_widens 73 = .ok (.invokestatic 121, 3) := by decide +kernel
theorem dX11_widens_76 : decode cX11_widens 76 = .ok (.ireturn, 1) := by decide +kernel
theorem dX11_widens_77 : decode cX11_widens 77 = .ok (.iload_n 1, 1) := by decide +kernel
theorem dX11_widens_78 : decode cX11_widens 78 = .ok (.iconst 5, 1) := by decide +kernel
theorem dX11_widens_79 : decode cX11_widens 79 = .ok (.bipush 7, 2) := by decide +kernel
theorem dX11_widens_81 : decode cX11_widens 81 = .ok (.invokestatic 121, 3) := by decide +kernel
theorem dX11_widens_84 : decode cX11_widens 84 = .ok (.ireturn, 1) := by decide +kernel
theorem dX11_widens_85 : decode cX11_widens 85 = .ok (.iload_n 1, 1) := by decide +kernel
theorem dX11_widens_86 : decode cX11_widens 86 = .ok (.bipush 6, 2) := by decide +kernel
theorem dX11_widens_88 : decode cX11_widens 88 = .ok (.if_icmp .eq 9, 3) := by decide +kernel
theorem dX11_widens_91 : decode cX11_widens 91 = .ok (.iload_n 1, 1) := by decide +kernel
theorem dX11_widens_92 : decode cX11_widens 92 = .ok (.bipush 7, 2) := by decide +kernel
theorem dX11_widens_94 : decode cX11_widens 94 = .ok (.if_icmp .ne 7, 3) := by decide +kernel
theorem dX11_widens_97 : decode cX11_widens 97 = .ok (.iconst 1, 1) := by decide +kernel
theorem dX11_widens_98 : decode cX11_widens 98 = .ok (.goto 4, 3) := by decide +kernel
theorem dX11_widens_101 : decode cX11_widens 101 = .ok (.iconst 0, 1) := by decide +kernel
theorem dX11_widens_102 : decode cX11_widens 102 = .ok (.ireturn, 1) := by decide +kernel
theorem dX11_widens_103 : decode cX11_widens 103 = .ok (.iload_n 1, 1) := by decide +kernel
theorem dX11_widens_104 : decode cX11_widens 104 = .ok (.bipush 7, 2) := by decide +kernel
theorem dX11_widens_106 : decode cX11_widens 106 = .ok (.if_icmp .ne 7, 3) := by decide +kernel
theorem dX11_widens_109 : decode cX11_widens 109 = .ok (.iconst 1, 1) := by decide +kernel
theorem dX11_widens_110 : decode cX11_widens 110 = .ok (.goto 4, 3) := by decide +kernel
theorem dX11_widens_113 : decode cX11_widens 113 = .ok (.iconst 0, 1) := by decide +kernel
theorem dX11_widens_114 : decode cX11_widens 114 = .ok (.ireturn, 1) := by decide +kernel
theorem dX11_widens_115 : decode cX11_widens 115 = .ok (.iconst 0, 1) := by decide +kernel
theorem dX11_widens_116 : decode cX11_widens 116 = .ok (.ireturn, 1) := by decide +kernel
theorem dX11_isQuarters_0 : decode cX11_isQuarters 0 = .ok (.iload_n 0, 1) := by decide +kernel
theorem dX11_isQuarters_1 : decode cX11_isQuarters 1 = .ok (.bipush 6, 2) := by decide +kernel
theorem dX11_isQuarters_3 : decode cX11_isQuarters 3 = .ok (.if_icmp .eq 9, 3) := by decide +kernel
theorem dX11_isQuarters_6 : decode cX11_isQuarters 6 = .ok (.iload_n 0, 1) := by decide +kernel
theorem dX11_isQuarters_7 : decode cX11_isQuarters 7 = .ok (.bipush 7, 2) := by decide +kernel
theorem dX11_isQuarters_9 : decode cX11_isQuarters 9 = .ok (.if_icmp .ne 7, 3) := by decide +kernel
theorem dX11_isQuarters_12 : decode cX11_isQuarters 12 = .ok (.iconst 1, 1) := by decide +kernel
theorem dX11_isQuarters_13 : decode cX11_isQuarters 13 = .ok (.goto 4, 3) := by decide +kernel
theorem dX11_isQuarters_16 : decode cX11_isQuarters 16 = .ok (.iconst 0, 1) := by decide +kernel
theorem dX11_isQuarters_17 : decode cX11_isQuarters 17 = .ok (.ireturn, 1) := by decide +kernel
theorem dX11_as_0 : decode cX11_as 0 = .ok (.iload_n 3, 1) := by decide +kernel
theorem dX11_as_1 : decode cX11_as 1 = .ok (.invokestatic 281, 3) := by decide +kernel
theorem dX11_as_4 : decode cX11_as 4 = .ok (.ifCond .eq 18, 3) := by decide +kernel
theorem dX11_as_7 : decode cX11_as 7 = .ok (.iload_n 0, 1) := by decide +kernel
theorem dX11_as_8 : decode cX11_as 8 = .ok (.invokestatic 281, 3) := by decide +kernel
theorem dX11_as_11 : decode cX11_as 11 = .ok (.ifCond .ne 11, 3) := by decide +kernel
theorem dX11_as_14 : decode cX11_as 14 = .ok (.ldc2_w 284, 3) := by decide +kernel
theorem dX11_as_17 : decode cX11_as 17 = .ok (.lload_n 1, 1) := by decide +kernel
theorem dX11_as_18 : decode cX11_as 18 = .ok (.lmul, 1) := by decide +kernel
theorem dX11_as_19 : decode cX11_as 19 = .ok (.goto 4, 3) := by decide +kernel
theorem dX11_as_22 : decode cX11_as 22 = .ok (.lload_n 1, 1) := by decide +kernel
theorem dX11_as_23 : decode cX11_as 23 = .ok (.lreturn, 1) := by decide +kernel
theorem dX11_cut_0 : decode cX11_cut 0 = .ok (.iload_n 1, 1) := by decide +kernel
theorem dX11_cut_1 : decode cX11_cut 1 = .ok (.tableswitch 56 0 3 #[31, 41, 45, 52], 31) := by decide +kernel
theorem dX11_cut_32 : decode cX11_cut 32 = .ok (.iload_n 0, 1) := by decide +kernel
theorem dX11_cut_33 : decode cX11_cut 33 = .ok (.ifCond .ne 7, 3) := by decide +kernel
theorem dX11_cut_36 : decode cX11_cut 36 = .ok (.lconst 0, 1) := by decide +kernel
theorem dX11_cut_37 : decode cX11_cut 37 = .ok (.goto 4, 3) := by decide +kernel
theorem dX11_cut_40 : decode cX11_cut 40 = .ok (.lconst 1, 1) := by decide +kernel
theorem dX11_cut_41 : decode cX11_cut 41 = .ok (.lreturn, 1) := by decide +kernel
theorem dX11_cut_42 : decode cX11_cut 42 = .ok (.iload_n 0, 1) := by decide +kernel
theorem dX11_cut_43 : decode cX11_cut 43 = .ok (.i2b, 1) := by decide +kernel
theorem dX11_cut_44 : decode cX11_cut 44 = .ok (.i2l, 1) := by decide +kernel
theorem dX11_cut_45 : decode cX11_cut 45 = .ok (.lreturn, 1) := by decide +kernel
theorem dX11_cut_46 : decode cX11_cut 46 = .ok (.iload_n 0, 1) := by decide +kernel
theorem dX11_cut_47 : decode cX11_cut 47 = .ok (.ldc_w 286, 3) := by decide +kernel
theorem dX11_cut_50 : decode cX11_cut 50 = .ok (.iand, 1) := by decide +kernel
theorem dX11_cut_51 : decode cX11_cut 51 = .ok (.i2l, 1) := by decide +kernel
theorem dX11_cut_52 : decode cX11_cut 52 = .ok (.lreturn, 1) := by decide +kernel
theorem dX11_cut_53 : decode cX11_cut 53 = .ok (.iload_n 0, 1) := by decide +kernel
theorem dX11_cut_54 : decode cX11_cut 54 = .ok (.i2s, 1) := by decide +kernel
theorem dX11_cut_55 : decode cX11_cut 55 = .ok (.i2l, 1) := by decide +kernel
theorem dX11_cut_56 : decode cX11_cut 56 = .ok (.lreturn, 1) := by decide +kernel
theorem dX11_cut_57 : decode cX11_cut 57 = .ok (.iload_n 0, 1) := by decide +kernel
theorem dX11_cut_58 : decode cX11_cut 58 = .ok (.i2l, 1) := by decide +kernel
theorem dX11_cut_59 : decode cX11_cut 59 = .ok (.lreturn, 1) := by decide +kernel
theorem dX11_empties_0 : decode cX11_empties 0 = .ok (.aload_n 0, 1) := by decide +kernel
theorem dX11_empties_1 : decode cX11_empties 1 = .ok (.getfield 42, 3) := by decide +kernel
theorem dX11_empties_4 : decode cX11_empties 4 = .ok (.iload_n 1, 1) := by decide +kernel
theorem dX11_empties_5 : decode cX11_empties 5 = .ok (.iload_n 2, 1) := by decide +kernel
theorem dX11_empties_6 : decode cX11_empties 6 = .ok (.iastore, 1) := by decide +kernel
theorem dX11_empties_7 : decode cX11_empties 7 = .ok (.aload_n 0, 1) := by decide +kernel
theorem dX11_empties_8 : decode cX11_empties 8 = .ok (.getfield 45, 3) := by decide +kernel
theorem dX11_empties_11 : decode cX11_empties 11 = .ok (.iload_n 1, 1) := by decide +kernel
theorem dX11_empties_12 : decode cX11_empties 12 = .ok (.iload_n 3, 1) := by decide +kernel
theorem dX11_empties_13 : decode cX11_empties 13 = .ok (.iastore, 1) := by decide +kernel
theorem dX11_empties_14 : decode cX11_empties 14 = .ok (.iconst 0, 1) := by decide +kernel
theorem dX11_empties_15 : decode cX11_empties 15 = .ok (.istore 4, 2) := by decide +kernel
theorem dX11_empties_17 : decode cX11_empties 17 = .ok (.iload 4, 2) := by decide +kernel
theorem dX11_empties_19 : decode cX11_empties 19 = .ok (.bipush 9, 2) := by decide +kernel
theorem dX11_empties_21 : decode cX11_empties 21 = .ok (.if_icmp .ge 39, 3) := by decide +kernel
theorem dX11_empties_24 : decode cX11_empties 24 = .ok (.aload_n 0, 1) := by decide +kernel
theorem dX11_empties_25 : decode cX11_empties 25 = .ok (.getfield 48, 3) := by decide +kernel
theorem dX11_empties_28 : decode cX11_empties 28 = .ok (.iload_n 1, 1) := by decide +kernel
theorem dX11_empties_29 : decode cX11_empties 29 = .ok (.aaload, 1) := by decide +kernel
theorem dX11_empties_30 : decode cX11_empties 30 = .ok (.iload 4, 2) := by decide +kernel
theorem dX11_empties_32 : decode cX11_empties 32 = .ok (.iload_n 2, 1) := by decide +kernel
theorem dX11_empties_33 : decode cX11_empties 33 = .ok (.bipush 7, 2) := by decide +kernel
theorem dX11_empties_35 : decode cX11_empties 35 = .ok (.if_icmp .gt 7, 3) := by decide +kernel
theorem dX11_empties_38 : decode cX11_empties 38 = .ok (.iload_n 2, 1) := by decide +kernel
theorem dX11_empties_39 : decode cX11_empties 39 = .ok (.goto 4, 3) := by decide +kernel
theorem dX11_empties_42 : decode cX11_empties 42 = .ok (.iconst (-1), 1) := by decide +kernel
theorem dX11_empties_43 : decode cX11_empties 43 = .ok (.iastore, 1) := by decide +kernel
theorem dX11_empties_44 : decode cX11_empties 44 = .ok (.aload_n 0, 1) := by decide +kernel
theorem dX11_empties_45 : decode cX11_empties 45 = .ok (.getfield 53, 3) := by decide +kernel
theorem dX11_empties_48 : decode cX11_empties 48 = .ok (.iload_n 1, 1) := by decide +kernel
theorem dX11_empties_49 : decode cX11_empties 49 = .ok (.aaload, 1) := by decide +kernel
theorem dX11_empties_50 : decode cX11_empties 50 = .ok (.iload 4, 2) := by decide +kernel
theorem dX11_empties_52 : decode cX11_empties 52 = .ok (.lconst 0, 1) := by decide +kernel
theorem dX11_empties_53 : decode cX11_empties 53 = .ok (.lastore, 1) := by decide +kernel
theorem dX11_empties_54 : decode cX11_empties 54 = .ok (.iinc 4 1, 3) := by decide +kernel
theorem dX11_empties_57 : decode cX11_empties 57 = .ok (.goto (-40), 3) := by decide +kernel
theorem dX11_empties_60 : decode cX11_empties 60 = .ok (.return_, 1) := by decide +kernel
theorem dX11_gets_0 : decode cX11_gets 0 = .ok (.aload_n 0, 1) := by decide +kernel
theorem dX11_gets_1 : decode cX11_gets 1 = .ok (.iload_n 2, 1) := by decide +kernel
theorem dX11_gets_2 : decode cX11_gets 2 = .ok (.invokevirtual 287, 3) := by decide +kernel
theorem dX11_gets_5 : decode cX11_gets 5 = .ok (.ifCond .eq 5, 3) := by decide +kernel
theorem dX11_gets_8 : decode cX11_gets 8 = .ok (.iconst 3, 1) := by decide +kernel
theorem dX11_gets_9 : decode cX11_gets 9 = .ok (.ireturn, 1) := by decide +kernel
theorem dX11_gets_10 : decode cX11_gets 10 = .ok (.aload_n 0, 1) := by decide +kernel
theorem dX11_gets_11 : decode cX11_gets 11 = .ok (.getfield 42, 3) := by decide +kernel
theorem dX11_gets_14 : decode cX11_gets 14 = .ok (.iload_n 2, 1) := by decide +kernel
theorem dX11_gets_15 : decode cX11_gets 15 = .ok (.iaload, 1) := by decide +kernel
theorem dX11_gets_16 : decode cX11_gets 16 = .ok (.bipush 7, 2) := by decide +kernel
theorem dX11_gets_18 : decode cX11_gets 18 = .ok (.if_icmp .le 5, 3) := by decide +kernel
theorem dX11_gets_21 : decode cX11_gets 21 = .ok (.iconst 2, 1) := by decide +kernel
theorem dX11_gets_22 : decode cX11_gets 22 = .ok (.ireturn, 1) := by decide +kernel
theorem dX11_gets_23 : decode cX11_gets 23 = .ok (.iload_n 3, 1) := by decide +kernel
theorem dX11_gets_24 : decode cX11_gets 24 = .ok (.aload_n 0, 1) := by decide +kernel
theorem dX11_gets_25 : decode cX11_gets 25 = .ok (.getfield 45, 3) := by decide +kernel
theorem dX11_gets_28 : decode cX11_gets 28 = .ok (.iload_n 2, 1) := by decide +kernel
theorem dX11_gets_29 : decode cX11_gets 29 = .ok (.iaload, 1) := by decide +kernel
theorem dX11_gets_30 : decode cX11_gets 30 = .ok (.if_icmp .lt 5, 3) := by decide +kernel
theorem dX11_gets_33 : decode cX11_gets 33 = .ok (.iconst 1, 1) := by decide +kernel
theorem dX11_gets_34 : decode cX11_gets 34 = .ok (.ireturn, 1) := by decide +kernel
theorem dX11_gets_35 : decode cX11_gets 35 = .ok (.aload_n 0, 1) := by decide +kernel
theorem dX11_gets_36 : decode cX11_gets 36 = .ok (.getfield 42, 3) := by decide +kernel
theorem dX11_gets_39 : decode cX11_gets 39 = .ok (.iload_n 2, 1) := by decide +kernel
theorem dX11_gets_40 : decode cX11_gets 40 = .ok (.iaload, 1) := by decide +kernel
theorem dX11_gets_41 : decode cX11_gets 41 = .ok (.iload_n 1, 1) := by decide +kernel
theorem dX11_gets_42 : decode cX11_gets 42 = .ok (.invokestatic 290, 3) := by decide +kernel
theorem dX11_gets_45 : decode cX11_gets 45 = .ok (.ifCond .ne 5, 3) := by decide +kernel
theorem dX11_gets_48 : decode cX11_gets 48 = .ok (.iconst 2, 1) := by decide +kernel
theorem dX11_gets_49 : decode cX11_gets 49 = .ok (.ireturn, 1) := by decide +kernel
theorem dX11_gets_50 : decode cX11_gets 50 = .ok (.aload_n 0, 1) := by decide +kernel
theorem dX11_gets_51 : decode cX11_gets 51 = .ok (.iload_n 1, 1) := by decide +kernel
theorem dX11_gets_52 : decode cX11_gets 52 = .ok (.putfield 293, 3) := by decide +kernel
theorem dX11_gets_55 : decode cX11_gets 55 = .ok (.aload_n 0, 1) := by decide +kernel
theorem dX11_gets_56 : decode cX11_gets 56 = .ok (.aload_n 0, 1) := by decide +kernel
theorem dX11_gets_57 : decode cX11_gets 57 = .ok (.getfield 42, 3) := by decide +kernel
theorem dX11_gets_60 : decode cX11_gets 60 = .ok (.iload_n 2, 1) := by decide +kernel
theorem dX11_gets_61 : decode cX11_gets 61 = .ok (.iaload, 1) := by decide +kernel
theorem dX11_gets_62 : decode cX11_gets 62 = .ok (.aload_n 0, 1) := by decide +kernel
theorem dX11_gets_63 : decode cX11_gets 63 = .ok (.getfield 53, 3) := by decide +kernel
theorem dX11_gets_66 : decode cX11_gets 66 = .ok (.iload_n 2, 1) := by decide +kernel
theorem dX11_gets_67 : decode cX11_gets 67 = .ok (.aaload, 1) := by decide +kernel
theorem dX11_gets_68 : decode cX11_gets 68 = .ok (.iload_n 3, 1) := by decide +kernel
theorem dX11_gets_69 : decode cX11_gets 69 = .ok (.laload, 1) := by decide +kernel
theorem dX11_gets_70 : decode cX11_gets 70 = .ok (.iload_n 1, 1) := by decide +kernel
theorem dX11_gets_71 : decode cX11_gets 71 = .ok (.invokestatic 296, 3) := by decide +kernel
theorem dX11_gets_74 : decode cX11_gets 74 = .ok (.putfield 300, 3) := by decide +kernel
theorem dX11_gets_77 : decode cX11_gets 77 = .ok (.iconst 0, 1) := by decide +kernel
theorem dX11_gets_78 : decode cX11_gets 78 = .ok (.ireturn, 1) := by decide +kernel
theorem dX11_sets_0 : decode cX11_sets 0 = .ok (.aload_n 0, 1) := by decide +kernel
theorem dX11_sets_1 : decode cX11_sets 1 = .ok (.iload_n 2, 1) := by decide +kernel
theorem dX11_sets_2 : decode cX11_sets 2 = .ok (.invokevirtual 287, 3) := by decide +kernel
theorem dX11_sets_5 : decode cX11_sets 5 = .ok (.ifCond .eq 5, 3) := by decide +kernel
theorem dX11_sets_8 : decode cX11_sets 8 = .ok (.iconst 3, 1) := by decide +kernel
theorem dX11_sets_9 : decode cX11_sets 9 = .ok (.ireturn, 1) := by decide +kernel
theorem dX11_sets_10 : decode cX11_sets 10 = .ok (.aload_n 0, 1) := by decide +kernel
theorem dX11_sets_11 : decode cX11_sets 11 = .ok (.getfield 42, 3) := by decide +kernel
theorem dX11_sets_14 : decode cX11_sets 14 = .ok (.iload_n 2, 1) := by decide +kernel
theorem dX11_sets_15 : decode cX11_sets 15 = .ok (.iaload, 1) := by decide +kernel
theorem dX11_sets_16 : decode cX11_sets 16 = .ok (.bipush 7, 2) := by decide +kernel
theorem dX11_sets_18 : decode cX11_sets 18 = .ok (.if_icmp .le 5, 3) := by decide +kernel
theorem dX11_sets_21 : decode cX11_sets 21 = .ok (.iconst 2, 1) := by decide +kernel
theorem dX11_sets_22 : decode cX11_sets 22 = .ok (.ireturn, 1) := by decide +kernel
theorem dX11_sets_23 : decode cX11_sets 23 = .ok (.iload_n 3, 1) := by decide +kernel
theorem dX11_sets_24 : decode cX11_sets 24 = .ok (.aload_n 0, 1) := by decide +kernel
theorem dX11_sets_25 : decode cX11_sets 25 = .ok (.getfield 45, 3) := by decide +kernel
theorem dX11_sets_28 : decode cX11_sets 28 = .ok (.iload_n 2, 1) := by decide +kernel
theorem dX11_sets_29 : decode cX11_sets 29 = .ok (.iaload, 1) := by decide +kernel
theorem dX11_sets_30 : decode cX11_sets 30 = .ok (.if_icmp .lt 5, 3) := by decide +kernel
theorem dX11_sets_33 : decode cX11_sets 33 = .ok (.iconst 1, 1) := by decide +kernel
theorem dX11_sets_34 : decode cX11_sets 34 = .ok (.ireturn, 1) := by decide +kernel
theorem dX11_sets_35 : decode cX11_sets 35 = .ok (.iload_n 1, 1) := by decide +kernel
theorem dX11_sets_36 : decode cX11_sets 36 = .ok (.aload_n 0, 1) := by decide +kernel
theorem dX11_sets_37 : decode cX11_sets 37 = .ok (.getfield 42, 3) := by decide +kernel
theorem dX11_sets_40 : decode cX11_sets 40 = .ok (.iload_n 2, 1) := by decide +kernel
theorem dX11_sets_41 : decode cX11_sets 41 = .ok (.iaload, 1) := by decide +kernel
theorem dX11_sets_42 : decode cX11_sets 42 = .ok (.invokestatic 290, 3) := by decide +kernel
theorem dX11_sets_45 : decode cX11_sets 45 = .ok (.ifCond .ne 5, 3) := by decide +kernel
theorem dX11_sets_48 : decode cX11_sets 48 = .ok (.iconst 2, 1) := by decide +kernel
theorem dX11_sets_49 : decode cX11_sets 49 = .ok (.ireturn, 1) := by decide +kernel
theorem dX11_sets_50 : decode cX11_sets 50 = .ok (.aload_n 0, 1) := by decide +kernel
theorem dX11_sets_51 : decode cX11_sets 51 = .ok (.getfield 53, 3) := by decide +kernel
theorem dX11_sets_54 : decode cX11_sets 54 = .ok (.iload_n 2, 1) := by decide +kernel
theorem dX11_sets_55 : decode cX11_sets 55 = .ok (.aaload, 1) := by decide +kernel
theorem dX11_sets_56 : decode cX11_sets 56 = .ok (.iload_n 3, 1) := by decide +kernel
theorem dX11_sets_57 : decode cX11_sets 57 = .ok (.iload_n 1, 1) := by decide +kernel
theorem dX11_sets_58 : decode cX11_sets 58 = .ok (.iload 4, 2) := by decide +kernel
theorem dX11_sets_60 : decode cX11_sets 60 = .ok (.iload_n 1, 1) := by decide +kernel
theorem dX11_sets_61 : decode cX11_sets 61 = .ok (.invokestatic 304, 3) := by decide +kernel
theorem dX11_sets_64 : decode cX11_sets 64 = .ok (.aload_n 0, 1) := by decide +kernel
theorem dX11_sets_65 : decode cX11_sets 65 = .ok (.getfield 42, 3) := by decide +kernel
theorem dX11_sets_68 : decode cX11_sets 68 = .ok (.iload_n 2, 1) := by decide +kernel
theorem dX11_sets_69 : decode cX11_sets 69 = .ok (.iaload, 1) := by decide +kernel
theorem dX11_sets_70 : decode cX11_sets 70 = .ok (.invokestatic 296, 3) := by decide +kernel
theorem dX11_sets_73 : decode cX11_sets 73 = .ok (.lastore, 1) := by decide +kernel
theorem dX11_sets_74 : decode cX11_sets 74 = .ok (.iconst 0, 1) := by decide +kernel
theorem dX11_sets_75 : decode cX11_sets 75 = .ok (.ireturn, 1) := by decide +kernel
theorem dX11_boxes_0 : decode cX11_boxes 0 = .ok (.aload_n 0, 1) := by decide +kernel
theorem dX11_boxes_1 : decode cX11_boxes 1 = .ok (.iload_n 1, 1) := by decide +kernel
theorem dX11_boxes_2 : decode cX11_boxes 2 = .ok (.invokevirtual 287, 3) := by decide +kernel
theorem dX11_boxes_5 : decode cX11_boxes 5 = .ok (.ifCond .eq 5, 3) := by decide +kernel
theorem dX11_boxes_8 : decode cX11_boxes 8 = .ok (.iconst 3, 1) := by decide +kernel
theorem dX11_boxes_9 : decode cX11_boxes 9 = .ok (.ireturn, 1) := by decide +kernel
theorem dX11_boxes_10 : decode cX11_boxes 10 = .ok (.aload_n 0, 1) := by decide +kernel
theorem dX11_boxes_11 : decode cX11_boxes 11 = .ok (.getfield 42, 3) := by decide +kernel
theorem dX11_boxes_14 : decode cX11_boxes 14 = .ok (.iload_n 1, 1) := by decide +kernel
theorem dX11_boxes_15 : decode cX11_boxes 15 = .ok (.iaload, 1) := by decide +kernel
theorem dX11_boxes_16 : decode cX11_boxes 16 = .ok (.bipush 11, 2) := by decide +kernel
theorem dX11_boxes_18 : decode cX11_boxes 18 = .ok (.if_icmp .ne 5, 3) := by decide +kernel
theorem dX11_boxes_21 : decode cX11_boxes 21 = .ok (.iconst 2, 1) := by decide +kernel
theorem dX11_boxes_22 : decode cX11_boxes 22 = .ok (.ireturn, 1) := by decide +kernel
theorem dX11_boxes_23 : decode cX11_boxes 23 = .ok (.iload_n 2, 1) := by decide +kernel
theorem dX11_boxes_24 : decode cX11_boxes 24 = .ok (.aload_n 0, 1) := by decide +kernel
theorem dX11_boxes_25 : decode cX11_boxes 25 = .ok (.getfield 45, 3) := by decide +kernel
theorem dX11_boxes_28 : decode cX11_boxes 28 = .ok (.iload_n 1, 1) := by decide +kernel
theorem dX11_boxes_29 : decode cX11_boxes 29 = .ok (.iaload, 1) := by decide +kernel
theorem dX11_boxes_30 : decode cX11_boxes 30 = .ok (.if_icmp .lt 5, 3) := by decide +kernel
theorem dX11_boxes_33 : decode cX11_boxes 33 = .ok (.iconst 1, 1) := by decide +kernel
theorem dX11_boxes_34 : decode cX11_boxes 34 = .ok (.ireturn, 1) := by decide +kernel
theorem dX11_boxes_35 : decode cX11_boxes 35 = .ok (.aload_n 0, 1) := by decide +kernel
theorem dX11_boxes_36 : decode cX11_boxes 36 = .ok (.aload_n 0, 1) := by decide +kernel
theorem dX11_boxes_37 : decode cX11_boxes 37 = .ok (.getfield 48, 3) := by decide +kernel
theorem dX11_boxes_40 : decode cX11_boxes 40 = .ok (.iload_n 1, 1) := by decide +kernel
theorem dX11_boxes_41 : decode cX11_boxes 41 = .ok (.aaload, 1) := by decide +kernel
theorem dX11_boxes_42 : decode cX11_boxes 42 = .ok (.iload_n 2, 1) := by decide +kernel
theorem dX11_boxes_43 : decode cX11_boxes 43 = .ok (.iaload, 1) := by decide +kernel
theorem dX11_boxes_44 : decode cX11_boxes 44 = .ok (.putfield 293, 3) := by decide +kernel
theorem dX11_boxes_47 : decode cX11_boxes 47 = .ok (.aload_n 0, 1) := by decide +kernel
theorem dX11_boxes_48 : decode cX11_boxes 48 = .ok (.aload_n 0, 1) := by decide +kernel
theorem dX11_boxes_49 : decode cX11_boxes 49 = .ok (.getfield 53, 3) := by decide +kernel
theorem dX11_boxes_52 : decode cX11_boxes 52 = .ok (.iload_n 1, 1) := by decide +kernel
theorem dX11_boxes_53 : decode cX11_boxes 53 = .ok (.aaload, 1) := by decide +kernel
theorem dX11_boxes_54 : decode cX11_boxes 54 = .ok (.iload_n 2, 1) := by decide +kernel
theorem dX11_boxes_55 : decode cX11_boxes 55 = .ok (.laload, 1) := by decide +kernel
theorem dX11_boxes_56 : decode cX11_boxes 56 = .ok (.putfield 300, 3) := by decide +kernel
theorem dX11_boxes_59 : decode cX11_boxes 59 = .ok (.iconst 0, 1) := by decide +kernel
theorem dX11_boxes_60 : decode cX11_boxes 60 = .ok (.ireturn, 1) := by decide +kernel
theorem dX11_puts_0 : decode cX11_puts 0 = .ok (.aload_n 0, 1) := by decide +kernel
theorem dX11_puts_1 : decode cX11_puts 1 = .ok (.iload 4, 2) := by decide +kernel
theorem dX11_puts_3 : decode cX11_puts 3 = .ok (.invokevirtual 287, 3) := by decide +kernel
theorem dX11_puts_6 : decode cX11_puts 6 = .ok (.ifCond .eq 5, 3) := by decide +kernel
theorem dX11_puts_9 : decode cX11_puts 9 = .ok (.iconst 3, 1) := by decide +kernel
theorem dX11_puts_10 : decode cX11_puts 10 = .ok (.ireturn, 1) := by decide +kernel
theorem dX11_puts_11 : decode cX11_puts 11 = .ok (.aload_n 0, 1) := by decide +kernel
theorem dX11_puts_12 : decode cX11_puts 12 = .ok (.getfield 42, 3) := by decide +kernel
theorem dX11_puts_15 : decode cX11_puts 15 = .ok (.iload 4, 2) := by decide +kernel
theorem dX11_puts_17 : decode cX11_puts 17 = .ok (.iaload, 1) := by decide +kernel
theorem dX11_puts_18 : decode cX11_puts 18 = .ok (.bipush 11, 2) := by decide +kernel
theorem dX11_puts_20 : decode cX11_puts 20 = .ok (.if_icmp .eq 26, 3) := by decide +kernel
theorem dX11_puts_23 : decode cX11_puts 23 = .ok (.aload_n 0, 1) := by decide +kernel
theorem dX11_puts_24 : decode cX11_puts 24 = .ok (.getfield 42, 3) := by decide +kernel
theorem dX11_puts_27 : decode cX11_puts 27 = .ok (.iload 4, 2) := by decide +kernel
theorem dX11_puts_29 : decode cX11_puts 29 = .ok (.iaload, 1) := by decide +kernel
theorem dX11_puts_30 : decode cX11_puts 30 = .ok (.bipush 7, 2) := by decide +kernel
theorem dX11_puts_32 : decode cX11_puts 32 = .ok (.if_icmp .gt 16, 3) := by decide +kernel
theorem dX11_puts_35 : decode cX11_puts 35 = .ok (.iload_n 1, 1) := by decide +kernel
theorem dX11_puts_36 : decode cX11_puts 36 = .ok (.iconst (-1), 1) := by decide +kernel
theorem dX11_puts_37 : decode cX11_puts 37 = .ok (.if_icmp .eq 9, 3) := by decide +kernel
theorem dX11_puts_40 : decode cX11_puts 40 = .ok (.iload_n 1, 1) := by decide +kernel
theorem dX11_puts_41 : decode cX11_puts 41 = .ok (.bipush 8, 2) := by decide +kernel
theorem dX11_puts_43 : decode cX11_puts 43 = .ok (.if_icmp .ne 5, 3) := by decide +kernel
theorem dX11_puts_46 : decode cX11_puts 46 = .ok (.iconst 2, 1) := by decide +kernel
theorem dX11_puts_47 : decode cX11_puts 47 = .ok (.ireturn, 1) := by decide +kernel
theorem dX11_puts_48 : decode cX11_puts 48 = .ok (.iload 5, 2) := by decide +kernel
theorem dX11_puts_50 : decode cX11_puts 50 = .ok (.aload_n 0, 1) := by decide +kernel
theorem dX11_puts_51 : decode cX11_puts 51 = .ok (.getfield 45, 3) := by decide +kernel
theorem dX11_puts_54 : decode cX11_puts 54 = .ok (.iload 4, 2) := by decide +kernel
theorem dX11_puts_56 : decode cX11_puts 56 = .ok (.iaload, 1) := by decide +kernel
theorem dX11_puts_57 : decode cX11_puts 57 = .ok (.if_icmp .lt 5, 3) := by decide +kernel
theorem dX11_puts_60 : decode cX11_puts 60 = .ok (.iconst 1, 1) := by decide +kernel
theorem dX11_puts_61 : decode cX11_puts 61 = .ok (.ireturn, 1) := by decide +kernel
theorem dX11_puts_62 : decode cX11_puts 62 = .ok (.aload_n 0, 1) := by decide +kernel
theorem dX11_puts_63 : decode cX11_puts 63 = .ok (.getfield 42, 3) := by decide +kernel
theorem dX11_puts_66 : decode cX11_puts 66 = .ok (.iload 4, 2) := by decide +kernel
theorem dX11_puts_68 : decode cX11_puts 68 = .ok (.iaload, 1) := by decide +kernel
theorem dX11_puts_69 : decode cX11_puts 69 = .ok (.bipush 7, 2) := by decide +kernel
theorem dX11_puts_71 : decode cX11_puts 71 = .ok (.if_icmp .gt 25, 3) := by decide +kernel
theorem dX11_puts_74 : decode cX11_puts 74 = .ok (.iload_n 1, 1) := by decide +kernel
theorem dX11_puts_75 : decode cX11_puts 75 = .ok (.aload_n 0, 1) := by decide +kernel
theorem dX11_puts_76 : decode cX11_puts 76 = .ok (.getfield 42, 3) := by decide +kernel
theorem dX11_puts_79 : decode cX11_puts 79 = .ok (.iload 4, 2) := by decide +kernel
theorem dX11_puts_81 : decode cX11_puts 81 = .ok (.iaload, 1) := by decide +kernel
theorem dX11_puts_82 : decode cX11_puts 82 = .ok (.invokestatic 290, 3) := by decide +kernel
theorem dX11_puts_85 : decode cX11_puts 85 = .ok (.ifCond .ne 7, 3) := by decide +kernel
theorem dX11_puts_88 : decode cX11_puts 88 = .ok (.iconst 1, 1) := by decide +kernel
theorem dX11_puts_89 : decode cX11_puts 89 = .ok (.goto 65, 3) := by decide +kernel
theorem dX11_puts_92 : decode cX11_puts 92 = .ok (.iconst 0, 1) := by decide +kernel
theorem dX11_puts_93 : decode cX11_puts 93 = .ok (.goto 61, 3) := by decide +kernel
theorem dX11_puts_96 : decode cX11_puts 96 = .ok (.aload_n 0, 1) := by decide +kernel
theorem dX11_puts_97 : decode cX11_puts 97 = .ok (.getfield 42, 3) := by decide +kernel
theorem dX11_puts_100 : decode cX11_puts 100 = .ok (.iload 4, 2) := by decide +kernel
theorem dX11_puts_102 : decode cX11_puts 102 = .ok (.iaload, 1) := by decide +kernel
theorem dX11_puts_103 : decode cX11_puts 103 = .ok (.bipush 8, 2) := by decide +kernel
theorem dX11_puts_105 : decode cX11_puts 105 = .ok (.if_icmp .ne 22, 3) := by decide +kernel
theorem dX11_puts_108 : decode cX11_puts 108 = .ok (.iload_n 1, 1) := by decide +kernel
theorem dX11_puts_109 : decode cX11_puts 109 = .ok (.iconst (-1), 1) := by decide +kernel
theorem dX11_puts_110 : decode cX11_puts 110 = .ok (.if_icmp .eq 13, 3) := by decide +kernel
theorem dX11_puts_113 : decode cX11_puts 113 = .ok (.iload_n 1, 1) := by decide +kernel
theorem dX11_puts_114 : decode cX11_puts 114 = .ok (.bipush 8, 2) := by decide +kernel
theorem dX11_puts_116 : decode cX11_puts 116 = .ok (.if_icmp .eq 7, 3) := by decide +kernel
theorem dX11_puts_119 : decode cX11_puts 119 = .ok (.iconst 1, 1) := by decide +kernel
theorem dX11_puts_120 : decode cX11_puts 120 = .ok (.goto 34, 3) := by decide +kernel
theorem dX11_puts_123 : decode cX11_puts 123 = .ok (.iconst 0, 1) := by decide +kernel
theorem dX11_puts_124 : decode cX11_puts 124 = .ok (.goto 30, 3) := by decide +kernel
theorem dX11_puts_127 : decode cX11_puts 127 = .ok (.aload_n 0, 1) := by decide +kernel
theorem dX11_puts_128 : decode cX11_puts 128 = .ok (.getfield 42, 3) := by decide +kernel
theorem dX11_puts_131 : decode cX11_puts 131 = .ok (.iload 4, 2) := by decide +kernel
theorem dX11_puts_133 : decode cX11_puts 133 = .ok (.iaload, 1) := by decide +kernel
theorem dX11_puts_134 : decode cX11_puts 134 = .ok (.bipush 9, 2) := by decide +kernel
theorem dX11_puts_136 : decode cX11_puts 136 = .ok (.if_icmp .ne 17, 3) := by decide +kernel
theorem dX11_puts_139 : decode cX11_puts 139 = .ok (.iload_n 1, 1) := by decide +kernel
theorem dX11_puts_140 : decode cX11_puts 140 = .ok (.iconst (-1), 1) := by decide +kernel
theorem dX11_puts_141 : decode cX11_puts 141 = .ok (.if_icmp .eq 12, 3) := by decide +kernel
theorem dX11_puts_144 : decode cX11_puts 144 = .ok (.iload_n 1, 1) := by decide +kernel
theorem dX11_puts_145 : decode cX11_puts 145 = .ok (.iconst 4, 1) := by decide +kernel
theorem dX11_puts_146 : decode cX11_puts 146 = .ok (.if_icmp .eq 7, 3) := by decide +kernel
theorem dX11_puts_149 : decode cX11_puts 149 = .ok (.iconst 1, 1) := by decide +kernel
theorem dX11_puts_150 : decode cX11_puts 150 = .ok (.goto 4, 3) := by decide +kernel
theorem dX11_puts_153 : decode cX11_puts 153 = .ok (.iconst 0, 1) := by decide +kernel
theorem dX11_puts_154 : decode cX11_puts 154 = .ok (.istore 6, 2) := by decide +kernel
theorem dX11_puts_156 : decode cX11_puts 156 = .ok (.iload 6, 2) := by decide +kernel
theorem dX11_puts_158 : decode cX11_puts 158 = .ok (.ifCond .eq 5, 3) := by decide +kernel
theorem dX11_puts_161 : decode cX11_puts 161 = .ok (.iconst 2, 1) := by decide +kernel
theorem dX11_puts_162 : decode cX11_puts 162 = .ok (.ireturn, 1) := by decide +kernel
theorem dX11_puts_163 : decode cX11_puts 163 = .ok (.aload_n 0, 1) := by decide +kernel
theorem dX11_puts_164 : decode cX11_puts 164 = .ok (.getfield 48, 3) := by decide +kernel
theorem dX11_puts_167 : decode cX11_puts 167 = .ok (.iload 4, 2) := by decide +kernel
theorem dX11_puts_169 : decode cX11_puts 169 = .ok (.aaload, 1) := by decide +kernel
theorem dX11_puts_170 : decode cX11_puts 170 = .ok (.iload 5, 2) := by decide +kernel
theorem dX11_puts_172 : decode cX11_puts 172 = .ok (.aload_n 0, 1) := by decide +kernel
theorem dX11_puts_173 : decode cX11_puts 173 = .ok (.getfield 42, 3) := by decide +kernel
theorem dX11_puts_176 : decode cX11_puts 176 = .ok (.iload 4, 2) := by decide +kernel
theorem dX11_puts_178 : decode cX11_puts 178 = .ok (.iaload, 1) := by decide +kernel
theorem dX11_puts_179 : decode cX11_puts 179 = .ok (.bipush 7, 2) := by decide +kernel
theorem dX11_puts_181 : decode cX11_puts 181 = .ok (.if_icmp .gt 13, 3) := by decide +kernel
theorem dX11_puts_184 : decode cX11_puts 184 = .ok (.aload_n 0, 1) := by decide +kernel
theorem dX11_puts_185 : decode cX11_puts 185 = .ok (.getfield 42, 3) := by decide +kernel
theorem dX11_puts_188 : decode cX11_puts 188 = .ok (.iload 4, 2) := by decide +kernel
theorem dX11_puts_190 : decode cX11_puts 190 = .ok (.iaload, 1) := by decide +kernel
theorem dX11_puts_191 : decode cX11_puts 191 = .ok (.goto 4, 3) := by decide +kernel
theorem dX11_puts_194 : decode cX11_puts 194 = .ok (.iload_n 1, 1) := by decide +kernel
theorem dX11_puts_195 : decode cX11_puts 195 = .ok (.iastore, 1) := by decide +kernel
theorem dX11_puts_196 : decode cX11_puts 196 = .ok (.aload_n 0, 1) := by decide +kernel
theorem dX11_puts_197 : decode cX11_puts 197 = .ok (.getfield 53, 3) := by decide +kernel
theorem dX11_puts_200 : decode cX11_puts 200 = .ok (.iload 4, 2) := by decide +kernel
theorem dX11_puts_202 : decode cX11_puts 202 = .ok (.aaload, 1) := by decide +kernel
theorem dX11_puts_203 : decode cX11_puts 203 = .ok (.iload 5, 2) := by decide +kernel
theorem dX11_puts_205 : decode cX11_puts 205 = .ok (.iload_n 1, 1) := by decide +kernel
theorem dX11_puts_206 : decode cX11_puts 206 = .ok (.iconst (-1), 1) := by decide +kernel
theorem dX11_puts_207 : decode cX11_puts 207 = .ok (.if_icmp .ne 7, 3) := by decide +kernel
theorem dX11_puts_210 : decode cX11_puts 210 = .ok (.lconst 0, 1) := by decide +kernel
theorem dX11_puts_211 : decode cX11_puts 211 = .ok (.goto 31, 3) := by decide +kernel
theorem dX11_puts_214 : decode cX11_puts 214 = .ok (.aload_n 0, 1) := by decide +kernel
theorem dX11_puts_215 : decode cX11_puts 215 = .ok (.getfield 42, 3) := by decide +kernel
theorem dX11_puts_218 : decode cX11_puts 218 = .ok (.iload 4, 2) := by decide +kernel
theorem dX11_puts_220 : decode cX11_puts 220 = .ok (.iaload, 1) := by decide +kernel
theorem dX11_puts_221 : decode cX11_puts 221 = .ok (.bipush 7, 2) := by decide +kernel
theorem dX11_puts_223 : decode cX11_puts 223 = .ok (.if_icmp .gt 18, 3) := by decide +kernel
