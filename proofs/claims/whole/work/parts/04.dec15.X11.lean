theorem dX11_stuckAt_11 : decode cX11_stuckAt 11 = .ok (.getfield 56, 3) := by decide +kernel
theorem dX11_stuckAt_14 : decode cX11_stuckAt 14 = .ok (.iload_n 1, 1) := by decide +kernel
theorem dX11_stuckAt_15 : decode cX11_stuckAt 15 = .ok (.aaload, 1) := by decide +kernel
theorem dX11_stuckAt_16 : decode cX11_stuckAt 16 = .ok (.iconst 0, 1) := by decide +kernel
theorem dX11_stuckAt_17 : decode cX11_stuckAt 17 = .ok (.iaload, 1) := by decide +kernel
theorem dX11_stuckAt_18 : decode cX11_stuckAt 18 = .ok (.if_icmp .ge 56, 3) := by decide +kernel
theorem dX11_stuckAt_21 : decode cX11_stuckAt 21 = .ok (.aload_n 0, 1) := by decide +kernel
theorem dX11_stuckAt_22 : decode cX11_stuckAt 22 = .ok (.getfield 63, 3) := by decide +kernel
theorem dX11_stuckAt_25 : decode cX11_stuckAt 25 = .ok (.iload_n 1, 1) := by decide +kernel
theorem dX11_stuckAt_26 : decode cX11_stuckAt 26 = .ok (.aaload, 1) := by decide +kernel
theorem dX11_stuckAt_27 : decode cX11_stuckAt 27 = .ok (.aload_n 0, 1) := by decide +kernel
theorem dX11_stuckAt_28 : decode cX11_stuckAt 28 = .ok (.getfield 56, 3) := by decide +kernel
theorem dX11_stuckAt_31 : decode cX11_stuckAt 31 = .ok (.iload_n 1, 1) := by decide +kernel
theorem dX11_stuckAt_32 : decode cX11_stuckAt 32 = .ok (.aaload, 1) := by decide +kernel
theorem dX11_stuckAt_33 : decode cX11_stuckAt 33 = .ok (.iconst 0, 1) := by decide +kernel
theorem dX11_stuckAt_34 : decode cX11_stuckAt 34 = .ok (.iaload, 1) := by decide +kernel
theorem dX11_stuckAt_35 : decode cX11_stuckAt 35 = .ok (.iconst 1, 1) := by decide +kernel
theorem dX11_stuckAt_36 : decode cX11_stuckAt 36 = .ok (.isub, 1) := by decide +kernel
theorem dX11_stuckAt_37 : decode cX11_stuckAt 37 = .ok (.iload_n 3, 1) := by decide +kernel
theorem dX11_stuckAt_38 : decode cX11_stuckAt 38 = .ok (.isub, 1) := by decide +kernel
theorem dX11_stuckAt_39 : decode cX11_stuckAt 39 = .ok (.aaload, 1) := by decide +kernel
theorem dX11_stuckAt_40 : decode cX11_stuckAt 40 = .ok (.astore 4, 2) := by decide +kernel
theorem dX11_stuckAt_42 : decode cX11_stuckAt 42 = .ok (.aload 4, 2) := by decide +kernel
theorem dX11_stuckAt_44 : decode cX11_stuckAt 44 = .ok (.iconst 3, 1) := by decide +kernel
theorem dX11_stuckAt_45 : decode cX11_stuckAt 45 = .ok (.iaload, 1) := by decide +kernel
theorem dX11_stuckAt_46 : decode cX11_stuckAt 46 = .ok (.iconst 1, 1) := by decide +kernel
theorem dX11_stuckAt_47 : decode cX11_stuckAt 47 = .ok (.if_icmp .eq 19, 3) := by decide +kernel
theorem dX11_stuckAt_50 : decode cX11_stuckAt 50 = .ok (.aload_n 0, 1) := by decide +kernel
theorem dX11_stuckAt_51 : decode cX11_stuckAt 51 = .ok (.getfield 28, 3) := by decide +kernel
theorem dX11_stuckAt_54 : decode cX11_stuckAt 54 = .ok (.iload_n 2, 1) := by decide +kernel
theorem dX11_stuckAt_55 : decode cX11_stuckAt 55 = .ok (.iaload, 1) := by decide +kernel
theorem dX11_stuckAt_56 : decode cX11_stuckAt 56 = .ok (.aload 4, 2) := by decide +kernel
theorem dX11_stuckAt_58 : decode cX11_stuckAt 58 = .ok (.iconst 0, 1) := by decide +kernel
theorem dX11_stuckAt_59 : decode cX11_stuckAt 59 = .ok (.iaload, 1) := by decide +kernel
theorem dX11_stuckAt_60 : decode cX11_stuckAt 60 = .ok (.invokestatic 248, 3) := by decide +kernel
theorem dX11_stuckAt_63 : decode cX11_stuckAt 63 = .ok (.ifCond .eq 5, 3) := by decide +kernel
theorem dX11_stuckAt_66 : decode cX11_stuckAt 66 = .ok (.iload_n 3, 1) := by decide +kernel
theorem dX11_stuckAt_67 : decode cX11_stuckAt 67 = .ok (.ireturn, 1) := by decide +kernel
theorem dX11_stuckAt_68 : decode cX11_stuckAt 68 = .ok (.iinc 3 1, 3) := by decide +kernel
theorem dX11_stuckAt_71 : decode cX11_stuckAt 71 = .ok (.goto (-62), 3) := by decide +kernel
theorem dX11_stuckAt_74 : decode cX11_stuckAt 74 = .ok (.iconst (-1), 1) := by decide +kernel
theorem dX11_stuckAt_75 : decode cX11_stuckAt 75 = .ok (.ireturn, 1) := by decide +kernel
theorem dX11_leftToTurn_0 : decode cX11_leftToTurn 0 = .ok (.iconst 0, 1) := by decide +kernel
theorem dX11_leftToTurn_1 : decode cX11_leftToTurn 1 = .ok (.istore_n 1, 1) := by decide +kernel
theorem dX11_leftToTurn_2 : decode cX11_leftToTurn 2 = .ok (.iconst 0, 1) := by decide +kernel
theorem dX11_leftToTurn_3 : decode cX11_leftToTurn 3 = .ok (.istore_n 2, 1) := by decide +kernel
theorem dX11_leftToTurn_4 : decode cX11_leftToTurn 4 = .ok (.iload_n 2, 1) := by decide +kernel
theorem dX11_leftToTurn_5 : decode cX11_leftToTurn 5 = .ok (.bipush 6, 2) := by decide +kernel
theorem dX11_leftToTurn_7 : decode cX11_leftToTurn 7 = .ok (.if_icmp .ge 44, 3) := by decide +kernel
theorem dX11_leftToTurn_10 : decode cX11_leftToTurn 10 = .ok (.aload_n 0, 1) := by decide +kernel
theorem dX11_leftToTurn_11 : decode cX11_leftToTurn 11 = .ok (.getfield 69, 3) := by decide +kernel
theorem dX11_leftToTurn_14 : decode cX11_leftToTurn 14 = .ok (.iconst 1, 1) := by decide +kernel
theorem dX11_leftToTurn_15 : decode cX11_leftToTurn 15 = .ok (.iaload, 1) := by decide +kernel
theorem dX11_leftToTurn_16 : decode cX11_leftToTurn 16 = .ok (.iconst (-1), 1) := by decide +kernel
theorem dX11_leftToTurn_17 : decode cX11_leftToTurn 17 = .ok (.if_icmp .eq 34, 3) := by decide +kernel
theorem dX11_leftToTurn_20 : decode cX11_leftToTurn 20 = .ok (.iload_n 1, 1) := by decide +kernel
theorem dX11_leftToTurn_21 : decode cX11_leftToTurn 21 = .ok (.aload_n 0, 1) := by decide +kernel
theorem dX11_leftToTurn_22 : decode cX11_leftToTurn 22 = .ok (.getfield 56, 3) := by decide +kernel
theorem dX11_leftToTurn_25 : decode cX11_leftToTurn 25 = .ok (.iload_n 2, 1) := by decide +kernel
theorem dX11_leftToTurn_26 : decode cX11_leftToTurn 26 = .ok (.aaload, 1) := by decide +kernel
theorem dX11_leftToTurn_27 : decode cX11_leftToTurn 27 = .ok (.iconst 4, 1) := by decide +kernel
theorem dX11_leftToTurn_28 : decode cX11_leftToTurn 28 = .ok (.iaload, 1) := by decide +kernel
theorem dX11_leftToTurn_29 : decode cX11_leftToTurn 29 = .ok (.aload_n 0, 1) := by decide +kernel
theorem dX11_leftToTurn_30 : decode cX11_leftToTurn 30 = .ok (.getfield 69, 3) := by decide +kernel
theorem dX11_leftToTurn_33 : decode cX11_leftToTurn 33 = .ok (.iconst 2, 1) := by decide +kernel
theorem dX11_leftToTurn_34 : decode cX11_leftToTurn 34 = .ok (.iaload, 1) := by decide +kernel
theorem dX11_leftToTurn_35 : decode cX11_leftToTurn 35 = .ok (.if_icmp .ne 7, 3) := by decide +kernel
theorem dX11_leftToTurn_38 : decode cX11_leftToTurn 38 = .ok (.iconst 0, 1) := by decide +kernel
theorem dX11_leftToTurn_39 : decode cX11_leftToTurn 39 = .ok (.goto 4, 3) := by decide +kernel
theorem dX11_leftToTurn_42 : decode cX11_leftToTurn 42 = .ok (.iconst 1, 1) := by decide +kernel
theorem dX11_leftToTurn_43 : decode cX11_leftToTurn 43 = .ok (.iadd, 1) := by decide +kernel
theorem dX11_leftToTurn_44 : decode cX11_leftToTurn 44 = .ok (.istore_n 1, 1) := by decide +kernel
theorem dX11_leftToTurn_45 : decode cX11_leftToTurn 45 = .ok (.iinc 2 1, 3) := by decide +kernel
theorem dX11_leftToTurn_48 : decode cX11_leftToTurn 48 = .ok (.goto (-44), 3) := by decide +kernel
theorem dX11_leftToTurn_51 : decode cX11_leftToTurn 51 = .ok (.iload_n 1, 1) := by decide +kernel
theorem dX11_leftToTurn_52 : decode cX11_leftToTurn 52 = .ok (.ireturn, 1) := by decide +kernel
theorem dX11_looks_0 : decode cX11_looks 0 = .ok (.aload_n 0, 1) := by decide +kernel
theorem dX11_looks_1 : decode cX11_looks 1 = .ok (.getfield 69, 3) := by decide +kernel
theorem dX11_looks_4 : decode cX11_looks 4 = .ok (.iconst 1, 1) := by decide +kernel
theorem dX11_looks_5 : decode cX11_looks 5 = .ok (.iaload, 1) := by decide +kernel
theorem dX11_looks_6 : decode cX11_looks 6 = .ok (.iconst (-1), 1) := by decide +kernel
theorem dX11_looks_7 : decode cX11_looks 7 = .ok (.if_icmp .ne 4, 3) := by decide +kernel
theorem dX11_looks_10 : decode cX11_looks 10 = .ok (.return_, 1) := by decide +kernel
theorem dX11_looks_11 : decode cX11_looks 11 = .ok (.iconst 0, 1) := by decide +kernel
theorem dX11_looks_12 : decode cX11_looks 12 = .ok (.istore_n 1, 1) := by decide +kernel
theorem dX11_looks_13 : decode cX11_looks 13 = .ok (.iload_n 1, 1) := by decide +kernel
theorem dX11_looks_14 : decode cX11_looks 14 = .ok (.bipush 6, 2) := by decide +kernel
theorem dX11_looks_16 : decode cX11_looks 16 = .ok (.if_icmp .ge 49, 3) := by decide +kernel
theorem dX11_looks_19 : decode cX11_looks 19 = .ok (.aload_n 0, 1) := by decide +kernel
theorem dX11_looks_20 : decode cX11_looks 20 = .ok (.getfield 56, 3) := by decide +kernel
theorem dX11_looks_23 : decode cX11_looks 23 = .ok (.iload_n 1, 1) := by decide +kernel
theorem dX11_looks_24 : decode cX11_looks 24 = .ok (.aaload, 1) := by decide +kernel
theorem dX11_looks_25 : decode cX11_looks 25 = .ok (.iconst 4, 1) := by decide +kernel
theorem dX11_looks_26 : decode cX11_looks 26 = .ok (.iaload, 1) := by decide +kernel
theorem dX11_looks_27 : decode cX11_looks 27 = .ok (.aload_n 0, 1) := by decide +kernel
theorem dX11_looks_28 : decode cX11_looks 28 = .ok (.getfield 69, 3) := by decide +kernel
theorem dX11_looks_31 : decode cX11_looks 31 = .ok (.iconst 2, 1) := by decide +kernel
theorem dX11_looks_32 : decode cX11_looks 32 = .ok (.iaload, 1) := by decide +kernel
theorem dX11_looks_33 : decode cX11_looks 33 = .ok (.if_icmp .eq 26, 3) := by decide +kernel
theorem dX11_looks_36 : decode cX11_looks 36 = .ok (.aload_n 0, 1) := by decide +kernel
theorem dX11_looks_37 : decode cX11_looks 37 = .ok (.iload_n 1, 1) := by decide +kernel
theorem dX11_looks_38 : decode cX11_looks 38 = .ok (.invokevirtual 374, 3) := by decide +kernel
theorem dX11_looks_41 : decode cX11_looks 41 = .ok (.iconst (-1), 1) := by decide +kernel
theorem dX11_looks_42 : decode cX11_looks 42 = .ok (.if_icmp .ne 17, 3) := by decide +kernel
theorem dX11_looks_45 : decode cX11_looks 45 = .ok (.aload_n 0, 1) := by decide +kernel
theorem dX11_looks_46 : decode cX11_looks 46 = .ok (.getfield 56, 3) := by decide +kernel
theorem dX11_looks_49 : decode cX11_looks 49 = .ok (.iload_n 1, 1) := by decide +kernel
theorem dX11_looks_50 : decode cX11_looks 50 = .ok (.aaload, 1) := by decide +kernel
theorem dX11_looks_51 : decode cX11_looks 51 = .ok (.iconst 4, 1) := by decide +kernel
theorem dX11_looks_52 : decode cX11_looks 52 = .ok (.aload_n 0, 1) := by decide +kernel
theorem dX11_looks_53 : decode cX11_looks 53 = .ok (.getfield 69, 3) := by decide +kernel
theorem dX11_looks_56 : decode cX11_looks 56 = .ok (.iconst 2, 1) := by decide +kernel
theorem dX11_looks_57 : decode cX11_looks 57 = .ok (.iaload, 1) := by decide +kernel
theorem dX11_looks_58 : decode cX11_looks 58 = .ok (.iastore, 1) := by decide +kernel
theorem dX11_looks_59 : decode cX11_looks 59 = .ok (.iinc 1 1, 3) := by decide +kernel
theorem dX11_looks_62 : decode cX11_looks 62 = .ok (.goto (-49), 3) := by decide +kernel
theorem dX11_looks_65 : decode cX11_looks 65 = .ok (.aload_n 0, 1) := by decide +kernel
theorem dX11_looks_66 : decode cX11_looks 66 = .ok (.invokevirtual 377, 3) := by decide +kernel
theorem dX11_looks_69 : decode cX11_looks 69 = .ok (.ifCond .ne 7, 3) := by decide +kernel
theorem dX11_looks_72 : decode cX11_looks 72 = .ok (.aload_n 0, 1) := by decide +kernel
theorem dX11_looks_73 : decode cX11_looks 73 = .ok (.invokevirtual 380, 3) := by decide +kernel
theorem dX11_looks_76 : decode cX11_looks 76 = .ok (.return_, 1) := by decide +kernel
theorem dX11_isOver_0 : decode cX11_isOver 0 = .ok (.aload_n 0, 1) := by decide +kernel
theorem dX11_isOver_1 : decode cX11_isOver 1 = .ok (.getfield 69, 3) := by decide +kernel
theorem dX11_isOver_4 : decode cX11_isOver 4 = .ok (.iconst 1, 1) := by decide +kernel
theorem dX11_isOver_5 : decode cX11_isOver 5 = .ok (.iaload, 1) := by decide +kernel
theorem dX11_isOver_6 : decode cX11_isOver 6 = .ok (.istore_n 1, 1) := by decide +kernel
theorem dX11_isOver_7 : decode cX11_isOver 7 = .ok (.aload_n 0, 1) := by decide +kernel
theorem dX11_isOver_8 : decode cX11_isOver 8 = .ok (.getfield 69, 3) := by decide +kernel
theorem dX11_isOver_11 : decode cX11_isOver 11 = .ok (.iconst 2, 1) := by decide +kernel
theorem dX11_isOver_12 : decode cX11_isOver 12 = .ok (.iaload, 1) := by decide +kernel
theorem dX11_isOver_13 : decode cX11_isOver 13 = .ok (.istore_n 2, 1) := by decide +kernel
theorem dX11_isOver_14 : decode cX11_isOver 14 = .ok (.aload_n 0, 1) := by decide +kernel
theorem dX11_isOver_15 : decode cX11_isOver 15 = .ok (.getfield 69, 3) := by decide +kernel
theorem dX11_isOver_18 : decode cX11_isOver 18 = .ok (.iconst 1, 1) := by decide +kernel
theorem dX11_isOver_19 : decode cX11_isOver 19 = .ok (.iconst (-1), 1) := by decide +kernel
theorem dX11_isOver_20 : decode cX11_isOver 20 = .ok (.iastore, 1) := by decide +kernel
theorem dX11_isOver_21 : decode cX11_isOver 21 = .ok (.aload_n 0, 1) := by decide +kernel
theorem dX11_isOver_22 : decode cX11_isOver 22 = .ok (.getfield 69, 3) := by decide +kernel
theorem dX11_isOver_25 : decode cX11_isOver 25 = .ok (.iconst 2, 1) := by decide +kernel
theorem dX11_isOver_26 : decode cX11_isOver 26 = .ok (.iconst (-1), 1) := by decide +kernel
theorem dX11_isOver_27 : decode cX11_isOver 27 = .ok (.iastore, 1) := by decide +kernel
theorem dX11_isOver_28 : decode cX11_isOver 28 = .ok (.aload_n 0, 1) := by decide +kernel
theorem dX11_isOver_29 : decode cX11_isOver 29 = .ok (.getfield 69, 3) := by decide +kernel
theorem dX11_isOver_32 : decode cX11_isOver 32 = .ok (.iconst 4, 1) := by decide +kernel
theorem dX11_isOver_33 : decode cX11_isOver 33 = .ok (.dup2, 1) := by decide +kernel
theorem dX11_isOver_34 : decode cX11_isOver 34 = .ok (.iaload, 1) := by decide +kernel
theorem dX11_isOver_35 : decode cX11_isOver 35 = .ok (.iconst 1, 1) := by decide +kernel
theorem dX11_isOver_36 : decode cX11_isOver 36 = .ok (.iadd, 1) := by decide +kernel
theorem dX11_isOver_37 : decode cX11_isOver 37 = .ok (.iastore, 1) := by decide +kernel
theorem dX11_isOver_38 : decode cX11_isOver 38 = .ok (.iconst 0, 1) := by decide +kernel
theorem dX11_isOver_39 : decode cX11_isOver 39 = .ok (.istore_n 3, 1) := by decide +kernel
theorem dX11_isOver_40 : decode cX11_isOver 40 = .ok (.iload_n 3, 1) := by decide +kernel
theorem dX11_isOver_41 : decode cX11_isOver 41 = .ok (.bipush 6, 2) := by decide +kernel
theorem dX11_isOver_43 : decode cX11_isOver 43 = .ok (.if_icmp .ge 18, 3) := by decide +kernel
theorem dX11_isOver_46 : decode cX11_isOver 46 = .ok (.aload_n 0, 1) := by decide +kernel
theorem dX11_isOver_47 : decode cX11_isOver 47 = .ok (.getfield 56, 3) := by decide +kernel
theorem dX11_isOver_50 : decode cX11_isOver 50 = .ok (.iload_n 3, 1) := by decide +kernel
theorem dX11_isOver_51 : decode cX11_isOver 51 = .ok (.aaload, 1) := by decide +kernel
theorem dX11_isOver_52 : decode cX11_isOver 52 = .ok (.iconst 4, 1) := by decide +kernel
theorem dX11_isOver_53 : decode cX11_isOver 53 = .ok (.iconst 0, 1) := by decide +kernel
theorem dX11_isOver_54 : decode cX11_isOver 54 = .ok (.iastore, 1) := by decide +kernel
theorem dX11_isOver_55 : decode cX11_isOver 55 = .ok (.iinc 3 1, 3) := by decide +kernel
theorem dX11_isOver_58 : decode cX11_isOver 58 = .ok (.goto (-18), 3) := by decide +kernel
theorem dX11_isOver_61 : decode cX11_isOver 61 = .ok (.iload_n 2, 1) := by decide +kernel
theorem dX11_isOver_62 : decode cX11_isOver 62 = .ok (.iconst 1, 1) := by decide +kernel
theorem dX11_isOver_63 : decode cX11_isOver 63 = .ok (.if_icmp .ne 38, 3) := by decide +kernel
theorem dX11_isOver_66 : decode cX11_isOver 66 = .ok (.aload_n 0, 1) := by decide +kernel
theorem dX11_isOver_67 : decode cX11_isOver 67 = .ok (.iload_n 1, 1) := by decide +kernel
theorem dX11_isOver_68 : decode cX11_isOver 68 = .ok (.bipush 9, 2) := by decide +kernel
theorem dX11_isOver_70 : decode cX11_isOver 70 = .ok (.invokestatic 278, 3) := by decide +kernel
theorem dX11_isOver_73 : decode cX11_isOver 73 = .ok (.invokevirtual 383, 3) := by decide +kernel
theorem dX11_isOver_76 : decode cX11_isOver 76 = .ok (.aload_n 0, 1) := by decide +kernel
theorem dX11_isOver_77 : decode cX11_isOver 77 = .ok (.getfield 31, 3) := by decide +kernel
theorem dX11_isOver_80 : decode cX11_isOver 80 = .ok (.iload_n 1, 1) := by decide +kernel
theorem dX11_isOver_81 : decode cX11_isOver 81 = .ok (.iaload, 1) := by decide +kernel
theorem dX11_isOver_82 : decode cX11_isOver 82 = .ok (.ifCond .ne 4, 3) := by decide +kernel
theorem dX11_isOver_85 : decode cX11_isOver 85 = .ok (.return_, 1) := by decide +kernel
theorem dX11_isOver_86 : decode cX11_isOver 86 = .ok (.aload_n 0, 1) := by decide +kernel
theorem dX11_isOver_87 : decode cX11_isOver 87 = .ok (.getfield 66, 3) := by decide +kernel
theorem dX11_isOver_90 : decode cX11_isOver 90 = .ok (.iconst 0, 1) := by decide +kernel
theorem dX11_isOver_91 : decode cX11_isOver 91 = .ok (.iload_n 1, 1) := by decide +kernel
theorem dX11_isOver_92 : decode cX11_isOver 92 = .ok (.iastore, 1) := by decide +kernel
theorem dX11_isOver_93 : decode cX11_isOver 93 = .ok (.aload_n 0, 1) := by decide +kernel
theorem dX11_isOver_94 : decode cX11_isOver 94 = .ok (.getfield 69, 3) := by decide +kernel
theorem dX11_isOver_97 : decode cX11_isOver 97 = .ok (.iconst 0, 1) := by decide +kernel
theorem dX11_isOver_98 : decode cX11_isOver 98 = .ok (.iconst 1, 1) := by decide +kernel
theorem dX11_isOver_99 : decode cX11_isOver 99 = .ok (.iastore, 1) := by decide +kernel
theorem dX11_isOver_100 : decode cX11_isOver 100 = .ok (.return_, 1) := by decide +kernel
theorem dX11_isOver_101 : decode cX11_isOver 101 = .ok (.aload_n 0, 1) := by decide +kernel
theorem dX11_isOver_102 : decode cX11_isOver 102 = .ok (.getfield 69, 3) := by decide +kernel
theorem dX11_isOver_105 : decode cX11_isOver 105 = .ok (.iconst 0, 1) := by decide +kernel
theorem dX11_isOver_106 : decode cX11_isOver 106 = .ok (.dup2, 1) := by decide +kernel
theorem dX11_isOver_107 : decode cX11_isOver 107 = .ok (.iaload, 1) := by decide +kernel
theorem dX11_isOver_108 : decode cX11_isOver 108 = .ok (.iconst 1, 1) := by decide +kernel
theorem dX11_isOver_109 : decode cX11_isOver 109 = .ok (.isub, 1) := by decide +kernel
theorem dX11_isOver_110 : decode cX11_isOver 110 = .ok (.iastore, 1) := by decide +kernel
theorem dX11_isOver_111 : decode cX11_isOver 111 = .ok (.aload_n 0, 1) := by decide +kernel
theorem dX11_isOver_112 : decode cX11_isOver 112 = .ok (.iload_n 1, 1) := by decide +kernel
theorem dX11_isOver_113 : decode cX11_isOver 113 = .ok (.bipush 10, 2) := by decide +kernel
theorem dX11_isOver_115 : decode cX11_isOver 115 = .ok (.invokestatic 278, 3) := by decide +kernel
theorem dX11_isOver_118 : decode cX11_isOver 118 = .ok (.invokevirtual 383, 3) := by decide +kernel
theorem dX11_isOver_121 : decode cX11_isOver 121 = .ok (.return_, 1) := by decide +kernel
theorem dX11_isStacked_0 : decode cX11_isStacked 0 = .ok (.iconst 0, 1) := by decide +kernel
theorem dX11_isStacked_1 : decode cX11_isStacked 1 = .ok (.istore_n 2, 1) := by decide +kernel
theorem dX11_isStacked_2 : decode cX11_isStacked 2 = .ok (.iload_n 2, 1) := by decide +kernel
theorem dX11_isStacked_3 : decode cX11_isStacked 3 = .ok (.aload_n 0, 1) := by decide +kernel
theorem dX11_isStacked_4 : decode cX11_isStacked 4 = .ok (.getfield 69, 3) := by decide +kernel
theorem dX11_isStacked_7 : decode cX11_isStacked 7 = .ok (.iconst 0, 1) := by decide +kernel
theorem dX11_isStacked_8 : decode cX11_isStacked 8 = .ok (.iaload, 1) := by decide +kernel
theorem dX11_isStacked_9 : decode cX11_isStacked 9 = .ok (.if_icmp .ge 21, 3) := by decide +kernel
theorem dX11_isStacked_12 : decode cX11_isStacked 12 = .ok (.aload_n 0, 1) := by decide +kernel
theorem dX11_isStacked_13 : decode cX11_isStacked 13 = .ok (.getfield 66, 3) := by decide +kernel
theorem dX11_isStacked_16 : decode cX11_isStacked 16 = .ok (.iload_n 2, 1) := by decide +kernel
theorem dX11_isStacked_17 : decode cX11_isStacked 17 = .ok (.iaload, 1) := by decide +kernel
theorem dX11_isStacked_18 : decode cX11_isStacked 18 = .ok (.iload_n 1, 1) := by decide +kernel
theorem dX11_isStacked_19 : decode cX11_isStacked 19 = .ok (.if_icmp .ne 5, 3) := by decide +kernel
theorem dX11_isStacked_22 : decode cX11_isStacked 22 = .ok (.iconst 1, 1) := by decide +kernel
theorem dX11_isStacked_23 : decode cX11_isStacked 23 = .ok (.ireturn, 1) := by decide +kernel
theorem dX11_isStacked_24 : decode cX11_isStacked 24 = .ok (.iinc 2 1, 3) := by decide +kernel
theorem dX11_isStacked_27 : decode cX11_isStacked 27 = .ok (.goto (-25), 3) := by decide +kernel
theorem dX11_isStacked_30 : decode cX11_isStacked 30 = .ok (.iconst 0, 1) := by decide +kernel
theorem dX11_isStacked_31 : decode cX11_isStacked 31 = .ok (.ireturn, 1) := by decide +kernel
theorem dX11_turns_0 : decode cX11_turns 0 = .ok (.aload_n 0, 1) := by decide +kernel
theorem dX11_turns_1 : decode cX11_turns 1 = .ok (.getfield 69, 3) := by decide +kernel
theorem dX11_turns_4 : decode cX11_turns 4 = .ok (.iconst 1, 1) := by decide +kernel
theorem dX11_turns_5 : decode cX11_turns 5 = .ok (.iload_n 1, 1) := by decide +kernel
theorem dX11_turns_6 : decode cX11_turns 6 = .ok (.iastore, 1) := by decide +kernel
theorem dX11_turns_7 : decode cX11_turns 7 = .ok (.aload_n 0, 1) := by decide +kernel
theorem dX11_turns_8 : decode cX11_turns 8 = .ok (.getfield 69, 3) := by decide +kernel
theorem dX11_turns_11 : decode cX11_turns 11 = .ok (.iconst 2, 1) := by decide +kernel
theorem dX11_turns_12 : decode cX11_turns 12 = .ok (.iload_n 2, 1) := by decide +kernel
theorem dX11_turns_13 : decode cX11_turns 13 = .ok (.iastore, 1) := by decide +kernel
theorem dX11_turns_14 : decode cX11_turns 14 = .ok (.iconst 0, 1) := by decide +kernel
theorem dX11_turns_15 : decode cX11_turns 15 = .ok (.istore_n 3, 1) := by decide +kernel
theorem dX11_turns_16 : decode cX11_turns 16 = .ok (.iload_n 3, 1) := by decide +kernel
theorem dX11_turns_17 : decode cX11_turns 17 = .ok (.bipush 6, 2) := by decide +kernel
theorem dX11_turns_19 : decode cX11_turns 19 = .ok (.if_icmp .ge 20, 3) := by decide +kernel
theorem dX11_turns_22 : decode cX11_turns 22 = .ok (.aload_n 0, 1) := by decide +kernel
theorem dX11_turns_23 : decode cX11_turns 23 = .ok (.getfield 56, 3) := by decide +kernel
theorem dX11_turns_26 : decode cX11_turns 26 = .ok (.iload_n 3, 1) := by decide +kernel
theorem dX11_turns_27 : decode cX11_turns 27 = .ok (.aaload, 1) := by decide +kernel
theorem dX11_turns_28 : decode cX11_turns 28 = .ok (.iconst 4, 1) := by decide +kernel
theorem dX11_turns_29 : decode cX11_turns 29 = .ok (.iconst 1, 1) := by decide +kernel
theorem dX11_turns_30 : decode cX11_turns 30 = .ok (.iload_n 2, 1) := by decide +kernel
theorem dX11_turns_31 : decode cX11_turns 31 = .ok (.isub, 1) := by decide +kernel
theorem dX11_turns_32 : decode cX11_turns 32 = .ok (.iastore, 1) := by decide +kernel
theorem dX11_turns_33 : decode cX11_turns 33 = .ok (.iinc 3 1, 3) := by decide +kernel
theorem dX11_turns_36 : decode cX11_turns 36 = .ok (.goto (-20), 3) := by decide +kernel
theorem dX11_turns_39 : decode cX11_turns 39 = .ok (.aload_n 0, 1) := by decide +kernel
theorem dX11_turns_40 : decode cX11_turns 40 = .ok (.invokevirtual 386, 3) := by decide +kernel
theorem dX11_turns_43 : decode cX11_turns 43 = .ok (.return_, 1) := by decide +kernel
theorem dX11_isPatch_0 : decode cX11_isPatch 0 = .ok (.iload_n 1, 1) := by decide +kernel
theorem dX11_isPatch_1 : decode cX11_isPatch 1 = .ok (.iconst 0, 1) := by decide +kernel
theorem dX11_isPatch_2 : decode cX11_isPatch 2 = .ok (.aload_n 0, 1) := by decide +kernel
theorem dX11_isPatch_3 : decode cX11_isPatch 3 = .ok (.getfield 272, 3) := by decide +kernel
theorem dX11_isPatch_6 : decode cX11_isPatch 6 = .ok (.iconst 1, 1) := by decide +kernel
theorem dX11_isPatch_7 : decode cX11_isPatch 7 = .ok (.isub, 1) := by decide +kernel
theorem dX11_isPatch_8 : decode cX11_isPatch 8 = .ok (.invokestatic 121, 3) := by decide +kernel
theorem dX11_isPatch_11 : decode cX11_isPatch 11 = .ok (.ireturn, 1) := by decide +kernel
theorem dX11_enable_0 : decode cX11_enable 0 = .ok (.aload_n 0, 1) := by decide +kernel
theorem dX11_enable_1 : decode cX11_enable 1 = .ok (.iconst 0, 1) := by decide +kernel
theorem dX11_enable_2 : decode cX11_enable 2 = .ok (.putfield 78, 3) := by decide +kernel
theorem dX11_enable_5 : decode cX11_enable 5 = .ok (.aload_n 0, 1) := by decide +kernel
theorem dX11_enable_6 : decode cX11_enable 6 = .ok (.aload_n 0, 1) := by decide +kernel
theorem dX11_enable_7 : decode cX11_enable 7 = .ok (.iload_n 1, 1) := by decide +kernel
theorem dX11_enable_8 : decode cX11_enable 8 = .ok (.invokevirtual 389, 3) := by decide +kernel
theorem dX11_enable_11 : decode cX11_enable 11 = .ok (.ifCond .ne 7, 3) := by decide +kernel
theorem dX11_enable_14 : decode cX11_enable 14 = .ok (.iconst 1, 1) := by decide +kernel
theorem dX11_enable_15 : decode cX11_enable 15 = .ok (.goto 4, 3) := by decide +kernel
theorem dX11_enable_18 : decode cX11_enable 18 = .ok (.iconst 0, 1) := by decide +kernel
theorem dX11_enable_19 : decode cX11_enable 19 = .ok (.iconst 1, 1) := by decide +kernel
theorem dX11_enable_20 : decode cX11_enable 20 = .ok (.iconst 0, 1) := by decide +kernel
theorem dX11_enable_21 : decode cX11_enable 21 = .ok (.invokevirtual 229, 3) := by decide +kernel
theorem dX11_enable_24 : decode cX11_enable 24 = .ok (.ifCond .ne 35, 3) := by decide +kernel
theorem dX11_enable_27 : decode cX11_enable 27 = .ok (.aload_n 0, 1) := by decide +kernel
theorem dX11_enable_28 : decode cX11_enable 28 = .ok (.aload_n 0, 1) := by decide +kernel
theorem dX11_enable_29 : decode cX11_enable 29 = .ok (.iload_n 1, 1) := by decide +kernel
theorem dX11_enable_30 : decode cX11_enable 30 = .ok (.invokevirtual 392, 3) := by decide +kernel
theorem dX11_enable_33 : decode cX11_enable 33 = .ok (.ifCond .ne 13, 3) := by decide +kernel
theorem dX11_enable_36 : decode cX11_enable 36 = .ok (.aload_n 0, 1) := by decide +kernel
theorem dX11_enable_37 : decode cX11_enable 37 = .ok (.getfield 69, 3) := by decide +kernel
theorem dX11_enable_40 : decode cX11_enable 40 = .ok (.iconst 1, 1) := by decide +kernel
theorem dX11_enable_41 : decode cX11_enable 41 = .ok (.iaload, 1) := by decide +kernel
theorem dX11_enable_42 : decode cX11_enable 42 = .ok (.iconst (-1), 1) := by decide +kernel
theorem dX11_enable_43 : decode cX11_enable 43 = .ok (.if_icmp .eq 7, 3) := by decide +kernel
theorem dX11_enable_46 : decode cX11_enable 46 = .ok (.iconst 1, 1) := by decide +kernel
theorem dX11_enable_47 : decode cX11_enable 47 = .ok (.goto 4, 3) := by decide +kernel
theorem dX11_enable_50 : decode cX11_enable 50 = .ok (.iconst 0, 1) := by decide +kernel
theorem dX11_enable_51 : decode cX11_enable 51 = .ok (.iconst 2, 1) := by decide +kernel
theorem dX11_enable_52 : decode cX11_enable 52 = .ok (.iconst 2, 1) := by decide +kernel
theorem dX11_enable_53 : decode cX11_enable 53 = .ok (.invokevirtual 229, 3) := by decide +kernel
theorem dX11_enable_56 : decode cX11_enable 56 = .ok (.ifCond .eq 5, 3) := by decide +kernel
theorem dX11_enable_59 : decode cX11_enable 59 = .ok (.iconst 0, 1) := by decide +kernel
theorem dX11_enable_60 : decode cX11_enable 60 = .ok (.ireturn, 1) := by decide +kernel
theorem dX11_enable_61 : decode cX11_enable 61 = .ok (.aload_n 0, 1) := by decide +kernel
theorem dX11_enable_62 : decode cX11_enable 62 = .ok (.iload_n 1, 1) := by decide +kernel
theorem dX11_enable_63 : decode cX11_enable 63 = .ok (.bipush 8, 2) := by decide +kernel
theorem dX11_enable_65 : decode cX11_enable 65 = .ok (.invokestatic 278, 3) := by decide +kernel
theorem dX11_enable_68 : decode cX11_enable 68 = .ok (.invokevirtual 383, 3) := by decide +kernel
theorem dX11_enable_71 : decode cX11_enable 71 = .ok (.aload_n 0, 1) := by decide +kernel
theorem dX11_enable_72 : decode cX11_enable 72 = .ok (.getfield 66, 3) := by decide +kernel
theorem dX11_enable_75 : decode cX11_enable 75 = .ok (.aload_n 0, 1) := by decide +kernel
theorem dX11_enable_76 : decode cX11_enable 76 = .ok (.getfield 69, 3) := by decide +kernel
theorem dX11_enable_79 : decode cX11_enable 79 = .ok (.iconst 0, 1) := by decide +kernel
theorem dX11_enable_80 : decode cX11_enable 80 = .ok (.iaload, 1) := by decide +kernel
theorem dX11_enable_81 : decode cX11_enable 81 = .ok (.iload_n 1, 1) := by decide +kernel
theorem dX11_enable_82 : decode cX11_enable 82 = .ok (.iastore, 1) := by decide +kernel
theorem dX11_enable_83 : decode cX11_enable 83 = .ok (.aload_n 0, 1) := by decide +kernel
theorem dX11_enable_84 : decode cX11_enable 84 = .ok (.getfield 69, 3) := by decide +kernel
theorem dX11_enable_87 : decode cX11_enable 87 = .ok (.iconst 0, 1) := by decide +kernel
theorem dX11_enable_88 : decode cX11_enable 88 = .ok (.dup2, 1) := by decide +kernel
theorem dX11_enable_89 : decode cX11_enable 89 = .ok (.iaload, 1) := by decide +kernel
theorem dX11_enable_90 : decode cX11_enable 90 = .ok (.iconst 1, 1) := by decide +kernel
theorem dX11_enable_91 : decode cX11_enable 91 = .ok (.iadd, 1) := by decide +kernel
theorem dX11_enable_92 : decode cX11_enable 92 = .ok (.iastore, 1) := by decide +kernel
theorem dX11_enable_93 : decode cX11_enable 93 = .ok (.aload_n 0, 1) := by decide +kernel
theorem dX11_enable_94 : decode cX11_enable 94 = .ok (.getfield 34, 3) := by decide +kernel
theorem dX11_enable_97 : decode cX11_enable 97 = .ok (.iload_n 1, 1) := by decide +kernel
theorem dX11_enable_98 : decode cX11_enable 98 = .ok (.dup2, 1) := by decide +kernel
theorem dX11_enable_99 : decode cX11_enable 99 = .ok (.iaload, 1) := by decide +kernel
theorem dX11_enable_100 : decode cX11_enable 100 = .ok (.iconst 1, 1) := by decide +kernel
theorem dX11_enable_101 : decode cX11_enable 101 = .ok (.iadd, 1) := by decide +kernel
theorem dX11_enable_102 : decode cX11_enable 102 = .ok (.iastore, 1) := by decide +kernel
theorem dX11_enable_103 : decode cX11_enable 103 = .ok (.aload_n 0, 1) := by decide +kernel
theorem dX11_enable_104 : decode cX11_enable 104 = .ok (.iload_n 1, 1) := by decide +kernel
theorem dX11_enable_105 : decode cX11_enable 105 = .ok (.iconst 1, 1) := by decide +kernel
theorem dX11_enable_106 : decode cX11_enable 106 = .ok (.invokevirtual 395, 3) := by decide +kernel
theorem dX11_enable_109 : decode cX11_enable 109 = .ok (.aload_n 0, 1) := by decide +kernel
theorem dX11_enable_110 : decode cX11_enable 110 = .ok (.invokevirtual 377, 3) := by decide +kernel
theorem dX11_enable_113 : decode cX11_enable 113 = .ok (.ireturn, 1) := by decide +kernel
theorem dX11_disable_0 : decode cX11_disable 0 = .ok (.aload_n 0, 1) := by decide +kernel
theorem dX11_disable_1 : decode cX11_disable 1 = .ok (.iconst 0, 1) := by decide +kernel
theorem dX11_disable_2 : decode cX11_disable 2 = .ok (.putfield 78, 3) := by decide +kernel
theorem dX11_disable_5 : decode cX11_disable 5 = .ok (.aload_n 0, 1) := by decide +kernel
theorem dX11_disable_6 : decode cX11_disable 6 = .ok (.aload_n 0, 1) := by decide +kernel
theorem dX11_disable_7 : decode cX11_disable 7 = .ok (.getfield 69, 3) := by decide +kernel
theorem dX11_disable_10 : decode cX11_disable 10 = .ok (.iconst 0, 1) := by decide +kernel
theorem dX11_disable_11 : decode cX11_disable 11 = .ok (.iaload, 1) := by decide +kernel
theorem dX11_disable_12 : decode cX11_disable 12 = .ok (.ifCond .eq 13, 3) := by decide +kernel
theorem dX11_disable_15 : decode cX11_disable 15 = .ok (.aload_n 0, 1) := by decide +kernel
theorem dX11_disable_16 : decode cX11_disable 16 = .ok (.getfield 69, 3) := by decide +kernel
theorem dX11_disable_19 : decode cX11_disable 19 = .ok (.iconst 1, 1) := by decide +kernel
theorem dX11_disable_20 : decode cX11_disable 20 = .ok (.iaload, 1) := by decide +kernel
theorem dX11_disable_21 : decode cX11_disable 21 = .ok (.iconst (-1), 1) := by decide +kernel
theorem dX11_disable_22 : decode cX11_disable 22 = .ok (.if_icmp .eq 7, 3) := by decide +kernel
theorem dX11_disable_25 : decode cX11_disable 25 = .ok (.iconst 1, 1) := by decide +kernel
theorem dX11_disable_26 : decode cX11_disable 26 = .ok (.goto 4, 3) := by decide +kernel
theorem dX11_disable_29 : decode cX11_disable 29 = .ok (.iconst 0, 1) := by decide +kernel
theorem dX11_disable_30 : decode cX11_disable 30 = .ok (.iconst 1, 1) := by decide +kernel
theorem dX11_disable_31 : decode cX11_disable 31 = .ok (.iconst 2, 1) := by decide +kernel
theorem dX11_disable_32 : decode cX11_disable 32 = .ok (.invokevirtual 229, 3) := by decide +kernel
theorem dX11_disable_35 : decode cX11_disable 35 = .ok (.ifCond .eq 5, 3) := by decide +kernel
theorem dX11_disable_38 : decode cX11_disable 38 = .ok (.iconst 0, 1) := by decide +kernel
theorem dX11_disable_39 : decode cX11_disable 39 = .ok (.ireturn, 1) := by decide +kernel
theorem dX11_disable_40 : decode cX11_disable 40 = .ok (.aload_n 0, 1) := by decide +kernel
theorem dX11_disable_41 : decode cX11_disable 41 = .ok (.aload_n 0, 1) := by decide +kernel
theorem dX11_disable_42 : decode cX11_disable 42 = .ok (.getfield 66, 3) := by decide +kernel
theorem dX11_disable_45 : decode cX11_disable 45 = .ok (.aload_n 0, 1) := by decide +kernel
theorem dX11_disable_46 : decode cX11_disable 46 = .ok (.getfield 69, 3) := by decide +kernel
theorem dX11_disable_49 : decode cX11_disable 49 = .ok (.iconst 0, 1) := by decide +kernel
theorem dX11_disable_50 : decode cX11_disable 50 = .ok (.iaload, 1) := by decide +kernel
theorem dX11_disable_51 : decode cX11_disable 51 = .ok (.iconst 1, 1) := by decide +kernel
theorem dX11_disable_52 : decode cX11_disable 52 = .ok (.isub, 1) := by decide +kernel
theorem dX11_disable_53 : decode cX11_disable 53 = .ok (.iaload, 1) := by decide +kernel
theorem dX11_disable_54 : decode cX11_disable 54 = .ok (.iconst 0, 1) := by decide +kernel
theorem dX11_disable_55 : decode cX11_disable 55 = .ok (.invokevirtual 395, 3) := by decide +kernel
theorem dX11_disable_58 : decode cX11_disable 58 = .ok (.aload_n 0, 1) := by decide +kernel
theorem dX11_disable_59 : decode cX11_disable 59 = .ok (.invokevirtual 377, 3) := by decide +kernel
theorem dX11_disable_62 : decode cX11_disable 62 = .ok (.ireturn, 1) := by decide +kernel
theorem dX11_reverse_0 : decode cX11_reverse 0 = .ok (.aload_n 0, 1) := by decide +kernel
theorem dX11_reverse_1 : decode cX11_reverse 1 = .ok (.iconst 0, 1) := by decide +kernel
theorem dX11_reverse_2 : decode cX11_reverse 2 = .ok (.putfield 78, 3) := by decide +kernel
theorem dX11_reverse_5 : decode cX11_reverse 5 = .ok (.aload_n 0, 1) := by decide +kernel
theorem dX11_reverse_6 : decode cX11_reverse 6 = .ok (.aload_n 0, 1) := by decide +kernel
theorem dX11_reverse_7 : decode cX11_reverse 7 = .ok (.getfield 69, 3) := by decide +kernel
theorem dX11_reverse_10 : decode cX11_reverse 10 = .ok (.iconst 1, 1) := by decide +kernel
theorem dX11_reverse_11 : decode cX11_reverse 11 = .ok (.iaload, 1) := by decide +kernel
theorem dX11_reverse_12 : decode cX11_reverse 12 = .ok (.iconst (-1), 1) := by decide +kernel
theorem dX11_reverse_13 : decode cX11_reverse 13 = .ok (.if_icmp .ne 7, 3) := by decide +kernel
theorem dX11_reverse_16 : decode cX11_reverse 16 = .ok (.iconst 1, 1) := by decide +kernel
theorem dX11_reverse_17 : decode cX11_reverse 17 = .ok (.goto 4, 3) := by decide +kernel
theorem dX11_reverse_20 : decode cX11_reverse 20 = .ok (.iconst 0, 1) := by decide +kernel
theorem dX11_reverse_21 : decode cX11_reverse 21 = .ok (.iconst 1, 1) := by decide +kernel
theorem dX11_reverse_22 : decode cX11_reverse 22 = .ok (.iconst 2, 1) := by decide +kernel
theorem dX11_reverse_23 : decode cX11_reverse 23 = .ok (.invokevirtual 229, 3) := by decide +kernel
theorem dX11_reverse_26 : decode cX11_reverse 26 = .ok (.ifCond .eq 5, 3) := by decide +kernel
theorem dX11_reverse_29 : decode cX11_reverse 29 = .ok (.iconst 0, 1) := by decide +kernel
theorem dX11_reverse_30 : decode cX11_reverse 30 = .ok (.ireturn, 1) := by decide +kernel
theorem dX11_reverse_31 : decode cX11_reverse 31 = .ok (.aload_n 0, 1) := by decide +kernel
theorem dX11_reverse_32 : decode cX11_reverse 32 = .ok (.getfield 69, 3) := by decide +kernel
theorem dX11_reverse_35 : decode cX11_reverse 35 = .ok (.iconst 2, 1) := by decide +kernel
theorem dX11_reverse_36 : decode cX11_reverse 36 = .ok (.iconst 1, 1) := by decide +kernel
theorem dX11_reverse_37 : decode cX11_reverse 37 = .ok (.aload_n 0, 1) := by decide +kernel
theorem dX11_reverse_38 : decode cX11_reverse 38 = .ok (.getfield 69, 3) := by decide +kernel
theorem dX11_reverse_41 : decode cX11_reverse 41 = .ok (.iconst 2, 1) := by decide +kernel
theorem dX11_reverse_42 : decode cX11_reverse 42 = .ok (.iaload, 1) := by decide +kernel
theorem dX11_reverse_43 : decode cX11_reverse 43 = .ok (.isub, 1) := by decide +kernel
theorem dX11_reverse_44 : decode cX11_reverse 44 = .ok (.iastore, 1) := by decide +kernel
theorem dX11_reverse_45 : decode cX11_reverse 45 = .ok (.aload_n 0, 1) := by decide +kernel
theorem dX11_reverse_46 : decode cX11_reverse 46 = .ok (.invokevirtual 386, 3) := by decide +kernel
theorem dX11_reverse_49 : decode cX11_reverse 49 = .ok (.aload_n 0, 1) := by decide +kernel
theorem dX11_reverse_50 : decode cX11_reverse 50 = .ok (.invokevirtual 377, 3) := by decide +kernel
theorem dX11_reverse_53 : decode cX11_reverse 53 = .ok (.ireturn, 1) := by decide +kernel
theorem dX11_force_0 : decode cX11_force 0 = .ok (.aload_n 0, 1) := by decide +kernel
theorem dX11_force_1 : decode cX11_force 1 = .ok (.iconst 0, 1) := by decide +kernel
theorem dX11_force_2 : decode cX11_force 2 = .ok (.putfield 78, 3) := by decide +kernel
theorem dX11_force_5 : decode cX11_force 5 = .ok (.aload_n 0, 1) := by decide +kernel
theorem dX11_force_6 : decode cX11_force 6 = .ok (.aload_n 0, 1) := by decide +kernel
theorem dX11_force_7 : decode cX11_force 7 = .ok (.getfield 69, 3) := by decide +kernel
theorem dX11_force_10 : decode cX11_force 10 = .ok (.iconst 1, 1) := by decide +kernel
theorem dX11_force_11 : decode cX11_force 11 = .ok (.iaload, 1) := by decide +kernel
theorem dX11_force_12 : decode cX11_force 12 = .ok (.iconst (-1), 1) := by decide +kernel
theorem dX11_force_13 : decode cX11_force 13 = .ok (.if_icmp .ne 7, 3) := by decide +kernel
theorem dX11_force_16 : decode cX11_force 16 = .ok (.iconst 1, 1) := by decide +kernel
theorem dX11_force_17 : decode cX11_force 17 = .ok (.goto 4, 3) := by decide +kernel
theorem dX11_force_20 : decode cX11_force 20 = .ok (.iconst 0, 1) := by decide +kernel
theorem dX11_force_21 : decode cX11_force 21 = .ok (.iconst 1, 1) := by decide +kernel
theorem dX11_force_22 : decode cX11_force 22 = .ok (.iconst 2, 1) := by decide +kernel
theorem dX11_force_23 : decode cX11_force 23 = .ok (.invokevirtual 229, 3) := by decide +kernel
theorem dX11_force_26 : decode cX11_force 26 = .ok (.ifCond .eq 5, 3) := by decide +kernel
theorem dX11_force_29 : decode cX11_force 29 = .ok (.iconst 0, 1) := by decide +kernel
theorem dX11_force_30 : decode cX11_force 30 = .ok (.ireturn, 1) := by decide +kernel
theorem dX11_force_31 : decode cX11_force 31 = .ok (.iconst 0, 1) := by decide +kernel
theorem dX11_force_32 : decode cX11_force 32 = .ok (.istore_n 1, 1) := by decide +kernel
theorem dX11_force_33 : decode cX11_force 33 = .ok (.iconst 0, 1) := by decide +kernel
theorem dX11_force_34 : decode cX11_force 34 = .ok (.istore_n 2, 1) := by decide +kernel
theorem dX11_force_35 : decode cX11_force 35 = .ok (.iload_n 2, 1) := by decide +kernel
theorem dX11_force_36 : decode cX11_force 36 = .ok (.bipush 6, 2) := by decide +kernel
theorem dX11_force_38 : decode cX11_force 38 = .ok (.if_icmp .ge 71, 3) := by decide +kernel
theorem dX11_force_41 : decode cX11_force 41 = .ok (.aload_n 0, 1) := by decide +kernel
theorem dX11_force_42 : decode cX11_force 42 = .ok (.getfield 56, 3) := by decide +kernel
theorem dX11_force_45 : decode cX11_force 45 = .ok (.iload_n 2, 1) := by decide +kernel
theorem dX11_force_46 : decode cX11_force 46 = .ok (.aaload, 1) := by decide +kernel
theorem dX11_force_47 : decode cX11_force 47 = .ok (.iconst 4, 1) := by decide +kernel
theorem dX11_force_48 : decode cX11_force 48 = .ok (.iaload, 1) := by decide +kernel
theorem dX11_force_49 : decode cX11_force 49 = .ok (.aload_n 0, 1) := by decide +kernel
theorem dX11_force_50 : decode cX11_force 50 = .ok (.getfield 69, 3) := by decide +kernel
theorem dX11_force_53 : decode cX11_force 53 = .ok (.iconst 2, 1) := by decide +kernel
theorem dX11_force_54 : decode cX11_force 54 = .ok (.iaload, 1) := by decide +kernel
theorem dX11_force_55 : decode cX11_force 55 = .ok (.if_icmp .ne 6, 3) := by decide +kernel
theorem dX11_force_58 : decode cX11_force 58 = .ok (.goto 45, 3) := by decide +kernel
theorem dX11_force_61 : decode cX11_force 61 = .ok (.iload_n 1, 1) := by decide +kernel
theorem dX11_force_62 : decode cX11_force 62 = .ok (.iconst 1, 1) := by decide +kernel
theorem dX11_force_63 : decode cX11_force 63 = .ok (.iload_n 2, 1) := by decide +kernel
theorem dX11_force_64 : decode cX11_force 64 = .ok (.ishl, 1) := by decide +kernel
theorem dX11_force_65 : decode cX11_force 65 = .ok (.ior, 1) := by decide +kernel
theorem dX11_force_66 : decode cX11_force 66 = .ok (.istore_n 1, 1) := by decide +kernel
theorem dX11_force_67 : decode cX11_force 67 = .ok (.aload_n 0, 1) := by decide +kernel
theorem dX11_force_68 : decode cX11_force 68 = .ok (.getfield 56, 3) := by decide +kernel
theorem dX11_force_71 : decode cX11_force 71 = .ok (.iload_n 2, 1) := by decide +kernel
theorem dX11_force_72 : decode cX11_force 72 = .ok (.aaload, 1) := by decide +kernel
theorem dX11_force_73 : decode cX11_force 73 = .ok (.iconst 4, 1) := by decide +kernel
theorem dX11_force_74 : decode cX11_force 74 = .ok (.aload_n 0, 1) := by decide +kernel
theorem dX11_force_75 : decode cX11_force 75 = .ok (.getfield 69, 3) := by decide +kernel
theorem dX11_force_78 : decode cX11_force 78 = .ok (.iconst 2, 1) := by decide +kernel
theorem dX11_force_79 : decode cX11_force 79 = .ok (.iaload, 1) := by decide +kernel
theorem dX11_force_80 : decode cX11_force 80 = .ok (.iastore, 1) := by decide +kernel
theorem dX11_force_81 : decode cX11_force 81 = .ok (.aload_n 0, 1) := by decide +kernel
theorem dX11_force_82 : decode cX11_force 82 = .ok (.getfield 56, 3) := by decide +kernel
theorem dX11_force_85 : decode cX11_force 85 = .ok (.iload_n 2, 1) := by decide +kernel
theorem dX11_force_86 : decode cX11_force 86 = .ok (.aaload, 1) := by decide +kernel
theorem dX11_force_87 : decode cX11_force 87 = .ok (.iconst 5, 1) := by decide +kernel
theorem dX11_force_88 : decode cX11_force 88 = .ok (.dup2, 1) := by decide +kernel
theorem dX11_force_89 : decode cX11_force 89 = .ok (.iaload, 1) := by decide +kernel
theorem dX11_force_90 : decode cX11_force 90 = .ok (.iconst 1, 1) := by decide +kernel
theorem dX11_force_91 : decode cX11_force 91 = .ok (.iadd, 1) := by decide +kernel
theorem dX11_force_92 : decode cX11_force 92 = .ok (.iastore, 1) := by decide +kernel
theorem dX11_force_93 : decode cX11_force 93 = .ok (.aload_n 0, 1) := by decide +kernel
theorem dX11_force_94 : decode cX11_force 94 = .ok (.getfield 69, 3) := by decide +kernel
theorem dX11_force_97 : decode cX11_force 97 = .ok (.iconst 5, 1) := by decide +kernel
theorem dX11_force_98 : decode cX11_force 98 = .ok (.dup2, 1) := by decide +kernel
theorem dX11_force_99 : decode cX11_force 99 = .ok (.iaload, 1) := by decide +kernel
theorem dX11_force_100 : decode cX11_force 100 = .ok (.iconst 1, 1) := by decide +kernel
theorem dX11_force_101 : decode cX11_force 101 = .ok (.iadd, 1) := by decide +kernel
theorem dX11_force_102 : decode cX11_force 102 = .ok (.iastore, 1) := by decide +kernel
theorem dX11_force_103 : decode cX11_force 103 = .ok (.iinc 2 1, 3) := by decide +kernel
theorem dX11_force_106 : decode cX11_force 106 = .ok (.goto (-71), 3) := by decide +kernel
theorem dX11_force_109 : decode cX11_force 109 = .ok (.aload_n 0, 1) := by decide +kernel
theorem dX11_force_110 : decode cX11_force 110 = .ok (.invokevirtual 380, 3) := by decide +kernel
theorem dX11_force_113 : decode cX11_force 113 = .ok (.iload_n 1, 1) := by decide +kernel
theorem dX11_force_114 : decode cX11_force 114 = .ok (.ireturn, 1) := by decide +kernel
theorem dX11_isTask_0 : decode cX11_isTask 0 = .ok (.iload_n 1, 1) := by decide +kernel
theorem dX11_isTask_1 : decode cX11_isTask 1 = .ok (.iconst 0, 1) := by decide +kernel
theorem dX11_isTask_2 : decode cX11_isTask 2 = .ok (.iconst 5, 1) := by decide +kernel
theorem dX11_isTask_3 : decode cX11_isTask 3 = .ok (.invokestatic 121, 3) := by decide +kernel
theorem dX11_isTask_6 : decode cX11_isTask 6 = .ok (.ireturn, 1) := by decide +kernel
theorem dX11_start_0 : decode cX11_start 0 = .ok (.aload_n 0, 1) := by decide +kernel
theorem dX11_start_1 : decode cX11_start 1 = .ok (.iconst 0, 1) := by decide +kernel
theorem dX11_start_2 : decode cX11_start 2 = .ok (.putfield 78, 3) := by decide +kernel
theorem dX11_start_5 : decode cX11_start 5 = .ok (.aload_n 0, 1) := by decide +kernel
theorem dX11_start_6 : decode cX11_start 6 = .ok (.aload_n 0, 1) := by decide +kernel
theorem dX11_start_7 : decode cX11_start 7 = .ok (.iload_n 1, 1) := by decide +kernel
theorem dX11_start_8 : decode cX11_start 8 = .ok (.invokevirtual 398, 3) := by decide +kernel
theorem dX11_start_11 : decode cX11_start 11 = .ok (.ifCond .eq 11, 3) := by decide +kernel
theorem dX11_start_14 : decode cX11_start 14 = .ok (.aload_n 0, 1) := by decide +kernel
theorem dX11_start_15 : decode cX11_start 15 = .ok (.iload_n 2, 1) := by decide +kernel
theorem dX11_start_16 : decode cX11_start 16 = .ok (.invokevirtual 226, 3) := by decide +kernel
theorem dX11_start_19 : decode cX11_start 19 = .ok (.ifCond .ne 7, 3) := by decide +kernel
theorem dX11_start_22 : decode cX11_start 22 = .ok (.iconst 1, 1) := by decide +kernel
theorem dX11_start_23 : decode cX11_start 23 = .ok (.goto 4, 3) := by decide +kernel
theorem dX11_start_26 : decode cX11_start 26 = .ok (.iconst 0, 1) := by decide +kernel
theorem dX11_start_27 : decode cX11_start 27 = .ok (.iconst 1, 1) := by decide +kernel
theorem dX11_start_28 : decode cX11_start 28 = .ok (.iconst 0, 1) := by decide +kernel
theorem dX11_start_29 : decode cX11_start 29 = .ok (.invokevirtual 229, 3) := by decide +kernel
theorem dX11_start_32 : decode cX11_start 32 = .ok (.ifCond .ne 25, 3) := by decide +kernel
theorem dX11_start_35 : decode cX11_start 35 = .ok (.aload_n 0, 1) := by decide +kernel
theorem dX11_start_36 : decode cX11_start 36 = .ok (.aload_n 0, 1) := by decide +kernel
theorem dX11_start_37 : decode cX11_start 37 = .ok (.iload_n 1, 1) := by decide +kernel
theorem dX11_start_38 : decode cX11_start 38 = .ok (.invokevirtual 223, 3) := by decide +kernel
theorem dX11_start_41 : decode cX11_start 41 = .ok (.ifCond .ne 7, 3) := by decide +kernel
theorem dX11_start_44 : decode cX11_start 44 = .ok (.iconst 1, 1) := by decide +kernel
theorem dX11_start_45 : decode cX11_start 45 = .ok (.goto 4, 3) := by decide +kernel
theorem dX11_start_48 : decode cX11_start 48 = .ok (.iconst 0, 1) := by decide +kernel
theorem dX11_start_49 : decode cX11_start 49 = .ok (.iconst 2, 1) := by decide +kernel
theorem dX11_start_50 : decode cX11_start 50 = .ok (.iconst 2, 1) := by decide +kernel
theorem dX11_start_51 : decode cX11_start 51 = .ok (.invokevirtual 229, 3) := by decide +kernel
theorem dX11_start_54 : decode cX11_start 54 = .ok (.ifCond .eq 5, 3) := by decide +kernel
theorem dX11_start_57 : decode cX11_start 57 = .ok (.iconst 0, 1) := by decide +kernel
theorem dX11_start_58 : decode cX11_start 58 = .ok (.ireturn, 1) := by decide +kernel
theorem dX11_start_59 : decode cX11_start 59 = .ok (.aload_n 0, 1) := by decide +kernel
theorem dX11_start_60 : decode cX11_start 60 = .ok (.getfield 56, 3) := by decide +kernel
theorem dX11_start_63 : decode cX11_start 63 = .ok (.iload_n 1, 1) := by decide +kernel
theorem dX11_start_64 : decode cX11_start 64 = .ok (.aaload, 1) := by decide +kernel
theorem dX11_start_65 : decode cX11_start 65 = .ok (.iconst 2, 1) := by decide +kernel
theorem dX11_start_66 : decode cX11_start 66 = .ok (.iconst (-1), 1) := by decide +kernel
theorem dX11_start_67 : decode cX11_start 67 = .ok (.iastore, 1) := by decide +kernel
theorem dX11_start_68 : decode cX11_start 68 = .ok (.aload_n 0, 1) := by decide +kernel
theorem dX11_start_69 : decode cX11_start 69 = .ok (.getfield 59, 3) := by decide +kernel
theorem dX11_start_72 : decode cX11_start 72 = .ok (.iload_n 1, 1) := by decide +kernel
theorem dX11_start_73 : decode cX11_start 73 = .ok (.lconst 0, 1) := by decide +kernel
theorem dX11_start_74 : decode cX11_start 74 = .ok (.lastore, 1) := by decide +kernel
theorem dX11_start_75 : decode cX11_start 75 = .ok (.aload_n 0, 1) := by decide +kernel
theorem dX11_start_76 : decode cX11_start 76 = .ok (.getfield 56, 3) := by decide +kernel
theorem dX11_start_79 : decode cX11_start 79 = .ok (.iload_n 1, 1) := by decide +kernel
theorem dX11_start_80 : decode cX11_start 80 = .ok (.aaload, 1) := by decide +kernel
theorem dX11_start_81 : decode cX11_start 81 = .ok (.iconst 3, 1) := by decide +kernel
theorem dX11_start_82 : decode cX11_start 82 = .ok (.iconst 0, 1) := by decide +kernel
theorem dX11_start_83 : decode cX11_start 83 = .ok (.iastore, 1) := by decide +kernel
theorem dX11_start_84 : decode cX11_start 84 = .ok (.aload_n 0, 1) := by decide +kernel
theorem dX11_start_85 : decode cX11_start 85 = .ok (.iload_n 1, 1) := by decide +kernel
theorem dX11_start_86 : decode cX11_start 86 = .ok (.iload_n 2, 1) := by decide +kernel
theorem dX11_start_87 : decode cX11_start 87 = .ok (.invokevirtual 364, 3) := by decide +kernel
theorem dX11_start_90 : decode cX11_start 90 = .ok (.aload_n 0, 1) := by decide +kernel
theorem dX11_start_91 : decode cX11_start 91 = .ok (.getfield 63, 3) := by decide +kernel
theorem dX11_start_94 : decode cX11_start 94 = .ok (.iload_n 1, 1) := by decide +kernel
theorem dX11_start_95 : decode cX11_start 95 = .ok (.aaload, 1) := by decide +kernel
theorem dX11_start_96 : decode cX11_start 96 = .ok (.iconst 0, 1) := by decide +kernel
theorem dX11_start_97 : decode cX11_start 97 = .ok (.aaload, 1) := by decide +kernel
theorem dX11_start_98 : decode cX11_start 98 = .ok (.iconst 1, 1) := by decide +kernel
theorem dX11_start_99 : decode cX11_start 99 = .ok (.iaload, 1) := by decide +kernel
theorem dX11_start_100 : decode cX11_start 100 = .ok (.ireturn, 1) := by decide +kernel
theorem dX11_step_0 : decode cX11_step 0 = .ok (.aload_n 0, 1) := by decide +kernel
theorem dX11_step_1 : decode cX11_step 1 = .ok (.iconst 0, 1) := by decide +kernel
theorem dX11_step_2 : decode cX11_step 2 = .ok (.putfield 78, 3) := by decide +kernel
theorem dX11_step_5 : decode cX11_step 5 = .ok (.aload_n 0, 1) := by decide +kernel
theorem dX11_step_6 : decode cX11_step 6 = .ok (.aload_n 0, 1) := by decide +kernel
theorem dX11_step_7 : decode cX11_step 7 = .ok (.iload_n 1, 1) := by decide +kernel
theorem dX11_step_8 : decode cX11_step 8 = .ok (.invokevirtual 398, 3) := by decide +kernel
theorem dX11_step_11 : decode cX11_step 11 = .ok (.ifCond .ne 7, 3) := by decide +kernel
theorem dX11_step_14 : decode cX11_step 14 = .ok (.iconst 1, 1) := by decide +kernel
theorem dX11_step_15 : decode cX11_step 15 = .ok (.goto 4, 3) := by decide +kernel
theorem dX11_step_18 : decode cX11_step 18 = .ok (.iconst 0, 1) := by decide +kernel
theorem dX11_step_19 : decode cX11_step 19 = .ok (.iconst 1, 1) := by decide +kernel
theorem dX11_step_20 : decode cX11_step 20 = .ok (.iconst 0, 1) := by decide +kernel
theorem dX11_step_21 : decode cX11_step 21 = .ok (.invokevirtual 229, 3) := by decide +kernel
theorem dX11_step_24 : decode cX11_step 24 = .ok (.ifCond .ne 17, 3) := by decide +kernel
theorem dX11_step_27 : decode cX11_step 27 = .ok (.aload_n 0, 1) := by decide +kernel
theorem dX11_step_28 : decode cX11_step 28 = .ok (.aload_n 0, 1) := by decide +kernel
theorem dX11_step_29 : decode cX11_step 29 = .ok (.iload_n 1, 1) := by decide +kernel
theorem dX11_step_30 : decode cX11_step 30 = .ok (.invokevirtual 223, 3) := by decide +kernel
theorem dX11_step_33 : decode cX11_step 33 = .ok (.iconst 2, 1) := by decide +kernel
theorem dX11_step_34 : decode cX11_step 34 = .ok (.iconst 2, 1) := by decide +kernel
theorem dX11_step_35 : decode cX11_step 35 = .ok (.invokevirtual 229, 3) := by decide +kernel
theorem dX11_step_38 : decode cX11_step 38 = .ok (.ifCond .eq 5, 3) := by decide +kernel
theorem dX11_step_41 : decode cX11_step 41 = .ok (.iconst 0, 1) := by decide +kernel
theorem dX11_step_42 : decode cX11_step 42 = .ok (.ireturn, 1) := by decide +kernel
theorem dX11_step_43 : decode cX11_step 43 = .ok (.aload_n 0, 1) := by decide +kernel
theorem dX11_step_44 : decode cX11_step 44 = .ok (.iload_n 1, 1) := by decide +kernel
theorem dX11_step_45 : decode cX11_step 45 = .ok (.invokevirtual 401, 3) := by decide +kernel
theorem dX11_step_48 : decode cX11_step 48 = .ok (.istore_n 2, 1) := by decide +kernel
theorem dX11_step_49 : decode cX11_step 49 = .ok (.aload_n 0, 1) := by decide +kernel
theorem dX11_step_50 : decode cX11_step 50 = .ok (.invokevirtual 386, 3) := by decide +kernel
theorem dX11_step_53 : decode cX11_step 53 = .ok (.iload_n 2, 1) := by decide +kernel
theorem dX11_step_54 : decode cX11_step 54 = .ok (.ireturn, 1) := by decide +kernel
theorem dX11_tick_0 : decode cX11_tick 0 = .ok (.iconst 0, 1) := by decide +kernel
theorem dX11_tick_1 : decode cX11_tick 1 = .ok (.istore_n 1, 1) := by decide +kernel
theorem dX11_tick_2 : decode cX11_tick 2 = .ok (.iload_n 1, 1) := by decide +kernel
theorem dX11_tick_3 : decode cX11_tick 3 = .ok (.bipush 6, 2) := by decide +kernel
theorem dX11_tick_5 : decode cX11_tick 5 = .ok (.if_icmp .ge 23, 3) := by decide +kernel
theorem dX11_tick_8 : decode cX11_tick 8 = .ok (.aload_n 0, 1) := by decide +kernel
theorem dX11_tick_9 : decode cX11_tick 9 = .ok (.iload_n 1, 1) := by decide +kernel
theorem dX11_tick_10 : decode cX11_tick 10 = .ok (.invokevirtual 223, 3) := by decide +kernel
theorem dX11_tick_13 : decode cX11_tick 13 = .ok (.ifCond .ne 9, 3) := by decide +kernel
theorem dX11_tick_16 : decode cX11_tick 16 = .ok (.aload_n 0, 1) := by decide +kernel
theorem dX11_tick_17 : decode cX11_tick 17 = .ok (.iload_n 1, 1) := by decide +kernel
theorem dX11_tick_18 : decode cX11_tick 18 = .ok (.invokevirtual 401, 3) := by decide +kernel
theorem dX11_tick_21 : decode cX11_tick 21 = .ok (.pop, 1) := by decide +kernel
theorem dX11_tick_22 : decode cX11_tick 22 = .ok (.iinc 1 1, 3) := by decide +kernel
theorem dX11_tick_25 : decode cX11_tick 25 = .ok (.goto (-23), 3) := by decide +kernel
theorem dX11_tick_28 : decode cX11_tick 28 = .ok (.aload_n 0, 1) := by decide +kernel
theorem dX11_tick_29 : decode cX11_tick 29 = .ok (.getfield 69, 3) := by decide +kernel
theorem dX11_tick_32 : decode cX11_tick 32 = .ok (.iconst 3, 1) := by decide +kernel
theorem dX11_tick_33 : decode cX11_tick 33 = .ok (.dup2, 1) := by decide +kernel
theorem dX11_tick_34 : decode cX11_tick 34 = .ok (.iaload, 1) := by decide +kernel
theorem dX11_tick_35 : decode cX11_tick 35 = .ok (.iconst 1, 1) := by decide +kernel
theorem dX11_tick_36 : decode cX11_tick 36 = .ok (.iadd, 1) := by decide +kernel
theorem dX11_tick_37 : decode cX11_tick 37 = .ok (.iastore, 1) := by decide +kernel
theorem dX11_tick_38 : decode cX11_tick 38 = .ok (.aload_n 0, 1) := by decide +kernel
theorem dX11_tick_39 : decode cX11_tick 39 = .ok (.invokevirtual 386, 3) := by decide +kernel
theorem dX11_tick_42 : decode cX11_tick 42 = .ok (.return_, 1) := by decide +kernel
theorem dX11_go_0 : decode cX11_go 0 = .ok (.aload_n 0, 1) := by decide +kernel
theorem dX11_go_1 : decode cX11_go 1 = .ok (.iconst 0, 1) := by decide +kernel
theorem dX11_go_2 : decode cX11_go 2 = .ok (.putfield 78, 3) := by decide +kernel
theorem dX11_go_5 : decode cX11_go 5 = .ok (.aload_n 0, 1) := by decide +kernel
theorem dX11_go_6 : decode cX11_go 6 = .ok (.iload_n 1, 1) := by decide +kernel
theorem dX11_go_7 : decode cX11_go 7 = .ok (.iconst 1, 1) := by decide +kernel
theorem dX11_go_8 : decode cX11_go 8 = .ok (.bipush 60, 2) := by decide +kernel
theorem dX11_go_10 : decode cX11_go 10 = .ok (.invokestatic 121, 3) := by decide +kernel
theorem dX11_go_13 : decode cX11_go 13 = .ok (.ifCond .ne 7, 3) := by decide +kernel
theorem dX11_go_16 : decode cX11_go 16 = .ok (.iconst 1, 1) := by decide +kernel
theorem dX11_go_17 : decode cX11_go 17 = .ok (.goto 4, 3) := by decide +kernel
theorem dX11_go_20 : decode cX11_go 20 = .ok (.iconst 0, 1) := by decide +kernel
theorem dX11_go_21 : decode cX11_go 21 = .ok (.iconst 1, 1) := by decide +kernel
theorem dX11_go_22 : decode cX11_go 22 = .ok (.iconst 1, 1) := by decide +kernel
theorem dX11_go_23 : decode cX11_go 23 = .ok (.invokevirtual 229, 3) := by decide +kernel
theorem dX11_go_26 : decode cX11_go 26 = .ok (.ifCond .eq 5, 3) := by decide +kernel
theorem dX11_go_29 : decode cX11_go 29 = .ok (.iconst 0, 1) := by decide +kernel
theorem dX11_go_30 : decode cX11_go 30 = .ok (.ireturn, 1) := by decide +kernel
theorem dX11_go_31 : decode cX11_go 31 = .ok (.aload_n 0, 1) := by decide +kernel
theorem dX11_go_32 : decode cX11_go 32 = .ok (.getfield 69, 3) := by decide +kernel
theorem dX11_go_35 : decode cX11_go 35 = .ok (.bipush 6, 2) := by decide +kernel
theorem dX11_go_37 : decode cX11_go 37 = .ok (.iaload, 1) := by decide +kernel
theorem dX11_go_38 : decode cX11_go 38 = .ok (.istore_n 2, 1) := by decide +kernel
theorem dX11_go_39 : decode cX11_go 39 = .ok (.iconst 0, 1) := by decide +kernel
theorem dX11_go_40 : decode cX11_go 40 = .ok (.istore_n 3, 1) := by decide +kernel
theorem dX11_go_41 : decode cX11_go 41 = .ok (.iload_n 3, 1) := by decide +kernel
theorem dX11_go_42 : decode cX11_go 42 = .ok (.iload_n 1, 1) := by decide +kernel
theorem dX11_go_43 : decode cX11_go 43 = .ok (.if_icmp .ge 13, 3) := by decide +kernel
theorem dX11_go_46 : decode cX11_go 46 = .ok (.aload_n 0, 1) := by decide +kernel
theorem dX11_go_47 : decode cX11_go 47 = .ok (.invokevirtual 404, 3) := by decide +kernel
theorem dX11_go_50 : decode cX11_go 50 = .ok (.iinc 3 1, 3) := by decide +kernel
theorem dX11_go_53 : decode cX11_go 53 = .ok (.goto (-12), 3) := by decide +kernel
theorem dX11_go_56 : decode cX11_go 56 = .ok (.aload_n 0, 1) := by decide +kernel
theorem dX11_go_57 : decode cX11_go 57 = .ok (.getfield 69, 3) := by decide +kernel
theorem dX11_go_60 : decode cX11_go 60 = .ok (.bipush 6, 2) := by decide +kernel
theorem dX11_go_62 : decode cX11_go 62 = .ok (.iaload, 1) := by decide +kernel
theorem dX11_go_63 : decode cX11_go 63 = .ok (.iload_n 2, 1) := by decide +kernel
theorem dX11_go_64 : decode cX11_go 64 = .ok (.isub, 1) := by decide +kernel
theorem dX11_go_65 : decode cX11_go 65 = .ok (.ireturn, 1) := by decide +kernel
theorem dX11_kill_0 : decode cX11_kill 0 = .ok (.aload_n 0, 1) := by decide +kernel
theorem dX11_kill_1 : decode cX11_kill 1 = .ok (.iconst 0, 1) := by decide +kernel
theorem dX11_kill_2 : decode cX11_kill 2 = .ok (.putfield 78, 3) := by decide +kernel
theorem dX11_kill_5 : decode cX11_kill 5 = .ok (.aload_n 0, 1) := by decide +kernel
theorem dX11_kill_6 : decode cX11_kill 6 = .ok (.aload_n 0, 1) := by decide +kernel
theorem dX11_kill_7 : decode cX11_kill 7 = .ok (.iload_n 1, 1) := by decide +kernel
theorem dX11_kill_8 : decode cX11_kill 8 = .ok (.invokevirtual 398, 3) := by decide +kernel
theorem dX11_kill_11 : decode cX11_kill 11 = .ok (.ifCond .ne 7, 3) := by decide +kernel
theorem dX11_kill_14 : decode cX11_kill 14 = .ok (.iconst 1, 1) := by decide +kernel
theorem dX11_kill_15 : decode cX11_kill 15 = .ok (.goto 4, 3) := by decide +kernel
theorem dX11_kill_18 : decode cX11_kill 18 = .ok (.iconst 0, 1) := by decide +kernel
theorem dX11_kill_19 : decode cX11_kill 19 = .ok (.iconst 1, 1) := by decide +kernel
theorem dX11_kill_20 : decode cX11_kill 20 = .ok (.iconst 0, 1) := by decide +kernel
theorem dX11_kill_21 : decode cX11_kill 21 = .ok (.invokevirtual 229, 3) := by decide +kernel
theorem dX11_kill_24 : decode cX11_kill 24 = .ok (.ifCond .eq 5, 3) := by decide +kernel
theorem dX11_kill_27 : decode cX11_kill 27 = .ok (.iconst 0, 1) := by decide +kernel
theorem dX11_kill_28 : decode cX11_kill 28 = .ok (.ireturn, 1) := by decide +kernel
theorem dX11_kill_29 : decode cX11_kill 29 = .ok (.aload_n 0, 1) := by decide +kernel
theorem dX11_kill_30 : decode cX11_kill 30 = .ok (.getfield 56, 3) := by decide +kernel
theorem dX11_kill_33 : decode cX11_kill 33 = .ok (.iload_n 1, 1) := by decide +kernel
theorem dX11_kill_34 : decode cX11_kill 34 = .ok (.aaload, 1) := by decide +kernel
theorem dX11_kill_35 : decode cX11_kill 35 = .ok (.iconst 0, 1) := by decide +kernel
theorem dX11_kill_36 : decode cX11_kill 36 = .ok (.iaload, 1) := by decide +kernel
theorem dX11_kill_37 : decode cX11_kill 37 = .ok (.istore_n 2, 1) := by decide +kernel
theorem dX11_kill_38 : decode cX11_kill 38 = .ok (.aload_n 0, 1) := by decide +kernel
theorem dX11_kill_39 : decode cX11_kill 39 = .ok (.getfield 56, 3) := by decide +kernel
theorem dX11_kill_42 : decode cX11_kill 42 = .ok (.iload_n 1, 1) := by decide +kernel
theorem dX11_kill_43 : decode cX11_kill 43 = .ok (.aaload, 1) := by decide +kernel
theorem dX11_kill_44 : decode cX11_kill 44 = .ok (.iconst 0, 1) := by decide +kernel
theorem dX11_kill_45 : decode cX11_kill 45 = .ok (.iconst 0, 1) := by decide +kernel
theorem dX11_kill_46 : decode cX11_kill 46 = .ok (.iastore, 1) := by decide +kernel
theorem dX11_kill_47 : decode cX11_kill 47 = .ok (.aload_n 0, 1) := by decide +kernel
theorem dX11_kill_48 : decode cX11_kill 48 = .ok (.getfield 56, 3) := by decide +kernel
theorem dX11_kill_51 : decode cX11_kill 51 = .ok (.iload_n 1, 1) := by decide +kernel
theorem dX11_kill_52 : decode cX11_kill 52 = .ok (.aaload, 1) := by decide +kernel
theorem dX11_kill_53 : decode cX11_kill 53 = .ok (.iconst 3, 1) := by decide +kernel
theorem dX11_kill_54 : decode cX11_kill 54 = .ok (.iconst 0, 1) := by decide +kernel
theorem dX11_kill_55 : decode cX11_kill 55 = .ok (.iastore, 1) := by decide +kernel
theorem dX11_kill_56 : decode cX11_kill 56 = .ok (.aload_n 0, 1) := by decide +kernel
theorem dX11_kill_57 : decode cX11_kill 57 = .ok (.invokevirtual 386, 3) := by decide +kernel
theorem dX11_kill_60 : decode cX11_kill 60 = .ok (.iload_n 2, 1) := by decide +kernel
theorem dX11_kill_61 : decode cX11_kill 61 = .ok (.ireturn, 1) := by decide +kernel
theorem dX11_places_0 : decode cX11_places 0 = .ok (.iconst 0, 1) := by decide +kernel
theorem dX11_places_1 : decode cX11_places 1 = .ok (.istore_n 1, 1) := by decide +kernel
theorem dX11_places_2 : decode cX11_places 2 = .ok (.iconst 0, 1) := by decide +kernel
theorem dX11_places_3 : decode cX11_places 3 = .ok (.istore_n 2, 1) := by decide +kernel
theorem dX11_places_4 : decode cX11_places 4 = .ok (.iload_n 2, 1) := by decide +kernel
theorem dX11_places_5 : decode cX11_places 5 = .ok (.bipush 60, 2) := by decide +kernel
theorem dX11_places_7 : decode cX11_places 7 = .ok (.if_icmp .ge 18, 3) := by decide +kernel
theorem dX11_places_10 : decode cX11_places 10 = .ok (.iload_n 1, 1) := by decide +kernel
theorem dX11_places_11 : decode cX11_places 11 = .ok (.aload_n 0, 1) := by decide +kernel
theorem dX11_places_12 : decode cX11_places 12 = .ok (.getfield 45, 3) := by decide +kernel
theorem dX11_places_15 : decode cX11_places 15 = .ok (.iload_n 2, 1) := by decide +kernel
theorem dX11_places_16 : decode cX11_places 16 = .ok (.iaload, 1) := by decide +kernel
theorem dX11_places_17 : decode cX11_places 17 = .ok (.iadd, 1) := by decide +kernel
theorem dX11_places_18 : decode cX11_places 18 = .ok (.istore_n 1, 1) := by decide +kernel
theorem dX11_places_19 : decode cX11_places 19 = .ok (.iinc 2 1, 3) := by decide +kernel
theorem dX11_places_22 : decode cX11_places 22 = .ok (.goto (-18), 3) := by decide +kernel
theorem dX11_places_25 : decode cX11_places 25 = .ok (.iload_n 1, 1) := by decide +kernel
theorem dX11_places_26 : decode cX11_places 26 = .ok (.ireturn, 1) := by decide +kernel
theorem dX11_shadows_0 : decode cX11_shadows 0 = .ok (.iconst 0, 1) := by decide +kernel
theorem dX11_shadows_1 : decode cX11_shadows 1 = .ok (.istore_n 1, 1) := by decide +kernel
theorem dX11_shadows_2 : decode cX11_shadows 2 = .ok (.bipush 10, 2) := by decide +kernel
theorem dX11_shadows_4 : decode cX11_shadows 4 = .ok (.istore_n 2, 1) := by decide +kernel
theorem dX11_shadows_5 : decode cX11_shadows 5 = .ok (.iload_n 2, 1) := by decide +kernel
theorem dX11_shadows_6 : decode cX11_shadows 6 = .ok (.bipush 60, 2) := by decide +kernel
theorem dX11_shadows_8 : decode cX11_shadows 8 = .ok (.if_icmp .ge 28, 3) := by decide +kernel
theorem dX11_shadows_11 : decode cX11_shadows 11 = .ok (.iload_n 1, 1) := by decide +kernel
theorem dX11_shadows_12 : decode cX11_shadows 12 = .ok (.aload_n 0, 1) := by decide +kernel
theorem dX11_shadows_13 : decode cX11_shadows 13 = .ok (.getfield 42, 3) := by decide +kernel
theorem dX11_shadows_16 : decode cX11_shadows 16 = .ok (.iload_n 2, 1) := by decide +kernel
theorem dX11_shadows_17 : decode cX11_shadows 17 = .ok (.iaload, 1) := by decide +kernel
theorem dX11_shadows_18 : decode cX11_shadows 18 = .ok (.bipush 12, 2) := by decide +kernel
theorem dX11_shadows_20 : decode cX11_shadows 20 = .ok (.if_icmp .eq 7, 3) := by decide +kernel
theorem dX11_shadows_23 : decode cX11_shadows 23 = .ok (.iconst 1, 1) := by decide +kernel
theorem dX11_shadows_24 : decode cX11_shadows 24 = .ok (.goto 4, 3) := by decide +kernel
theorem dX11_shadows_27 : decode cX11_shadows 27 = .ok (.iconst 0, 1) := by decide +kernel
theorem dX11_shadows_28 : decode cX11_shadows 28 = .ok (.iadd, 1) := by decide +kernel
theorem dX11_shadows_29 : decode cX11_shadows 29 = .ok (.istore_n 1, 1) := by decide +kernel
theorem dX11_shadows_30 : decode cX11_shadows 30 = .ok (.iinc 2 1, 3) := by decide +kernel
theorem dX11_shadows_33 : decode cX11_shadows 33 = .ok (.goto (-28), 3) := by decide +kernel
theorem dX11_shadows_36 : decode cX11_shadows 36 = .ok (.iload_n 1, 1) := by decide +kernel
theorem dX11_shadows_37 : decode cX11_shadows 37 = .ok (.ireturn, 1) := by decide +kernel
theorem dX11_isDatum_0 : decode cX11_isDatum 0 = .ok (.iload_n 1, 1) := by decide +kernel
theorem dX11_isDatum_1 : decode cX11_isDatum 1 = .ok (.iconst 0, 1) := by decide +kernel
theorem dX11_isDatum_2 : decode cX11_isDatum 2 = .ok (.bipush 9, 2) := by decide +kernel
theorem dX11_isDatum_4 : decode cX11_isDatum 4 = .ok (.invokestatic 121, 3) := by decide +kernel
theorem dX11_isDatum_7 : decode cX11_isDatum 7 = .ok (.ireturn, 1) := by decide +kernel
theorem dX11_datum_0 : decode cX11_datum 0 = .ok (.aload_n 0, 1) := by decide +kernel
theorem dX11_datum_1 : decode cX11_datum 1 = .ok (.iconst 0, 1) := by decide +kernel
theorem dX11_datum_2 : decode cX11_datum 2 = .ok (.putfield 78, 3) := by decide +kernel
theorem dX11_datum_5 : decode cX11_datum 5 = .ok (.aload_n 0, 1) := by decide +kernel
theorem dX11_datum_6 : decode cX11_datum 6 = .ok (.aload_n 0, 1) := by decide +kernel
theorem dX11_datum_7 : decode cX11_datum 7 = .ok (.iload_n 1, 1) := by decide +kernel
theorem dX11_datum_8 : decode cX11_datum 8 = .ok (.invokevirtual 358, 3) := by decide +kernel
theorem dX11_datum_11 : decode cX11_datum 11 = .ok (.ifCond .ne 7, 3) := by decide +kernel
theorem dX11_datum_14 : decode cX11_datum 14 = .ok (.iconst 1, 1) := by decide +kernel
theorem dX11_datum_15 : decode cX11_datum 15 = .ok (.goto 4, 3) := by decide +kernel
theorem dX11_datum_18 : decode cX11_datum 18 = .ok (.iconst 0, 1) := by decide +kernel
theorem dX11_datum_19 : decode cX11_datum 19 = .ok (.iconst 1, 1) := by decide +kernel
theorem dX11_datum_20 : decode cX11_datum 20 = .ok (.iconst 0, 1) := by decide +kernel
theorem dX11_datum_21 : decode cX11_datum 21 = .ok (.invokevirtual 229, 3) := by decide +kernel
theorem dX11_datum_24 : decode cX11_datum 24 = .ok (.ifCond .ne 47, 3) := by decide +kernel
theorem dX11_datum_27 : decode cX11_datum 27 = .ok (.aload_n 0, 1) := by decide +kernel
theorem dX11_datum_28 : decode cX11_datum 28 = .ok (.iload_n 2, 1) := by decide +kernel
theorem dX11_datum_29 : decode cX11_datum 29 = .ok (.iconst 0, 1) := by decide +kernel
theorem dX11_datum_30 : decode cX11_datum 30 = .ok (.bipush 12, 2) := by decide +kernel
theorem dX11_datum_32 : decode cX11_datum 32 = .ok (.invokestatic 121, 3) := by decide +kernel
theorem dX11_datum_35 : decode cX11_datum 35 = .ok (.ifCond .eq 23, 3) := by decide +kernel
theorem dX11_datum_38 : decode cX11_datum 38 = .ok (.iload_n 3, 1) := by decide +kernel
theorem dX11_datum_39 : decode cX11_datum 39 = .ok (.iconst 0, 1) := by decide +kernel
theorem dX11_datum_40 : decode cX11_datum 40 = .ok (.bipush 9, 2) := by decide +kernel
theorem dX11_datum_42 : decode cX11_datum 42 = .ok (.invokestatic 121, 3) := by decide +kernel
theorem dX11_datum_45 : decode cX11_datum 45 = .ok (.ifCond .eq 13, 3) := by decide +kernel
theorem dX11_datum_48 : decode cX11_datum 48 = .ok (.iload_n 2, 1) := by decide +kernel
theorem dX11_datum_49 : decode cX11_datum 49 = .ok (.bipush 10, 2) := by decide +kernel
theorem dX11_datum_51 : decode cX11_datum 51 = .ok (.if_icmp .le 11, 3) := by decide +kernel
theorem dX11_datum_54 : decode cX11_datum 54 = .ok (.iload_n 3, 1) := by decide +kernel
theorem dX11_datum_55 : decode cX11_datum 55 = .ok (.ifCond .le 7, 3) := by decide +kernel
theorem dX11_datum_58 : decode cX11_datum 58 = .ok (.iconst 1, 1) := by decide +kernel
theorem dX11_datum_59 : decode cX11_datum 59 = .ok (.goto 4, 3) := by decide +kernel
theorem dX11_datum_62 : decode cX11_datum 62 = .ok (.iconst 0, 1) := by decide +kernel
theorem dX11_datum_63 : decode cX11_datum 63 = .ok (.iconst 2, 1) := by decide +kernel
theorem dX11_datum_64 : decode cX11_datum 64 = .ok (.iconst 1, 1) := by decide +kernel
theorem dX11_datum_65 : decode cX11_datum 65 = .ok (.invokevirtual 229, 3) := by decide +kernel
theorem dX11_datum_68 : decode cX11_datum 68 = .ok (.ifCond .eq 5, 3) := by decide +kernel
theorem dX11_datum_71 : decode cX11_datum 71 = .ok (.iconst 0, 1) := by decide +kernel
theorem dX11_datum_72 : decode cX11_datum 72 = .ok (.ireturn, 1) := by decide +kernel
theorem dX11_datum_73 : decode cX11_datum 73 = .ok (.aload_n 0, 1) := by decide +kernel
theorem dX11_datum_74 : decode cX11_datum 74 = .ok (.iload_n 1, 1) := by decide +kernel
theorem dX11_datum_75 : decode cX11_datum 75 = .ok (.iload_n 2, 1) := by decide +kernel
theorem dX11_datum_76 : decode cX11_datum 76 = .ok (.iload_n 3, 1) := by decide +kernel
theorem dX11_datum_77 : decode cX11_datum 77 = .ok (.invokevirtual 348, 3) := by decide +kernel
theorem dX11_datum_80 : decode cX11_datum 80 = .ok (.iconst 0, 1) := by decide +kernel
theorem dX11_datum_81 : decode cX11_datum 81 = .ok (.istore 4, 2) := by decide +kernel
theorem dX11_datum_83 : decode cX11_datum 83 = .ok (.iload 4, 2) := by decide +kernel
theorem dX11_datum_85 : decode cX11_datum 85 = .ok (.iconst 5, 1) := by decide +kernel
theorem dX11_datum_86 : decode cX11_datum 86 = .ok (.if_icmp .ge 23, 3) := by decide +kernel
theorem dX11_datum_89 : decode cX11_datum 89 = .ok (.aload_n 0, 1) := by decide +kernel
theorem dX11_datum_90 : decode cX11_datum 90 = .ok (.aload_n 0, 1) := by decide +kernel
theorem dX11_datum_91 : decode cX11_datum 91 = .ok (.iload_n 1, 1) := by decide +kernel
theorem dX11_datum_92 : decode cX11_datum 92 = .ok (.iload 4, 2) := by decide +kernel
theorem dX11_datum_94 : decode cX11_datum 94 = .ok (.invokevirtual 345, 3) := by decide +kernel
theorem dX11_datum_97 : decode cX11_datum 97 = .ok (.bipush 12, 2) := by decide +kernel
theorem dX11_datum_99 : decode cX11_datum 99 = .ok (.iconst 0, 1) := by decide +kernel
theorem dX11_datum_100 : decode cX11_datum 100 = .ok (.invokevirtual 348, 3) := by decide +kernel
theorem dX11_datum_103 : decode cX11_datum 103 = .ok (.iinc 4 1, 3) := by decide +kernel
theorem dX11_datum_106 : decode cX11_datum 106 = .ok (.goto (-23), 3) := by decide +kernel
theorem dX11_datum_109 : decode cX11_datum 109 = .ok (.aload_n 0, 1) := by decide +kernel
theorem dX11_datum_110 : decode cX11_datum 110 = .ok (.invokevirtual 407, 3) := by decide +kernel
theorem dX11_datum_113 : decode cX11_datum 113 = .ok (.ireturn, 1) := by decide +kernel
theorem dX11_told_0 : decode cX11_told 0 = .ok (.aload_n 0, 1) := by decide +kernel
theorem dX11_told_1 : decode cX11_told 1 = .ok (.iconst 0, 1) := by decide +kernel
theorem dX11_told_2 : decode cX11_told 2 = .ok (.putfield 78, 3) := by decide +kernel
theorem dX11_told_5 : decode cX11_told 5 = .ok (.aload_n 0, 1) := by decide +kernel
theorem dX11_told_6 : decode cX11_told 6 = .ok (.iload_n 1, 1) := by decide +kernel
theorem dX11_told_7 : decode cX11_told 7 = .ok (.iconst 0, 1) := by decide +kernel
theorem dX11_told_8 : decode cX11_told 8 = .ok (.bipush 14, 2) := by decide +kernel
theorem dX11_told_10 : decode cX11_told 10 = .ok (.invokestatic 121, 3) := by decide +kernel
theorem dX11_told_13 : decode cX11_told 13 = .ok (.ifCond .ne 7, 3) := by decide +kernel
theorem dX11_told_16 : decode cX11_told 16 = .ok (.iconst 1, 1) := by decide +kernel
theorem dX11_told_17 : decode cX11_told 17 = .ok (.goto 4, 3) := by decide +kernel
theorem dX11_told_20 : decode cX11_told 20 = .ok (.iconst 0, 1) := by decide +kernel
theorem dX11_told_21 : decode cX11_told 21 = .ok (.iconst 1, 1) := by decide +kernel
theorem dX11_told_22 : decode cX11_told 22 = .ok (.iconst 1, 1) := by decide +kernel
theorem dX11_told_23 : decode cX11_told 23 = .ok (.invokevirtual 229, 3) := by decide +kernel
theorem dX11_told_26 : decode cX11_told 26 = .ok (.ifCond .eq 5, 3) := by decide +kernel
theorem dX11_told_29 : decode cX11_told 29 = .ok (.iconst 0, 1) := by decide +kernel
theorem dX11_told_30 : decode cX11_told 30 = .ok (.ireturn, 1) := by decide +kernel
theorem dX11_told_31 : decode cX11_told 31 = .ok (.iconst 0, 1) := by decide +kernel
theorem dX11_told_32 : decode cX11_told 32 = .ok (.istore_n 2, 1) := by decide +kernel
theorem dX11_told_33 : decode cX11_told 33 = .ok (.iconst 0, 1) := by decide +kernel
theorem dX11_told_34 : decode cX11_told 34 = .ok (.istore_n 3, 1) := by decide +kernel
theorem dX11_told_35 : decode cX11_told 35 = .ok (.iload_n 3, 1) := by decide +kernel
theorem dX11_told_36 : decode cX11_told 36 = .ok (.bipush 6, 2) := by decide +kernel
theorem dX11_told_38 : decode cX11_told 38 = .ok (.if_icmp .ge 58, 3) := by decide +kernel
theorem dX11_told_41 : decode cX11_told 41 = .ok (.iload_n 2, 1) := by decide +kernel
theorem dX11_told_42 : decode cX11_told 42 = .ok (.iload_n 1, 1) := by decide +kernel
theorem dX11_told_43 : decode cX11_told 43 = .ok (.bipush 6, 2) := by decide +kernel
theorem dX11_told_45 : decode cX11_told 45 = .ok (.if_icmp .ne 14, 3) := by decide +kernel
theorem dX11_told_48 : decode cX11_told 48 = .ok (.aload_n 0, 1) := by decide +kernel
theorem dX11_told_49 : decode cX11_told 49 = .ok (.iload_n 3, 1) := by decide +kernel
theorem dX11_told_50 : decode cX11_told 50 = .ok (.invokevirtual 223, 3) := by decide +kernel
theorem dX11_told_53 : decode cX11_told 53 = .ok (.ifCond .eq 34, 3) := by decide +kernel
theorem dX11_told_56 : decode cX11_told 56 = .ok (.goto 25, 3) := by decide +kernel
theorem dX11_told_59 : decode cX11_told 59 = .ok (.aload_n 0, 1) := by decide +kernel
theorem dX11_told_60 : decode cX11_told 60 = .ok (.getfield 69, 3) := by decide +kernel
theorem dX11_told_63 : decode cX11_told 63 = .ok (.iconst 1, 1) := by decide +kernel
theorem dX11_told_64 : decode cX11_told 64 = .ok (.iaload, 1) := by decide +kernel
theorem dX11_told_65 : decode cX11_told 65 = .ok (.iconst (-1), 1) := by decide +kernel
theorem dX11_told_66 : decode cX11_told 66 = .ok (.if_icmp .eq 21, 3) := by decide +kernel
theorem dX11_told_69 : decode cX11_told 69 = .ok (.aload_n 0, 1) := by decide +kernel
theorem dX11_told_70 : decode cX11_told 70 = .ok (.getfield 56, 3) := by decide +kernel
theorem dX11_told_73 : decode cX11_told 73 = .ok (.iload_n 3, 1) := by decide +kernel
theorem dX11_told_74 : decode cX11_told 74 = .ok (.aaload, 1) := by decide +kernel
theorem dX11_told_75 : decode cX11_told 75 = .ok (.iconst 4, 1) := by decide +kernel
theorem dX11_told_76 : decode cX11_told 76 = .ok (.iaload, 1) := by decide +kernel
theorem dX11_told_77 : decode cX11_told 77 = .ok (.iconst 1, 1) := by decide +kernel
theorem dX11_told_78 : decode cX11_told 78 = .ok (.if_icmp .ne 9, 3) := by decide +kernel
theorem dX11_told_81 : decode cX11_told 81 = .ok (.iconst 1, 1) := by decide +kernel
theorem dX11_told_82 : decode cX11_told 82 = .ok (.iload_n 3, 1) := by decide +kernel
theorem dX11_told_83 : decode cX11_told 83 = .ok (.ishl, 1) := by decide +kernel
theorem dX11_told_84 : decode cX11_told 84 = .ok (.goto 4, 3) := by decide +kernel
theorem dX11_told_87 : decode cX11_told 87 = .ok (.iconst 0, 1) := by decide +kernel
theorem dX11_told_88 : decode cX11_told 88 = .ok (.ior, 1) := by decide +kernel
theorem dX11_told_89 : decode cX11_told 89 = .ok (.istore_n 2, 1) := by decide +kernel
theorem dX11_told_90 : decode cX11_told 90 = .ok (.iinc 3 1, 3) := by decide +kernel
theorem dX11_told_93 : decode cX11_told 93 = .ok (.goto (-58), 3) := by decide +kernel
theorem dX11_told_96 : decode cX11_told 96 = .ok (.iload_n 1, 1) := by decide +kernel
theorem dX11_told_97 : decode cX11_told 97 = .ok (.tableswitch 145 0 14 #[75, 80, 87, 114, 121, 128, 128, 145, 145, 145, 145, 145, 130, 135, 140], 75) := by decide +kernel
theorem dX11_told_172 : decode cX11_told 172 = .ok (.aload_n 0, 1) := by decide +kernel
theorem dX11_told_173 : decode cX11_told 173 = .ok (.getfield 272, 3) := by decide +kernel
theorem dX11_told_176 : decode cX11_told 176 = .ok (.ireturn, 1) := by decide +kernel
theorem dX11_told_177 : decode cX11_told 177 = .ok (.aload_n 0, 1) := by decide +kernel
theorem dX11_told_178 : decode cX11_told 178 = .ok (.getfield 69, 3) := by decide +kernel
theorem dX11_told_181 : decode cX11_told 181 = .ok (.iconst 0, 1) := by decide +kernel
theorem dX11_told_182 : decode cX11_told 182 = .ok (.iaload, 1) := by decide +kernel
theorem dX11_told_183 : decode cX11_told 183 = .ok (.ireturn, 1) := by decide +kernel
theorem dX11_told_184 : decode cX11_told 184 = .ok (.aload_n 0, 1) := by decide +kernel
theorem dX11_told_185 : decode cX11_told 185 = .ok (.getfield 69, 3) := by decide +kernel
theorem dX11_told_188 : decode cX11_told 188 = .ok (.iconst 0, 1) := by decide +kernel
theorem dX11_told_189 : decode cX11_told 189 = .ok (.iaload, 1) := by decide +kernel
theorem dX11_told_190 : decode cX11_told 190 = .ok (.ifCond .ne 7, 3) := by decide +kernel
theorem dX11_told_193 : decode cX11_told 193 = .ok (.iconst (-1), 1) := by decide +kernel
theorem dX11_told_194 : decode cX11_told 194 = .ok (.goto 16, 3) := by decide +kernel
theorem dX11_told_197 : decode cX11_told 197 = .ok (.aload_n 0, 1) := by decide +kernel
theorem dX11_told_198 : decode cX11_told 198 = .ok (.getfield 66, 3) := by decide +kernel
theorem dX11_told_201 : decode cX11_told 201 = .ok (.aload_n 0, 1) := by decide +kernel
theorem dX11_told_202 : decode cX11_told 202 = .ok (.getfield 69, 3) := by decide +kernel
theorem dX11_told_205 : decode cX11_told 205 = .ok (.iconst 0, 1) := by decide +kernel
theorem dX11_told_206 : decode cX11_told 206 = .ok (.iaload, 1) := by decide +kernel
theorem dX11_told_207 : decode cX11_told 207 = .ok (.iconst 1, 1) := by decide +kernel
theorem dX11_told_208 : decode cX11_told 208 = .ok (.isub, 1) := by decide +kernel
theorem dX11_told_209 : decode cX11_told 209 = .ok (.iaload, 1) := by decide +kernel
theorem dX11_told_210 : decode cX11_told 210 = .ok (.ireturn, 1) := by decide +kernel
theorem dX11_told_211 : decode cX11_told 211 = .ok (.aload_n 0, 1) := by decide +kernel
theorem dX11_told_212 : decode cX11_told 212 = .ok (.getfield 69, 3) := by decide +kernel
theorem dX11_told_215 : decode cX11_told 215 = .ok (.iconst 1, 1) := by decide +kernel
theorem dX11_told_216 : decode cX11_told 216 = .ok (.iaload, 1) := by decide +kernel
theorem dX11_told_217 : decode cX11_told 217 = .ok (.ireturn, 1) := by decide +kernel
theorem dX11_told_218 : decode cX11_told 218 = .ok (.aload_n 0, 1) := by decide +kernel
theorem dX11_told_219 : decode cX11_told 219 = .ok (.getfield 69, 3) := by decide +kernel
theorem dX11_told_222 : decode cX11_told 222 = .ok (.iconst 2, 1) := by decide +kernel
theorem dX11_told_223 : decode cX11_told 223 = .ok (.iaload, 1) := by decide +kernel
theorem dX11_told_224 : decode cX11_told 224 = .ok (.ireturn, 1) := by decide +kernel
theorem dX11_told_225 : decode cX11_told 225 = .ok (.iload_n 2, 1) := by decide +kernel
theorem dX11_told_226 : decode cX11_told 226 = .ok (.ireturn, 1) := by decide +kernel
theorem dX11_told_227 : decode cX11_told 227 = .ok (.aload_n 0, 1) := by decide +kernel
theorem dX11_told_228 : decode cX11_told 228 = .ok (.invokevirtual 407, 3) := by decide +kernel
theorem dX11_told_231 : decode cX11_told 231 = .ok (.ireturn, 1) := by decide +kernel
theorem dX11_told_232 : decode cX11_told 232 = .ok (.aload_n 0, 1) := by decide +kernel
theorem dX11_told_233 : decode cX11_told 233 = .ok (.invokevirtual 410, 3) := by decide +kernel
theorem dX11_told_236 : decode cX11_told 236 = .ok (.ireturn, 1) := by decide +kernel
theorem dX11_told_237 : decode cX11_told 237 = .ok (.aload_n 0, 1) := by decide +kernel
theorem dX11_told_238 : decode cX11_told 238 = .ok (.getfield 81, 3) := by decide +kernel
theorem dX11_told_241 : decode cX11_told 241 = .ok (.ireturn, 1) := by decide +kernel
theorem dX11_told_242 : decode cX11_told 242 = .ok (.aload_n 0, 1) := by decide +kernel
theorem dX11_told_243 : decode cX11_told 243 = .ok (.getfield 69, 3) := by decide +kernel
theorem dX11_told_246 : decode cX11_told 246 = .ok (.iload_n 1, 1) := by decide +kernel
theorem dX11_told_247 : decode cX11_told 247 = .ok (.iconst 4, 1) := by decide +kernel
theorem dX11_told_248 : decode cX11_told 248 = .ok (.isub, 1) := by decide +kernel
theorem dX11_told_249 : decode cX11_told 249 = .ok (.iaload, 1) := by decide +kernel
theorem dX11_told_250 : decode cX11_told 250 = .ok (.ireturn, 1) := by decide +kernel
theorem dX11_task_0 : decode cX11_task 0 = .ok (.aload_n 0, 1) := by decide +kernel
theorem dX11_task_1 : decode cX11_task 1 = .ok (.iconst 0, 1) := by decide +kernel
theorem dX11_task_2 : decode cX11_task 2 = .ok (.putfield 78, 3) := by decide +kernel
theorem dX11_task_5 : decode cX11_task 5 = .ok (.aload_n 0, 1) := by decide +kernel
theorem dX11_task_6 : decode cX11_task 6 = .ok (.aload_n 0, 1) := by decide +kernel
theorem dX11_task_7 : decode cX11_task 7 = .ok (.iload_n 1, 1) := by decide +kernel
theorem dX11_task_8 : decode cX11_task 8 = .ok (.invokevirtual 398, 3) := by decide +kernel
theorem dX11_task_11 : decode cX11_task 11 = .ok (.ifCond .ne 7, 3) := by decide +kernel
theorem dX11_task_14 : decode cX11_task 14 = .ok (.iconst 1, 1) := by decide +kernel
theorem dX11_task_15 : decode cX11_task 15 = .ok (.goto 4, 3) := by decide +kernel
theorem dX11_task_18 : decode cX11_task 18 = .ok (.iconst 0, 1) := by decide +kernel
theorem dX11_task_19 : decode cX11_task 19 = .ok (.iconst 1, 1) := by decide +kernel
theorem dX11_task_20 : decode cX11_task 20 = .ok (.iconst 0, 1) := by decide +kernel
theorem dX11_task_21 : decode cX11_task 21 = .ok (.invokevirtual 229, 3) := by decide +kernel
theorem dX11_task_24 : decode cX11_task 24 = .ok (.ifCond .ne 27, 3) := by decide +kernel
theorem dX11_task_27 : decode cX11_task 27 = .ok (.aload_n 0, 1) := by decide +kernel
theorem dX11_task_28 : decode cX11_task 28 = .ok (.iload_n 2, 1) := by decide +kernel
theorem dX11_task_29 : decode cX11_task 29 = .ok (.iconst 0, 1) := by decide +kernel
theorem dX11_task_30 : decode cX11_task 30 = .ok (.bipush 6, 2) := by decide +kernel
theorem dX11_task_32 : decode cX11_task 32 = .ok (.invokestatic 121, 3) := by decide +kernel
theorem dX11_task_35 : decode cX11_task 35 = .ok (.ifCond .ne 7, 3) := by decide +kernel
theorem dX11_task_38 : decode cX11_task 38 = .ok (.iconst 1, 1) := by decide +kernel
theorem dX11_task_39 : decode cX11_task 39 = .ok (.goto 4, 3) := by decide +kernel
theorem dX11_task_42 : decode cX11_task 42 = .ok (.iconst 0, 1) := by decide +kernel
theorem dX11_task_43 : decode cX11_task 43 = .ok (.iconst 2, 1) := by decide +kernel
theorem dX11_task_44 : decode cX11_task 44 = .ok (.iconst 1, 1) := by decide +kernel
theorem dX11_task_45 : decode cX11_task 45 = .ok (.invokevirtual 229, 3) := by decide +kernel
theorem dX11_task_48 : decode cX11_task 48 = .ok (.ifCond .eq 5, 3) := by decide +kernel
theorem dX11_task_51 : decode cX11_task 51 = .ok (.iconst 0, 1) := by decide +kernel
theorem dX11_task_52 : decode cX11_task 52 = .ok (.ireturn, 1) := by decide +kernel
theorem dX11_task_53 : decode cX11_task 53 = .ok (.aload_n 0, 1) := by decide +kernel
theorem dX11_task_54 : decode cX11_task 54 = .ok (.getfield 56, 3) := by decide +kernel
theorem dX11_task_57 : decode cX11_task 57 = .ok (.iload_n 1, 1) := by decide +kernel
theorem dX11_task_58 : decode cX11_task 58 = .ok (.aaload, 1) := by decide +kernel
theorem dX11_task_59 : decode cX11_task 59 = .ok (.iload_n 2, 1) := by decide +kernel
theorem dX11_task_60 : decode cX11_task 60 = .ok (.iaload, 1) := by decide +kernel
theorem dX11_task_61 : decode cX11_task 61 = .ok (.ireturn, 1) := by decide +kernel
theorem dX11_number__0 : decode cX11_number_ 0 = .ok (.aload_n 0, 1) := by decide +kernel
theorem dX11_number__1 : decode cX11_number_ 1 = .ok (.iconst 0, 1) := by decide +kernel
theorem dX11_number__2 : decode cX11_number_ 2 = .ok (.putfield 78, 3) := by decide +kernel
theorem dX11_number__5 : decode cX11_number_ 5 = .ok (.aload_n 0, 1) := by decide +kernel
theorem dX11_number__6 : decode cX11_number_ 6 = .ok (.aload_n 0, 1) := by decide +kernel
theorem dX11_number__7 : decode cX11_number_ 7 = .ok (.iload_n 1, 1) := by decide +kernel
theorem dX11_number__8 : decode cX11_number_ 8 = .ok (.invokevirtual 398, 3) := by decide +kernel
theorem dX11_number__11 : decode cX11_number_ 11 = .ok (.ifCond .ne 7, 3) := by decide +kernel
theorem dX11_number__14 : decode cX11_number_ 14 = .ok (.iconst 1, 1) := by decide +kernel
theorem dX11_number__15 : decode cX11_number_ 15 = .ok (.goto 4, 3) := by decide +kernel
theorem dX11_number__18 : decode cX11_number_ 18 = .ok (.iconst 0, 1) := by decide +kernel
theorem dX11_number__19 : decode cX11_number_ 19 = .ok (.iconst 1, 1) := by decide +kernel
theorem dX11_number__20 : decode cX11_number_ 20 = .ok (.iconst 0, 1) := by decide +kernel
theorem dX11_number__21 : decode cX11_number_ 21 = .ok (.invokevirtual 229, 3) := by decide +kernel
theorem dX11_number__24 : decode cX11_number_ 24 = .ok (.ifCond .eq 5, 3) := by decide +kernel
theorem dX11_number__27 : decode cX11_number_ 27 = .ok (.lconst 0, 1) := by decide +kernel
theorem dX11_number__28 : decode cX11_number_ 28 = .ok (.lreturn, 1) := by decide +kernel
theorem dX11_number__29 : decode cX11_number_ 29 = .ok (.aload_n 0, 1) := by decide +kernel
theorem dX11_number__30 : decode cX11_number_ 30 = .ok (.getfield 59, 3) := by decide +kernel
theorem dX11_number__33 : decode cX11_number_ 33 = .ok (.iload_n 1, 1) := by decide +kernel
theorem dX11_number__34 : decode cX11_number_ 34 = .ok (.laload, 1) := by decide +kernel
theorem dX11_number__35 : decode cX11_number_ 35 = .ok (.lreturn, 1) := by decide +kernel
theorem dX11_frame_0 : decode cX11_frame 0 = .ok (.aload_n 0, 1) := by decide +kernel
theorem dX11_frame_1 : decode cX11_frame 1 = .ok (.iconst 0, 1) := by decide +kernel
theorem dX11_frame_2 : decode cX11_frame 2 = .ok (.putfield 78, 3) := by decide +kernel
theorem dX11_frame_5 : decode cX11_frame 5 = .ok (.aload_n 0, 1) := by decide +kernel
theorem dX11_frame_6 : decode cX11_frame 6 = .ok (.iload_n 1, 1) := by decide +kernel
theorem dX11_frame_7 : decode cX11_frame 7 = .ok (.invokevirtual 398, 3) := by decide +kernel
theorem dX11_frame_10 : decode cX11_frame 10 = .ok (.ifCond .eq 25, 3) := by decide +kernel
theorem dX11_frame_13 : decode cX11_frame 13 = .ok (.iload_n 2, 1) := by decide +kernel
theorem dX11_frame_14 : decode cX11_frame 14 = .ok (.iconst 0, 1) := by decide +kernel
theorem dX11_frame_15 : decode cX11_frame 15 = .ok (.aload_n 0, 1) := by decide +kernel
theorem dX11_frame_16 : decode cX11_frame 16 = .ok (.getfield 56, 3) := by decide +kernel
theorem dX11_frame_19 : decode cX11_frame 19 = .ok (.iload_n 1, 1) := by decide +kernel
theorem dX11_frame_20 : decode cX11_frame 20 = .ok (.aaload, 1) := by decide +kernel
theorem dX11_frame_21 : decode cX11_frame 21 = .ok (.iconst 0, 1) := by decide +kernel
theorem dX11_frame_22 : decode cX11_frame 22 = .ok (.iaload, 1) := by decide +kernel
theorem dX11_frame_23 : decode cX11_frame 23 = .ok (.iconst 1, 1) := by decide +kernel
theorem dX11_frame_24 : decode cX11_frame 24 = .ok (.isub, 1) := by decide +kernel
theorem dX11_frame_25 : decode cX11_frame 25 = .ok (.invokestatic 121, 3) := by decide +kernel
theorem dX11_frame_28 : decode cX11_frame 28 = .ok (.ifCond .eq 7, 3) := by decide +kernel
theorem dX11_frame_31 : decode cX11_frame 31 = .ok (.iconst 1, 1) := by decide +kernel
theorem dX11_frame_32 : decode cX11_frame 32 = .ok (.goto 4, 3) := by decide +kernel
theorem dX11_frame_35 : decode cX11_frame 35 = .ok (.iconst 0, 1) := by decide +kernel
theorem dX11_frame_36 : decode cX11_frame 36 = .ok (.istore 4, 2) := by decide +kernel
theorem dX11_frame_38 : decode cX11_frame 38 = .ok (.aload_n 0, 1) := by decide +kernel
theorem dX11_frame_39 : decode cX11_frame 39 = .ok (.iload 4, 2) := by decide +kernel
theorem dX11_frame_41 : decode cX11_frame 41 = .ok (.ifCond .ne 7, 3) := by decide +kernel
theorem dX11_frame_44 : decode cX11_frame 44 = .ok (.iconst 1, 1) := by decide +kernel
theorem dX11_frame_45 : decode cX11_frame 45 = .ok (.goto 4, 3) := by decide +kernel
