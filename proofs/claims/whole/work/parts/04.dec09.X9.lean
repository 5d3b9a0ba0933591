theorem dX9_forceAll_34 : decode cX9_forceAll 34 = .ok (.putfield 267, 3) := by decide +kernel
theorem dX9_forceAll_37 : decode cX9_forceAll 37 = .ok (.aload_n 0, 1) := by decide +kernel
theorem dX9_forceAll_38 : decode cX9_forceAll 38 = .ok (.getfield 31, 3) := by decide +kernel
theorem dX9_forceAll_41 : decode cX9_forceAll 41 = .ok (.iload_n 2, 1) := by decide +kernel
theorem dX9_forceAll_42 : decode cX9_forceAll 42 = .ok (.aaload, 1) := by decide +kernel
theorem dX9_forceAll_43 : decode cX9_forceAll 43 = .ok (.dup, 1) := by decide +kernel
theorem dX9_forceAll_44 : decode cX9_forceAll 44 = .ok (.getfield 295, 3) := by decide +kernel
theorem dX9_forceAll_47 : decode cX9_forceAll 47 = .ok (.iconst 1, 1) := by decide +kernel
theorem dX9_forceAll_48 : decode cX9_forceAll 48 = .ok (.iadd, 1) := by decide +kernel
theorem dX9_forceAll_49 : decode cX9_forceAll 49 = .ok (.putfield 295, 3) := by decide +kernel
theorem dX9_forceAll_52 : decode cX9_forceAll 52 = .ok (.iinc 2 1, 3) := by decide +kernel
theorem dX9_forceAll_55 : decode cX9_forceAll 55 = .ok (.goto (-51), 3) := by decide +kernel
theorem dX9_forceAll_58 : decode cX9_forceAll 58 = .ok (.aload_n 0, 1) := by decide +kernel
theorem dX9_forceAll_59 : decode cX9_forceAll 59 = .ok (.invokevirtual 195, 3) := by decide +kernel
theorem dX9_forceAll_62 : decode cX9_forceAll 62 = .ok (.iload_n 1, 1) := by decide +kernel
theorem dX9_forceAll_63 : decode cX9_forceAll 63 = .ok (.ireturn, 1) := by decide +kernel
theorem dX9_settle_0 : decode cX9_settle 0 = .ok (.aload_n 0, 1) := by decide +kernel
theorem dX9_settle_1 : decode cX9_settle 1 = .ok (.getfield 49, 3) := by decide +kernel
theorem dX9_settle_4 : decode cX9_settle 4 = .ok (.iconst (-1), 1) := by decide +kernel
theorem dX9_settle_5 : decode cX9_settle 5 = .ok (.if_icmp .ne 4, 3) := by decide +kernel
theorem dX9_settle_8 : decode cX9_settle 8 = .ok (.return_, 1) := by decide +kernel
theorem dX9_settle_9 : decode cX9_settle 9 = .ok (.iconst 0, 1) := by decide +kernel
theorem dX9_settle_10 : decode cX9_settle 10 = .ok (.istore_n 1, 1) := by decide +kernel
theorem dX9_settle_11 : decode cX9_settle 11 = .ok (.iload_n 1, 1) := by decide +kernel
theorem dX9_settle_12 : decode cX9_settle 12 = .ok (.bipush 6, 2) := by decide +kernel
theorem dX9_settle_14 : decode cX9_settle 14 = .ok (.if_icmp .ge 31, 3) := by decide +kernel
theorem dX9_settle_17 : decode cX9_settle 17 = .ok (.aload_n 0, 1) := by decide +kernel
theorem dX9_settle_18 : decode cX9_settle 18 = .ok (.iload_n 1, 1) := by decide +kernel
theorem dX9_settle_19 : decode cX9_settle 19 = .ok (.invokevirtual 298, 3) := by decide +kernel
theorem dX9_settle_22 : decode cX9_settle 22 = .ok (.iconst (-1), 1) := by decide +kernel
theorem dX9_settle_23 : decode cX9_settle 23 = .ok (.if_icmp .ne 16, 3) := by decide +kernel
theorem dX9_settle_26 : decode cX9_settle 26 = .ok (.aload_n 0, 1) := by decide +kernel
theorem dX9_settle_27 : decode cX9_settle 27 = .ok (.getfield 31, 3) := by decide +kernel
theorem dX9_settle_30 : decode cX9_settle 30 = .ok (.iload_n 1, 1) := by decide +kernel
theorem dX9_settle_31 : decode cX9_settle 31 = .ok (.aaload, 1) := by decide +kernel
theorem dX9_settle_32 : decode cX9_settle 32 = .ok (.aload_n 0, 1) := by decide +kernel
theorem dX9_settle_33 : decode cX9_settle 33 = .ok (.getfield 72, 3) := by decide +kernel
theorem dX9_settle_36 : decode cX9_settle 36 = .ok (.putfield 267, 3) := by decide +kernel
theorem dX9_settle_39 : decode cX9_settle 39 = .ok (.iinc 1 1, 3) := by decide +kernel
theorem dX9_settle_42 : decode cX9_settle 42 = .ok (.goto (-31), 3) := by decide +kernel
theorem dX9_settle_45 : decode cX9_settle 45 = .ok (.aload_n 0, 1) := by decide +kernel
theorem dX9_settle_46 : decode cX9_settle 46 = .ok (.getfield 19, 3) := by decide +kernel
theorem dX9_settle_49 : decode cX9_settle 49 = .ok (.aload_n 0, 1) := by decide +kernel
theorem dX9_settle_50 : decode cX9_settle 50 = .ok (.getfield 49, 3) := by decide +kernel
theorem dX9_settle_53 : decode cX9_settle 53 = .ok (.aaload, 1) := by decide +kernel
theorem dX9_settle_54 : decode cX9_settle 54 = .ok (.astore_n 1, 1) := by decide +kernel
theorem dX9_settle_55 : decode cX9_settle 55 = .ok (.aload_n 0, 1) := by decide +kernel
theorem dX9_settle_56 : decode cX9_settle 56 = .ok (.invokevirtual 285, 3) := by decide +kernel
theorem dX9_settle_59 : decode cX9_settle 59 = .ok (.ifCond .gt 7, 3) := by decide +kernel
theorem dX9_settle_62 : decode cX9_settle 62 = .ok (.aload_n 1, 1) := by decide +kernel
theorem dX9_settle_63 : decode cX9_settle 63 = .ok (.ifnonnull 4, 3) := by decide +kernel
theorem dX9_settle_66 : decode cX9_settle 66 = .ok (.return_, 1) := by decide +kernel
theorem dX9_settle_67 : decode cX9_settle 67 = .ok (.aload_n 0, 1) := by decide +kernel
theorem dX9_settle_68 : decode cX9_settle 68 = .ok (.iconst (-1), 1) := by decide +kernel
theorem dX9_settle_69 : decode cX9_settle 69 = .ok (.putfield 49, 3) := by decide +kernel
theorem dX9_settle_72 : decode cX9_settle 72 = .ok (.aload_n 0, 1) := by decide +kernel
theorem dX9_settle_73 : decode cX9_settle 73 = .ok (.dup, 1) := by decide +kernel
theorem dX9_settle_74 : decode cX9_settle 74 = .ok (.getfield 79, 3) := by decide +kernel
theorem dX9_settle_77 : decode cX9_settle 77 = .ok (.iconst 1, 1) := by decide +kernel
theorem dX9_settle_78 : decode cX9_settle 78 = .ok (.iadd, 1) := by decide +kernel
theorem dX9_settle_79 : decode cX9_settle 79 = .ok (.putfield 79, 3) := by decide +kernel
theorem dX9_settle_82 : decode cX9_settle 82 = .ok (.aload_n 0, 1) := by decide +kernel
theorem dX9_settle_83 : decode cX9_settle 83 = .ok (.getfield 72, 3) := by decide +kernel
theorem dX9_settle_86 : decode cX9_settle 86 = .ok (.ifCond .eq 19, 3) := by decide +kernel
theorem dX9_settle_89 : decode cX9_settle 89 = .ok (.aload_n 0, 1) := by decide +kernel
theorem dX9_settle_90 : decode cX9_settle 90 = .ok (.aload_n 1, 1) := by decide +kernel
theorem dX9_settle_91 : decode cX9_settle 91 = .ok (.getfield 301, 3) := by decide +kernel
theorem dX9_settle_94 : decode cX9_settle 94 = .ok (.invokevirtual 277, 3) := by decide +kernel
theorem dX9_settle_97 : decode cX9_settle 97 = .ok (.aload_n 0, 1) := by decide +kernel
theorem dX9_settle_98 : decode cX9_settle 98 = .ok (.aload_n 1, 1) := by decide +kernel
theorem dX9_settle_99 : decode cX9_settle 99 = .ok (.invokevirtual 304, 3) := by decide +kernel
theorem dX9_settle_102 : decode cX9_settle 102 = .ok (.goto 21, 3) := by decide +kernel
theorem dX9_settle_105 : decode cX9_settle 105 = .ok (.aload_n 0, 1) := by decide +kernel
theorem dX9_settle_106 : decode cX9_settle 106 = .ok (.dup, 1) := by decide +kernel
theorem dX9_settle_107 : decode cX9_settle 107 = .ok (.getfield 69, 3) := by decide +kernel
theorem dX9_settle_110 : decode cX9_settle 110 = .ok (.iconst 1, 1) := by decide +kernel
theorem dX9_settle_111 : decode cX9_settle 111 = .ok (.isub, 1) := by decide +kernel
theorem dX9_settle_112 : decode cX9_settle 112 = .ok (.putfield 69, 3) := by decide +kernel
theorem dX9_settle_115 : decode cX9_settle 115 = .ok (.aload_n 0, 1) := by decide +kernel
theorem dX9_settle_116 : decode cX9_settle 116 = .ok (.aload_n 1, 1) := by decide +kernel
theorem dX9_settle_117 : decode cX9_settle 117 = .ok (.getfield 308, 3) := by decide +kernel
theorem dX9_settle_120 : decode cX9_settle 120 = .ok (.invokevirtual 277, 3) := by decide +kernel
theorem dX9_settle_123 : decode cX9_settle 123 = .ok (.return_, 1) := by decide +kernel
theorem dX9_unstackBelow_0 : decode cX9_unstackBelow 0 = .ok (.aload_n 1, 1) := by decide +kernel
theorem dX9_unstackBelow_1 : decode cX9_unstackBelow 1 = .ok (.getfield 311, 3) := by decide +kernel
theorem dX9_unstackBelow_4 : decode cX9_unstackBelow 4 = .ok (.ifCond .eq 32, 3) := by decide +kernel
theorem dX9_unstackBelow_7 : decode cX9_unstackBelow 7 = .ok (.aload_n 0, 1) := by decide +kernel
theorem dX9_unstackBelow_8 : decode cX9_unstackBelow 8 = .ok (.getfield 69, 3) := by decide +kernel
theorem dX9_unstackBelow_11 : decode cX9_unstackBelow 11 = .ok (.ifCond .le 25, 3) := by decide +kernel
theorem dX9_unstackBelow_14 : decode cX9_unstackBelow 14 = .ok (.aload_n 0, 1) := by decide +kernel
theorem dX9_unstackBelow_15 : decode cX9_unstackBelow 15 = .ok (.getfield 35, 3) := by decide +kernel
theorem dX9_unstackBelow_18 : decode cX9_unstackBelow 18 = .ok (.iconst 0, 1) := by decide +kernel
theorem dX9_unstackBelow_19 : decode cX9_unstackBelow 19 = .ok (.aload_n 0, 1) := by decide +kernel
theorem dX9_unstackBelow_20 : decode cX9_unstackBelow 20 = .ok (.getfield 35, 3) := by decide +kernel
theorem dX9_unstackBelow_23 : decode cX9_unstackBelow 23 = .ok (.aload_n 0, 1) := by decide +kernel
theorem dX9_unstackBelow_24 : decode cX9_unstackBelow 24 = .ok (.getfield 69, 3) := by decide +kernel
theorem dX9_unstackBelow_27 : decode cX9_unstackBelow 27 = .ok (.iconst 1, 1) := by decide +kernel
theorem dX9_unstackBelow_28 : decode cX9_unstackBelow 28 = .ok (.isub, 1) := by decide +kernel
theorem dX9_unstackBelow_29 : decode cX9_unstackBelow 29 = .ok (.iaload, 1) := by decide +kernel
theorem dX9_unstackBelow_30 : decode cX9_unstackBelow 30 = .ok (.iastore, 1) := by decide +kernel
theorem dX9_unstackBelow_31 : decode cX9_unstackBelow 31 = .ok (.aload_n 0, 1) := by decide +kernel
theorem dX9_unstackBelow_32 : decode cX9_unstackBelow 32 = .ok (.iconst 1, 1) := by decide +kernel
theorem dX9_unstackBelow_33 : decode cX9_unstackBelow 33 = .ok (.putfield 69, 3) := by decide +kernel
theorem dX9_unstackBelow_36 : decode cX9_unstackBelow 36 = .ok (.return_, 1) := by decide +kernel
theorem dX9_hindrance_0 : decode cX9_hindrance 0 = .ok (.aload_n 0, 1) := by decide +kernel
theorem dX9_hindrance_1 : decode cX9_hindrance 1 = .ok (.getfield 31, 3) := by decide +kernel
theorem dX9_hindrance_4 : decode cX9_hindrance 4 = .ok (.iload_n 1, 1) := by decide +kernel
theorem dX9_hindrance_5 : decode cX9_hindrance 5 = .ok (.aaload, 1) := by decide +kernel
theorem dX9_hindrance_6 : decode cX9_hindrance 6 = .ok (.astore_n 2, 1) := by decide +kernel
theorem dX9_hindrance_7 : decode cX9_hindrance 7 = .ok (.aload_n 2, 1) := by decide +kernel
theorem dX9_hindrance_8 : decode cX9_hindrance 8 = .ok (.getfield 198, 3) := by decide +kernel
theorem dX9_hindrance_11 : decode cX9_hindrance 11 = .ok (.iconst 1, 1) := by decide +kernel
theorem dX9_hindrance_12 : decode cX9_hindrance 12 = .ok (.isub, 1) := by decide +kernel
theorem dX9_hindrance_13 : decode cX9_hindrance 13 = .ok (.istore_n 3, 1) := by decide +kernel
theorem dX9_hindrance_14 : decode cX9_hindrance 14 = .ok (.iload_n 3, 1) := by decide +kernel
theorem dX9_hindrance_15 : decode cX9_hindrance 15 = .ok (.ifCond .lt 45, 3) := by decide +kernel
theorem dX9_hindrance_18 : decode cX9_hindrance 18 = .ok (.aload_n 2, 1) := by decide +kernel
theorem dX9_hindrance_19 : decode cX9_hindrance 19 = .ok (.getfield 248, 3) := by decide +kernel
theorem dX9_hindrance_22 : decode cX9_hindrance 22 = .ok (.iload_n 3, 1) := by decide +kernel
theorem dX9_hindrance_23 : decode cX9_hindrance 23 = .ok (.iaload, 1) := by decide +kernel
theorem dX9_hindrance_24 : decode cX9_hindrance 24 = .ok (.iconst 1, 1) := by decide +kernel
theorem dX9_hindrance_25 : decode cX9_hindrance 25 = .ok (.if_icmp .eq 20, 3) := by decide +kernel
theorem dX9_hindrance_28 : decode cX9_hindrance 28 = .ok (.aload_n 0, 1) := by decide +kernel
theorem dX9_hindrance_29 : decode cX9_hindrance 29 = .ok (.aload_n 0, 1) := by decide +kernel
theorem dX9_hindrance_30 : decode cX9_hindrance 30 = .ok (.getfield 49, 3) := by decide +kernel
theorem dX9_hindrance_33 : decode cX9_hindrance 33 = .ok (.aload_n 2, 1) := by decide +kernel
theorem dX9_hindrance_34 : decode cX9_hindrance 34 = .ok (.getfield 219, 3) := by decide +kernel
theorem dX9_hindrance_37 : decode cX9_hindrance 37 = .ok (.iload_n 3, 1) := by decide +kernel
theorem dX9_hindrance_38 : decode cX9_hindrance 38 = .ok (.iaload, 1) := by decide +kernel
theorem dX9_hindrance_39 : decode cX9_hindrance 39 = .ok (.invokevirtual 270, 3) := by decide +kernel
theorem dX9_hindrance_42 : decode cX9_hindrance 42 = .ok (.ifCond .eq 12, 3) := by decide +kernel
theorem dX9_hindrance_45 : decode cX9_hindrance 45 = .ok (.aload_n 2, 1) := by decide +kernel
theorem dX9_hindrance_46 : decode cX9_hindrance 46 = .ok (.getfield 198, 3) := by decide +kernel
theorem dX9_hindrance_49 : decode cX9_hindrance 49 = .ok (.iconst 1, 1) := by decide +kernel
theorem dX9_hindrance_50 : decode cX9_hindrance 50 = .ok (.isub, 1) := by decide +kernel
theorem dX9_hindrance_51 : decode cX9_hindrance 51 = .ok (.iload_n 3, 1) := by decide +kernel
theorem dX9_hindrance_52 : decode cX9_hindrance 52 = .ok (.isub, 1) := by decide +kernel
theorem dX9_hindrance_53 : decode cX9_hindrance 53 = .ok (.ireturn, 1) := by decide +kernel
theorem dX9_hindrance_54 : decode cX9_hindrance 54 = .ok (.iinc 3 (-1), 3) := by decide +kernel
theorem dX9_hindrance_57 : decode cX9_hindrance 57 = .ok (.goto (-43), 3) := by decide +kernel
theorem dX9_hindrance_60 : decode cX9_hindrance 60 = .ok (.iconst (-1), 1) := by decide +kernel
theorem dX9_hindrance_61 : decode cX9_hindrance 61 = .ok (.ireturn, 1) := by decide +kernel
theorem dX9_hasTurned_0 : decode cX9_hasTurned 0 = .ok (.aload_n 0, 1) := by decide +kernel
theorem dX9_hasTurned_1 : decode cX9_hasTurned 1 = .ok (.getfield 49, 3) := by decide +kernel
theorem dX9_hasTurned_4 : decode cX9_hasTurned 4 = .ok (.iconst (-1), 1) := by decide +kernel
theorem dX9_hasTurned_5 : decode cX9_hasTurned 5 = .ok (.if_icmp .eq 19, 3) := by decide +kernel
theorem dX9_hasTurned_8 : decode cX9_hasTurned 8 = .ok (.aload_n 0, 1) := by decide +kernel
theorem dX9_hasTurned_9 : decode cX9_hasTurned 9 = .ok (.getfield 31, 3) := by decide +kernel
theorem dX9_hasTurned_12 : decode cX9_hasTurned 12 = .ok (.iload_n 1, 1) := by decide +kernel
theorem dX9_hasTurned_13 : decode cX9_hasTurned 13 = .ok (.aaload, 1) := by decide +kernel
theorem dX9_hasTurned_14 : decode cX9_hasTurned 14 = .ok (.getfield 267, 3) := by decide +kernel
theorem dX9_hasTurned_17 : decode cX9_hasTurned 17 = .ok (.aload_n 0, 1) := by decide +kernel
theorem dX9_hasTurned_18 : decode cX9_hasTurned 18 = .ok (.getfield 72, 3) := by decide +kernel
theorem dX9_hasTurned_21 : decode cX9_hasTurned 21 = .ok (.if_icmp .ne 7, 3) := by decide +kernel
theorem dX9_hasTurned_24 : decode cX9_hasTurned 24 = .ok (.iconst 1, 1) := by decide +kernel
theorem dX9_hasTurned_25 : decode cX9_hasTurned 25 = .ok (.goto 4, 3) := by decide +kernel
theorem dX9_hasTurned_28 : decode cX9_hasTurned 28 = .ok (.iconst 0, 1) := by decide +kernel
theorem dX9_hasTurned_29 : decode cX9_hasTurned 29 = .ok (.ireturn, 1) := by decide +kernel
theorem dX9_leftToTurn_0 : decode cX9_leftToTurn 0 = .ok (.iconst 0, 1) := by decide +kernel
theorem dX9_leftToTurn_1 : decode cX9_leftToTurn 1 = .ok (.istore_n 1, 1) := by decide +kernel
theorem dX9_leftToTurn_2 : decode cX9_leftToTurn 2 = .ok (.iconst 0, 1) := by decide +kernel
theorem dX9_leftToTurn_3 : decode cX9_leftToTurn 3 = .ok (.istore_n 2, 1) := by decide +kernel
theorem dX9_leftToTurn_4 : decode cX9_leftToTurn 4 = .ok (.iload_n 2, 1) := by decide +kernel
theorem dX9_leftToTurn_5 : decode cX9_leftToTurn 5 = .ok (.bipush 6, 2) := by decide +kernel
theorem dX9_leftToTurn_7 : decode cX9_leftToTurn 7 = .ok (.if_icmp .ge 20, 3) := by decide +kernel
theorem dX9_leftToTurn_10 : decode cX9_leftToTurn 10 = .ok (.aload_n 0, 1) := by decide +kernel
theorem dX9_leftToTurn_11 : decode cX9_leftToTurn 11 = .ok (.iload_n 2, 1) := by decide +kernel
theorem dX9_leftToTurn_12 : decode cX9_leftToTurn 12 = .ok (.invokevirtual 291, 3) := by decide +kernel
theorem dX9_leftToTurn_15 : decode cX9_leftToTurn 15 = .ok (.ifCond .ne 6, 3) := by decide +kernel
theorem dX9_leftToTurn_18 : decode cX9_leftToTurn 18 = .ok (.iinc 1 1, 3) := by decide +kernel
theorem dX9_leftToTurn_21 : decode cX9_leftToTurn 21 = .ok (.iinc 2 1, 3) := by decide +kernel
theorem dX9_leftToTurn_24 : decode cX9_leftToTurn 24 = .ok (.goto (-20), 3) := by decide +kernel
theorem dX9_leftToTurn_27 : decode cX9_leftToTurn 27 = .ok (.iload_n 1, 1) := by decide +kernel
theorem dX9_leftToTurn_28 : decode cX9_leftToTurn 28 = .ok (.ireturn, 1) := by decide +kernel
theorem dX9_turnedBits_0 : decode cX9_turnedBits 0 = .ok (.iconst 0, 1) := by decide +kernel
theorem dX9_turnedBits_1 : decode cX9_turnedBits 1 = .ok (.istore_n 1, 1) := by decide +kernel
theorem dX9_turnedBits_2 : decode cX9_turnedBits 2 = .ok (.iconst 0, 1) := by decide +kernel
theorem dX9_turnedBits_3 : decode cX9_turnedBits 3 = .ok (.istore_n 2, 1) := by decide +kernel
theorem dX9_turnedBits_4 : decode cX9_turnedBits 4 = .ok (.iload_n 2, 1) := by decide +kernel
theorem dX9_turnedBits_5 : decode cX9_turnedBits 5 = .ok (.bipush 6, 2) := by decide +kernel
theorem dX9_turnedBits_7 : decode cX9_turnedBits 7 = .ok (.if_icmp .ge 35, 3) := by decide +kernel
theorem dX9_turnedBits_10 : decode cX9_turnedBits 10 = .ok (.aload_n 0, 1) := by decide +kernel
theorem dX9_turnedBits_11 : decode cX9_turnedBits 11 = .ok (.getfield 49, 3) := by decide +kernel
theorem dX9_turnedBits_14 : decode cX9_turnedBits 14 = .ok (.iconst (-1), 1) := by decide +kernel
theorem dX9_turnedBits_15 : decode cX9_turnedBits 15 = .ok (.if_icmp .eq 21, 3) := by decide +kernel
theorem dX9_turnedBits_18 : decode cX9_turnedBits 18 = .ok (.aload_n 0, 1) := by decide +kernel
theorem dX9_turnedBits_19 : decode cX9_turnedBits 19 = .ok (.getfield 31, 3) := by decide +kernel
theorem dX9_turnedBits_22 : decode cX9_turnedBits 22 = .ok (.iload_n 2, 1) := by decide +kernel
theorem dX9_turnedBits_23 : decode cX9_turnedBits 23 = .ok (.aaload, 1) := by decide +kernel
theorem dX9_turnedBits_24 : decode cX9_turnedBits 24 = .ok (.getfield 267, 3) := by decide +kernel
theorem dX9_turnedBits_27 : decode cX9_turnedBits 27 = .ok (.ifCond .eq 9, 3) := by decide +kernel
theorem dX9_turnedBits_30 : decode cX9_turnedBits 30 = .ok (.iload_n 1, 1) := by decide +kernel
theorem dX9_turnedBits_31 : decode cX9_turnedBits 31 = .ok (.iconst 1, 1) := by decide +kernel
theorem dX9_turnedBits_32 : decode cX9_turnedBits 32 = .ok (.iload_n 2, 1) := by decide +kernel
theorem dX9_turnedBits_33 : decode cX9_turnedBits 33 = .ok (.ishl, 1) := by decide +kernel
theorem dX9_turnedBits_34 : decode cX9_turnedBits 34 = .ok (.ior, 1) := by decide +kernel
theorem dX9_turnedBits_35 : decode cX9_turnedBits 35 = .ok (.istore_n 1, 1) := by decide +kernel
theorem dX9_turnedBits_36 : decode cX9_turnedBits 36 = .ok (.iinc 2 1, 3) := by decide +kernel
theorem dX9_turnedBits_39 : decode cX9_turnedBits 39 = .ok (.goto (-35), 3) := by decide +kernel
theorem dX9_turnedBits_42 : decode cX9_turnedBits 42 = .ok (.iload_n 1, 1) := by decide +kernel
theorem dX9_turnedBits_43 : decode cX9_turnedBits 43 = .ok (.ireturn, 1) := by decide +kernel
theorem dX9_idleBits_0 : decode cX9_idleBits 0 = .ok (.iconst 0, 1) := by decide +kernel
theorem dX9_idleBits_1 : decode cX9_idleBits 1 = .ok (.istore_n 1, 1) := by decide +kernel
theorem dX9_idleBits_2 : decode cX9_idleBits 2 = .ok (.iconst 0, 1) := by decide +kernel
theorem dX9_idleBits_3 : decode cX9_idleBits 3 = .ok (.istore_n 2, 1) := by decide +kernel
theorem dX9_idleBits_4 : decode cX9_idleBits 4 = .ok (.iload_n 2, 1) := by decide +kernel
theorem dX9_idleBits_5 : decode cX9_idleBits 5 = .ok (.bipush 6, 2) := by decide +kernel
theorem dX9_idleBits_7 : decode cX9_idleBits 7 = .ok (.if_icmp .ge 27, 3) := by decide +kernel
theorem dX9_idleBits_10 : decode cX9_idleBits 10 = .ok (.aload_n 0, 1) := by decide +kernel
theorem dX9_idleBits_11 : decode cX9_idleBits 11 = .ok (.getfield 31, 3) := by decide +kernel
theorem dX9_idleBits_14 : decode cX9_idleBits 14 = .ok (.iload_n 2, 1) := by decide +kernel
theorem dX9_idleBits_15 : decode cX9_idleBits 15 = .ok (.aaload, 1) := by decide +kernel
theorem dX9_idleBits_16 : decode cX9_idleBits 16 = .ok (.getfield 198, 3) := by decide +kernel
theorem dX9_idleBits_19 : decode cX9_idleBits 19 = .ok (.ifCond .ne 9, 3) := by decide +kernel
theorem dX9_idleBits_22 : decode cX9_idleBits 22 = .ok (.iload_n 1, 1) := by decide +kernel
theorem dX9_idleBits_23 : decode cX9_idleBits 23 = .ok (.iconst 1, 1) := by decide +kernel
theorem dX9_idleBits_24 : decode cX9_idleBits 24 = .ok (.iload_n 2, 1) := by decide +kernel
theorem dX9_idleBits_25 : decode cX9_idleBits 25 = .ok (.ishl, 1) := by decide +kernel
theorem dX9_idleBits_26 : decode cX9_idleBits 26 = .ok (.ior, 1) := by decide +kernel
theorem dX9_idleBits_27 : decode cX9_idleBits 27 = .ok (.istore_n 1, 1) := by decide +kernel
theorem dX9_idleBits_28 : decode cX9_idleBits 28 = .ok (.iinc 2 1, 3) := by decide +kernel
theorem dX9_idleBits_31 : decode cX9_idleBits 31 = .ok (.goto (-27), 3) := by decide +kernel
theorem dX9_idleBits_34 : decode cX9_idleBits 34 = .ok (.iload_n 1, 1) := by decide +kernel
theorem dX9_idleBits_35 : decode cX9_idleBits 35 = .ok (.ireturn, 1) := by decide +kernel
theorem dX9_allForced_0 : decode cX9_allForced 0 = .ok (.iconst 0, 1) := by decide +kernel
theorem dX9_allForced_1 : decode cX9_allForced 1 = .ok (.istore_n 1, 1) := by decide +kernel
theorem dX9_allForced_2 : decode cX9_allForced 2 = .ok (.iconst 0, 1) := by decide +kernel
theorem dX9_allForced_3 : decode cX9_allForced 3 = .ok (.istore_n 2, 1) := by decide +kernel
theorem dX9_allForced_4 : decode cX9_allForced 4 = .ok (.iload_n 2, 1) := by decide +kernel
theorem dX9_allForced_5 : decode cX9_allForced 5 = .ok (.bipush 6, 2) := by decide +kernel
theorem dX9_allForced_7 : decode cX9_allForced 7 = .ok (.if_icmp .ge 21, 3) := by decide +kernel
theorem dX9_allForced_10 : decode cX9_allForced 10 = .ok (.iload_n 1, 1) := by decide +kernel
theorem dX9_allForced_11 : decode cX9_allForced 11 = .ok (.aload_n 0, 1) := by decide +kernel
theorem dX9_allForced_12 : decode cX9_allForced 12 = .ok (.getfield 31, 3) := by decide +kernel
theorem dX9_allForced_15 : decode cX9_allForced 15 = .ok (.iload_n 2, 1) := by decide +kernel
theorem dX9_allForced_16 : decode cX9_allForced 16 = .ok (.aaload, 1) := by decide +kernel
theorem dX9_allForced_17 : decode cX9_allForced 17 = .ok (.getfield 295, 3) := by decide +kernel
theorem dX9_allForced_20 : decode cX9_allForced 20 = .ok (.iadd, 1) := by decide +kernel
theorem dX9_allForced_21 : decode cX9_allForced 21 = .ok (.istore_n 1, 1) := by decide +kernel
theorem dX9_allForced_22 : decode cX9_allForced 22 = .ok (.iinc 2 1, 3) := by decide +kernel
theorem dX9_allForced_25 : decode cX9_allForced 25 = .ok (.goto (-21), 3) := by decide +kernel
theorem dX9_allForced_28 : decode cX9_allForced 28 = .ok (.iload_n 1, 1) := by decide +kernel
theorem dX9_allForced_29 : decode cX9_allForced 29 = .ok (.ireturn, 1) := by decide +kernel
