theorem dX5_init_0 : decode cX5_init 0 = .ok (.aload_n 0, 1) := by decide +kernel
theorem dX5_init_1 : decode cX5_init 1 = .ok (.invokespecial 3, 3) := by decide +kernel
theorem dX5_init_4 : decode cX5_init 4 = .ok (.aload_n 0, 1) := by decide +kernel
theorem dX5_init_5 : decode cX5_init 5 = .ok (.iconst (-1), 1) := by decide +kernel
theorem dX5_init_6 : decode cX5_init 6 = .ok (.putfield 9, 3) := by decide +kernel
theorem dX5_init_9 : decode cX5_init 9 = .ok (.aload_n 0, 1) := by decide +kernel
theorem dX5_init_10 : decode cX5_init 10 = .ok (.aload_n 1, 1) := by decide +kernel
theorem dX5_init_11 : decode cX5_init 11 = .ok (.putfield 15, 3) := by decide +kernel
theorem dX5_init_14 : decode cX5_init 14 = .ok (.aload_n 0, 1) := by decide +kernel
theorem dX5_init_15 : decode cX5_init 15 = .ok (.iload_n 2, 1) := by decide +kernel
theorem dX5_init_16 : decode cX5_init 16 = .ok (.putfield 19, 3) := by decide +kernel
theorem dX5_init_19 : decode cX5_init 19 = .ok (.return_, 1) := by decide +kernel
theorem dX5_readFuncs_0 : decode cX5_readFuncs 0 = .ok (.aload_n 1, 1) := by decide +kernel
theorem dX5_readFuncs_1 : decode cX5_readFuncs 1 = .ok (.aload_n 0, 1) := by decide +kernel
theorem dX5_readFuncs_2 : decode cX5_readFuncs 2 = .ok (.ldc 22, 2) := by decide +kernel
theorem dX5_readFuncs_4 : decode cX5_readFuncs 4 = .ok (.invokevirtual 24, 3) := by decide +kernel
theorem dX5_readFuncs_7 : decode cX5_readFuncs 7 = .ok (.putfield 28, 3) := by decide +kernel
theorem dX5_readFuncs_10 : decode cX5_readFuncs 10 = .ok (.iconst 0, 1) := by decide +kernel
theorem dX5_readFuncs_11 : decode cX5_readFuncs 11 = .ok (.istore_n 2, 1) := by decide +kernel
theorem dX5_readFuncs_12 : decode cX5_readFuncs 12 = .ok (.iload_n 2, 1) := by decide +kernel
theorem dX5_readFuncs_13 : decode cX5_readFuncs 13 = .ok (.bipush 8, 2) := by decide +kernel
theorem dX5_readFuncs_15 : decode cX5_readFuncs 15 = .ok (.if_icmp .gt 84, 3) := by decide +kernel
theorem dX5_readFuncs_18 : decode cX5_readFuncs 18 = .ok (.aload_n 0, 1) := by decide +kernel
theorem dX5_readFuncs_19 : decode cX5_readFuncs 19 = .ok (.getfield 33, 3) := by decide +kernel
theorem dX5_readFuncs_22 : decode cX5_readFuncs 22 = .ok (.ifCond .ne 77, 3) := by decide +kernel
theorem dX5_readFuncs_25 : decode cX5_readFuncs 25 = .ok (.aload_n 0, 1) := by decide +kernel
theorem dX5_readFuncs_26 : decode cX5_readFuncs 26 = .ok (.invokevirtual 36, 3) := by decide +kernel
theorem dX5_readFuncs_29 : decode cX5_readFuncs 29 = .ok (.aload_n 0, 1) := by decide +kernel
theorem dX5_readFuncs_30 : decode cX5_readFuncs 30 = .ok (.getfield 39, 3) := by decide +kernel
theorem dX5_readFuncs_33 : decode cX5_readFuncs 33 = .ok (.istore_n 3, 1) := by decide +kernel
theorem dX5_readFuncs_34 : decode cX5_readFuncs 34 = .ok (.aload_n 0, 1) := by decide +kernel
theorem dX5_readFuncs_35 : decode cX5_readFuncs 35 = .ok (.ldc 42, 2) := by decide +kernel
theorem dX5_readFuncs_37 : decode cX5_readFuncs 37 = .ok (.invokevirtual 24, 3) := by decide +kernel
theorem dX5_readFuncs_40 : decode cX5_readFuncs 40 = .ok (.ifCond .ne 14, 3) := by decide +kernel
theorem dX5_readFuncs_43 : decode cX5_readFuncs 43 = .ok (.iload_n 2, 1) := by decide +kernel
theorem dX5_readFuncs_44 : decode cX5_readFuncs 44 = .ok (.ifCond .ne 9, 3) := by decide +kernel
theorem dX5_readFuncs_47 : decode cX5_readFuncs 47 = .ok (.aload_n 0, 1) := by decide +kernel
theorem dX5_readFuncs_48 : decode cX5_readFuncs 48 = .ok (.iconst 1, 1) := by decide +kernel
theorem dX5_readFuncs_49 : decode cX5_readFuncs 49 = .ok (.iload_n 3, 1) := by decide +kernel
theorem dX5_readFuncs_50 : decode cX5_readFuncs 50 = .ok (.invokevirtual 44, 3) := by decide +kernel
theorem dX5_readFuncs_53 : decode cX5_readFuncs 53 = .ok (.return_, 1) := by decide +kernel
theorem dX5_readFuncs_54 : decode cX5_readFuncs 54 = .ok (.iload_n 2, 1) := by decide +kernel
theorem dX5_readFuncs_55 : decode cX5_readFuncs 55 = .ok (.bipush 8, 2) := by decide +kernel
theorem dX5_readFuncs_57 : decode cX5_readFuncs 57 = .ok (.if_icmp .ne 10, 3) := by decide +kernel
theorem dX5_readFuncs_60 : decode cX5_readFuncs 60 = .ok (.aload_n 0, 1) := by decide +kernel
theorem dX5_readFuncs_61 : decode cX5_readFuncs 61 = .ok (.iconst 3, 1) := by decide +kernel
theorem dX5_readFuncs_62 : decode cX5_readFuncs 62 = .ok (.iload_n 3, 1) := by decide +kernel
theorem dX5_readFuncs_63 : decode cX5_readFuncs 63 = .ok (.invokevirtual 44, 3) := by decide +kernel
theorem dX5_readFuncs_66 : decode cX5_readFuncs 66 = .ok (.return_, 1) := by decide +kernel
theorem dX5_readFuncs_67 : decode cX5_readFuncs 67 = .ok (.aload_n 0, 1) := by decide +kernel
theorem dX5_readFuncs_68 : decode cX5_readFuncs 68 = .ok (.aload_n 1, 1) := by decide +kernel
theorem dX5_readFuncs_69 : decode cX5_readFuncs 69 = .ok (.invokevirtual 48, 3) := by decide +kernel
theorem dX5_readFuncs_72 : decode cX5_readFuncs 72 = .ok (.istore 4, 2) := by decide +kernel
theorem dX5_readFuncs_74 : decode cX5_readFuncs 74 = .ok (.aload_n 0, 1) := by decide +kernel
theorem dX5_readFuncs_75 : decode cX5_readFuncs 75 = .ok (.getfield 33, 3) := by decide +kernel
theorem dX5_readFuncs_78 : decode cX5_readFuncs 78 = .ok (.ifCond .ne 15, 3) := by decide +kernel
theorem dX5_readFuncs_81 : decode cX5_readFuncs 81 = .ok (.aload_n 1, 1) := by decide +kernel
theorem dX5_readFuncs_82 : decode cX5_readFuncs 82 = .ok (.getfield 52, 3) := by decide +kernel
theorem dX5_readFuncs_85 : decode cX5_readFuncs 85 = .ok (.iload 4, 2) := by decide +kernel
theorem dX5_readFuncs_87 : decode cX5_readFuncs 87 = .ok (.aload_n 0, 1) := by decide +kernel
theorem dX5_readFuncs_88 : decode cX5_readFuncs 88 = .ok (.iconst 1, 1) := by decide +kernel
theorem dX5_readFuncs_89 : decode cX5_readFuncs 89 = .ok (.invokevirtual 56, 3) := by decide +kernel
theorem dX5_readFuncs_92 : decode cX5_readFuncs 92 = .ok (.aastore, 1) := by decide +kernel
theorem dX5_readFuncs_93 : decode cX5_readFuncs 93 = .ok (.iinc 2 1, 3) := by decide +kernel
theorem dX5_readFuncs_96 : decode cX5_readFuncs 96 = .ok (.goto (-84), 3) := by decide +kernel
theorem dX5_readFuncs_99 : decode cX5_readFuncs 99 = .ok (.return_, 1) := by decide +kernel
theorem dX5_readFunction_0 : decode cX5_readFunction 0 = .ok (.aload_n 0, 1) := by decide +kernel
theorem dX5_readFunction_1 : decode cX5_readFunction 1 = .ok (.invokevirtual 36, 3) := by decide +kernel
theorem dX5_readFunction_4 : decode cX5_readFunction 4 = .ok (.aload_n 0, 1) := by decide +kernel
theorem dX5_readFunction_5 : decode cX5_readFunction 5 = .ok (.getfield 39, 3) := by decide +kernel
theorem dX5_readFunction_8 : decode cX5_readFunction 8 = .ok (.istore_n 2, 1) := by decide +kernel
theorem dX5_readFunction_9 : decode cX5_readFunction 9 = .ok (.aload_n 0, 1) := by decide +kernel
theorem dX5_readFunction_10 : decode cX5_readFunction 10 = .ok (.bipush 11, 2) := by decide +kernel
theorem dX5_readFunction_12 : decode cX5_readFunction 12 = .ok (.invokevirtual 60, 3) := by decide +kernel
theorem dX5_readFunction_15 : decode cX5_readFunction 15 = .ok (.istore_n 3, 1) := by decide +kernel
theorem dX5_readFunction_16 : decode cX5_readFunction 16 = .ok (.aload_n 0, 1) := by decide +kernel
theorem dX5_readFunction_17 : decode cX5_readFunction 17 = .ok (.getfield 33, 3) := by decide +kernel
theorem dX5_readFunction_20 : decode cX5_readFunction 20 = .ok (.ifCond .ne 18, 3) := by decide +kernel
theorem dX5_readFunction_23 : decode cX5_readFunction 23 = .ok (.aload_n 1, 1) := by decide +kernel
theorem dX5_readFunction_24 : decode cX5_readFunction 24 = .ok (.getfield 52, 3) := by decide +kernel
theorem dX5_readFunction_27 : decode cX5_readFunction 27 = .ok (.iload_n 3, 1) := by decide +kernel
theorem dX5_readFunction_28 : decode cX5_readFunction 28 = .ok (.aaload, 1) := by decide +kernel
theorem dX5_readFunction_29 : decode cX5_readFunction 29 = .ok (.ifnull 9, 3) := by decide +kernel
theorem dX5_readFunction_32 : decode cX5_readFunction 32 = .ok (.aload_n 0, 1) := by decide +kernel
theorem dX5_readFunction_33 : decode cX5_readFunction 33 = .ok (.iconst 4, 1) := by decide +kernel
theorem dX5_readFunction_34 : decode cX5_readFunction 34 = .ok (.iload_n 2, 1) := by decide +kernel
theorem dX5_readFunction_35 : decode cX5_readFunction 35 = .ok (.invokevirtual 44, 3) := by decide +kernel
theorem dX5_readFunction_38 : decode cX5_readFunction 38 = .ok (.iload_n 3, 1) := by decide +kernel
theorem dX5_readFunction_39 : decode cX5_readFunction 39 = .ok (.ireturn, 1) := by decide +kernel
theorem dX5_readEnds_0 : decode cX5_readEnds 0 = .ok (.aload_n 0, 1) := by decide +kernel
theorem dX5_readEnds_1 : decode cX5_readEnds 1 = .ok (.getfield 33, 3) := by decide +kernel
theorem dX5_readEnds_4 : decode cX5_readEnds 4 = .ok (.ifCond .ne 21, 3) := by decide +kernel
theorem dX5_readEnds_7 : decode cX5_readEnds 7 = .ok (.aload_n 0, 1) := by decide +kernel
theorem dX5_readEnds_8 : decode cX5_readEnds 8 = .ok (.ldc 64, 2) := by decide +kernel
theorem dX5_readEnds_10 : decode cX5_readEnds 10 = .ok (.invokevirtual 24, 3) := by decide +kernel
theorem dX5_readEnds_13 : decode cX5_readEnds 13 = .ok (.ifCond .eq 12, 3) := by decide +kernel
theorem dX5_readEnds_16 : decode cX5_readEnds 16 = .ok (.aload_n 1, 1) := by decide +kernel
theorem dX5_readEnds_17 : decode cX5_readEnds 17 = .ok (.aload_n 0, 1) := by decide +kernel
theorem dX5_readEnds_18 : decode cX5_readEnds 18 = .ok (.iconst 1, 1) := by decide +kernel
theorem dX5_readEnds_19 : decode cX5_readEnds 19 = .ok (.invokevirtual 56, 3) := by decide +kernel
theorem dX5_readEnds_22 : decode cX5_readEnds 22 = .ok (.putfield 66, 3) := by decide +kernel
theorem dX5_readEnds_25 : decode cX5_readEnds 25 = .ok (.aload_n 0, 1) := by decide +kernel
theorem dX5_readEnds_26 : decode cX5_readEnds 26 = .ok (.getfield 33, 3) := by decide +kernel
theorem dX5_readEnds_29 : decode cX5_readEnds 29 = .ok (.ifCond .ne 21, 3) := by decide +kernel
theorem dX5_readEnds_32 : decode cX5_readEnds 32 = .ok (.aload_n 0, 1) := by decide +kernel
theorem dX5_readEnds_33 : decode cX5_readEnds 33 = .ok (.ldc 69, 2) := by decide +kernel
theorem dX5_readEnds_35 : decode cX5_readEnds 35 = .ok (.invokevirtual 24, 3) := by decide +kernel
theorem dX5_readEnds_38 : decode cX5_readEnds 38 = .ok (.ifCond .eq 12, 3) := by decide +kernel
theorem dX5_readEnds_41 : decode cX5_readEnds 41 = .ok (.aload_n 1, 1) := by decide +kernel
theorem dX5_readEnds_42 : decode cX5_readEnds 42 = .ok (.aload_n 0, 1) := by decide +kernel
theorem dX5_readEnds_43 : decode cX5_readEnds 43 = .ok (.iconst 1, 1) := by decide +kernel
theorem dX5_readEnds_44 : decode cX5_readEnds 44 = .ok (.invokevirtual 56, 3) := by decide +kernel
theorem dX5_readEnds_47 : decode cX5_readEnds 47 = .ok (.putfield 71, 3) := by decide +kernel
theorem dX5_readEnds_50 : decode cX5_readEnds 50 = .ok (.aload_n 0, 1) := by decide +kernel
theorem dX5_readEnds_51 : decode cX5_readEnds 51 = .ok (.getfield 33, 3) := by decide +kernel
theorem dX5_readEnds_54 : decode cX5_readEnds 54 = .ok (.ifCond .ne 21, 3) := by decide +kernel
theorem dX5_readEnds_57 : decode cX5_readEnds 57 = .ok (.aload_n 0, 1) := by decide +kernel
theorem dX5_readEnds_58 : decode cX5_readEnds 58 = .ok (.ldc 73, 2) := by decide +kernel
theorem dX5_readEnds_60 : decode cX5_readEnds 60 = .ok (.invokevirtual 24, 3) := by decide +kernel
theorem dX5_readEnds_63 : decode cX5_readEnds 63 = .ok (.ifCond .eq 12, 3) := by decide +kernel
theorem dX5_readEnds_66 : decode cX5_readEnds 66 = .ok (.aload_n 1, 1) := by decide +kernel
theorem dX5_readEnds_67 : decode cX5_readEnds 67 = .ok (.aload_n 0, 1) := by decide +kernel
theorem dX5_readEnds_68 : decode cX5_readEnds 68 = .ok (.iconst 1, 1) := by decide +kernel
theorem dX5_readEnds_69 : decode cX5_readEnds 69 = .ok (.invokevirtual 56, 3) := by decide +kernel
theorem dX5_readEnds_72 : decode cX5_readEnds 72 = .ok (.putfield 75, 3) := by decide +kernel
theorem dX5_readEnds_75 : decode cX5_readEnds 75 = .ok (.aload_n 0, 1) := by decide +kernel
theorem dX5_readEnds_76 : decode cX5_readEnds 76 = .ok (.invokevirtual 36, 3) := by decide +kernel
theorem dX5_readEnds_79 : decode cX5_readEnds 79 = .ok (.aload_n 0, 1) := by decide +kernel
theorem dX5_readEnds_80 : decode cX5_readEnds 80 = .ok (.getfield 39, 3) := by decide +kernel
theorem dX5_readEnds_83 : decode cX5_readEnds 83 = .ok (.aload_n 0, 1) := by decide +kernel
theorem dX5_readEnds_84 : decode cX5_readEnds 84 = .ok (.getfield 19, 3) := by decide +kernel
theorem dX5_readEnds_87 : decode cX5_readEnds 87 = .ok (.if_icmp .ge 12, 3) := by decide +kernel
theorem dX5_readEnds_90 : decode cX5_readEnds 90 = .ok (.aload_n 0, 1) := by decide +kernel
theorem dX5_readEnds_91 : decode cX5_readEnds 91 = .ok (.iconst 1, 1) := by decide +kernel
theorem dX5_readEnds_92 : decode cX5_readEnds 92 = .ok (.aload_n 0, 1) := by decide +kernel
theorem dX5_readEnds_93 : decode cX5_readEnds 93 = .ok (.getfield 39, 3) := by decide +kernel
theorem dX5_readEnds_96 : decode cX5_readEnds 96 = .ok (.invokevirtual 44, 3) := by decide +kernel
theorem dX5_readEnds_99 : decode cX5_readEnds 99 = .ok (.return_, 1) := by decide +kernel
theorem dX5_readCode_0 : decode cX5_readCode 0 = .ok (.new 77, 3) := by decide +kernel
theorem dX5_readCode_3 : decode cX5_readCode 3 = .ok (.dup, 1) := by decide +kernel
theorem dX5_readCode_4 : decode cX5_readCode 4 = .ok (.invokespecial 79, 3) := by decide +kernel
theorem dX5_readCode_7 : decode cX5_readCode 7 = .ok (.astore_n 2, 1) := by decide +kernel
theorem dX5_readCode_8 : decode cX5_readCode 8 = .ok (.iload_n 1, 1) := by decide +kernel
theorem dX5_readCode_9 : decode cX5_readCode 9 = .ok (.ifCond .eq 9, 3) := by decide +kernel
theorem dX5_readCode_12 : decode cX5_readCode 12 = .ok (.aload_n 0, 1) := by decide +kernel
theorem dX5_readCode_13 : decode cX5_readCode 13 = .ok (.bipush 123, 2) := by decide +kernel
theorem dX5_readCode_15 : decode cX5_readCode 15 = .ok (.invokevirtual 80, 3) := by decide +kernel
theorem dX5_readCode_18 : decode cX5_readCode 18 = .ok (.iconst 0, 1) := by decide +kernel
theorem dX5_readCode_19 : decode cX5_readCode 19 = .ok (.istore_n 3, 1) := by decide +kernel
theorem dX5_readCode_20 : decode cX5_readCode 20 = .ok (.iload_n 3, 1) := by decide +kernel
theorem dX5_readCode_21 : decode cX5_readCode 21 = .ok (.bipush 24, 2) := by decide +kernel
theorem dX5_readCode_23 : decode cX5_readCode 23 = .ok (.if_icmp .gt 54, 3) := by decide +kernel
theorem dX5_readCode_26 : decode cX5_readCode 26 = .ok (.aload_n 0, 1) := by decide +kernel
theorem dX5_readCode_27 : decode cX5_readCode 27 = .ok (.getfield 33, 3) := by decide +kernel
theorem dX5_readCode_30 : decode cX5_readCode 30 = .ok (.ifCond .ne 47, 3) := by decide +kernel
theorem dX5_readCode_33 : decode cX5_readCode 33 = .ok (.aload_n 0, 1) := by decide +kernel
theorem dX5_readCode_34 : decode cX5_readCode 34 = .ok (.invokevirtual 36, 3) := by decide +kernel
theorem dX5_readCode_37 : decode cX5_readCode 37 = .ok (.iload_n 1, 1) := by decide +kernel
theorem dX5_readCode_38 : decode cX5_readCode 38 = .ok (.ifCond .eq 15, 3) := by decide +kernel
theorem dX5_readCode_41 : decode cX5_readCode 41 = .ok (.aload_n 0, 1) := by decide +kernel
theorem dX5_readCode_42 : decode cX5_readCode 42 = .ok (.bipush 125, 2) := by decide +kernel
theorem dX5_readCode_44 : decode cX5_readCode 44 = .ok (.invokevirtual 84, 3) := by decide +kernel
theorem dX5_readCode_47 : decode cX5_readCode 47 = .ok (.ifCond .eq 19, 3) := by decide +kernel
theorem dX5_readCode_50 : decode cX5_readCode 50 = .ok (.goto 14, 3) := by decide +kernel
theorem dX5_readCode_53 : decode cX5_readCode 53 = .ok (.aload_n 0, 1) := by decide +kernel
theorem dX5_readCode_54 : decode cX5_readCode 54 = .ok (.getfield 39, 3) := by decide +kernel
theorem dX5_readCode_57 : decode cX5_readCode 57 = .ok (.aload_n 0, 1) := by decide +kernel
theorem dX5_readCode_58 : decode cX5_readCode 58 = .ok (.getfield 19, 3) := by decide +kernel
theorem dX5_readCode_61 : decode cX5_readCode 61 = .ok (.if_icmp .lt 5, 3) := by decide +kernel
theorem dX5_readCode_64 : decode cX5_readCode 64 = .ok (.aload_n 2, 1) := by decide +kernel
theorem dX5_readCode_65 : decode cX5_readCode 65 = .ok (.areturn, 1) := by decide +kernel
theorem dX5_readCode_66 : decode cX5_readCode 66 = .ok (.aload_n 0, 1) := by decide +kernel
theorem dX5_readCode_67 : decode cX5_readCode 67 = .ok (.aload_n 2, 1) := by decide +kernel
theorem dX5_readCode_68 : decode cX5_readCode 68 = .ok (.invokevirtual 88, 3) := by decide +kernel
theorem dX5_readCode_71 : decode cX5_readCode 71 = .ok (.iinc 3 1, 3) := by decide +kernel
theorem dX5_readCode_74 : decode cX5_readCode 74 = .ok (.goto (-54), 3) := by decide +kernel
theorem dX5_readCode_77 : decode cX5_readCode 77 = .ok (.aload_n 2, 1) := by decide +kernel
theorem dX5_readCode_78 : decode cX5_readCode 78 = .ok (.areturn, 1) := by decide +kernel
theorem dX5_readDeed_0 : decode cX5_readDeed 0 = .ok (.aload_n 0, 1) := by decide +kernel
theorem dX5_readDeed_1 : decode cX5_readDeed 1 = .ok (.getfield 39, 3) := by decide +kernel
theorem dX5_readDeed_4 : decode cX5_readDeed 4 = .ok (.istore_n 2, 1) := by decide +kernel
theorem dX5_readDeed_5 : decode cX5_readDeed 5 = .ok (.getstatic 92, 3) := by decide +kernel
theorem dX5_readDeed_8 : decode cX5_readDeed 8 = .ok (.astore_n 3, 1) := by decide +kernel
theorem dX5_readDeed_9 : decode cX5_readDeed 9 = .ok (.aload_n 3, 1) := by decide +kernel
theorem dX5_readDeed_10 : decode cX5_readDeed 10 = .ok (.arraylength, 1) := by decide +kernel
theorem dX5_readDeed_11 : decode cX5_readDeed 11 = .ok (.istore 4, 2) := by decide +kernel
theorem dX5_readDeed_13 : decode cX5_readDeed 13 = .ok (.iconst 0, 1) := by decide +kernel
theorem dX5_readDeed_14 : decode cX5_readDeed 14 = .ok (.istore 5, 2) := by decide +kernel
theorem dX5_readDeed_16 : decode cX5_readDeed 16 = .ok (.iload 5, 2) := by decide +kernel
theorem dX5_readDeed_18 : decode cX5_readDeed 18 = .ok (.iload 4, 2) := by decide +kernel
theorem dX5_readDeed_20 : decode cX5_readDeed 20 = .ok (.if_icmp .ge 119, 3) := by decide +kernel
theorem dX5_readDeed_23 : decode cX5_readDeed 23 = .ok (.aload_n 3, 1) := by decide +kernel
theorem dX5_readDeed_24 : decode cX5_readDeed 24 = .ok (.iload 5, 2) := by decide +kernel
theorem dX5_readDeed_26 : decode cX5_readDeed 26 = .ok (.aaload, 1) := by decide +kernel
theorem dX5_readDeed_27 : decode cX5_readDeed 27 = .ok (.astore 6, 2) := by decide +kernel
theorem dX5_readDeed_29 : decode cX5_readDeed 29 = .ok (.aload_n 0, 1) := by decide +kernel
theorem dX5_readDeed_30 : decode cX5_readDeed 30 = .ok (.aload 6, 2) := by decide +kernel
theorem dX5_readDeed_32 : decode cX5_readDeed 32 = .ok (.getfield 96, 3) := by decide +kernel
theorem dX5_readDeed_35 : decode cX5_readDeed 35 = .ok (.invokevirtual 24, 3) := by decide +kernel
theorem dX5_readDeed_38 : decode cX5_readDeed 38 = .ok (.ifCond .eq 95, 3) := by decide +kernel
theorem dX5_readDeed_41 : decode cX5_readDeed 41 = .ok (.aload_n 1, 1) := by decide +kernel
theorem dX5_readDeed_42 : decode cX5_readDeed 42 = .ok (.getfield 102, 3) := by decide +kernel
theorem dX5_readDeed_45 : decode cX5_readDeed 45 = .ok (.bipush 24, 2) := by decide +kernel
theorem dX5_readDeed_47 : decode cX5_readDeed 47 = .ok (.if_icmp .ne 10, 3) := by decide +kernel
theorem dX5_readDeed_50 : decode cX5_readDeed 50 = .ok (.aload_n 0, 1) := by decide +kernel
theorem dX5_readDeed_51 : decode cX5_readDeed 51 = .ok (.iconst 3, 1) := by decide +kernel
theorem dX5_readDeed_52 : decode cX5_readDeed 52 = .ok (.iload_n 2, 1) := by decide +kernel
theorem dX5_readDeed_53 : decode cX5_readDeed 53 = .ok (.invokevirtual 44, 3) := by decide +kernel
theorem dX5_readDeed_56 : decode cX5_readDeed 56 = .ok (.return_, 1) := by decide +kernel
theorem dX5_readDeed_57 : decode cX5_readDeed 57 = .ok (.new 105, 3) := by decide +kernel
theorem dX5_readDeed_60 : decode cX5_readDeed 60 = .ok (.dup, 1) := by decide +kernel
theorem dX5_readDeed_61 : decode cX5_readDeed 61 = .ok (.aload 6, 2) := by decide +kernel
theorem dX5_readDeed_63 : decode cX5_readDeed 63 = .ok (.invokespecial 107, 3) := by decide +kernel
theorem dX5_readDeed_66 : decode cX5_readDeed 66 = .ok (.astore 7, 2) := by decide +kernel
theorem dX5_readDeed_68 : decode cX5_readDeed 68 = .ok (.iconst 0, 1) := by decide +kernel
theorem dX5_readDeed_69 : decode cX5_readDeed 69 = .ok (.istore 8, 2) := by decide +kernel
theorem dX5_readDeed_71 : decode cX5_readDeed 71 = .ok (.iload 8, 2) := by decide +kernel
theorem dX5_readDeed_73 : decode cX5_readDeed 73 = .ok (.aload 6, 2) := by decide +kernel
theorem dX5_readDeed_75 : decode cX5_readDeed 75 = .ok (.getfield 110, 3) := by decide +kernel
theorem dX5_readDeed_78 : decode cX5_readDeed 78 = .ok (.invokevirtual 113, 3) := by decide +kernel
theorem dX5_readDeed_81 : decode cX5_readDeed 81 = .ok (.if_icmp .ge 32, 3) := by decide +kernel
theorem dX5_readDeed_84 : decode cX5_readDeed 84 = .ok (.aload_n 0, 1) := by decide +kernel
theorem dX5_readDeed_85 : decode cX5_readDeed 85 = .ok (.getfield 33, 3) := by decide +kernel
theorem dX5_readDeed_88 : decode cX5_readDeed 88 = .ok (.ifCond .ne 25, 3) := by decide +kernel
theorem dX5_readDeed_91 : decode cX5_readDeed 91 = .ok (.aload_n 0, 1) := by decide +kernel
theorem dX5_readDeed_92 : decode cX5_readDeed 92 = .ok (.aload 6, 2) := by decide +kernel
theorem dX5_readDeed_94 : decode cX5_readDeed 94 = .ok (.getfield 110, 3) := by decide +kernel
theorem dX5_readDeed_97 : decode cX5_readDeed 97 = .ok (.iload 8, 2) := by decide +kernel
theorem dX5_readDeed_99 : decode cX5_readDeed 99 = .ok (.invokevirtual 118, 3) := by decide +kernel
theorem dX5_readDeed_102 : decode cX5_readDeed 102 = .ok (.aload 7, 2) := by decide +kernel
theorem dX5_readDeed_104 : decode cX5_readDeed 104 = .ok (.invokevirtual 122, 3) := by decide +kernel
theorem dX5_readDeed_107 : decode cX5_readDeed 107 = .ok (.iinc 8 1, 3) := by decide +kernel
theorem dX5_readDeed_110 : decode cX5_readDeed 110 = .ok (.goto (-39), 3) := by decide +kernel
theorem dX5_readDeed_113 : decode cX5_readDeed 113 = .ok (.aload_n 0, 1) := by decide +kernel
theorem dX5_readDeed_114 : decode cX5_readDeed 114 = .ok (.getfield 33, 3) := by decide +kernel
theorem dX5_readDeed_117 : decode cX5_readDeed 117 = .ok (.ifCond .ne 9, 3) := by decide +kernel
theorem dX5_readDeed_120 : decode cX5_readDeed 120 = .ok (.aload_n 0, 1) := by decide +kernel
theorem dX5_readDeed_121 : decode cX5_readDeed 121 = .ok (.bipush 59, 2) := by decide +kernel
theorem dX5_readDeed_123 : decode cX5_readDeed 123 = .ok (.invokevirtual 80, 3) := by decide +kernel
theorem dX5_readDeed_126 : decode cX5_readDeed 126 = .ok (.aload_n 1, 1) := by decide +kernel
theorem dX5_readDeed_127 : decode cX5_readDeed 127 = .ok (.aload 7, 2) := by decide +kernel
theorem dX5_readDeed_129 : decode cX5_readDeed 129 = .ok (.invokevirtual 126, 3) := by decide +kernel
theorem dX5_readDeed_132 : decode cX5_readDeed 132 = .ok (.return_, 1) := by decide +kernel
theorem dX5_readDeed_133 : decode cX5_readDeed 133 = .ok (.iinc 5 1, 3) := by decide +kernel
theorem dX5_readDeed_136 : decode cX5_readDeed 136 = .ok (.goto (-120), 3) := by decide +kernel
theorem dX5_readDeed_139 : decode cX5_readDeed 139 = .ok (.aload_n 0, 1) := by decide +kernel
theorem dX5_readDeed_140 : decode cX5_readDeed 140 = .ok (.iconst 1, 1) := by decide +kernel
theorem dX5_readDeed_141 : decode cX5_readDeed 141 = .ok (.iload_n 2, 1) := by decide +kernel
theorem dX5_readDeed_142 : decode cX5_readDeed 142 = .ok (.invokevirtual 44, 3) := by decide +kernel
theorem dX5_readDeed_145 : decode cX5_readDeed 145 = .ok (.return_, 1) := by decide +kernel
theorem dX5_readPart_0 : decode cX5_readPart 0 = .ok (.iload_n 1, 1) := by decide +kernel
theorem dX5_readPart_1 : decode cX5_readPart 1 = .ok (.tableswitch 224 68 86 #[186, 224, 91, 173, 224, 224, 224, 160, 224, 199, 104, 224, 211, 224, 224, 224, 149, 224, 117], 91) := by decide +kernel
theorem dX5_readPart_92 : decode cX5_readPart 92 = .ok (.aload_n 2, 1) := by decide +kernel
theorem dX5_readPart_93 : decode cX5_readPart 93 = .ok (.aload_n 0, 1) := by decide +kernel
theorem dX5_readPart_94 : decode cX5_readPart 94 = .ok (.bipush 11, 2) := by decide +kernel
theorem dX5_readPart_96 : decode cX5_readPart 96 = .ok (.invokevirtual 60, 3) := by decide +kernel
theorem dX5_readPart_99 : decode cX5_readPart 99 = .ok (.putfield 130, 3) := by decide +kernel
theorem dX5_readPart_102 : decode cX5_readPart 102 = .ok (.goto 151, 3) := by decide +kernel
theorem dX5_readPart_105 : decode cX5_readPart 105 = .ok (.aload_n 2, 1) := by decide +kernel
theorem dX5_readPart_106 : decode cX5_readPart 106 = .ok (.aload_n 0, 1) := by decide +kernel
theorem dX5_readPart_107 : decode cX5_readPart 107 = .ok (.bipush 99, 2) := by decide +kernel
theorem dX5_readPart_109 : decode cX5_readPart 109 = .ok (.invokevirtual 60, 3) := by decide +kernel
theorem dX5_readPart_112 : decode cX5_readPart 112 = .ok (.putfield 130, 3) := by decide +kernel
theorem dX5_readPart_115 : decode cX5_readPart 115 = .ok (.goto 138, 3) := by decide +kernel
theorem dX5_readPart_118 : decode cX5_readPart 118 = .ok (.aload_n 2, 1) := by decide +kernel
theorem dX5_readPart_119 : decode cX5_readPart 119 = .ok (.aload_n 0, 1) := by decide +kernel
theorem dX5_readPart_120 : decode cX5_readPart 120 = .ok (.bipush 45, 2) := by decide +kernel
theorem dX5_readPart_122 : decode cX5_readPart 122 = .ok (.invokevirtual 84, 3) := by decide +kernel
theorem dX5_readPart_125 : decode cX5_readPart 125 = .ok (.ifCond .eq 13, 3) := by decide +kernel
theorem dX5_readPart_128 : decode cX5_readPart 128 = .ok (.aload_n 0, 1) := by decide +kernel
theorem dX5_readPart_129 : decode cX5_readPart 129 = .ok (.ldc 133, 2) := by decide +kernel
theorem dX5_readPart_131 : decode cX5_readPart 131 = .ok (.invokevirtual 60, 3) := by decide +kernel
theorem dX5_readPart_134 : decode cX5_readPart 134 = .ok (.ineg, 1) := by decide +kernel
theorem dX5_readPart_135 : decode cX5_readPart 135 = .ok (.goto 9, 3) := by decide +kernel
theorem dX5_readPart_138 : decode cX5_readPart 138 = .ok (.aload_n 0, 1) := by decide +kernel
theorem dX5_readPart_139 : decode cX5_readPart 139 = .ok (.ldc 133, 2) := by decide +kernel
theorem dX5_readPart_141 : decode cX5_readPart 141 = .ok (.invokevirtual 60, 3) := by decide +kernel
theorem dX5_readPart_144 : decode cX5_readPart 144 = .ok (.putfield 130, 3) := by decide +kernel
theorem dX5_readPart_147 : decode cX5_readPart 147 = .ok (.goto 106, 3) := by decide +kernel
theorem dX5_readPart_150 : decode cX5_readPart 150 = .ok (.aload_n 2, 1) := by decide +kernel
theorem dX5_readPart_151 : decode cX5_readPart 151 = .ok (.aload_n 0, 1) := by decide +kernel
theorem dX5_readPart_152 : decode cX5_readPart 152 = .ok (.invokevirtual 134, 3) := by decide +kernel
theorem dX5_readPart_155 : decode cX5_readPart 155 = .ok (.putfield 130, 3) := by decide +kernel
theorem dX5_readPart_158 : decode cX5_readPart 158 = .ok (.goto 95, 3) := by decide +kernel
theorem dX5_readPart_161 : decode cX5_readPart 161 = .ok (.aload_n 2, 1) := by decide +kernel
theorem dX5_readPart_162 : decode cX5_readPart 162 = .ok (.aload_n 0, 1) := by decide +kernel
theorem dX5_readPart_163 : decode cX5_readPart 163 = .ok (.bipush 8, 2) := by decide +kernel
theorem dX5_readPart_165 : decode cX5_readPart 165 = .ok (.invokevirtual 137, 3) := by decide +kernel
theorem dX5_readPart_168 : decode cX5_readPart 168 = .ok (.putfield 140, 3) := by decide +kernel
theorem dX5_readPart_171 : decode cX5_readPart 171 = .ok (.goto 82, 3) := by decide +kernel
theorem dX5_readPart_174 : decode cX5_readPart 174 = .ok (.aload_n 2, 1) := by decide +kernel
theorem dX5_readPart_175 : decode cX5_readPart 175 = .ok (.aload_n 0, 1) := by decide +kernel
theorem dX5_readPart_176 : decode cX5_readPart 176 = .ok (.bipush 11, 2) := by decide +kernel
theorem dX5_readPart_178 : decode cX5_readPart 178 = .ok (.invokevirtual 137, 3) := by decide +kernel
theorem dX5_readPart_181 : decode cX5_readPart 181 = .ok (.putfield 140, 3) := by decide +kernel
theorem dX5_readPart_184 : decode cX5_readPart 184 = .ok (.goto 69, 3) := by decide +kernel
theorem dX5_readPart_187 : decode cX5_readPart 187 = .ok (.aload_n 2, 1) := by decide +kernel
theorem dX5_readPart_188 : decode cX5_readPart 188 = .ok (.aload_n 0, 1) := by decide +kernel
theorem dX5_readPart_189 : decode cX5_readPart 189 = .ok (.bipush 9, 2) := by decide +kernel
theorem dX5_readPart_191 : decode cX5_readPart 191 = .ok (.invokevirtual 60, 3) := by decide +kernel
theorem dX5_readPart_194 : decode cX5_readPart 194 = .ok (.putfield 143, 3) := by decide +kernel
theorem dX5_readPart_197 : decode cX5_readPart 197 = .ok (.goto 56, 3) := by decide +kernel
theorem dX5_readPart_200 : decode cX5_readPart 200 = .ok (.aload_n 2, 1) := by decide +kernel
theorem dX5_readPart_201 : decode cX5_readPart 201 = .ok (.aload_n 0, 1) := by decide +kernel
theorem dX5_readPart_202 : decode cX5_readPart 202 = .ok (.iconst 4, 1) := by decide +kernel
theorem dX5_readPart_203 : decode cX5_readPart 203 = .ok (.invokevirtual 60, 3) := by decide +kernel
theorem dX5_readPart_206 : decode cX5_readPart 206 = .ok (.putfield 146, 3) := by decide +kernel
theorem dX5_readPart_209 : decode cX5_readPart 209 = .ok (.goto 44, 3) := by decide +kernel
theorem dX5_readPart_212 : decode cX5_readPart 212 = .ok (.aload_n 2, 1) := by decide +kernel
theorem dX5_readPart_213 : decode cX5_readPart 213 = .ok (.aload_n 0, 1) := by decide +kernel
theorem dX5_readPart_214 : decode cX5_readPart 214 = .ok (.bipush 9, 2) := by decide +kernel
theorem dX5_readPart_216 : decode cX5_readPart 216 = .ok (.invokevirtual 60, 3) := by decide +kernel
theorem dX5_readPart_219 : decode cX5_readPart 219 = .ok (.putfield 149, 3) := by decide +kernel
theorem dX5_readPart_222 : decode cX5_readPart 222 = .ok (.goto 31, 3) := by decide +kernel
theorem dX5_readPart_225 : decode cX5_readPart 225 = .ok (.aload_n 2, 1) := by decide +kernel
theorem dX5_readPart_226 : decode cX5_readPart 226 = .ok (.aload_n 0, 1) := by decide +kernel
theorem dX5_readPart_227 : decode cX5_readPart 227 = .ok (.bipush 9, 2) := by decide +kernel
theorem dX5_readPart_229 : decode cX5_readPart 229 = .ok (.invokevirtual 60, 3) := by decide +kernel
theorem dX5_readPart_232 : decode cX5_readPart 232 = .ok (.putfield 143, 3) := by decide +kernel
theorem dX5_readPart_235 : decode cX5_readPart 235 = .ok (.aload_n 0, 1) := by decide +kernel
theorem dX5_readPart_236 : decode cX5_readPart 236 = .ok (.bipush 46, 2) := by decide +kernel
theorem dX5_readPart_238 : decode cX5_readPart 238 = .ok (.invokevirtual 84, 3) := by decide +kernel
theorem dX5_readPart_241 : decode cX5_readPart 241 = .ok (.ifCond .eq 12, 3) := by decide +kernel
theorem dX5_readPart_244 : decode cX5_readPart 244 = .ok (.aload_n 2, 1) := by decide +kernel
theorem dX5_readPart_245 : decode cX5_readPart 245 = .ok (.aload_n 0, 1) := by decide +kernel
theorem dX5_readPart_246 : decode cX5_readPart 246 = .ok (.iconst 4, 1) := by decide +kernel
theorem dX5_readPart_247 : decode cX5_readPart 247 = .ok (.invokevirtual 60, 3) := by decide +kernel
theorem dX5_readPart_250 : decode cX5_readPart 250 = .ok (.putfield 146, 3) := by decide +kernel
theorem dX5_readPart_253 : decode cX5_readPart 253 = .ok (.return_, 1) := by decide +kernel
theorem dX5_readNumber_0 : decode cX5_readNumber 0 = .ok (.aload_n 0, 1) := by decide +kernel
theorem dX5_readNumber_1 : decode cX5_readNumber 1 = .ok (.invokevirtual 36, 3) := by decide +kernel
theorem dX5_readNumber_4 : decode cX5_readNumber 4 = .ok (.aload_n 0, 1) := by decide +kernel
theorem dX5_readNumber_5 : decode cX5_readNumber 5 = .ok (.getfield 39, 3) := by decide +kernel
theorem dX5_readNumber_8 : decode cX5_readNumber 8 = .ok (.istore_n 2, 1) := by decide +kernel
theorem dX5_readNumber_9 : decode cX5_readNumber 9 = .ok (.iconst 0, 1) := by decide +kernel
theorem dX5_readNumber_10 : decode cX5_readNumber 10 = .ok (.istore_n 3, 1) := by decide +kernel
theorem dX5_readNumber_11 : decode cX5_readNumber 11 = .ok (.aload_n 0, 1) := by decide +kernel
theorem dX5_readNumber_12 : decode cX5_readNumber 12 = .ok (.getfield 39, 3) := by decide +kernel
theorem dX5_readNumber_15 : decode cX5_readNumber 15 = .ok (.aload_n 0, 1) := by decide +kernel
theorem dX5_readNumber_16 : decode cX5_readNumber 16 = .ok (.getfield 19, 3) := by decide +kernel
theorem dX5_readNumber_19 : decode cX5_readNumber 19 = .ok (.if_icmp .ge 67, 3) := by decide +kernel
theorem dX5_readNumber_22 : decode cX5_readNumber 22 = .ok (.aload_n 0, 1) := by decide +kernel
theorem dX5_readNumber_23 : decode cX5_readNumber 23 = .ok (.getfield 15, 3) := by decide +kernel
theorem dX5_readNumber_26 : decode cX5_readNumber 26 = .ok (.aload_n 0, 1) := by decide +kernel
theorem dX5_readNumber_27 : decode cX5_readNumber 27 = .ok (.getfield 39, 3) := by decide +kernel
theorem dX5_readNumber_30 : decode cX5_readNumber 30 = .ok (.baload, 1) := by decide +kernel
theorem dX5_readNumber_31 : decode cX5_readNumber 31 = .ok (.bipush 48, 2) := by decide +kernel
theorem dX5_readNumber_33 : decode cX5_readNumber 33 = .ok (.if_icmp .lt 53, 3) := by decide +kernel
theorem dX5_readNumber_36 : decode cX5_readNumber 36 = .ok (.aload_n 0, 1) := by decide +kernel
theorem dX5_readNumber_37 : decode cX5_readNumber 37 = .ok (.getfield 15, 3) := by decide +kernel
theorem dX5_readNumber_40 : decode cX5_readNumber 40 = .ok (.aload_n 0, 1) := by decide +kernel
theorem dX5_readNumber_41 : decode cX5_readNumber 41 = .ok (.getfield 39, 3) := by decide +kernel
theorem dX5_readNumber_44 : decode cX5_readNumber 44 = .ok (.baload, 1) := by decide +kernel
theorem dX5_readNumber_45 : decode cX5_readNumber 45 = .ok (.bipush 57, 2) := by decide +kernel
theorem dX5_readNumber_47 : decode cX5_readNumber 47 = .ok (.if_icmp .gt 39, 3) := by decide +kernel
theorem dX5_readNumber_50 : decode cX5_readNumber 50 = .ok (.iload_n 3, 1) := by decide +kernel
theorem dX5_readNumber_51 : decode cX5_readNumber 51 = .ok (.bipush 10, 2) := by decide +kernel
theorem dX5_readNumber_53 : decode cX5_readNumber 53 = .ok (.imul, 1) := by decide +kernel
theorem dX5_readNumber_54 : decode cX5_readNumber 54 = .ok (.aload_n 0, 1) := by decide +kernel
theorem dX5_readNumber_55 : decode cX5_readNumber 55 = .ok (.getfield 15, 3) := by decide +kernel
theorem dX5_readNumber_58 : decode cX5_readNumber 58 = .ok (.aload_n 0, 1) := by decide +kernel
theorem dX5_readNumber_59 : decode cX5_readNumber 59 = .ok (.getfield 39, 3) := by decide +kernel
theorem dX5_readNumber_62 : decode cX5_readNumber 62 = .ok (.baload, 1) := by decide +kernel
theorem dX5_readNumber_63 : decode cX5_readNumber 63 = .ok (.iadd, 1) := by decide +kernel
theorem dX5_readNumber_64 : decode cX5_readNumber 64 = .ok (.bipush 48, 2) := by decide +kernel
theorem dX5_readNumber_66 : decode cX5_readNumber 66 = .ok (.isub, 1) := by decide +kernel
theorem dX5_readNumber_67 : decode cX5_readNumber 67 = .ok (.ldc 150, 2) := by decide +kernel
theorem dX5_readNumber_69 : decode cX5_readNumber 69 = .ok (.invokestatic 151, 3) := by decide +kernel
theorem dX5_readNumber_72 : decode cX5_readNumber 72 = .ok (.istore_n 3, 1) := by decide +kernel
theorem dX5_readNumber_73 : decode cX5_readNumber 73 = .ok (.aload_n 0, 1) := by decide +kernel
theorem dX5_readNumber_74 : decode cX5_readNumber 74 = .ok (.dup, 1) := by decide +kernel
theorem dX5_readNumber_75 : decode cX5_readNumber 75 = .ok (.getfield 39, 3) := by decide +kernel
theorem dX5_readNumber_78 : decode cX5_readNumber 78 = .ok (.iconst 1, 1) := by decide +kernel
theorem dX5_readNumber_79 : decode cX5_readNumber 79 = .ok (.iadd, 1) := by decide +kernel
theorem dX5_readNumber_80 : decode cX5_readNumber 80 = .ok (.putfield 39, 3) := by decide +kernel
theorem dX5_readNumber_83 : decode cX5_readNumber 83 = .ok (.goto (-72), 3) := by decide +kernel
theorem dX5_readNumber_86 : decode cX5_readNumber 86 = .ok (.aload_n 0, 1) := by decide +kernel
theorem dX5_readNumber_87 : decode cX5_readNumber 87 = .ok (.getfield 39, 3) := by decide +kernel
theorem dX5_readNumber_90 : decode cX5_readNumber 90 = .ok (.iload_n 2, 1) := by decide +kernel
theorem dX5_readNumber_91 : decode cX5_readNumber 91 = .ok (.if_icmp .ne 12, 3) := by decide +kernel
theorem dX5_readNumber_94 : decode cX5_readNumber 94 = .ok (.aload_n 0, 1) := by decide +kernel
theorem dX5_readNumber_95 : decode cX5_readNumber 95 = .ok (.iconst 1, 1) := by decide +kernel
theorem dX5_readNumber_96 : decode cX5_readNumber 96 = .ok (.iload_n 2, 1) := by decide +kernel
theorem dX5_readNumber_97 : decode cX5_readNumber 97 = .ok (.invokevirtual 44, 3) := by decide +kernel
theorem dX5_readNumber_100 : decode cX5_readNumber 100 = .ok (.goto 14, 3) := by decide +kernel
theorem dX5_readNumber_103 : decode cX5_readNumber 103 = .ok (.iload_n 3, 1) := by decide +kernel
theorem dX5_readNumber_104 : decode cX5_readNumber 104 = .ok (.iload_n 1, 1) := by decide +kernel
theorem dX5_readNumber_105 : decode cX5_readNumber 105 = .ok (.if_icmp .le 9, 3) := by decide +kernel
theorem dX5_readNumber_108 : decode cX5_readNumber 108 = .ok (.aload_n 0, 1) := by decide +kernel
theorem dX5_readNumber_109 : decode cX5_readNumber 109 = .ok (.iconst 2, 1) := by decide +kernel
theorem dX5_readNumber_110 : decode cX5_readNumber 110 = .ok (.iload_n 2, 1) := by decide +kernel
theorem dX5_readNumber_111 : decode cX5_readNumber 111 = .ok (.invokevirtual 44, 3) := by decide +kernel
theorem dX5_readNumber_114 : decode cX5_readNumber 114 = .ok (.iload_n 3, 1) := by decide +kernel
theorem dX5_readNumber_115 : decode cX5_readNumber 115 = .ok (.ireturn, 1) := by decide +kernel
theorem dX5_readKind_0 : decode cX5_readKind 0 = .ok (.aload_n 0, 1) := by decide +kernel
theorem dX5_readKind_1 : decode cX5_readKind 1 = .ok (.invokevirtual 36, 3) := by decide +kernel
theorem dX5_readKind_4 : decode cX5_readKind 4 = .ok (.aload_n 0, 1) := by decide +kernel
theorem dX5_readKind_5 : decode cX5_readKind 5 = .ok (.invokevirtual 157, 3) := by decide +kernel
theorem dX5_readKind_8 : decode cX5_readKind 8 = .ok (.istore_n 2, 1) := by decide +kernel
theorem dX5_readKind_9 : decode cX5_readKind 9 = .ok (.iload_n 2, 1) := by decide +kernel
theorem dX5_readKind_10 : decode cX5_readKind 10 = .ok (.aload_n 0, 1) := by decide +kernel
theorem dX5_readKind_11 : decode cX5_readKind 11 = .ok (.getfield 39, 3) := by decide +kernel
theorem dX5_readKind_14 : decode cX5_readKind 14 = .ok (.isub, 1) := by decide +kernel
theorem dX5_readKind_15 : decode cX5_readKind 15 = .ok (.iconst 1, 1) := by decide +kernel
theorem dX5_readKind_16 : decode cX5_readKind 16 = .ok (.if_icmp .ne 21, 3) := by decide +kernel
theorem dX5_readKind_19 : decode cX5_readKind 19 = .ok (.ldc 160, 2) := by decide +kernel
theorem dX5_readKind_21 : decode cX5_readKind 21 = .ok (.aload_n 0, 1) := by decide +kernel
theorem dX5_readKind_22 : decode cX5_readKind 22 = .ok (.getfield 15, 3) := by decide +kernel
theorem dX5_readKind_25 : decode cX5_readKind 25 = .ok (.aload_n 0, 1) := by decide +kernel
theorem dX5_readKind_26 : decode cX5_readKind 26 = .ok (.getfield 39, 3) := by decide +kernel
theorem dX5_readKind_29 : decode cX5_readKind 29 = .ok (.baload, 1) := by decide +kernel
theorem dX5_readKind_30 : decode cX5_readKind 30 = .ok (.i2c, 1) := by decide +kernel
theorem dX5_readKind_31 : decode cX5_readKind 31 = .ok (.invokevirtual 162, 3) := by decide +kernel
theorem dX5_readKind_34 : decode cX5_readKind 34 = .ok (.goto 4, 3) := by decide +kernel
theorem dX5_readKind_37 : decode cX5_readKind 37 = .ok (.iconst (-1), 1) := by decide +kernel
theorem dX5_readKind_38 : decode cX5_readKind 38 = .ok (.istore_n 3, 1) := by decide +kernel
theorem dX5_readKind_39 : decode cX5_readKind 39 = .ok (.iload_n 3, 1) := by decide +kernel
theorem dX5_readKind_40 : decode cX5_readKind 40 = .ok (.iload_n 1, 1) := by decide +kernel
theorem dX5_readKind_41 : decode cX5_readKind 41 = .ok (.invokestatic 165, 3) := by decide +kernel
theorem dX5_readKind_44 : decode cX5_readKind 44 = .ok (.ifCond .ne 14, 3) := by decide +kernel
theorem dX5_readKind_47 : decode cX5_readKind 47 = .ok (.aload_n 0, 1) := by decide +kernel
theorem dX5_readKind_48 : decode cX5_readKind 48 = .ok (.iconst 1, 1) := by decide +kernel
theorem dX5_readKind_49 : decode cX5_readKind 49 = .ok (.aload_n 0, 1) := by decide +kernel
theorem dX5_readKind_50 : decode cX5_readKind 50 = .ok (.getfield 39, 3) := by decide +kernel
theorem dX5_readKind_53 : decode cX5_readKind 53 = .ok (.invokevirtual 44, 3) := by decide +kernel
theorem dX5_readKind_56 : decode cX5_readKind 56 = .ok (.iconst 0, 1) := by decide +kernel
theorem dX5_readKind_57 : decode cX5_readKind 57 = .ok (.ireturn, 1) := by decide +kernel
theorem dX5_readKind_58 : decode cX5_readKind 58 = .ok (.aload_n 0, 1) := by decide +kernel
theorem dX5_readKind_59 : decode cX5_readKind 59 = .ok (.iload_n 2, 1) := by decide +kernel
theorem dX5_readKind_60 : decode cX5_readKind 60 = .ok (.putfield 39, 3) := by decide +kernel
theorem dX5_readKind_63 : decode cX5_readKind 63 = .ok (.iload_n 3, 1) := by decide +kernel
theorem dX5_readKind_64 : decode cX5_readKind 64 = .ok (.ireturn, 1) := by decide +kernel
theorem dX5_readText_0 : decode cX5_readText 0 = .ok (.aload_n 0, 1) := by decide +kernel
theorem dX5_readText_1 : decode cX5_readText 1 = .ok (.invokevirtual 36, 3) := by decide +kernel
theorem dX5_readText_4 : decode cX5_readText 4 = .ok (.aload_n 0, 1) := by decide +kernel
theorem dX5_readText_5 : decode cX5_readText 5 = .ok (.invokevirtual 157, 3) := by decide +kernel
theorem dX5_readText_8 : decode cX5_readText 8 = .ok (.istore_n 1, 1) := by decide +kernel
theorem dX5_readText_9 : decode cX5_readText 9 = .ok (.iload_n 1, 1) := by decide +kernel
theorem dX5_readText_10 : decode cX5_readText 10 = .ok (.aload_n 0, 1) := by decide +kernel
theorem dX5_readText_11 : decode cX5_readText 11 = .ok (.getfield 39, 3) := by decide +kernel
theorem dX5_readText_14 : decode cX5_readText 14 = .ok (.if_icmp .eq 14, 3) := by decide +kernel
theorem dX5_readText_17 : decode cX5_readText 17 = .ok (.iload_n 1, 1) := by decide +kernel
theorem dX5_readText_18 : decode cX5_readText 18 = .ok (.aload_n 0, 1) := by decide +kernel
theorem dX5_readText_19 : decode cX5_readText 19 = .ok (.getfield 39, 3) := by decide +kernel
theorem dX5_readText_22 : decode cX5_readText 22 = .ok (.isub, 1) := by decide +kernel
theorem dX5_readText_23 : decode cX5_readText 23 = .ok (.bipush 6, 2) := by decide +kernel
theorem dX5_readText_25 : decode cX5_readText 25 = .ok (.if_icmp .le 14, 3) := by decide +kernel
theorem dX5_readText_28 : decode cX5_readText 28 = .ok (.aload_n 0, 1) := by decide +kernel
theorem dX5_readText_29 : decode cX5_readText 29 = .ok (.iconst 1, 1) := by decide +kernel
theorem dX5_readText_30 : decode cX5_readText 30 = .ok (.aload_n 0, 1) := by decide +kernel
theorem dX5_readText_31 : decode cX5_readText 31 = .ok (.getfield 39, 3) := by decide +kernel
theorem dX5_readText_34 : decode cX5_readText 34 = .ok (.invokevirtual 44, 3) := by decide +kernel
theorem dX5_readText_37 : decode cX5_readText 37 = .ok (.iconst 0, 1) := by decide +kernel
theorem dX5_readText_38 : decode cX5_readText 38 = .ok (.ireturn, 1) := by decide +kernel
theorem dX5_readText_39 : decode cX5_readText 39 = .ok (.iconst 0, 1) := by decide +kernel
theorem dX5_readText_40 : decode cX5_readText 40 = .ok (.istore_n 2, 1) := by decide +kernel
theorem dX5_readText_41 : decode cX5_readText 41 = .ok (.aload_n 0, 1) := by decide +kernel
theorem dX5_readText_42 : decode cX5_readText 42 = .ok (.getfield 39, 3) := by decide +kernel
theorem dX5_readText_45 : decode cX5_readText 45 = .ok (.iload_n 1, 1) := by decide +kernel
theorem dX5_readText_46 : decode cX5_readText 46 = .ok (.if_icmp .ge 36, 3) := by decide +kernel
theorem dX5_readText_49 : decode cX5_readText 49 = .ok (.iload_n 2, 1) := by decide +kernel
theorem dX5_readText_50 : decode cX5_readText 50 = .ok (.bipush 27, 2) := by decide +kernel
theorem dX5_readText_52 : decode cX5_readText 52 = .ok (.imul, 1) := by decide +kernel
theorem dX5_readText_53 : decode cX5_readText 53 = .ok (.aload_n 0, 1) := by decide +kernel
theorem dX5_readText_54 : decode cX5_readText 54 = .ok (.getfield 15, 3) := by decide +kernel
theorem dX5_readText_57 : decode cX5_readText 57 = .ok (.aload_n 0, 1) := by decide +kernel
theorem dX5_readText_58 : decode cX5_readText 58 = .ok (.getfield 39, 3) := by decide +kernel
theorem dX5_readText_61 : decode cX5_readText 61 = .ok (.baload, 1) := by decide +kernel
theorem dX5_readText_62 : decode cX5_readText 62 = .ok (.iadd, 1) := by decide +kernel
theorem dX5_readText_63 : decode cX5_readText 63 = .ok (.bipush 97, 2) := by decide +kernel
theorem dX5_readText_65 : decode cX5_readText 65 = .ok (.isub, 1) := by decide +kernel
theorem dX5_readText_66 : decode cX5_readText 66 = .ok (.iconst 1, 1) := by decide +kernel
theorem dX5_readText_67 : decode cX5_readText 67 = .ok (.iadd, 1) := by decide +kernel
theorem dX5_readText_68 : decode cX5_readText 68 = .ok (.istore_n 2, 1) := by decide +kernel
theorem dX5_readText_69 : decode cX5_readText 69 = .ok (.aload_n 0, 1) := by decide +kernel
theorem dX5_readText_70 : decode cX5_readText 70 = .ok (.dup, 1) := by decide +kernel
theorem dX5_readText_71 : decode cX5_readText 71 = .ok (.getfield 39, 3) := by decide +kernel
theorem dX5_readText_74 : decode cX5_readText 74 = .ok (.iconst 1, 1) := by decide +kernel
theorem dX5_readText_75 : decode cX5_readText 75 = .ok (.iadd, 1) := by decide +kernel
theorem dX5_readText_76 : decode cX5_readText 76 = .ok (.putfield 39, 3) := by decide +kernel
theorem dX5_readText_79 : decode cX5_readText 79 = .ok (.goto (-38), 3) := by decide +kernel
theorem dX5_readText_82 : decode cX5_readText 82 = .ok (.iload_n 2, 1) := by decide +kernel
theorem dX5_readText_83 : decode cX5_readText 83 = .ok (.ireturn, 1) := by decide +kernel
theorem dX5_passWord_0 : decode cX5_passWord 0 = .ok (.aload_n 0, 1) := by decide +kernel
theorem dX5_passWord_1 : decode cX5_passWord 1 = .ok (.invokevirtual 36, 3) := by decide +kernel
theorem dX5_passWord_4 : decode cX5_passWord 4 = .ok (.aload_n 0, 1) := by decide +kernel
theorem dX5_passWord_5 : decode cX5_passWord 5 = .ok (.invokevirtual 157, 3) := by decide +kernel
theorem dX5_passWord_8 : decode cX5_passWord 8 = .ok (.istore_n 2, 1) := by decide +kernel
theorem dX5_passWord_9 : decode cX5_passWord 9 = .ok (.iload_n 2, 1) := by decide +kernel
theorem dX5_passWord_10 : decode cX5_passWord 10 = .ok (.aload_n 0, 1) := by decide +kernel
theorem dX5_passWord_11 : decode cX5_passWord 11 = .ok (.getfield 39, 3) := by decide +kernel
theorem dX5_passWord_14 : decode cX5_passWord 14 = .ok (.isub, 1) := by decide +kernel
theorem dX5_passWord_15 : decode cX5_passWord 15 = .ok (.aload_n 1, 1) := by decide +kernel
theorem dX5_passWord_16 : decode cX5_passWord 16 = .ok (.invokevirtual 113, 3) := by decide +kernel
theorem dX5_passWord_19 : decode cX5_passWord 19 = .ok (.if_icmp .eq 5, 3) := by decide +kernel
theorem dX5_passWord_22 : decode cX5_passWord 22 = .ok (.iconst 0, 1) := by decide +kernel
theorem dX5_passWord_23 : decode cX5_passWord 23 = .ok (.ireturn, 1) := by decide +kernel
theorem dX5_passWord_24 : decode cX5_passWord 24 = .ok (.iconst 0, 1) := by decide +kernel
theorem dX5_passWord_25 : decode cX5_passWord 25 = .ok (.istore_n 3, 1) := by decide +kernel
theorem dX5_passWord_26 : decode cX5_passWord 26 = .ok (.iload_n 3, 1) := by decide +kernel
theorem dX5_passWord_27 : decode cX5_passWord 27 = .ok (.aload_n 1, 1) := by decide +kernel
theorem dX5_passWord_28 : decode cX5_passWord 28 = .ok (.invokevirtual 113, 3) := by decide +kernel
theorem dX5_passWord_31 : decode cX5_passWord 31 = .ok (.if_icmp .ge 30, 3) := by decide +kernel
theorem dX5_passWord_34 : decode cX5_passWord 34 = .ok (.aload_n 0, 1) := by decide +kernel
theorem dX5_passWord_35 : decode cX5_passWord 35 = .ok (.getfield 15, 3) := by decide +kernel
theorem dX5_passWord_38 : decode cX5_passWord 38 = .ok (.aload_n 0, 1) := by decide +kernel
theorem dX5_passWord_39 : decode cX5_passWord 39 = .ok (.getfield 39, 3) := by decide +kernel
theorem dX5_passWord_42 : decode cX5_passWord 42 = .ok (.iload_n 3, 1) := by decide +kernel
theorem dX5_passWord_43 : decode cX5_passWord 43 = .ok (.iadd, 1) := by decide +kernel
theorem dX5_passWord_44 : decode cX5_passWord 44 = .ok (.baload, 1) := by decide +kernel
theorem dX5_passWord_45 : decode cX5_passWord 45 = .ok (.aload_n 1, 1) := by decide +kernel
theorem dX5_passWord_46 : decode cX5_passWord 46 = .ok (.iload_n 3, 1) := by decide +kernel
theorem dX5_passWord_47 : decode cX5_passWord 47 = .ok (.invokevirtual 118, 3) := by decide +kernel
theorem dX5_passWord_50 : decode cX5_passWord 50 = .ok (.if_icmp .eq 5, 3) := by decide +kernel
theorem dX5_passWord_53 : decode cX5_passWord 53 = .ok (.iconst 0, 1) := by decide +kernel
theorem dX5_passWord_54 : decode cX5_passWord 54 = .ok (.ireturn, 1) := by decide +kernel
theorem dX5_passWord_55 : decode cX5_passWord 55 = .ok (.iinc 3 1, 3) := by decide +kernel
theorem dX5_passWord_58 : decode cX5_passWord 58 = .ok (.goto (-32), 3) := by decide +kernel
theorem dX5_passWord_61 : decode cX5_passWord 61 = .ok (.aload_n 0, 1) := by decide +kernel
theorem dX5_passWord_62 : decode cX5_passWord 62 = .ok (.iload_n 2, 1) := by decide +kernel
theorem dX5_passWord_63 : decode cX5_passWord 63 = .ok (.putfield 39, 3) := by decide +kernel
theorem dX5_passWord_66 : decode cX5_passWord 66 = .ok (.iconst 1, 1) := by decide +kernel
theorem dX5_passWord_67 : decode cX5_passWord 67 = .ok (.ireturn, 1) := by decide +kernel
theorem dX5_wordEnd_0 : decode cX5_wordEnd 0 = .ok (.aload_n 0, 1) := by decide +kernel
theorem dX5_wordEnd_1 : decode cX5_wordEnd 1 = .ok (.getfield 39, 3) := by decide +kernel
theorem dX5_wordEnd_4 : decode cX5_wordEnd 4 = .ok (.istore_n 1, 1) := by decide +kernel
theorem dX5_wordEnd_5 : decode cX5_wordEnd 5 = .ok (.iload_n 1, 1) := by decide +kernel
theorem dX5_wordEnd_6 : decode cX5_wordEnd 6 = .ok (.aload_n 0, 1) := by decide +kernel
theorem dX5_wordEnd_7 : decode cX5_wordEnd 7 = .ok (.getfield 19, 3) := by decide +kernel
theorem dX5_wordEnd_10 : decode cX5_wordEnd 10 = .ok (.if_icmp .ge 31, 3) := by decide +kernel
theorem dX5_wordEnd_13 : decode cX5_wordEnd 13 = .ok (.aload_n 0, 1) := by decide +kernel
theorem dX5_wordEnd_14 : decode cX5_wordEnd 14 = .ok (.getfield 15, 3) := by decide +kernel
theorem dX5_wordEnd_17 : decode cX5_wordEnd 17 = .ok (.iload_n 1, 1) := by decide +kernel
theorem dX5_wordEnd_18 : decode cX5_wordEnd 18 = .ok (.baload, 1) := by decide +kernel
theorem dX5_wordEnd_19 : decode cX5_wordEnd 19 = .ok (.bipush 97, 2) := by decide +kernel
theorem dX5_wordEnd_21 : decode cX5_wordEnd 21 = .ok (.if_icmp .lt 20, 3) := by decide +kernel
theorem dX5_wordEnd_24 : decode cX5_wordEnd 24 = .ok (.aload_n 0, 1) := by decide +kernel
theorem dX5_wordEnd_25 : decode cX5_wordEnd 25 = .ok (.getfield 15, 3) := by decide +kernel
theorem dX5_wordEnd_28 : decode cX5_wordEnd 28 = .ok (.iload_n 1, 1) := by decide +kernel
theorem dX5_wordEnd_29 : decode cX5_wordEnd 29 = .ok (.baload, 1) := by decide +kernel
theorem dX5_wordEnd_30 : decode cX5_wordEnd 30 = .ok (.bipush 122, 2) := by decide +kernel
theorem dX5_wordEnd_32 : decode cX5_wordEnd 32 = .ok (.if_icmp .gt 9, 3) := by decide +kernel
theorem dX5_wordEnd_35 : decode cX5_wordEnd 35 = .ok (.iinc 1 1, 3) := by decide +kernel
theorem dX5_wordEnd_38 : decode cX5_wordEnd 38 = .ok (.goto (-33), 3) := by decide +kernel
theorem dX5_wordEnd_41 : decode cX5_wordEnd 41 = .ok (.iload_n 1, 1) := by decide +kernel
theorem dX5_wordEnd_42 : decode cX5_wordEnd 42 = .ok (.ireturn, 1) := by decide +kernel
theorem dX5_passIf_0 : decode cX5_passIf 0 = .ok (.aload_n 0, 1) := by decide +kernel
theorem dX5_passIf_1 : decode cX5_passIf 1 = .ok (.invokevirtual 36, 3) := by decide +kernel
theorem dX5_passIf_4 : decode cX5_passIf 4 = .ok (.aload_n 0, 1) := by decide +kernel
theorem dX5_passIf_5 : decode cX5_passIf 5 = .ok (.getfield 39, 3) := by decide +kernel
theorem dX5_passIf_8 : decode cX5_passIf 8 = .ok (.aload_n 0, 1) := by decide +kernel
theorem dX5_passIf_9 : decode cX5_passIf 9 = .ok (.getfield 19, 3) := by decide +kernel
theorem dX5_passIf_12 : decode cX5_passIf 12 = .ok (.if_icmp .ge 16, 3) := by decide +kernel
theorem dX5_passIf_15 : decode cX5_passIf 15 = .ok (.aload_n 0, 1) := by decide +kernel
theorem dX5_passIf_16 : decode cX5_passIf 16 = .ok (.getfield 15, 3) := by decide +kernel
theorem dX5_passIf_19 : decode cX5_passIf 19 = .ok (.aload_n 0, 1) := by decide +kernel
theorem dX5_passIf_20 : decode cX5_passIf 20 = .ok (.getfield 39, 3) := by decide +kernel
theorem dX5_passIf_23 : decode cX5_passIf 23 = .ok (.baload, 1) := by decide +kernel
theorem dX5_passIf_24 : decode cX5_passIf 24 = .ok (.iload_n 1, 1) := by decide +kernel
theorem dX5_passIf_25 : decode cX5_passIf 25 = .ok (.if_icmp .eq 5, 3) := by decide +kernel
theorem dX5_passIf_28 : decode cX5_passIf 28 = .ok (.iconst 0, 1) := by decide +kernel
theorem dX5_passIf_29 : decode cX5_passIf 29 = .ok (.ireturn, 1) := by decide +kernel
theorem dX5_passIf_30 : decode cX5_passIf 30 = .ok (.aload_n 0, 1) := by decide +kernel
theorem dX5_passIf_31 : decode cX5_passIf 31 = .ok (.dup, 1) := by decide +kernel
theorem dX5_passIf_32 : decode cX5_passIf 32 = .ok (.getfield 39, 3) := by decide +kernel
theorem dX5_passIf_35 : decode cX5_passIf 35 = .ok (.iconst 1, 1) := by decide +kernel
theorem dX5_passIf_36 : decode cX5_passIf 36 = .ok (.iadd, 1) := by decide +kernel
theorem dX5_passIf_37 : decode cX5_passIf 37 = .ok (.putfield 39, 3) := by decide +kernel
theorem dX5_passIf_40 : decode cX5_passIf 40 = .ok (.iconst 1, 1) := by decide +kernel
theorem dX5_passIf_41 : decode cX5_passIf 41 = .ok (.ireturn, 1) := by decide +kernel
theorem dX5_passSign_0 : decode cX5_passSign 0 = .ok (.aload_n 0, 1) := by decide +kernel
theorem dX5_passSign_1 : decode cX5_passSign 1 = .ok (.iload_n 1, 1) := by decide +kernel
theorem dX5_passSign_2 : decode cX5_passSign 2 = .ok (.invokevirtual 84, 3) := by decide +kernel
theorem dX5_passSign_5 : decode cX5_passSign 5 = .ok (.ifCond .ne 12, 3) := by decide +kernel
theorem dX5_passSign_8 : decode cX5_passSign 8 = .ok (.aload_n 0, 1) := by decide +kernel
theorem dX5_passSign_9 : decode cX5_passSign 9 = .ok (.iconst 1, 1) := by decide +kernel
theorem dX5_passSign_10 : decode cX5_passSign 10 = .ok (.aload_n 0, 1) := by decide +kernel
theorem dX5_passSign_11 : decode cX5_passSign 11 = .ok (.getfield 39, 3) := by decide +kernel
theorem dX5_passSign_14 : decode cX5_passSign 14 = .ok (.invokevirtual 44, 3) := by decide +kernel
theorem dX5_passSign_17 : decode cX5_passSign 17 = .ok (.return_, 1) := by decide +kernel
theorem dX5_skipBlanks_0 : decode cX5_skipBlanks 0 = .ok (.aload_n 0, 1) := by decide +kernel
theorem dX5_skipBlanks_1 : decode cX5_skipBlanks 1 = .ok (.getfield 39, 3) := by decide +kernel
theorem dX5_skipBlanks_4 : decode cX5_skipBlanks 4 = .ok (.aload_n 0, 1) := by decide +kernel
theorem dX5_skipBlanks_5 : decode cX5_skipBlanks 5 = .ok (.getfield 19, 3) := by decide +kernel
theorem dX5_skipBlanks_8 : decode cX5_skipBlanks 8 = .ok (.if_icmp .ge 30, 3) := by decide +kernel
theorem dX5_skipBlanks_11 : decode cX5_skipBlanks 11 = .ok (.aload_n 0, 1) := by decide +kernel
theorem dX5_skipBlanks_12 : decode cX5_skipBlanks 12 = .ok (.getfield 15, 3) := by decide +kernel
theorem dX5_skipBlanks_15 : decode cX5_skipBlanks 15 = .ok (.aload_n 0, 1) := by decide +kernel
theorem dX5_skipBlanks_16 : decode cX5_skipBlanks 16 = .ok (.getfield 39, 3) := by decide +kernel
theorem dX5_skipBlanks_19 : decode cX5_skipBlanks 19 = .ok (.baload, 1) := by decide +kernel
theorem dX5_skipBlanks_20 : decode cX5_skipBlanks 20 = .ok (.bipush 32, 2) := by decide +kernel
theorem dX5_skipBlanks_22 : decode cX5_skipBlanks 22 = .ok (.if_icmp .ne 16, 3) := by decide +kernel
theorem dX5_skipBlanks_25 : decode cX5_skipBlanks 25 = .ok (.aload_n 0, 1) := by decide +kernel
theorem dX5_skipBlanks_26 : decode cX5_skipBlanks 26 = .ok (.dup, 1) := by decide +kernel
theorem dX5_skipBlanks_27 : decode cX5_skipBlanks 27 = .ok (.getfield 39, 3) := by decide +kernel
theorem dX5_skipBlanks_30 : decode cX5_skipBlanks 30 = .ok (.iconst 1, 1) := by decide +kernel
theorem dX5_skipBlanks_31 : decode cX5_skipBlanks 31 = .ok (.iadd, 1) := by decide +kernel
theorem dX5_skipBlanks_32 : decode cX5_skipBlanks 32 = .ok (.putfield 39, 3) := by decide +kernel
theorem dX5_skipBlanks_35 : decode cX5_skipBlanks 35 = .ok (.goto (-35), 3) := by decide +kernel
theorem dX5_skipBlanks_38 : decode cX5_skipBlanks 38 = .ok (.return_, 1) := by decide +kernel
theorem dX5_fail_0 : decode cX5_fail 0 = .ok (.aload_n 0, 1) := by decide +kernel
theorem dX5_fail_1 : decode cX5_fail 1 = .ok (.getfield 33, 3) := by decide +kernel
theorem dX5_fail_4 : decode cX5_fail 4 = .ok (.ifCond .ne 13, 3) := by decide +kernel
theorem dX5_fail_7 : decode cX5_fail 7 = .ok (.aload_n 0, 1) := by decide +kernel
theorem dX5_fail_8 : decode cX5_fail 8 = .ok (.iload_n 1, 1) := by decide +kernel
theorem dX5_fail_9 : decode cX5_fail 9 = .ok (.putfield 33, 3) := by decide +kernel
theorem dX5_fail_12 : decode cX5_fail 12 = .ok (.aload_n 0, 1) := by decide +kernel
theorem dX5_fail_13 : decode cX5_fail 13 = .ok (.iload_n 2, 1) := by decide +kernel
theorem dX5_fail_14 : decode cX5_fail 14 = .ok (.putfield 9, 3) := by decide +kernel
theorem dX5_fail_17 : decode cX5_fail 17 = .ok (.return_, 1) := by decide +kernel
