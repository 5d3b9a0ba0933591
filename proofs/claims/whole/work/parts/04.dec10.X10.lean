theorem dX10_init_0 : decode cX10_init 0 = .ok (.aload_n 0, 1) := by decide +kernel
theorem dX10_init_1 : decode cX10_init 1 = .ok (.invokespecial 1, 3) := by decide +kernel
theorem dX10_init_4 : decode cX10_init 4 = .ok (.aload_n 0, 1) := by decide +kernel
theorem dX10_init_5 : decode cX10_init 5 = .ok (.sipush 500, 3) := by decide +kernel
theorem dX10_init_8 : decode cX10_init 8 = .ok (.newarray .byte, 2) := by decide +kernel
theorem dX10_init_10 : decode cX10_init 10 = .ok (.putfield 9, 3) := by decide +kernel
theorem dX10_init_13 : decode cX10_init 13 = .ok (.aload_n 0, 1) := by decide +kernel
theorem dX10_init_14 : decode cX10_init 14 = .ok (.iconst (-1), 1) := by decide +kernel
theorem dX10_init_15 : decode cX10_init 15 = .ok (.putfield 13, 3) := by decide +kernel
theorem dX10_init_18 : decode cX10_init 18 = .ok (.aload_n 0, 1) := by decide +kernel
theorem dX10_init_19 : decode cX10_init 19 = .ok (.new 17, 3) := by decide +kernel
theorem dX10_init_22 : decode cX10_init 22 = .ok (.dup, 1) := by decide +kernel
theorem dX10_init_23 : decode cX10_init 23 = .ok (.invokespecial 19, 3) := by decide +kernel
theorem dX10_init_26 : decode cX10_init 26 = .ok (.putfield 20, 3) := by decide +kernel
theorem dX10_init_29 : decode cX10_init 29 = .ok (.aload_n 0, 1) := by decide +kernel
theorem dX10_init_30 : decode cX10_init 30 = .ok (.new 17, 3) := by decide +kernel
theorem dX10_init_33 : decode cX10_init 33 = .ok (.dup, 1) := by decide +kernel
theorem dX10_init_34 : decode cX10_init 34 = .ok (.invokespecial 19, 3) := by decide +kernel
theorem dX10_init_37 : decode cX10_init 37 = .ok (.putfield 24, 3) := by decide +kernel
theorem dX10_init_40 : decode cX10_init 40 = .ok (.return_, 1) := by decide +kernel
theorem dX10_feed_0 : decode cX10_feed 0 = .ok (.aload_n 0, 1) := by decide +kernel
theorem dX10_feed_1 : decode cX10_feed 1 = .ok (.getfield 27, 3) := by decide +kernel
theorem dX10_feed_4 : decode cX10_feed 4 = .ok (.bipush 20, 2) := by decide +kernel
theorem dX10_feed_6 : decode cX10_feed 6 = .ok (.iadd, 1) := by decide +kernel
theorem dX10_feed_7 : decode cX10_feed 7 = .ok (.sipush 500, 3) := by decide +kernel
theorem dX10_feed_10 : decode cX10_feed 10 = .ok (.if_icmp .le 5, 3) := by decide +kernel
theorem dX10_feed_13 : decode cX10_feed 13 = .ok (.iconst (-1), 1) := by decide +kernel
theorem dX10_feed_14 : decode cX10_feed 14 = .ok (.ireturn, 1) := by decide +kernel
theorem dX10_feed_15 : decode cX10_feed 15 = .ok (.aload_n 0, 1) := by decide +kernel
theorem dX10_feed_16 : decode cX10_feed 16 = .ok (.iload_n 1, 1) := by decide +kernel
theorem dX10_feed_17 : decode cX10_feed 17 = .ok (.invokevirtual 30, 3) := by decide +kernel
theorem dX10_feed_20 : decode cX10_feed 20 = .ok (.aload_n 0, 1) := by decide +kernel
theorem dX10_feed_21 : decode cX10_feed 21 = .ok (.iload_n 2, 1) := by decide +kernel
theorem dX10_feed_22 : decode cX10_feed 22 = .ok (.invokevirtual 30, 3) := by decide +kernel
theorem dX10_feed_25 : decode cX10_feed 25 = .ok (.aload_n 0, 1) := by decide +kernel
theorem dX10_feed_26 : decode cX10_feed 26 = .ok (.iload_n 3, 1) := by decide +kernel
theorem dX10_feed_27 : decode cX10_feed 27 = .ok (.invokevirtual 30, 3) := by decide +kernel
theorem dX10_feed_30 : decode cX10_feed 30 = .ok (.aload_n 0, 1) := by decide +kernel
theorem dX10_feed_31 : decode cX10_feed 31 = .ok (.iload 4, 2) := by decide +kernel
theorem dX10_feed_33 : decode cX10_feed 33 = .ok (.invokevirtual 30, 3) := by decide +kernel
theorem dX10_feed_36 : decode cX10_feed 36 = .ok (.aload_n 0, 1) := by decide +kernel
theorem dX10_feed_37 : decode cX10_feed 37 = .ok (.iload 5, 2) := by decide +kernel
theorem dX10_feed_39 : decode cX10_feed 39 = .ok (.invokevirtual 30, 3) := by decide +kernel
theorem dX10_feed_42 : decode cX10_feed 42 = .ok (.aload_n 0, 1) := by decide +kernel
theorem dX10_feed_43 : decode cX10_feed 43 = .ok (.getfield 27, 3) := by decide +kernel
theorem dX10_feed_46 : decode cX10_feed 46 = .ok (.ireturn, 1) := by decide +kernel
theorem dX10_function_0 : decode cX10_function 0 = .ok (.aload_n 0, 1) := by decide +kernel
theorem dX10_function_1 : decode cX10_function 1 = .ok (.iload_n 1, 1) := by decide +kernel
theorem dX10_function_2 : decode cX10_function 2 = .ok (.bipush 12, 2) := by decide +kernel
theorem dX10_function_4 : decode cX10_function 4 = .ok (.invokestatic 34, 3) := by decide +kernel
theorem dX10_function_7 : decode cX10_function 7 = .ok (.invokevirtual 38, 3) := by decide +kernel
theorem dX10_function_10 : decode cX10_function 10 = .ok (.aload_n 0, 1) := by decide +kernel
theorem dX10_function_11 : decode cX10_function 11 = .ok (.iload_n 2, 1) := by decide +kernel
theorem dX10_function_12 : decode cX10_function 12 = .ok (.ifCond .lt 15, 3) := by decide +kernel
theorem dX10_function_15 : decode cX10_function 15 = .ok (.iload_n 2, 1) := by decide +kernel
theorem dX10_function_16 : decode cX10_function 16 = .ok (.aload_n 0, 1) := by decide +kernel
theorem dX10_function_17 : decode cX10_function 17 = .ok (.getfield 27, 3) := by decide +kernel
theorem dX10_function_20 : decode cX10_function 20 = .ok (.if_icmp .gt 7, 3) := by decide +kernel
theorem dX10_function_23 : decode cX10_function 23 = .ok (.iconst 1, 1) := by decide +kernel
theorem dX10_function_24 : decode cX10_function 24 = .ok (.goto 4, 3) := by decide +kernel
theorem dX10_function_27 : decode cX10_function 27 = .ok (.iconst 0, 1) := by decide +kernel
theorem dX10_function_28 : decode cX10_function 28 = .ok (.invokevirtual 42, 3) := by decide +kernel
theorem dX10_function_31 : decode cX10_function 31 = .ok (.aload_n 0, 1) := by decide +kernel
theorem dX10_function_32 : decode cX10_function 32 = .ok (.aload_n 0, 1) := by decide +kernel
theorem dX10_function_33 : decode cX10_function 33 = .ok (.getfield 20, 3) := by decide +kernel
theorem dX10_function_36 : decode cX10_function 36 = .ok (.invokevirtual 45, 3) := by decide +kernel
theorem dX10_function_39 : decode cX10_function 39 = .ok (.bipush 63, 2) := by decide +kernel
theorem dX10_function_41 : decode cX10_function 41 = .ok (.if_icmp .ne 7, 3) := by decide +kernel
theorem dX10_function_44 : decode cX10_function 44 = .ok (.iconst 1, 1) := by decide +kernel
theorem dX10_function_45 : decode cX10_function 45 = .ok (.goto 4, 3) := by decide +kernel
theorem dX10_function_48 : decode cX10_function 48 = .ok (.iconst 0, 1) := by decide +kernel
theorem dX10_function_49 : decode cX10_function 49 = .ok (.invokevirtual 49, 3) := by decide +kernel
theorem dX10_function_52 : decode cX10_function 52 = .ok (.new 52, 3) := by decide +kernel
theorem dX10_function_55 : decode cX10_function 55 = .ok (.dup, 1) := by decide +kernel
theorem dX10_function_56 : decode cX10_function 56 = .ok (.aload_n 0, 1) := by decide +kernel
theorem dX10_function_57 : decode cX10_function 57 = .ok (.getfield 9, 3) := by decide +kernel
theorem dX10_function_60 : decode cX10_function 60 = .ok (.iload_n 2, 1) := by decide +kernel
theorem dX10_function_61 : decode cX10_function 61 = .ok (.invokespecial 54, 3) := by decide +kernel
theorem dX10_function_64 : decode cX10_function 64 = .ok (.astore_n 3, 1) := by decide +kernel
theorem dX10_function_65 : decode cX10_function 65 = .ok (.aload_n 3, 1) := by decide +kernel
theorem dX10_function_66 : decode cX10_function 66 = .ok (.iconst 0, 1) := by decide +kernel
theorem dX10_function_67 : decode cX10_function 67 = .ok (.invokevirtual 57, 3) := by decide +kernel
theorem dX10_function_70 : decode cX10_function 70 = .ok (.astore 4, 2) := by decide +kernel
theorem dX10_function_72 : decode cX10_function 72 = .ok (.aload_n 0, 1) := by decide +kernel
theorem dX10_function_73 : decode cX10_function 73 = .ok (.aload_n 3, 1) := by decide +kernel
theorem dX10_function_74 : decode cX10_function 74 = .ok (.getfield 61, 3) := by decide +kernel
theorem dX10_function_77 : decode cX10_function 77 = .ok (.invokevirtual 64, 3) := by decide +kernel
theorem dX10_function_80 : decode cX10_function 80 = .ok (.aload_n 3, 1) := by decide +kernel
theorem dX10_function_81 : decode cX10_function 81 = .ok (.getfield 67, 3) := by decide +kernel
theorem dX10_function_84 : decode cX10_function 84 = .ok (.ifCond .eq 11, 3) := by decide +kernel
theorem dX10_function_87 : decode cX10_function 87 = .ok (.aload_n 3, 1) := by decide +kernel
theorem dX10_function_88 : decode cX10_function 88 = .ok (.getfield 67, 3) := by decide +kernel
theorem dX10_function_91 : decode cX10_function 91 = .ok (.bipush 10, 2) := by decide +kernel
theorem dX10_function_93 : decode cX10_function 93 = .ok (.isub, 1) := by decide +kernel
theorem dX10_function_94 : decode cX10_function 94 = .ok (.ireturn, 1) := by decide +kernel
theorem dX10_function_95 : decode cX10_function 95 = .ok (.aload_n 0, 1) := by decide +kernel
theorem dX10_function_96 : decode cX10_function 96 = .ok (.getfield 20, 3) := by decide +kernel
theorem dX10_function_99 : decode cX10_function 99 = .ok (.getfield 70, 3) := by decide +kernel
theorem dX10_function_102 : decode cX10_function 102 = .ok (.iload_n 1, 1) := by decide +kernel
theorem dX10_function_103 : decode cX10_function 103 = .ok (.aload 4, 2) := by decide +kernel
theorem dX10_function_105 : decode cX10_function 105 = .ok (.aastore, 1) := by decide +kernel
theorem dX10_function_106 : decode cX10_function 106 = .ok (.aload 4, 2) := by decide +kernel
theorem dX10_function_108 : decode cX10_function 108 = .ok (.getfield 74, 3) := by decide +kernel
theorem dX10_function_111 : decode cX10_function 111 = .ok (.ireturn, 1) := by decide +kernel
theorem dX10_patch_0 : decode cX10_patch 0 = .ok (.aload_n 0, 1) := by decide +kernel
theorem dX10_patch_1 : decode cX10_patch 1 = .ok (.iload_n 1, 1) := by decide +kernel
theorem dX10_patch_2 : decode cX10_patch 2 = .ok (.ifCond .lt 15, 3) := by decide +kernel
theorem dX10_patch_5 : decode cX10_patch 5 = .ok (.iload_n 1, 1) := by decide +kernel
theorem dX10_patch_6 : decode cX10_patch 6 = .ok (.aload_n 0, 1) := by decide +kernel
theorem dX10_patch_7 : decode cX10_patch 7 = .ok (.getfield 27, 3) := by decide +kernel
theorem dX10_patch_10 : decode cX10_patch 10 = .ok (.if_icmp .gt 7, 3) := by decide +kernel
theorem dX10_patch_13 : decode cX10_patch 13 = .ok (.iconst 1, 1) := by decide +kernel
theorem dX10_patch_14 : decode cX10_patch 14 = .ok (.goto 4, 3) := by decide +kernel
theorem dX10_patch_17 : decode cX10_patch 17 = .ok (.iconst 0, 1) := by decide +kernel
theorem dX10_patch_18 : decode cX10_patch 18 = .ok (.invokevirtual 42, 3) := by decide +kernel
theorem dX10_patch_21 : decode cX10_patch 21 = .ok (.aload_n 0, 1) := by decide +kernel
theorem dX10_patch_22 : decode cX10_patch 22 = .ok (.aload_n 0, 1) := by decide +kernel
theorem dX10_patch_23 : decode cX10_patch 23 = .ok (.getfield 79, 3) := by decide +kernel
theorem dX10_patch_26 : decode cX10_patch 26 = .ok (.bipush 8, 2) := by decide +kernel
theorem dX10_patch_28 : decode cX10_patch 28 = .ok (.if_icmp .ge 7, 3) := by decide +kernel
theorem dX10_patch_31 : decode cX10_patch 31 = .ok (.iconst 1, 1) := by decide +kernel
theorem dX10_patch_32 : decode cX10_patch 32 = .ok (.goto 4, 3) := by decide +kernel
theorem dX10_patch_35 : decode cX10_patch 35 = .ok (.iconst 0, 1) := by decide +kernel
theorem dX10_patch_36 : decode cX10_patch 36 = .ok (.invokevirtual 49, 3) := by decide +kernel
theorem dX10_patch_39 : decode cX10_patch 39 = .ok (.new 52, 3) := by decide +kernel
theorem dX10_patch_42 : decode cX10_patch 42 = .ok (.dup, 1) := by decide +kernel
theorem dX10_patch_43 : decode cX10_patch 43 = .ok (.aload_n 0, 1) := by decide +kernel
theorem dX10_patch_44 : decode cX10_patch 44 = .ok (.getfield 9, 3) := by decide +kernel
theorem dX10_patch_47 : decode cX10_patch 47 = .ok (.iload_n 1, 1) := by decide +kernel
theorem dX10_patch_48 : decode cX10_patch 48 = .ok (.invokespecial 54, 3) := by decide +kernel
theorem dX10_patch_51 : decode cX10_patch 51 = .ok (.astore_n 2, 1) := by decide +kernel
theorem dX10_patch_52 : decode cX10_patch 52 = .ok (.new 82, 3) := by decide +kernel
theorem dX10_patch_55 : decode cX10_patch 55 = .ok (.dup, 1) := by decide +kernel
theorem dX10_patch_56 : decode cX10_patch 56 = .ok (.invokespecial 84, 3) := by decide +kernel
theorem dX10_patch_59 : decode cX10_patch 59 = .ok (.astore_n 3, 1) := by decide +kernel
theorem dX10_patch_60 : decode cX10_patch 60 = .ok (.aload_n 2, 1) := by decide +kernel
theorem dX10_patch_61 : decode cX10_patch 61 = .ok (.aload_n 3, 1) := by decide +kernel
theorem dX10_patch_62 : decode cX10_patch 62 = .ok (.invokevirtual 85, 3) := by decide +kernel
theorem dX10_patch_65 : decode cX10_patch 65 = .ok (.aload_n 2, 1) := by decide +kernel
theorem dX10_patch_66 : decode cX10_patch 66 = .ok (.aload_n 3, 1) := by decide +kernel
theorem dX10_patch_67 : decode cX10_patch 67 = .ok (.invokevirtual 89, 3) := by decide +kernel
theorem dX10_patch_70 : decode cX10_patch 70 = .ok (.aload_n 0, 1) := by decide +kernel
theorem dX10_patch_71 : decode cX10_patch 71 = .ok (.aload_n 2, 1) := by decide +kernel
theorem dX10_patch_72 : decode cX10_patch 72 = .ok (.getfield 61, 3) := by decide +kernel
theorem dX10_patch_75 : decode cX10_patch 75 = .ok (.invokevirtual 64, 3) := by decide +kernel
theorem dX10_patch_78 : decode cX10_patch 78 = .ok (.aload_n 2, 1) := by decide +kernel
theorem dX10_patch_79 : decode cX10_patch 79 = .ok (.getfield 67, 3) := by decide +kernel
theorem dX10_patch_82 : decode cX10_patch 82 = .ok (.ifCond .eq 11, 3) := by decide +kernel
theorem dX10_patch_85 : decode cX10_patch 85 = .ok (.aload_n 2, 1) := by decide +kernel
theorem dX10_patch_86 : decode cX10_patch 86 = .ok (.getfield 67, 3) := by decide +kernel
theorem dX10_patch_89 : decode cX10_patch 89 = .ok (.bipush 10, 2) := by decide +kernel
theorem dX10_patch_91 : decode cX10_patch 91 = .ok (.isub, 1) := by decide +kernel
theorem dX10_patch_92 : decode cX10_patch 92 = .ok (.ireturn, 1) := by decide +kernel
theorem dX10_patch_93 : decode cX10_patch 93 = .ok (.aload_n 0, 1) := by decide +kernel
theorem dX10_patch_94 : decode cX10_patch 94 = .ok (.getfield 20, 3) := by decide +kernel
theorem dX10_patch_97 : decode cX10_patch 97 = .ok (.getfield 92, 3) := by decide +kernel
theorem dX10_patch_100 : decode cX10_patch 100 = .ok (.aload_n 0, 1) := by decide +kernel
theorem dX10_patch_101 : decode cX10_patch 101 = .ok (.getfield 79, 3) := by decide +kernel
theorem dX10_patch_104 : decode cX10_patch 104 = .ok (.aload_n 3, 1) := by decide +kernel
theorem dX10_patch_105 : decode cX10_patch 105 = .ok (.aastore, 1) := by decide +kernel
theorem dX10_patch_106 : decode cX10_patch 106 = .ok (.aload_n 0, 1) := by decide +kernel
theorem dX10_patch_107 : decode cX10_patch 107 = .ok (.dup, 1) := by decide +kernel
theorem dX10_patch_108 : decode cX10_patch 108 = .ok (.getfield 79, 3) := by decide +kernel
theorem dX10_patch_111 : decode cX10_patch 111 = .ok (.iconst 1, 1) := by decide +kernel
theorem dX10_patch_112 : decode cX10_patch 112 = .ok (.iadd, 1) := by decide +kernel
theorem dX10_patch_113 : decode cX10_patch 113 = .ok (.putfield 79, 3) := by decide +kernel
theorem dX10_patch_116 : decode cX10_patch 116 = .ok (.aload_n 0, 1) := by decide +kernel
theorem dX10_patch_117 : decode cX10_patch 117 = .ok (.getfield 79, 3) := by decide +kernel
theorem dX10_patch_120 : decode cX10_patch 120 = .ok (.iconst 1, 1) := by decide +kernel
theorem dX10_patch_121 : decode cX10_patch 121 = .ok (.isub, 1) := by decide +kernel
theorem dX10_patch_122 : decode cX10_patch 122 = .ok (.ireturn, 1) := by decide +kernel
theorem dX10_fault_0 : decode cX10_fault 0 = .ok (.aload_n 0, 1) := by decide +kernel
theorem dX10_fault_1 : decode cX10_fault 1 = .ok (.getfield 13, 3) := by decide +kernel
theorem dX10_fault_4 : decode cX10_fault 4 = .ok (.ireturn, 1) := by decide +kernel
theorem dX10_datum_0 : decode cX10_datum 0 = .ok (.aload_n 0, 1) := by decide +kernel
theorem dX10_datum_1 : decode cX10_datum 1 = .ok (.iload_n 1, 1) := by decide +kernel
theorem dX10_datum_2 : decode cX10_datum 2 = .ok (.bipush 10, 2) := by decide +kernel
theorem dX10_datum_4 : decode cX10_datum 4 = .ok (.invokestatic 34, 3) := by decide +kernel
theorem dX10_datum_7 : decode cX10_datum 7 = .ok (.invokevirtual 38, 3) := by decide +kernel
theorem dX10_datum_10 : decode cX10_datum 10 = .ok (.aload_n 0, 1) := by decide +kernel
theorem dX10_datum_11 : decode cX10_datum 11 = .ok (.iload_n 2, 1) := by decide +kernel
theorem dX10_datum_12 : decode cX10_datum 12 = .ok (.bipush 13, 2) := by decide +kernel
theorem dX10_datum_14 : decode cX10_datum 14 = .ok (.invokestatic 34, 3) := by decide +kernel
theorem dX10_datum_17 : decode cX10_datum 17 = .ok (.ifCond .eq 27, 3) := by decide +kernel
theorem dX10_datum_20 : decode cX10_datum 20 = .ok (.iload_n 3, 1) := by decide +kernel
theorem dX10_datum_21 : decode cX10_datum 21 = .ok (.ifCond .lt 23, 3) := by decide +kernel
theorem dX10_datum_24 : decode cX10_datum 24 = .ok (.iload_n 3, 1) := by decide +kernel
theorem dX10_datum_25 : decode cX10_datum 25 = .ok (.iload_n 2, 1) := by decide +kernel
theorem dX10_datum_26 : decode cX10_datum 26 = .ok (.bipush 11, 2) := by decide +kernel
theorem dX10_datum_28 : decode cX10_datum 28 = .ok (.if_icmp .ge 8, 3) := by decide +kernel
theorem dX10_datum_31 : decode cX10_datum 31 = .ok (.bipush 9, 2) := by decide +kernel
theorem dX10_datum_33 : decode cX10_datum 33 = .ok (.goto 4, 3) := by decide +kernel
theorem dX10_datum_36 : decode cX10_datum 36 = .ok (.iconst 0, 1) := by decide +kernel
theorem dX10_datum_37 : decode cX10_datum 37 = .ok (.if_icmp .gt 7, 3) := by decide +kernel
theorem dX10_datum_40 : decode cX10_datum 40 = .ok (.iconst 1, 1) := by decide +kernel
theorem dX10_datum_41 : decode cX10_datum 41 = .ok (.goto 4, 3) := by decide +kernel
theorem dX10_datum_44 : decode cX10_datum 44 = .ok (.iconst 0, 1) := by decide +kernel
theorem dX10_datum_45 : decode cX10_datum 45 = .ok (.invokevirtual 42, 3) := by decide +kernel
theorem dX10_datum_48 : decode cX10_datum 48 = .ok (.aload_n 0, 1) := by decide +kernel
theorem dX10_datum_49 : decode cX10_datum 49 = .ok (.getfield 20, 3) := by decide +kernel
theorem dX10_datum_52 : decode cX10_datum 52 = .ok (.iload_n 1, 1) := by decide +kernel
theorem dX10_datum_53 : decode cX10_datum 53 = .ok (.iload_n 2, 1) := by decide +kernel
theorem dX10_datum_54 : decode cX10_datum 54 = .ok (.iload_n 3, 1) := by decide +kernel
theorem dX10_datum_55 : decode cX10_datum 55 = .ok (.invokevirtual 96, 3) := by decide +kernel
theorem dX10_datum_58 : decode cX10_datum 58 = .ok (.aload_n 0, 1) := by decide +kernel
theorem dX10_datum_59 : decode cX10_datum 59 = .ok (.getfield 20, 3) := by decide +kernel
theorem dX10_datum_62 : decode cX10_datum 62 = .ok (.invokevirtual 100, 3) := by decide +kernel
theorem dX10_datum_65 : decode cX10_datum 65 = .ok (.ireturn, 1) := by decide +kernel
theorem dX10_start_0 : decode cX10_start 0 = .ok (.aload_n 0, 1) := by decide +kernel
theorem dX10_start_1 : decode cX10_start 1 = .ok (.iload_n 1, 1) := by decide +kernel
theorem dX10_start_2 : decode cX10_start 2 = .ok (.bipush 6, 2) := by decide +kernel
theorem dX10_start_4 : decode cX10_start 4 = .ok (.invokestatic 34, 3) := by decide +kernel
theorem dX10_start_7 : decode cX10_start 7 = .ok (.ifCond .eq 16, 3) := by decide +kernel
theorem dX10_start_10 : decode cX10_start 10 = .ok (.iload_n 2, 1) := by decide +kernel
theorem dX10_start_11 : decode cX10_start 11 = .ok (.bipush 12, 2) := by decide +kernel
theorem dX10_start_13 : decode cX10_start 13 = .ok (.invokestatic 34, 3) := by decide +kernel
theorem dX10_start_16 : decode cX10_start 16 = .ok (.ifCond .eq 7, 3) := by decide +kernel
theorem dX10_start_19 : decode cX10_start 19 = .ok (.iconst 1, 1) := by decide +kernel
theorem dX10_start_20 : decode cX10_start 20 = .ok (.goto 4, 3) := by decide +kernel
theorem dX10_start_23 : decode cX10_start 23 = .ok (.iconst 0, 1) := by decide +kernel
theorem dX10_start_24 : decode cX10_start 24 = .ok (.invokevirtual 38, 3) := by decide +kernel
theorem dX10_start_27 : decode cX10_start 27 = .ok (.aload_n 0, 1) := by decide +kernel
theorem dX10_start_28 : decode cX10_start 28 = .ok (.aload_n 0, 1) := by decide +kernel
theorem dX10_start_29 : decode cX10_start 29 = .ok (.getfield 20, 3) := by decide +kernel
theorem dX10_start_32 : decode cX10_start 32 = .ok (.getfield 103, 3) := by decide +kernel
theorem dX10_start_35 : decode cX10_start 35 = .ok (.iload_n 1, 1) := by decide +kernel
theorem dX10_start_36 : decode cX10_start 36 = .ok (.aaload, 1) := by decide +kernel
theorem dX10_start_37 : decode cX10_start 37 = .ok (.getfield 107, 3) := by decide +kernel
theorem dX10_start_40 : decode cX10_start 40 = .ok (.ifCond .ne 7, 3) := by decide +kernel
theorem dX10_start_43 : decode cX10_start 43 = .ok (.iconst 1, 1) := by decide +kernel
theorem dX10_start_44 : decode cX10_start 44 = .ok (.goto 4, 3) := by decide +kernel
theorem dX10_start_47 : decode cX10_start 47 = .ok (.iconst 0, 1) := by decide +kernel
theorem dX10_start_48 : decode cX10_start 48 = .ok (.invokevirtual 49, 3) := by decide +kernel
theorem dX10_start_51 : decode cX10_start 51 = .ok (.aload_n 0, 1) := by decide +kernel
theorem dX10_start_52 : decode cX10_start 52 = .ok (.getfield 20, 3) := by decide +kernel
theorem dX10_start_55 : decode cX10_start 55 = .ok (.iload_n 1, 1) := by decide +kernel
theorem dX10_start_56 : decode cX10_start 56 = .ok (.iload_n 2, 1) := by decide +kernel
theorem dX10_start_57 : decode cX10_start 57 = .ok (.invokevirtual 112, 3) := by decide +kernel
theorem dX10_start_60 : decode cX10_start 60 = .ok (.ireturn, 1) := by decide +kernel
theorem dX10_step_0 : decode cX10_step 0 = .ok (.aload_n 0, 1) := by decide +kernel
theorem dX10_step_1 : decode cX10_step 1 = .ok (.iload_n 1, 1) := by decide +kernel
theorem dX10_step_2 : decode cX10_step 2 = .ok (.bipush 6, 2) := by decide +kernel
theorem dX10_step_4 : decode cX10_step 4 = .ok (.invokestatic 34, 3) := by decide +kernel
theorem dX10_step_7 : decode cX10_step 7 = .ok (.invokevirtual 38, 3) := by decide +kernel
theorem dX10_step_10 : decode cX10_step 10 = .ok (.aload_n 0, 1) := by decide +kernel
theorem dX10_step_11 : decode cX10_step 11 = .ok (.aload_n 0, 1) := by decide +kernel
theorem dX10_step_12 : decode cX10_step 12 = .ok (.getfield 20, 3) := by decide +kernel
theorem dX10_step_15 : decode cX10_step 15 = .ok (.getfield 103, 3) := by decide +kernel
theorem dX10_step_18 : decode cX10_step 18 = .ok (.iload_n 1, 1) := by decide +kernel
theorem dX10_step_19 : decode cX10_step 19 = .ok (.aaload, 1) := by decide +kernel
theorem dX10_step_20 : decode cX10_step 20 = .ok (.getfield 107, 3) := by decide +kernel
theorem dX10_step_23 : decode cX10_step 23 = .ok (.ifCond .le 7, 3) := by decide +kernel
theorem dX10_step_26 : decode cX10_step 26 = .ok (.iconst 1, 1) := by decide +kernel
theorem dX10_step_27 : decode cX10_step 27 = .ok (.goto 4, 3) := by decide +kernel
theorem dX10_step_30 : decode cX10_step 30 = .ok (.iconst 0, 1) := by decide +kernel
theorem dX10_step_31 : decode cX10_step 31 = .ok (.invokevirtual 49, 3) := by decide +kernel
theorem dX10_step_34 : decode cX10_step 34 = .ok (.aload_n 0, 1) := by decide +kernel
theorem dX10_step_35 : decode cX10_step 35 = .ok (.getfield 20, 3) := by decide +kernel
theorem dX10_step_38 : decode cX10_step 38 = .ok (.iload_n 1, 1) := by decide +kernel
theorem dX10_step_39 : decode cX10_step 39 = .ok (.invokevirtual 116, 3) := by decide +kernel
theorem dX10_step_42 : decode cX10_step 42 = .ok (.aload_n 0, 1) := by decide +kernel
theorem dX10_step_43 : decode cX10_step 43 = .ok (.getfield 20, 3) := by decide +kernel
theorem dX10_step_46 : decode cX10_step 46 = .ok (.invokevirtual 119, 3) := by decide +kernel
theorem dX10_step_49 : decode cX10_step 49 = .ok (.aload_n 0, 1) := by decide +kernel
theorem dX10_step_50 : decode cX10_step 50 = .ok (.getfield 20, 3) := by decide +kernel
theorem dX10_step_53 : decode cX10_step 53 = .ok (.getfield 103, 3) := by decide +kernel
theorem dX10_step_56 : decode cX10_step 56 = .ok (.iload_n 1, 1) := by decide +kernel
theorem dX10_step_57 : decode cX10_step 57 = .ok (.aaload, 1) := by decide +kernel
theorem dX10_step_58 : decode cX10_step 58 = .ok (.getfield 122, 3) := by decide +kernel
theorem dX10_step_61 : decode cX10_step 61 = .ok (.ireturn, 1) := by decide +kernel
theorem dX10_go_0 : decode cX10_go 0 = .ok (.aload_n 0, 1) := by decide +kernel
theorem dX10_go_1 : decode cX10_go 1 = .ok (.iload_n 1, 1) := by decide +kernel
theorem dX10_go_2 : decode cX10_go 2 = .ok (.iconst 1, 1) := by decide +kernel
theorem dX10_go_3 : decode cX10_go 3 = .ok (.if_icmp .lt 13, 3) := by decide +kernel
theorem dX10_go_6 : decode cX10_go 6 = .ok (.iload_n 1, 1) := by decide +kernel
theorem dX10_go_7 : decode cX10_go 7 = .ok (.bipush 60, 2) := by decide +kernel
theorem dX10_go_9 : decode cX10_go 9 = .ok (.if_icmp .gt 7, 3) := by decide +kernel
theorem dX10_go_12 : decode cX10_go 12 = .ok (.iconst 1, 1) := by decide +kernel
theorem dX10_go_13 : decode cX10_go 13 = .ok (.goto 4, 3) := by decide +kernel
theorem dX10_go_16 : decode cX10_go 16 = .ok (.iconst 0, 1) := by decide +kernel
theorem dX10_go_17 : decode cX10_go 17 = .ok (.invokevirtual 42, 3) := by decide +kernel
theorem dX10_go_20 : decode cX10_go 20 = .ok (.aload_n 0, 1) := by decide +kernel
theorem dX10_go_21 : decode cX10_go 21 = .ok (.getfield 20, 3) := by decide +kernel
theorem dX10_go_24 : decode cX10_go 24 = .ok (.getfield 125, 3) := by decide +kernel
theorem dX10_go_27 : decode cX10_go 27 = .ok (.istore_n 2, 1) := by decide +kernel
theorem dX10_go_28 : decode cX10_go 28 = .ok (.iconst 0, 1) := by decide +kernel
theorem dX10_go_29 : decode cX10_go 29 = .ok (.istore_n 3, 1) := by decide +kernel
theorem dX10_go_30 : decode cX10_go 30 = .ok (.iload_n 3, 1) := by decide +kernel
theorem dX10_go_31 : decode cX10_go 31 = .ok (.iload_n 1, 1) := by decide +kernel
theorem dX10_go_32 : decode cX10_go 32 = .ok (.if_icmp .ge 16, 3) := by decide +kernel
theorem dX10_go_35 : decode cX10_go 35 = .ok (.aload_n 0, 1) := by decide +kernel
theorem dX10_go_36 : decode cX10_go 36 = .ok (.getfield 20, 3) := by decide +kernel
theorem dX10_go_39 : decode cX10_go 39 = .ok (.invokevirtual 128, 3) := by decide +kernel
theorem dX10_go_42 : decode cX10_go 42 = .ok (.iinc 3 1, 3) := by decide +kernel
theorem dX10_go_45 : decode cX10_go 45 = .ok (.goto (-15), 3) := by decide +kernel
theorem dX10_go_48 : decode cX10_go 48 = .ok (.aload_n 0, 1) := by decide +kernel
theorem dX10_go_49 : decode cX10_go 49 = .ok (.getfield 20, 3) := by decide +kernel
theorem dX10_go_52 : decode cX10_go 52 = .ok (.getfield 125, 3) := by decide +kernel
theorem dX10_go_55 : decode cX10_go 55 = .ok (.iload_n 2, 1) := by decide +kernel
theorem dX10_go_56 : decode cX10_go 56 = .ok (.isub, 1) := by decide +kernel
theorem dX10_go_57 : decode cX10_go 57 = .ok (.ireturn, 1) := by decide +kernel
theorem dX10_enable_0 : decode cX10_enable 0 = .ok (.aload_n 0, 1) := by decide +kernel
theorem dX10_enable_1 : decode cX10_enable 1 = .ok (.iload_n 1, 1) := by decide +kernel
theorem dX10_enable_2 : decode cX10_enable 2 = .ok (.aload_n 0, 1) := by decide +kernel
theorem dX10_enable_3 : decode cX10_enable 3 = .ok (.getfield 79, 3) := by decide +kernel
theorem dX10_enable_6 : decode cX10_enable 6 = .ok (.invokestatic 34, 3) := by decide +kernel
theorem dX10_enable_9 : decode cX10_enable 9 = .ok (.invokevirtual 38, 3) := by decide +kernel
theorem dX10_enable_12 : decode cX10_enable 12 = .ok (.aload_n 0, 1) := by decide +kernel
theorem dX10_enable_13 : decode cX10_enable 13 = .ok (.aload_n 0, 1) := by decide +kernel
theorem dX10_enable_14 : decode cX10_enable 14 = .ok (.getfield 20, 3) := by decide +kernel
theorem dX10_enable_17 : decode cX10_enable 17 = .ok (.getfield 131, 3) := by decide +kernel
theorem dX10_enable_20 : decode cX10_enable 20 = .ok (.iconst (-1), 1) := by decide +kernel
theorem dX10_enable_21 : decode cX10_enable 21 = .ok (.if_icmp .ne 19, 3) := by decide +kernel
theorem dX10_enable_24 : decode cX10_enable 24 = .ok (.aload_n 0, 1) := by decide +kernel
theorem dX10_enable_25 : decode cX10_enable 25 = .ok (.getfield 20, 3) := by decide +kernel
theorem dX10_enable_28 : decode cX10_enable 28 = .ok (.iload_n 1, 1) := by decide +kernel
theorem dX10_enable_29 : decode cX10_enable 29 = .ok (.invokevirtual 134, 3) := by decide +kernel
theorem dX10_enable_32 : decode cX10_enable 32 = .ok (.iconst (-1), 1) := by decide +kernel
theorem dX10_enable_33 : decode cX10_enable 33 = .ok (.if_icmp .ne 7, 3) := by decide +kernel
theorem dX10_enable_36 : decode cX10_enable 36 = .ok (.iconst 1, 1) := by decide +kernel
theorem dX10_enable_37 : decode cX10_enable 37 = .ok (.goto 4, 3) := by decide +kernel
theorem dX10_enable_40 : decode cX10_enable 40 = .ok (.iconst 0, 1) := by decide +kernel
theorem dX10_enable_41 : decode cX10_enable 41 = .ok (.invokevirtual 49, 3) := by decide +kernel
theorem dX10_enable_44 : decode cX10_enable 44 = .ok (.aload_n 0, 1) := by decide +kernel
theorem dX10_enable_45 : decode cX10_enable 45 = .ok (.getfield 20, 3) := by decide +kernel
theorem dX10_enable_48 : decode cX10_enable 48 = .ok (.iload_n 1, 1) := by decide +kernel
theorem dX10_enable_49 : decode cX10_enable 49 = .ok (.invokevirtual 138, 3) := by decide +kernel
theorem dX10_enable_52 : decode cX10_enable 52 = .ok (.ireturn, 1) := by decide +kernel
theorem dX10_disable_0 : decode cX10_disable 0 = .ok (.aload_n 0, 1) := by decide +kernel
theorem dX10_disable_1 : decode cX10_disable 1 = .ok (.aload_n 0, 1) := by decide +kernel
theorem dX10_disable_2 : decode cX10_disable 2 = .ok (.getfield 20, 3) := by decide +kernel
theorem dX10_disable_5 : decode cX10_disable 5 = .ok (.getfield 131, 3) := by decide +kernel
theorem dX10_disable_8 : decode cX10_disable 8 = .ok (.iconst (-1), 1) := by decide +kernel
theorem dX10_disable_9 : decode cX10_disable 9 = .ok (.if_icmp .ne 17, 3) := by decide +kernel
theorem dX10_disable_12 : decode cX10_disable 12 = .ok (.aload_n 0, 1) := by decide +kernel
theorem dX10_disable_13 : decode cX10_disable 13 = .ok (.getfield 20, 3) := by decide +kernel
theorem dX10_disable_16 : decode cX10_disable 16 = .ok (.getfield 141, 3) := by decide +kernel
theorem dX10_disable_19 : decode cX10_disable 19 = .ok (.ifCond .le 7, 3) := by decide +kernel
theorem dX10_disable_22 : decode cX10_disable 22 = .ok (.iconst 1, 1) := by decide +kernel
theorem dX10_disable_23 : decode cX10_disable 23 = .ok (.goto 4, 3) := by decide +kernel
theorem dX10_disable_26 : decode cX10_disable 26 = .ok (.iconst 0, 1) := by decide +kernel
theorem dX10_disable_27 : decode cX10_disable 27 = .ok (.invokevirtual 49, 3) := by decide +kernel
theorem dX10_disable_30 : decode cX10_disable 30 = .ok (.aload_n 0, 1) := by decide +kernel
theorem dX10_disable_31 : decode cX10_disable 31 = .ok (.getfield 20, 3) := by decide +kernel
theorem dX10_disable_34 : decode cX10_disable 34 = .ok (.invokevirtual 144, 3) := by decide +kernel
theorem dX10_disable_37 : decode cX10_disable 37 = .ok (.ireturn, 1) := by decide +kernel
theorem dX10_reverse_0 : decode cX10_reverse 0 = .ok (.aload_n 0, 1) := by decide +kernel
theorem dX10_reverse_1 : decode cX10_reverse 1 = .ok (.aload_n 0, 1) := by decide +kernel
theorem dX10_reverse_2 : decode cX10_reverse 2 = .ok (.getfield 20, 3) := by decide +kernel
theorem dX10_reverse_5 : decode cX10_reverse 5 = .ok (.getfield 131, 3) := by decide +kernel
theorem dX10_reverse_8 : decode cX10_reverse 8 = .ok (.iconst (-1), 1) := by decide +kernel
theorem dX10_reverse_9 : decode cX10_reverse 9 = .ok (.if_icmp .eq 7, 3) := by decide +kernel
theorem dX10_reverse_12 : decode cX10_reverse 12 = .ok (.iconst 1, 1) := by decide +kernel
theorem dX10_reverse_13 : decode cX10_reverse 13 = .ok (.goto 4, 3) := by decide +kernel
theorem dX10_reverse_16 : decode cX10_reverse 16 = .ok (.iconst 0, 1) := by decide +kernel
theorem dX10_reverse_17 : decode cX10_reverse 17 = .ok (.invokevirtual 49, 3) := by decide +kernel
theorem dX10_reverse_20 : decode cX10_reverse 20 = .ok (.aload_n 0, 1) := by decide +kernel
theorem dX10_reverse_21 : decode cX10_reverse 21 = .ok (.getfield 20, 3) := by decide +kernel
theorem dX10_reverse_24 : decode cX10_reverse 24 = .ok (.invokevirtual 147, 3) := by decide +kernel
theorem dX10_reverse_27 : decode cX10_reverse 27 = .ok (.ireturn, 1) := by decide +kernel
theorem dX10_force_0 : decode cX10_force 0 = .ok (.aload_n 0, 1) := by decide +kernel
theorem dX10_force_1 : decode cX10_force 1 = .ok (.aload_n 0, 1) := by decide +kernel
theorem dX10_force_2 : decode cX10_force 2 = .ok (.getfield 20, 3) := by decide +kernel
theorem dX10_force_5 : decode cX10_force 5 = .ok (.getfield 131, 3) := by decide +kernel
theorem dX10_force_8 : decode cX10_force 8 = .ok (.iconst (-1), 1) := by decide +kernel
theorem dX10_force_9 : decode cX10_force 9 = .ok (.if_icmp .eq 7, 3) := by decide +kernel
theorem dX10_force_12 : decode cX10_force 12 = .ok (.iconst 1, 1) := by decide +kernel
theorem dX10_force_13 : decode cX10_force 13 = .ok (.goto 4, 3) := by decide +kernel
theorem dX10_force_16 : decode cX10_force 16 = .ok (.iconst 0, 1) := by decide +kernel
theorem dX10_force_17 : decode cX10_force 17 = .ok (.invokevirtual 49, 3) := by decide +kernel
theorem dX10_force_20 : decode cX10_force 20 = .ok (.aload_n 0, 1) := by decide +kernel
theorem dX10_force_21 : decode cX10_force 21 = .ok (.getfield 20, 3) := by decide +kernel
theorem dX10_force_24 : decode cX10_force 24 = .ok (.invokevirtual 150, 3) := by decide +kernel
theorem dX10_force_27 : decode cX10_force 27 = .ok (.ireturn, 1) := by decide +kernel
theorem dX10_kill_0 : decode cX10_kill 0 = .ok (.aload_n 0, 1) := by decide +kernel
theorem dX10_kill_1 : decode cX10_kill 1 = .ok (.iload_n 1, 1) := by decide +kernel
theorem dX10_kill_2 : decode cX10_kill 2 = .ok (.bipush 6, 2) := by decide +kernel
theorem dX10_kill_4 : decode cX10_kill 4 = .ok (.invokestatic 34, 3) := by decide +kernel
theorem dX10_kill_7 : decode cX10_kill 7 = .ok (.invokevirtual 38, 3) := by decide +kernel
theorem dX10_kill_10 : decode cX10_kill 10 = .ok (.aload_n 0, 1) := by decide +kernel
theorem dX10_kill_11 : decode cX10_kill 11 = .ok (.getfield 20, 3) := by decide +kernel
theorem dX10_kill_14 : decode cX10_kill 14 = .ok (.getfield 103, 3) := by decide +kernel
theorem dX10_kill_17 : decode cX10_kill 17 = .ok (.iload_n 1, 1) := by decide +kernel
theorem dX10_kill_18 : decode cX10_kill 18 = .ok (.aaload, 1) := by decide +kernel
theorem dX10_kill_19 : decode cX10_kill 19 = .ok (.getfield 107, 3) := by decide +kernel
theorem dX10_kill_22 : decode cX10_kill 22 = .ok (.istore_n 2, 1) := by decide +kernel
theorem dX10_kill_23 : decode cX10_kill 23 = .ok (.aload_n 0, 1) := by decide +kernel
theorem dX10_kill_24 : decode cX10_kill 24 = .ok (.getfield 20, 3) := by decide +kernel
theorem dX10_kill_27 : decode cX10_kill 27 = .ok (.getfield 103, 3) := by decide +kernel
theorem dX10_kill_30 : decode cX10_kill 30 = .ok (.iload_n 1, 1) := by decide +kernel
theorem dX10_kill_31 : decode cX10_kill 31 = .ok (.aaload, 1) := by decide +kernel
theorem dX10_kill_32 : decode cX10_kill 32 = .ok (.invokevirtual 153, 3) := by decide +kernel
theorem dX10_kill_35 : decode cX10_kill 35 = .ok (.aload_n 0, 1) := by decide +kernel
theorem dX10_kill_36 : decode cX10_kill 36 = .ok (.getfield 20, 3) := by decide +kernel
theorem dX10_kill_39 : decode cX10_kill 39 = .ok (.invokevirtual 119, 3) := by decide +kernel
theorem dX10_kill_42 : decode cX10_kill 42 = .ok (.iload_n 2, 1) := by decide +kernel
theorem dX10_kill_43 : decode cX10_kill 43 = .ok (.ireturn, 1) := by decide +kernel
theorem dX10_told_0 : decode cX10_told 0 = .ok (.iload_n 1, 1) := by decide +kernel
theorem dX10_told_1 : decode cX10_told 1 = .ok (.tableswitch 212 0 14 #[75, 80, 88, 96, 104, 135, 143, 151, 159, 167, 175, 183, 191, 199, 207], 75) := by decide +kernel
theorem dX10_told_76 : decode cX10_told 76 = .ok (.aload_n 0, 1) := by decide +kernel
theorem dX10_told_77 : decode cX10_told 77 = .ok (.getfield 79, 3) := by decide +kernel
theorem dX10_told_80 : decode cX10_told 80 = .ok (.ireturn, 1) := by decide +kernel
theorem dX10_told_81 : decode cX10_told 81 = .ok (.aload_n 0, 1) := by decide +kernel
theorem dX10_told_82 : decode cX10_told 82 = .ok (.getfield 20, 3) := by decide +kernel
theorem dX10_told_85 : decode cX10_told 85 = .ok (.getfield 141, 3) := by decide +kernel
theorem dX10_told_88 : decode cX10_told 88 = .ok (.ireturn, 1) := by decide +kernel
theorem dX10_told_89 : decode cX10_told 89 = .ok (.aload_n 0, 1) := by decide +kernel
theorem dX10_told_90 : decode cX10_told 90 = .ok (.getfield 20, 3) := by decide +kernel
theorem dX10_told_93 : decode cX10_told 93 = .ok (.invokevirtual 156, 3) := by decide +kernel
theorem dX10_told_96 : decode cX10_told 96 = .ok (.ireturn, 1) := by decide +kernel
theorem dX10_told_97 : decode cX10_told 97 = .ok (.aload_n 0, 1) := by decide +kernel
theorem dX10_told_98 : decode cX10_told 98 = .ok (.getfield 20, 3) := by decide +kernel
theorem dX10_told_101 : decode cX10_told 101 = .ok (.getfield 131, 3) := by decide +kernel
theorem dX10_told_104 : decode cX10_told 104 = .ok (.ireturn, 1) := by decide +kernel
theorem dX10_told_105 : decode cX10_told 105 = .ok (.aload_n 0, 1) := by decide +kernel
theorem dX10_told_106 : decode cX10_told 106 = .ok (.getfield 20, 3) := by decide +kernel
theorem dX10_told_109 : decode cX10_told 109 = .ok (.getfield 131, 3) := by decide +kernel
theorem dX10_told_112 : decode cX10_told 112 = .ok (.iconst (-1), 1) := by decide +kernel
theorem dX10_told_113 : decode cX10_told 113 = .ok (.if_icmp .ne 7, 3) := by decide +kernel
theorem dX10_told_116 : decode cX10_told 116 = .ok (.iconst (-1), 1) := by decide +kernel
theorem dX10_told_117 : decode cX10_told 117 = .ok (.goto 18, 3) := by decide +kernel
theorem dX10_told_120 : decode cX10_told 120 = .ok (.aload_n 0, 1) := by decide +kernel
theorem dX10_told_121 : decode cX10_told 121 = .ok (.getfield 20, 3) := by decide +kernel
theorem dX10_told_124 : decode cX10_told 124 = .ok (.getfield 159, 3) := by decide +kernel
theorem dX10_told_127 : decode cX10_told 127 = .ok (.ifCond .eq 7, 3) := by decide +kernel
theorem dX10_told_130 : decode cX10_told 130 = .ok (.iconst 1, 1) := by decide +kernel
theorem dX10_told_131 : decode cX10_told 131 = .ok (.goto 4, 3) := by decide +kernel
theorem dX10_told_134 : decode cX10_told 134 = .ok (.iconst 0, 1) := by decide +kernel
theorem dX10_told_135 : decode cX10_told 135 = .ok (.ireturn, 1) := by decide +kernel
theorem dX10_told_136 : decode cX10_told 136 = .ok (.aload_n 0, 1) := by decide +kernel
theorem dX10_told_137 : decode cX10_told 137 = .ok (.getfield 20, 3) := by decide +kernel
theorem dX10_told_140 : decode cX10_told 140 = .ok (.invokevirtual 163, 3) := by decide +kernel
theorem dX10_told_143 : decode cX10_told 143 = .ok (.ireturn, 1) := by decide +kernel
theorem dX10_told_144 : decode cX10_told 144 = .ok (.aload_n 0, 1) := by decide +kernel
theorem dX10_told_145 : decode cX10_told 145 = .ok (.getfield 20, 3) := by decide +kernel
theorem dX10_told_148 : decode cX10_told 148 = .ok (.invokevirtual 45, 3) := by decide +kernel
theorem dX10_told_151 : decode cX10_told 151 = .ok (.ireturn, 1) := by decide +kernel
theorem dX10_told_152 : decode cX10_told 152 = .ok (.aload_n 0, 1) := by decide +kernel
theorem dX10_told_153 : decode cX10_told 153 = .ok (.getfield 20, 3) := by decide +kernel
theorem dX10_told_156 : decode cX10_told 156 = .ok (.getfield 166, 3) := by decide +kernel
theorem dX10_told_159 : decode cX10_told 159 = .ok (.ireturn, 1) := by decide +kernel
theorem dX10_told_160 : decode cX10_told 160 = .ok (.aload_n 0, 1) := by decide +kernel
theorem dX10_told_161 : decode cX10_told 161 = .ok (.getfield 20, 3) := by decide +kernel
theorem dX10_told_164 : decode cX10_told 164 = .ok (.getfield 169, 3) := by decide +kernel
theorem dX10_told_167 : decode cX10_told 167 = .ok (.ireturn, 1) := by decide +kernel
theorem dX10_told_168 : decode cX10_told 168 = .ok (.aload_n 0, 1) := by decide +kernel
theorem dX10_told_169 : decode cX10_told 169 = .ok (.getfield 20, 3) := by decide +kernel
theorem dX10_told_172 : decode cX10_told 172 = .ok (.invokevirtual 172, 3) := by decide +kernel
theorem dX10_told_175 : decode cX10_told 175 = .ok (.ireturn, 1) := by decide +kernel
theorem dX10_told_176 : decode cX10_told 176 = .ok (.aload_n 0, 1) := by decide +kernel
theorem dX10_told_177 : decode cX10_told 177 = .ok (.getfield 20, 3) := by decide +kernel
theorem dX10_told_180 : decode cX10_told 180 = .ok (.getfield 125, 3) := by decide +kernel
theorem dX10_told_183 : decode cX10_told 183 = .ok (.ireturn, 1) := by decide +kernel
theorem dX10_told_184 : decode cX10_told 184 = .ok (.aload_n 0, 1) := by decide +kernel
theorem dX10_told_185 : decode cX10_told 185 = .ok (.getfield 20, 3) := by decide +kernel
theorem dX10_told_188 : decode cX10_told 188 = .ok (.getfield 175, 3) := by decide +kernel
theorem dX10_told_191 : decode cX10_told 191 = .ok (.ireturn, 1) := by decide +kernel
theorem dX10_told_192 : decode cX10_told 192 = .ok (.aload_n 0, 1) := by decide +kernel
theorem dX10_told_193 : decode cX10_told 193 = .ok (.getfield 20, 3) := by decide +kernel
theorem dX10_told_196 : decode cX10_told 196 = .ok (.invokevirtual 100, 3) := by decide +kernel
theorem dX10_told_199 : decode cX10_told 199 = .ok (.ireturn, 1) := by decide +kernel
theorem dX10_told_200 : decode cX10_told 200 = .ok (.aload_n 0, 1) := by decide +kernel
theorem dX10_told_201 : decode cX10_told 201 = .ok (.getfield 20, 3) := by decide +kernel
theorem dX10_told_204 : decode cX10_told 204 = .ok (.invokevirtual 178, 3) := by decide +kernel
theorem dX10_told_207 : decode cX10_told 207 = .ok (.ireturn, 1) := by decide +kernel
theorem dX10_told_208 : decode cX10_told 208 = .ok (.aload_n 0, 1) := by decide +kernel
theorem dX10_told_209 : decode cX10_told 209 = .ok (.getfield 27, 3) := by decide +kernel
theorem dX10_told_212 : decode cX10_told 212 = .ok (.ireturn, 1) := by decide +kernel
theorem dX10_told_213 : decode cX10_told 213 = .ok (.aload_n 0, 1) := by decide +kernel
theorem dX10_told_214 : decode cX10_told 214 = .ok (.iconst 0, 1) := by decide +kernel
theorem dX10_told_215 : decode cX10_told 215 = .ok (.invokevirtual 42, 3) := by decide +kernel
theorem dX10_told_218 : decode cX10_told 218 = .ok (.iconst (-1), 1) := by decide +kernel
theorem dX10_told_219 : decode cX10_told 219 = .ok (.ireturn, 1) := by decide +kernel
theorem dX10_task_0 : decode cX10_task 0 = .ok (.aload_n 0, 1) := by decide +kernel
theorem dX10_task_1 : decode cX10_task 1 = .ok (.iload_n 1, 1) := by decide +kernel
theorem dX10_task_2 : decode cX10_task 2 = .ok (.bipush 6, 2) := by decide +kernel
theorem dX10_task_4 : decode cX10_task 4 = .ok (.invokestatic 34, 3) := by decide +kernel
theorem dX10_task_7 : decode cX10_task 7 = .ok (.invokevirtual 38, 3) := by decide +kernel
theorem dX10_task_10 : decode cX10_task 10 = .ok (.aload_n 0, 1) := by decide +kernel
theorem dX10_task_11 : decode cX10_task 11 = .ok (.getfield 20, 3) := by decide +kernel
theorem dX10_task_14 : decode cX10_task 14 = .ok (.getfield 103, 3) := by decide +kernel
theorem dX10_task_17 : decode cX10_task 17 = .ok (.iload_n 1, 1) := by decide +kernel
theorem dX10_task_18 : decode cX10_task 18 = .ok (.aaload, 1) := by decide +kernel
theorem dX10_task_19 : decode cX10_task 19 = .ok (.astore_n 3, 1) := by decide +kernel
theorem dX10_task_20 : decode cX10_task 20 = .ok (.iload_n 2, 1) := by decide +kernel
theorem dX10_task_21 : decode cX10_task 21 = .ok (.tableswitch 100 0 6 #[43, 48, 53, 61, 66, 90, 95], 43) := by decide +kernel
theorem dX10_task_64 : decode cX10_task 64 = .ok (.aload_n 3, 1) := by decide +kernel
theorem dX10_task_65 : decode cX10_task 65 = .ok (.getfield 107, 3) := by decide +kernel
theorem dX10_task_68 : decode cX10_task 68 = .ok (.ireturn, 1) := by decide +kernel
theorem dX10_task_69 : decode cX10_task 69 = .ok (.aload_n 3, 1) := by decide +kernel
theorem dX10_task_70 : decode cX10_task 70 = .ok (.getfield 122, 3) := by decide +kernel
theorem dX10_task_73 : decode cX10_task 73 = .ok (.ireturn, 1) := by decide +kernel
theorem dX10_task_74 : decode cX10_task 74 = .ok (.aload_n 3, 1) := by decide +kernel
theorem dX10_task_75 : decode cX10_task 75 = .ok (.getfield 181, 3) := by decide +kernel
theorem dX10_task_78 : decode cX10_task 78 = .ok (.getfield 185, 3) := by decide +kernel
theorem dX10_task_81 : decode cX10_task 81 = .ok (.ireturn, 1) := by decide +kernel
theorem dX10_task_82 : decode cX10_task 82 = .ok (.aload_n 3, 1) := by decide +kernel
theorem dX10_task_83 : decode cX10_task 83 = .ok (.getfield 190, 3) := by decide +kernel
theorem dX10_task_86 : decode cX10_task 86 = .ok (.ireturn, 1) := by decide +kernel
theorem dX10_task_87 : decode cX10_task 87 = .ok (.aload_n 0, 1) := by decide +kernel
theorem dX10_task_88 : decode cX10_task 88 = .ok (.getfield 20, 3) := by decide +kernel
theorem dX10_task_91 : decode cX10_task 91 = .ok (.getfield 131, 3) := by decide +kernel
theorem dX10_task_94 : decode cX10_task 94 = .ok (.iconst (-1), 1) := by decide +kernel
theorem dX10_task_95 : decode cX10_task 95 = .ok (.if_icmp .eq 14, 3) := by decide +kernel
theorem dX10_task_98 : decode cX10_task 98 = .ok (.aload_n 3, 1) := by decide +kernel
theorem dX10_task_99 : decode cX10_task 99 = .ok (.getfield 193, 3) := by decide +kernel
theorem dX10_task_102 : decode cX10_task 102 = .ok (.ifCond .eq 7, 3) := by decide +kernel
theorem dX10_task_105 : decode cX10_task 105 = .ok (.iconst 1, 1) := by decide +kernel
theorem dX10_task_106 : decode cX10_task 106 = .ok (.goto 4, 3) := by decide +kernel
theorem dX10_task_109 : decode cX10_task 109 = .ok (.iconst 0, 1) := by decide +kernel
theorem dX10_task_110 : decode cX10_task 110 = .ok (.ireturn, 1) := by decide +kernel
theorem dX10_task_111 : decode cX10_task 111 = .ok (.aload_n 3, 1) := by decide +kernel
theorem dX10_task_112 : decode cX10_task 112 = .ok (.getfield 196, 3) := by decide +kernel
theorem dX10_task_115 : decode cX10_task 115 = .ok (.ireturn, 1) := by decide +kernel
theorem dX10_task_116 : decode cX10_task 116 = .ok (.aload_n 3, 1) := by decide +kernel
theorem dX10_task_117 : decode cX10_task 117 = .ok (.getfield 199, 3) := by decide +kernel
theorem dX10_task_120 : decode cX10_task 120 = .ok (.ireturn, 1) := by decide +kernel
theorem dX10_task_121 : decode cX10_task 121 = .ok (.aload_n 0, 1) := by decide +kernel
theorem dX10_task_122 : decode cX10_task 122 = .ok (.iconst 0, 1) := by decide +kernel
theorem dX10_task_123 : decode cX10_task 123 = .ok (.invokevirtual 42, 3) := by decide +kernel
theorem dX10_task_126 : decode cX10_task 126 = .ok (.iconst (-1), 1) := by decide +kernel
theorem dX10_task_127 : decode cX10_task 127 = .ok (.ireturn, 1) := by decide +kernel
theorem dX10_number_0 : decode cX10_number 0 = .ok (.aload_n 0, 1) := by decide +kernel
theorem dX10_number_1 : decode cX10_number 1 = .ok (.iload_n 1, 1) := by decide +kernel
theorem dX10_number_2 : decode cX10_number 2 = .ok (.bipush 6, 2) := by decide +kernel
theorem dX10_number_4 : decode cX10_number 4 = .ok (.invokestatic 34, 3) := by decide +kernel
theorem dX10_number_7 : decode cX10_number 7 = .ok (.invokevirtual 38, 3) := by decide +kernel
theorem dX10_number_10 : decode cX10_number 10 = .ok (.aload_n 0, 1) := by decide +kernel
theorem dX10_number_11 : decode cX10_number 11 = .ok (.getfield 20, 3) := by decide +kernel
theorem dX10_number_14 : decode cX10_number 14 = .ok (.getfield 103, 3) := by decide +kernel
theorem dX10_number_17 : decode cX10_number 17 = .ok (.iload_n 1, 1) := by decide +kernel
theorem dX10_number_18 : decode cX10_number 18 = .ok (.aaload, 1) := by decide +kernel
theorem dX10_number_19 : decode cX10_number 19 = .ok (.getfield 181, 3) := by decide +kernel
theorem dX10_number_22 : decode cX10_number 22 = .ok (.getfield 202, 3) := by decide +kernel
theorem dX10_number_25 : decode cX10_number 25 = .ok (.lreturn, 1) := by decide +kernel
theorem dX10_frame_0 : decode cX10_frame 0 = .ok (.aload_n 0, 1) := by decide +kernel
theorem dX10_frame_1 : decode cX10_frame 1 = .ok (.iload_n 1, 1) := by decide +kernel
theorem dX10_frame_2 : decode cX10_frame 2 = .ok (.bipush 6, 2) := by decide +kernel
theorem dX10_frame_4 : decode cX10_frame 4 = .ok (.invokestatic 34, 3) := by decide +kernel
theorem dX10_frame_7 : decode cX10_frame 7 = .ok (.ifCond .eq 26, 3) := by decide +kernel
theorem dX10_frame_10 : decode cX10_frame 10 = .ok (.iload_n 2, 1) := by decide +kernel
theorem dX10_frame_11 : decode cX10_frame 11 = .ok (.aload_n 0, 1) := by decide +kernel
theorem dX10_frame_12 : decode cX10_frame 12 = .ok (.getfield 20, 3) := by decide +kernel
theorem dX10_frame_15 : decode cX10_frame 15 = .ok (.getfield 103, 3) := by decide +kernel
theorem dX10_frame_18 : decode cX10_frame 18 = .ok (.iload_n 1, 1) := by decide +kernel
theorem dX10_frame_19 : decode cX10_frame 19 = .ok (.aaload, 1) := by decide +kernel
theorem dX10_frame_20 : decode cX10_frame 20 = .ok (.getfield 107, 3) := by decide +kernel
theorem dX10_frame_23 : decode cX10_frame 23 = .ok (.invokestatic 34, 3) := by decide +kernel
theorem dX10_frame_26 : decode cX10_frame 26 = .ok (.ifCond .eq 7, 3) := by decide +kernel
theorem dX10_frame_29 : decode cX10_frame 29 = .ok (.iconst 1, 1) := by decide +kernel
theorem dX10_frame_30 : decode cX10_frame 30 = .ok (.goto 4, 3) := by decide +kernel
theorem dX10_frame_33 : decode cX10_frame 33 = .ok (.iconst 0, 1) := by decide +kernel
theorem dX10_frame_34 : decode cX10_frame 34 = .ok (.invokevirtual 38, 3) := by decide +kernel
theorem dX10_frame_37 : decode cX10_frame 37 = .ok (.aload_n 0, 1) := by decide +kernel
theorem dX10_frame_38 : decode cX10_frame 38 = .ok (.getfield 20, 3) := by decide +kernel
theorem dX10_frame_41 : decode cX10_frame 41 = .ok (.getfield 103, 3) := by decide +kernel
theorem dX10_frame_44 : decode cX10_frame 44 = .ok (.iload_n 1, 1) := by decide +kernel
theorem dX10_frame_45 : decode cX10_frame 45 = .ok (.aaload, 1) := by decide +kernel
theorem dX10_frame_46 : decode cX10_frame 46 = .ok (.astore 4, 2) := by decide +kernel
theorem dX10_frame_48 : decode cX10_frame 48 = .ok (.aload 4, 2) := by decide +kernel
theorem dX10_frame_50 : decode cX10_frame 50 = .ok (.getfield 107, 3) := by decide +kernel
theorem dX10_frame_53 : decode cX10_frame 53 = .ok (.iconst 1, 1) := by decide +kernel
theorem dX10_frame_54 : decode cX10_frame 54 = .ok (.isub, 1) := by decide +kernel
theorem dX10_frame_55 : decode cX10_frame 55 = .ok (.iload_n 2, 1) := by decide +kernel
theorem dX10_frame_56 : decode cX10_frame 56 = .ok (.isub, 1) := by decide +kernel
theorem dX10_frame_57 : decode cX10_frame 57 = .ok (.istore 5, 2) := by decide +kernel
theorem dX10_frame_59 : decode cX10_frame 59 = .ok (.iload_n 3, 1) := by decide +kernel
theorem dX10_frame_60 : decode cX10_frame 60 = .ok (.tableswitch 68 0 3 #[32, 41, 50, 59], 32) := by decide +kernel
theorem dX10_frame_92 : decode cX10_frame 92 = .ok (.aload 4, 2) := by decide +kernel
theorem dX10_frame_94 : decode cX10_frame 94 = .ok (.getfield 206, 3) := by decide +kernel
theorem dX10_frame_97 : decode cX10_frame 97 = .ok (.iload 5, 2) := by decide +kernel
theorem dX10_frame_99 : decode cX10_frame 99 = .ok (.iaload, 1) := by decide +kernel
theorem dX10_frame_100 : decode cX10_frame 100 = .ok (.ireturn, 1) := by decide +kernel
theorem dX10_frame_101 : decode cX10_frame 101 = .ok (.aload 4, 2) := by decide +kernel
theorem dX10_frame_103 : decode cX10_frame 103 = .ok (.getfield 209, 3) := by decide +kernel
theorem dX10_frame_106 : decode cX10_frame 106 = .ok (.iload 5, 2) := by decide +kernel
theorem dX10_frame_108 : decode cX10_frame 108 = .ok (.iaload, 1) := by decide +kernel
theorem dX10_frame_109 : decode cX10_frame 109 = .ok (.ireturn, 1) := by decide +kernel
theorem dX10_frame_110 : decode cX10_frame 110 = .ok (.aload 4, 2) := by decide +kernel
theorem dX10_frame_112 : decode cX10_frame 112 = .ok (.getfield 211, 3) := by decide +kernel
theorem dX10_frame_115 : decode cX10_frame 115 = .ok (.iload 5, 2) := by decide +kernel
theorem dX10_frame_117 : decode cX10_frame 117 = .ok (.iaload, 1) := by decide +kernel
theorem dX10_frame_118 : decode cX10_frame 118 = .ok (.ireturn, 1) := by decide +kernel
theorem dX10_frame_119 : decode cX10_frame 119 = .ok (.aload 4, 2) := by decide +kernel
theorem dX10_frame_121 : decode cX10_frame 121 = .ok (.getfield 214, 3) := by decide +kernel
theorem dX10_frame_124 : decode cX10_frame 124 = .ok (.iload 5, 2) := by decide +kernel
theorem dX10_frame_126 : decode cX10_frame 126 = .ok (.iaload, 1) := by decide +kernel
theorem dX10_frame_127 : decode cX10_frame 127 = .ok (.ireturn, 1) := by decide +kernel
theorem dX10_frame_128 : decode cX10_frame 128 = .ok (.aload_n 0, 1) := by decide +kernel
theorem dX10_frame_129 : decode cX10_frame 129 = .ok (.iconst 0, 1) := by decide +kernel
theorem dX10_frame_130 : decode cX10_frame 130 = .ok (.invokevirtual 42, 3) := by decide +kernel
theorem dX10_frame_133 : decode cX10_frame 133 = .ok (.iconst (-1), 1) := by decide +kernel
theorem dX10_frame_134 : decode cX10_frame 134 = .ok (.ireturn, 1) := by decide +kernel
theorem dX10_stuck_0 : decode cX10_stuck 0 = .ok (.aload_n 0, 1) := by decide +kernel
theorem dX10_stuck_1 : decode cX10_stuck 1 = .ok (.iload_n 1, 1) := by decide +kernel
theorem dX10_stuck_2 : decode cX10_stuck 2 = .ok (.bipush 6, 2) := by decide +kernel
theorem dX10_stuck_4 : decode cX10_stuck 4 = .ok (.invokestatic 34, 3) := by decide +kernel
theorem dX10_stuck_7 : decode cX10_stuck 7 = .ok (.invokevirtual 38, 3) := by decide +kernel
theorem dX10_stuck_10 : decode cX10_stuck 10 = .ok (.aload_n 0, 1) := by decide +kernel
theorem dX10_stuck_11 : decode cX10_stuck 11 = .ok (.getfield 20, 3) := by decide +kernel
theorem dX10_stuck_14 : decode cX10_stuck 14 = .ok (.iload_n 1, 1) := by decide +kernel
theorem dX10_stuck_15 : decode cX10_stuck 15 = .ok (.invokevirtual 217, 3) := by decide +kernel
theorem dX10_stuck_18 : decode cX10_stuck 18 = .ok (.ifCond .eq 7, 3) := by decide +kernel
theorem dX10_stuck_21 : decode cX10_stuck 21 = .ok (.iconst (-1), 1) := by decide +kernel
theorem dX10_stuck_22 : decode cX10_stuck 22 = .ok (.goto 11, 3) := by decide +kernel
theorem dX10_stuck_25 : decode cX10_stuck 25 = .ok (.aload_n 0, 1) := by decide +kernel
theorem dX10_stuck_26 : decode cX10_stuck 26 = .ok (.getfield 20, 3) := by decide +kernel
theorem dX10_stuck_29 : decode cX10_stuck 29 = .ok (.iload_n 1, 1) := by decide +kernel
theorem dX10_stuck_30 : decode cX10_stuck 30 = .ok (.invokevirtual 221, 3) := by decide +kernel
theorem dX10_stuck_33 : decode cX10_stuck 33 = .ok (.ireturn, 1) := by decide +kernel
theorem dX10_calls_0 : decode cX10_calls 0 = .ok (.aload_n 0, 1) := by decide +kernel
theorem dX10_calls_1 : decode cX10_calls 1 = .ok (.iload_n 1, 1) := by decide +kernel
theorem dX10_calls_2 : decode cX10_calls 2 = .ok (.bipush 6, 2) := by decide +kernel
theorem dX10_calls_4 : decode cX10_calls 4 = .ok (.invokestatic 34, 3) := by decide +kernel
theorem dX10_calls_7 : decode cX10_calls 7 = .ok (.ifCond .eq 16, 3) := by decide +kernel
theorem dX10_calls_10 : decode cX10_calls 10 = .ok (.iload_n 2, 1) := by decide +kernel
theorem dX10_calls_11 : decode cX10_calls 11 = .ok (.bipush 12, 2) := by decide +kernel
theorem dX10_calls_13 : decode cX10_calls 13 = .ok (.invokestatic 34, 3) := by decide +kernel
theorem dX10_calls_16 : decode cX10_calls 16 = .ok (.ifCond .eq 7, 3) := by decide +kernel
theorem dX10_calls_19 : decode cX10_calls 19 = .ok (.iconst 1, 1) := by decide +kernel
theorem dX10_calls_20 : decode cX10_calls 20 = .ok (.goto 4, 3) := by decide +kernel
theorem dX10_calls_23 : decode cX10_calls 23 = .ok (.iconst 0, 1) := by decide +kernel
theorem dX10_calls_24 : decode cX10_calls 24 = .ok (.invokevirtual 38, 3) := by decide +kernel
theorem dX10_calls_27 : decode cX10_calls 27 = .ok (.aload_n 0, 1) := by decide +kernel
theorem dX10_calls_28 : decode cX10_calls 28 = .ok (.getfield 20, 3) := by decide +kernel
theorem dX10_calls_31 : decode cX10_calls 31 = .ok (.iload_n 1, 1) := by decide +kernel
theorem dX10_calls_32 : decode cX10_calls 32 = .ok (.iload_n 2, 1) := by decide +kernel
theorem dX10_calls_33 : decode cX10_calls 33 = .ok (.invokevirtual 224, 3) := by decide +kernel
theorem dX10_calls_36 : decode cX10_calls 36 = .ok (.ireturn, 1) := by decide +kernel
theorem dX10_entry_0 : decode cX10_entry 0 = .ok (.aload_n 0, 1) := by decide +kernel
theorem dX10_entry_1 : decode cX10_entry 1 = .ok (.iload_n 1, 1) := by decide +kernel
theorem dX10_entry_2 : decode cX10_entry 2 = .ok (.bipush 12, 2) := by decide +kernel
theorem dX10_entry_4 : decode cX10_entry 4 = .ok (.invokestatic 34, 3) := by decide +kernel
theorem dX10_entry_7 : decode cX10_entry 7 = .ok (.invokevirtual 38, 3) := by decide +kernel
theorem dX10_entry_10 : decode cX10_entry 10 = .ok (.aload_n 0, 1) := by decide +kernel
theorem dX10_entry_11 : decode cX10_entry 11 = .ok (.getfield 20, 3) := by decide +kernel
theorem dX10_entry_14 : decode cX10_entry 14 = .ok (.iload_n 1, 1) := by decide +kernel
theorem dX10_entry_15 : decode cX10_entry 15 = .ok (.invokevirtual 227, 3) := by decide +kernel
theorem dX10_entry_18 : decode cX10_entry 18 = .ok (.ireturn, 1) := by decide +kernel
theorem dX10_patchOf_0 : decode cX10_patchOf 0 = .ok (.aload_n 0, 1) := by decide +kernel
theorem dX10_patchOf_1 : decode cX10_patchOf 1 = .ok (.iload_n 1, 1) := by decide +kernel
theorem dX10_patchOf_2 : decode cX10_patchOf 2 = .ok (.aload_n 0, 1) := by decide +kernel
theorem dX10_patchOf_3 : decode cX10_patchOf 3 = .ok (.getfield 79, 3) := by decide +kernel
theorem dX10_patchOf_6 : decode cX10_patchOf 6 = .ok (.invokestatic 34, 3) := by decide +kernel
theorem dX10_patchOf_9 : decode cX10_patchOf 9 = .ok (.ifCond .eq 19, 3) := by decide +kernel
theorem dX10_patchOf_12 : decode cX10_patchOf 12 = .ok (.aload_n 0, 1) := by decide +kernel
theorem dX10_patchOf_13 : decode cX10_patchOf 13 = .ok (.getfield 20, 3) := by decide +kernel
theorem dX10_patchOf_16 : decode cX10_patchOf 16 = .ok (.getfield 92, 3) := by decide +kernel
theorem dX10_patchOf_19 : decode cX10_patchOf 19 = .ok (.iload_n 1, 1) := by decide +kernel
theorem dX10_patchOf_20 : decode cX10_patchOf 20 = .ok (.aaload, 1) := by decide +kernel
theorem dX10_patchOf_21 : decode cX10_patchOf 21 = .ok (.ifnull 7, 3) := by decide +kernel
theorem dX10_patchOf_24 : decode cX10_patchOf 24 = .ok (.iconst 1, 1) := by decide +kernel
theorem dX10_patchOf_25 : decode cX10_patchOf 25 = .ok (.goto 4, 3) := by decide +kernel
theorem dX10_patchOf_28 : decode cX10_patchOf 28 = .ok (.iconst 0, 1) := by decide +kernel
theorem dX10_patchOf_29 : decode cX10_patchOf 29 = .ok (.invokevirtual 38, 3) := by decide +kernel
theorem dX10_patchOf_32 : decode cX10_patchOf 32 = .ok (.aload_n 0, 1) := by decide +kernel
theorem dX10_patchOf_33 : decode cX10_patchOf 33 = .ok (.getfield 20, 3) := by decide +kernel
theorem dX10_patchOf_36 : decode cX10_patchOf 36 = .ok (.getfield 92, 3) := by decide +kernel
theorem dX10_patchOf_39 : decode cX10_patchOf 39 = .ok (.iload_n 1, 1) := by decide +kernel
theorem dX10_patchOf_40 : decode cX10_patchOf 40 = .ok (.aaload, 1) := by decide +kernel
theorem dX10_patchOf_41 : decode cX10_patchOf 41 = .ok (.astore_n 3, 1) := by decide +kernel
theorem dX10_patchOf_42 : decode cX10_patchOf 42 = .ok (.iload_n 2, 1) := by decide +kernel
theorem dX10_patchOf_43 : decode cX10_patchOf 43 = .ok (.tableswitch 75 0 4 #[33, 42, 47, 60, 65], 33) := by decide +kernel
theorem dX10_patchOf_76 : decode cX10_patchOf 76 = .ok (.aload_n 0, 1) := by decide +kernel
theorem dX10_patchOf_77 : decode cX10_patchOf 77 = .ok (.getfield 20, 3) := by decide +kernel
theorem dX10_patchOf_80 : decode cX10_patchOf 80 = .ok (.iload_n 1, 1) := by decide +kernel
theorem dX10_patchOf_81 : decode cX10_patchOf 81 = .ok (.invokevirtual 134, 3) := by decide +kernel
theorem dX10_patchOf_84 : decode cX10_patchOf 84 = .ok (.ireturn, 1) := by decide +kernel
theorem dX10_patchOf_85 : decode cX10_patchOf 85 = .ok (.aload_n 3, 1) := by decide +kernel
theorem dX10_patchOf_86 : decode cX10_patchOf 86 = .ok (.invokevirtual 230, 3) := by decide +kernel
theorem dX10_patchOf_89 : decode cX10_patchOf 89 = .ok (.ireturn, 1) := by decide +kernel
theorem dX10_patchOf_90 : decode cX10_patchOf 90 = .ok (.aload_n 3, 1) := by decide +kernel
theorem dX10_patchOf_91 : decode cX10_patchOf 91 = .ok (.getfield 233, 3) := by decide +kernel
theorem dX10_patchOf_94 : decode cX10_patchOf 94 = .ok (.ifCond .eq 7, 3) := by decide +kernel
theorem dX10_patchOf_97 : decode cX10_patchOf 97 = .ok (.iconst 1, 1) := by decide +kernel
theorem dX10_patchOf_98 : decode cX10_patchOf 98 = .ok (.goto 4, 3) := by decide +kernel
theorem dX10_patchOf_101 : decode cX10_patchOf 101 = .ok (.iconst 0, 1) := by decide +kernel
theorem dX10_patchOf_102 : decode cX10_patchOf 102 = .ok (.ireturn, 1) := by decide +kernel
theorem dX10_patchOf_103 : decode cX10_patchOf 103 = .ok (.aload_n 3, 1) := by decide +kernel
theorem dX10_patchOf_104 : decode cX10_patchOf 104 = .ok (.invokevirtual 236, 3) := by decide +kernel
theorem dX10_patchOf_107 : decode cX10_patchOf 107 = .ok (.ireturn, 1) := by decide +kernel
theorem dX10_patchOf_108 : decode cX10_patchOf 108 = .ok (.aload_n 0, 1) := by decide +kernel
theorem dX10_patchOf_109 : decode cX10_patchOf 109 = .ok (.getfield 20, 3) := by decide +kernel
theorem dX10_patchOf_112 : decode cX10_patchOf 112 = .ok (.getfield 239, 3) := by decide +kernel
theorem dX10_patchOf_115 : decode cX10_patchOf 115 = .ok (.iload_n 1, 1) := by decide +kernel
theorem dX10_patchOf_116 : decode cX10_patchOf 116 = .ok (.iaload, 1) := by decide +kernel
theorem dX10_patchOf_117 : decode cX10_patchOf 117 = .ok (.ireturn, 1) := by decide +kernel
theorem dX10_patchOf_118 : decode cX10_patchOf 118 = .ok (.aload_n 0, 1) := by decide +kernel
theorem dX10_patchOf_119 : decode cX10_patchOf 119 = .ok (.iconst 0, 1) := by decide +kernel
theorem dX10_patchOf_120 : decode cX10_patchOf 120 = .ok (.invokevirtual 42, 3) := by decide +kernel
theorem dX10_patchOf_123 : decode cX10_patchOf 123 = .ok (.iconst (-1), 1) := by decide +kernel
theorem dX10_patchOf_124 : decode cX10_patchOf 124 = .ok (.ireturn, 1) := by decide +kernel
theorem dX10_datumOf_0 : decode cX10_datumOf 0 = .ok (.aload_n 0, 1) := by decide +kernel
theorem dX10_datumOf_1 : decode cX10_datumOf 1 = .ok (.iload_n 1, 1) := by decide +kernel
theorem dX10_datumOf_2 : decode cX10_datumOf 2 = .ok (.bipush 10, 2) := by decide +kernel
theorem dX10_datumOf_4 : decode cX10_datumOf 4 = .ok (.invokestatic 34, 3) := by decide +kernel
theorem dX10_datumOf_7 : decode cX10_datumOf 7 = .ok (.invokevirtual 38, 3) := by decide +kernel
theorem dX10_datumOf_10 : decode cX10_datumOf 10 = .ok (.aload_n 0, 1) := by decide +kernel
theorem dX10_datumOf_11 : decode cX10_datumOf 11 = .ok (.getfield 20, 3) := by decide +kernel
theorem dX10_datumOf_14 : decode cX10_datumOf 14 = .ok (.iload_n 1, 1) := by decide +kernel
theorem dX10_datumOf_15 : decode cX10_datumOf 15 = .ok (.iconst (-1), 1) := by decide +kernel
theorem dX10_datumOf_16 : decode cX10_datumOf 16 = .ok (.invokevirtual 242, 3) := by decide +kernel
theorem dX10_datumOf_19 : decode cX10_datumOf 19 = .ok (.astore_n 3, 1) := by decide +kernel
theorem dX10_datumOf_20 : decode cX10_datumOf 20 = .ok (.iload_n 2, 1) := by decide +kernel
theorem dX10_datumOf_21 : decode cX10_datumOf 21 = .ok (.tableswitch 46 0 2 #[27, 32, 37], 27) := by decide +kernel
theorem dX10_datumOf_48 : decode cX10_datumOf 48 = .ok (.aload_n 3, 1) := by decide +kernel
theorem dX10_datumOf_49 : decode cX10_datumOf 49 = .ok (.getfield 246, 3) := by decide +kernel
theorem dX10_datumOf_52 : decode cX10_datumOf 52 = .ok (.ireturn, 1) := by decide +kernel
theorem dX10_datumOf_53 : decode cX10_datumOf 53 = .ok (.aload_n 3, 1) := by decide +kernel
theorem dX10_datumOf_54 : decode cX10_datumOf 54 = .ok (.getfield 249, 3) := by decide +kernel
theorem dX10_datumOf_57 : decode cX10_datumOf 57 = .ok (.ireturn, 1) := by decide +kernel
theorem dX10_datumOf_58 : decode cX10_datumOf 58 = .ok (.aload_n 0, 1) := by decide +kernel
theorem dX10_datumOf_59 : decode cX10_datumOf 59 = .ok (.getfield 20, 3) := by decide +kernel
theorem dX10_datumOf_62 : decode cX10_datumOf 62 = .ok (.iload_n 1, 1) := by decide +kernel
theorem dX10_datumOf_63 : decode cX10_datumOf 63 = .ok (.invokevirtual 251, 3) := by decide +kernel
theorem dX10_datumOf_66 : decode cX10_datumOf 66 = .ok (.ireturn, 1) := by decide +kernel
theorem dX10_datumOf_67 : decode cX10_datumOf 67 = .ok (.aload_n 0, 1) := by decide +kernel
theorem dX10_datumOf_68 : decode cX10_datumOf 68 = .ok (.iconst 0, 1) := by decide +kernel
theorem dX10_datumOf_69 : decode cX10_datumOf 69 = .ok (.invokevirtual 42, 3) := by decide +kernel
theorem dX10_datumOf_72 : decode cX10_datumOf 72 = .ok (.iconst (-1), 1) := by decide +kernel
theorem dX10_datumOf_73 : decode cX10_datumOf 73 = .ok (.ireturn, 1) := by decide +kernel
theorem dX10_shadowOf_0 : decode cX10_shadowOf 0 = .ok (.aload_n 0, 1) := by decide +kernel
theorem dX10_shadowOf_1 : decode cX10_shadowOf 1 = .ok (.iload_n 1, 1) := by decide +kernel
theorem dX10_shadowOf_2 : decode cX10_shadowOf 2 = .ok (.bipush 10, 2) := by decide +kernel
theorem dX10_shadowOf_4 : decode cX10_shadowOf 4 = .ok (.invokestatic 34, 3) := by decide +kernel
theorem dX10_shadowOf_7 : decode cX10_shadowOf 7 = .ok (.ifCond .eq 15, 3) := by decide +kernel
theorem dX10_shadowOf_10 : decode cX10_shadowOf 10 = .ok (.iload_n 2, 1) := by decide +kernel
theorem dX10_shadowOf_11 : decode cX10_shadowOf 11 = .ok (.iconst 5, 1) := by decide +kernel
theorem dX10_shadowOf_12 : decode cX10_shadowOf 12 = .ok (.invokestatic 34, 3) := by decide +kernel
theorem dX10_shadowOf_15 : decode cX10_shadowOf 15 = .ok (.ifCond .eq 7, 3) := by decide +kernel
theorem dX10_shadowOf_18 : decode cX10_shadowOf 18 = .ok (.iconst 1, 1) := by decide +kernel
theorem dX10_shadowOf_19 : decode cX10_shadowOf 19 = .ok (.goto 4, 3) := by decide +kernel
theorem dX10_shadowOf_22 : decode cX10_shadowOf 22 = .ok (.iconst 0, 1) := by decide +kernel
theorem dX10_shadowOf_23 : decode cX10_shadowOf 23 = .ok (.invokevirtual 38, 3) := by decide +kernel
theorem dX10_shadowOf_26 : decode cX10_shadowOf 26 = .ok (.aload_n 0, 1) := by decide +kernel
theorem dX10_shadowOf_27 : decode cX10_shadowOf 27 = .ok (.iload_n 3, 1) := by decide +kernel
theorem dX10_shadowOf_28 : decode cX10_shadowOf 28 = .ok (.ifCond .eq 8, 3) := by decide +kernel
theorem dX10_shadowOf_31 : decode cX10_shadowOf 31 = .ok (.iload_n 3, 1) := by decide +kernel
theorem dX10_shadowOf_32 : decode cX10_shadowOf 32 = .ok (.iconst 1, 1) := by decide +kernel
theorem dX10_shadowOf_33 : decode cX10_shadowOf 33 = .ok (.if_icmp .ne 7, 3) := by decide +kernel
theorem dX10_shadowOf_36 : decode cX10_shadowOf 36 = .ok (.iconst 1, 1) := by decide +kernel
theorem dX10_shadowOf_37 : decode cX10_shadowOf 37 = .ok (.goto 4, 3) := by decide +kernel
theorem dX10_shadowOf_40 : decode cX10_shadowOf 40 = .ok (.iconst 0, 1) := by decide +kernel
theorem dX10_shadowOf_41 : decode cX10_shadowOf 41 = .ok (.invokevirtual 42, 3) := by decide +kernel
theorem dX10_shadowOf_44 : decode cX10_shadowOf 44 = .ok (.aload_n 0, 1) := by decide +kernel
theorem dX10_shadowOf_45 : decode cX10_shadowOf 45 = .ok (.getfield 20, 3) := by decide +kernel
theorem dX10_shadowOf_48 : decode cX10_shadowOf 48 = .ok (.iload_n 1, 1) := by decide +kernel
theorem dX10_shadowOf_49 : decode cX10_shadowOf 49 = .ok (.iload_n 2, 1) := by decide +kernel
theorem dX10_shadowOf_50 : decode cX10_shadowOf 50 = .ok (.invokevirtual 242, 3) := by decide +kernel
theorem dX10_shadowOf_53 : decode cX10_shadowOf 53 = .ok (.astore 4, 2) := by decide +kernel
theorem dX10_shadowOf_55 : decode cX10_shadowOf 55 = .ok (.iload_n 3, 1) := by decide +kernel
theorem dX10_shadowOf_56 : decode cX10_shadowOf 56 = .ok (.ifCond .ne 11, 3) := by decide +kernel
theorem dX10_shadowOf_59 : decode cX10_shadowOf 59 = .ok (.aload 4, 2) := by decide +kernel
theorem dX10_shadowOf_61 : decode cX10_shadowOf 61 = .ok (.getfield 246, 3) := by decide +kernel
theorem dX10_shadowOf_64 : decode cX10_shadowOf 64 = .ok (.goto 8, 3) := by decide +kernel
theorem dX10_shadowOf_67 : decode cX10_shadowOf 67 = .ok (.aload 4, 2) := by decide +kernel
theorem dX10_shadowOf_69 : decode cX10_shadowOf 69 = .ok (.getfield 249, 3) := by decide +kernel
theorem dX10_shadowOf_72 : decode cX10_shadowOf 72 = .ok (.ireturn, 1) := by decide +kernel
theorem dX10_cell_0 : decode cX10_cell 0 = .ok (.aload_n 0, 1) := by decide +kernel
theorem dX10_cell_1 : decode cX10_cell 1 = .ok (.iload_n 1, 1) := by decide +kernel
theorem dX10_cell_2 : decode cX10_cell 2 = .ok (.bipush 10, 2) := by decide +kernel
theorem dX10_cell_4 : decode cX10_cell 4 = .ok (.invokestatic 34, 3) := by decide +kernel
theorem dX10_cell_7 : decode cX10_cell 7 = .ok (.ifCond .eq 20, 3) := by decide +kernel
theorem dX10_cell_10 : decode cX10_cell 10 = .ok (.iload_n 2, 1) := by decide +kernel
theorem dX10_cell_11 : decode cX10_cell 11 = .ok (.iconst (-1), 1) := by decide +kernel
theorem dX10_cell_12 : decode cX10_cell 12 = .ok (.if_icmp .eq 11, 3) := by decide +kernel
theorem dX10_cell_15 : decode cX10_cell 15 = .ok (.iload_n 2, 1) := by decide +kernel
theorem dX10_cell_16 : decode cX10_cell 16 = .ok (.iconst 5, 1) := by decide +kernel
theorem dX10_cell_17 : decode cX10_cell 17 = .ok (.invokestatic 34, 3) := by decide +kernel
theorem dX10_cell_20 : decode cX10_cell 20 = .ok (.ifCond .eq 7, 3) := by decide +kernel
theorem dX10_cell_23 : decode cX10_cell 23 = .ok (.iconst 1, 1) := by decide +kernel
theorem dX10_cell_24 : decode cX10_cell 24 = .ok (.goto 4, 3) := by decide +kernel
theorem dX10_cell_27 : decode cX10_cell 27 = .ok (.iconst 0, 1) := by decide +kernel
theorem dX10_cell_28 : decode cX10_cell 28 = .ok (.invokevirtual 38, 3) := by decide +kernel
theorem dX10_cell_31 : decode cX10_cell 31 = .ok (.aload_n 0, 1) := by decide +kernel
theorem dX10_cell_32 : decode cX10_cell 32 = .ok (.getfield 20, 3) := by decide +kernel
theorem dX10_cell_35 : decode cX10_cell 35 = .ok (.iload_n 1, 1) := by decide +kernel
theorem dX10_cell_36 : decode cX10_cell 36 = .ok (.iload_n 2, 1) := by decide +kernel
theorem dX10_cell_37 : decode cX10_cell 37 = .ok (.invokevirtual 242, 3) := by decide +kernel
theorem dX10_cell_40 : decode cX10_cell 40 = .ok (.astore 4, 2) := by decide +kernel
theorem dX10_cell_42 : decode cX10_cell 42 = .ok (.iload_n 3, 1) := by decide +kernel
theorem dX10_cell_43 : decode cX10_cell 43 = .ok (.aload 4, 2) := by decide +kernel
theorem dX10_cell_45 : decode cX10_cell 45 = .ok (.getfield 249, 3) := by decide +kernel
theorem dX10_cell_48 : decode cX10_cell 48 = .ok (.invokestatic 34, 3) := by decide +kernel
theorem dX10_cell_51 : decode cX10_cell 51 = .ok (.ifCond .eq 13, 3) := by decide +kernel
theorem dX10_cell_54 : decode cX10_cell 54 = .ok (.aload 4, 2) := by decide +kernel
theorem dX10_cell_56 : decode cX10_cell 56 = .ok (.getfield 254, 3) := by decide +kernel
theorem dX10_cell_59 : decode cX10_cell 59 = .ok (.iload_n 3, 1) := by decide +kernel
theorem dX10_cell_60 : decode cX10_cell 60 = .ok (.laload, 1) := by decide +kernel
theorem dX10_cell_61 : decode cX10_cell 61 = .ok (.goto 4, 3) := by decide +kernel
theorem dX10_cell_64 : decode cX10_cell 64 = .ok (.lconst 0, 1) := by decide +kernel
theorem dX10_cell_65 : decode cX10_cell 65 = .ok (.lreturn, 1) := by decide +kernel
theorem dX10_get_0 : decode cX10_get 0 = .ok (.aload_n 0, 1) := by decide +kernel
theorem dX10_get_1 : decode cX10_get 1 = .ok (.iload_n 2, 1) := by decide +kernel
theorem dX10_get_2 : decode cX10_get 2 = .ok (.bipush 10, 2) := by decide +kernel
theorem dX10_get_4 : decode cX10_get 4 = .ok (.invokestatic 34, 3) := by decide +kernel
theorem dX10_get_7 : decode cX10_get 7 = .ok (.invokevirtual 38, 3) := by decide +kernel
theorem dX10_get_10 : decode cX10_get 10 = .ok (.aload_n 0, 1) := by decide +kernel
theorem dX10_get_11 : decode cX10_get 11 = .ok (.iload_n 1, 1) := by decide +kernel
theorem dX10_get_12 : decode cX10_get 12 = .ok (.bipush 8, 2) := by decide +kernel
theorem dX10_get_14 : decode cX10_get 14 = .ok (.invokestatic 34, 3) := by decide +kernel
theorem dX10_get_17 : decode cX10_get 17 = .ok (.invokevirtual 42, 3) := by decide +kernel
theorem dX10_get_20 : decode cX10_get 20 = .ok (.aload_n 0, 1) := by decide +kernel
theorem dX10_get_21 : decode cX10_get 21 = .ok (.getfield 20, 3) := by decide +kernel
theorem dX10_get_24 : decode cX10_get 24 = .ok (.getfield 258, 3) := by decide +kernel
theorem dX10_get_27 : decode cX10_get 27 = .ok (.astore 4, 2) := by decide +kernel
theorem dX10_get_29 : decode cX10_get 29 = .ok (.aload_n 0, 1) := by decide +kernel
theorem dX10_get_30 : decode cX10_get 30 = .ok (.getfield 20, 3) := by decide +kernel
theorem dX10_get_33 : decode cX10_get 33 = .ok (.iload_n 2, 1) := by decide +kernel
theorem dX10_get_34 : decode cX10_get 34 = .ok (.iconst (-1), 1) := by decide +kernel
theorem dX10_get_35 : decode cX10_get 35 = .ok (.invokevirtual 242, 3) := by decide +kernel
theorem dX10_get_38 : decode cX10_get 38 = .ok (.iload_n 1, 1) := by decide +kernel
theorem dX10_get_39 : decode cX10_get 39 = .ok (.iload_n 3, 1) := by decide +kernel
theorem dX10_get_40 : decode cX10_get 40 = .ok (.aload 4, 2) := by decide +kernel
theorem dX10_get_42 : decode cX10_get 42 = .ok (.invokevirtual 261, 3) := by decide +kernel
theorem dX10_get_45 : decode cX10_get 45 = .ok (.istore 5, 2) := by decide +kernel
theorem dX10_get_47 : decode cX10_get 47 = .ok (.iload 5, 2) := by decide +kernel
theorem dX10_get_49 : decode cX10_get 49 = .ok (.ifCond .ne 11, 3) := by decide +kernel
theorem dX10_get_52 : decode cX10_get 52 = .ok (.aload 4, 2) := by decide +kernel
theorem dX10_get_54 : decode cX10_get 54 = .ok (.getfield 202, 3) := by decide +kernel
theorem dX10_get_57 : decode cX10_get 57 = .ok (.goto 10, 3) := by decide +kernel
theorem dX10_get_60 : decode cX10_get 60 = .ok (.iload 5, 2) := by decide +kernel
theorem dX10_get_62 : decode cX10_get 62 = .ok (.i2l, 1) := by decide +kernel
theorem dX10_get_63 : decode cX10_get 63 = .ok (.ldc2_w 265, 3) := by decide +kernel
theorem dX10_get_66 : decode cX10_get 66 = .ok (.lsub, 1) := by decide +kernel
theorem dX10_get_67 : decode cX10_get 67 = .ok (.lreturn, 1) := by decide +kernel
theorem dX10_set_0 : decode cX10_set 0 = .ok (.aload_n 0, 1) := by decide +kernel
theorem dX10_set_1 : decode cX10_set 1 = .ok (.iload_n 2, 1) := by decide +kernel
theorem dX10_set_2 : decode cX10_set 2 = .ok (.bipush 10, 2) := by decide +kernel
theorem dX10_set_4 : decode cX10_set 4 = .ok (.invokestatic 34, 3) := by decide +kernel
theorem dX10_set_7 : decode cX10_set 7 = .ok (.invokevirtual 38, 3) := by decide +kernel
theorem dX10_set_10 : decode cX10_set 10 = .ok (.aload_n 0, 1) := by decide +kernel
theorem dX10_set_11 : decode cX10_set 11 = .ok (.iload_n 1, 1) := by decide +kernel
theorem dX10_set_12 : decode cX10_set 12 = .ok (.bipush 8, 2) := by decide +kernel
theorem dX10_set_14 : decode cX10_set 14 = .ok (.invokestatic 34, 3) := by decide +kernel
theorem dX10_set_17 : decode cX10_set 17 = .ok (.ifCond .eq 23, 3) := by decide +kernel
theorem dX10_set_20 : decode cX10_set 20 = .ok (.iload 4, 2) := by decide +kernel
theorem dX10_set_22 : decode cX10_set 22 = .ok (.ldc_w 267, 3) := by decide +kernel
theorem dX10_set_25 : decode cX10_set 25 = .ok (.if_icmp .lt 15, 3) := by decide +kernel
theorem dX10_set_28 : decode cX10_set 28 = .ok (.iload 4, 2) := by decide +kernel
theorem dX10_set_30 : decode cX10_set 30 = .ok (.ldc_w 268, 3) := by decide +kernel
theorem dX10_set_33 : decode cX10_set 33 = .ok (.if_icmp .gt 7, 3) := by decide +kernel
theorem dX10_set_36 : decode cX10_set 36 = .ok (.iconst 1, 1) := by decide +kernel
theorem dX10_set_37 : decode cX10_set 37 = .ok (.goto 4, 3) := by decide +kernel
theorem dX10_set_40 : decode cX10_set 40 = .ok (.iconst 0, 1) := by decide +kernel
theorem dX10_set_41 : decode cX10_set 41 = .ok (.invokevirtual 42, 3) := by decide +kernel
theorem dX10_set_44 : decode cX10_set 44 = .ok (.aload_n 0, 1) := by decide +kernel
theorem dX10_set_45 : decode cX10_set 45 = .ok (.getfield 20, 3) := by decide +kernel
theorem dX10_set_48 : decode cX10_set 48 = .ok (.iload_n 2, 1) := by decide +kernel
theorem dX10_set_49 : decode cX10_set 49 = .ok (.iconst (-1), 1) := by decide +kernel
theorem dX10_set_50 : decode cX10_set 50 = .ok (.invokevirtual 242, 3) := by decide +kernel
theorem dX10_set_53 : decode cX10_set 53 = .ok (.iload_n 1, 1) := by decide +kernel
theorem dX10_set_54 : decode cX10_set 54 = .ok (.iload_n 3, 1) := by decide +kernel
theorem dX10_set_55 : decode cX10_set 55 = .ok (.iload 4, 2) := by decide +kernel
theorem dX10_set_57 : decode cX10_set 57 = .ok (.invokevirtual 269, 3) := by decide +kernel
theorem dX10_set_60 : decode cX10_set 60 = .ok (.ireturn, 1) := by decide +kernel
theorem dX10_move_0 : decode cX10_move 0 = .ok (.aload_n 0, 1) := by decide +kernel
theorem dX10_move_1 : decode cX10_move 1 = .ok (.iload_n 1, 1) := by decide +kernel
theorem dX10_move_2 : decode cX10_move 2 = .ok (.bipush 10, 2) := by decide +kernel
theorem dX10_move_4 : decode cX10_move 4 = .ok (.invokestatic 34, 3) := by decide +kernel
theorem dX10_move_7 : decode cX10_move 7 = .ok (.ifCond .eq 16, 3) := by decide +kernel
theorem dX10_move_10 : decode cX10_move 10 = .ok (.iload_n 3, 1) := by decide +kernel
theorem dX10_move_11 : decode cX10_move 11 = .ok (.bipush 10, 2) := by decide +kernel
theorem dX10_move_13 : decode cX10_move 13 = .ok (.invokestatic 34, 3) := by decide +kernel
theorem dX10_move_16 : decode cX10_move 16 = .ok (.ifCond .eq 7, 3) := by decide +kernel
theorem dX10_move_19 : decode cX10_move 19 = .ok (.iconst 1, 1) := by decide +kernel
theorem dX10_move_20 : decode cX10_move 20 = .ok (.goto 4, 3) := by decide +kernel
theorem dX10_move_23 : decode cX10_move 23 = .ok (.iconst 0, 1) := by decide +kernel
theorem dX10_move_24 : decode cX10_move 24 = .ok (.invokevirtual 38, 3) := by decide +kernel
theorem dX10_move_27 : decode cX10_move 27 = .ok (.aload_n 0, 1) := by decide +kernel
theorem dX10_move_28 : decode cX10_move 28 = .ok (.getfield 20, 3) := by decide +kernel
theorem dX10_move_31 : decode cX10_move 31 = .ok (.getfield 258, 3) := by decide +kernel
theorem dX10_move_34 : decode cX10_move 34 = .ok (.astore 5, 2) := by decide +kernel
theorem dX10_move_36 : decode cX10_move 36 = .ok (.aload_n 0, 1) := by decide +kernel
theorem dX10_move_37 : decode cX10_move 37 = .ok (.getfield 20, 3) := by decide +kernel
theorem dX10_move_40 : decode cX10_move 40 = .ok (.iload_n 1, 1) := by decide +kernel
theorem dX10_move_41 : decode cX10_move 41 = .ok (.iconst (-1), 1) := by decide +kernel
theorem dX10_move_42 : decode cX10_move 42 = .ok (.invokevirtual 242, 3) := by decide +kernel
theorem dX10_move_45 : decode cX10_move 45 = .ok (.iload_n 2, 1) := by decide +kernel
theorem dX10_move_46 : decode cX10_move 46 = .ok (.aload 5, 2) := by decide +kernel
theorem dX10_move_48 : decode cX10_move 48 = .ok (.invokevirtual 273, 3) := by decide +kernel
theorem dX10_move_51 : decode cX10_move 51 = .ok (.istore 6, 2) := by decide +kernel
theorem dX10_move_53 : decode cX10_move 53 = .ok (.iload 6, 2) := by decide +kernel
theorem dX10_move_55 : decode cX10_move 55 = .ok (.ifCond .eq 8, 3) := by decide +kernel
theorem dX10_move_58 : decode cX10_move 58 = .ok (.iload 6, 2) := by decide +kernel
theorem dX10_move_60 : decode cX10_move 60 = .ok (.goto 22, 3) := by decide +kernel
theorem dX10_move_63 : decode cX10_move 63 = .ok (.bipush 10, 2) := by decide +kernel
theorem dX10_move_65 : decode cX10_move 65 = .ok (.aload_n 0, 1) := by decide +kernel
theorem dX10_move_66 : decode cX10_move 66 = .ok (.getfield 20, 3) := by decide +kernel
theorem dX10_move_69 : decode cX10_move 69 = .ok (.iload_n 3, 1) := by decide +kernel
theorem dX10_move_70 : decode cX10_move 70 = .ok (.iconst (-1), 1) := by decide +kernel
theorem dX10_move_71 : decode cX10_move 71 = .ok (.invokevirtual 242, 3) := by decide +kernel
theorem dX10_move_74 : decode cX10_move 74 = .ok (.iload 4, 2) := by decide +kernel
theorem dX10_move_76 : decode cX10_move 76 = .ok (.aload 5, 2) := by decide +kernel
theorem dX10_move_78 : decode cX10_move 78 = .ok (.invokevirtual 277, 3) := by decide +kernel
theorem dX10_move_81 : decode cX10_move 81 = .ok (.iadd, 1) := by decide +kernel
theorem dX10_move_82 : decode cX10_move 82 = .ok (.ireturn, 1) := by decide +kernel
theorem dX10_shape_0 : decode cX10_shape 0 = .ok (.aload_n 0, 1) := by decide +kernel
theorem dX10_shape_1 : decode cX10_shape 1 = .ok (.iload_n 1, 1) := by decide +kernel
theorem dX10_shape_2 : decode cX10_shape 2 = .ok (.bipush 10, 2) := by decide +kernel
theorem dX10_shape_4 : decode cX10_shape 4 = .ok (.invokestatic 34, 3) := by decide +kernel
theorem dX10_shape_7 : decode cX10_shape 7 = .ok (.invokevirtual 38, 3) := by decide +kernel
theorem dX10_shape_10 : decode cX10_shape 10 = .ok (.aload_n 0, 1) := by decide +kernel
theorem dX10_shape_11 : decode cX10_shape 11 = .ok (.iload_n 2, 1) := by decide +kernel
theorem dX10_shape_12 : decode cX10_shape 12 = .ok (.bipush 11, 2) := by decide +kernel
theorem dX10_shape_14 : decode cX10_shape 14 = .ok (.invokestatic 34, 3) := by decide +kernel
theorem dX10_shape_17 : decode cX10_shape 17 = .ok (.ifCond .eq 17, 3) := by decide +kernel
theorem dX10_shape_20 : decode cX10_shape 20 = .ok (.iload_n 3, 1) := by decide +kernel
theorem dX10_shape_21 : decode cX10_shape 21 = .ok (.ifCond .lt 13, 3) := by decide +kernel
theorem dX10_shape_24 : decode cX10_shape 24 = .ok (.iload_n 3, 1) := by decide +kernel
theorem dX10_shape_25 : decode cX10_shape 25 = .ok (.bipush 9, 2) := by decide +kernel
theorem dX10_shape_27 : decode cX10_shape 27 = .ok (.if_icmp .gt 7, 3) := by decide +kernel
theorem dX10_shape_30 : decode cX10_shape 30 = .ok (.iconst 1, 1) := by decide +kernel
theorem dX10_shape_31 : decode cX10_shape 31 = .ok (.goto 4, 3) := by decide +kernel
theorem dX10_shape_34 : decode cX10_shape 34 = .ok (.iconst 0, 1) := by decide +kernel
theorem dX10_shape_35 : decode cX10_shape 35 = .ok (.invokevirtual 42, 3) := by decide +kernel
theorem dX10_shape_38 : decode cX10_shape 38 = .ok (.aload_n 0, 1) := by decide +kernel
theorem dX10_shape_39 : decode cX10_shape 39 = .ok (.getfield 20, 3) := by decide +kernel
theorem dX10_shape_42 : decode cX10_shape 42 = .ok (.iload_n 1, 1) := by decide +kernel
theorem dX10_shape_43 : decode cX10_shape 43 = .ok (.iconst (-1), 1) := by decide +kernel
theorem dX10_shape_44 : decode cX10_shape 44 = .ok (.invokevirtual 242, 3) := by decide +kernel
theorem dX10_shape_47 : decode cX10_shape 47 = .ok (.iload_n 2, 1) := by decide +kernel
theorem dX10_shape_48 : decode cX10_shape 48 = .ok (.iload_n 3, 1) := by decide +kernel
theorem dX10_shape_49 : decode cX10_shape 49 = .ok (.invokevirtual 280, 3) := by decide +kernel
theorem dX10_shape_52 : decode cX10_shape 52 = .ok (.ireturn, 1) := by decide +kernel
theorem dX10_keep_0 : decode cX10_keep 0 = .ok (.aload_n 0, 1) := by decide +kernel
theorem dX10_keep_1 : decode cX10_keep 1 = .ok (.iload_n 1, 1) := by decide +kernel
theorem dX10_keep_2 : decode cX10_keep 2 = .ok (.bipush 10, 2) := by decide +kernel
theorem dX10_keep_4 : decode cX10_keep 4 = .ok (.invokestatic 34, 3) := by decide +kernel
theorem dX10_keep_7 : decode cX10_keep 7 = .ok (.ifCond .eq 15, 3) := by decide +kernel
theorem dX10_keep_10 : decode cX10_keep 10 = .ok (.iload_n 2, 1) := by decide +kernel
theorem dX10_keep_11 : decode cX10_keep 11 = .ok (.iconst 5, 1) := by decide +kernel
theorem dX10_keep_12 : decode cX10_keep 12 = .ok (.invokestatic 34, 3) := by decide +kernel
theorem dX10_keep_15 : decode cX10_keep 15 = .ok (.ifCond .eq 7, 3) := by decide +kernel
theorem dX10_keep_18 : decode cX10_keep 18 = .ok (.iconst 1, 1) := by decide +kernel
theorem dX10_keep_19 : decode cX10_keep 19 = .ok (.goto 4, 3) := by decide +kernel
theorem dX10_keep_22 : decode cX10_keep 22 = .ok (.iconst 0, 1) := by decide +kernel
theorem dX10_keep_23 : decode cX10_keep 23 = .ok (.invokevirtual 38, 3) := by decide +kernel
theorem dX10_keep_26 : decode cX10_keep 26 = .ok (.aload_n 0, 1) := by decide +kernel
theorem dX10_keep_27 : decode cX10_keep 27 = .ok (.iload_n 3, 1) := by decide +kernel
theorem dX10_keep_28 : decode cX10_keep 28 = .ok (.ifCond .eq 8, 3) := by decide +kernel
theorem dX10_keep_31 : decode cX10_keep 31 = .ok (.iload_n 3, 1) := by decide +kernel
theorem dX10_keep_32 : decode cX10_keep 32 = .ok (.iconst 1, 1) := by decide +kernel
theorem dX10_keep_33 : decode cX10_keep 33 = .ok (.if_icmp .ne 7, 3) := by decide +kernel
theorem dX10_keep_36 : decode cX10_keep 36 = .ok (.iconst 1, 1) := by decide +kernel
theorem dX10_keep_37 : decode cX10_keep 37 = .ok (.goto 4, 3) := by decide +kernel
theorem dX10_keep_40 : decode cX10_keep 40 = .ok (.iconst 0, 1) := by decide +kernel
theorem dX10_keep_41 : decode cX10_keep 41 = .ok (.invokevirtual 42, 3) := by decide +kernel
theorem dX10_keep_44 : decode cX10_keep 44 = .ok (.iload_n 3, 1) := by decide +kernel
theorem dX10_keep_45 : decode cX10_keep 45 = .ok (.ifCond .ne 15, 3) := by decide +kernel
theorem dX10_keep_48 : decode cX10_keep 48 = .ok (.aload_n 0, 1) := by decide +kernel
theorem dX10_keep_49 : decode cX10_keep 49 = .ok (.getfield 20, 3) := by decide +kernel
theorem dX10_keep_52 : decode cX10_keep 52 = .ok (.iload_n 1, 1) := by decide +kernel
theorem dX10_keep_53 : decode cX10_keep 53 = .ok (.iload_n 2, 1) := by decide +kernel
theorem dX10_keep_54 : decode cX10_keep 54 = .ok (.invokevirtual 283, 3) := by decide +kernel
theorem dX10_keep_57 : decode cX10_keep 57 = .ok (.goto 12, 3) := by decide +kernel
theorem dX10_keep_60 : decode cX10_keep 60 = .ok (.aload_n 0, 1) := by decide +kernel
theorem dX10_keep_61 : decode cX10_keep 61 = .ok (.getfield 20, 3) := by decide +kernel
theorem dX10_keep_64 : decode cX10_keep 64 = .ok (.iload_n 1, 1) := by decide +kernel
theorem dX10_keep_65 : decode cX10_keep 65 = .ok (.iload_n 2, 1) := by decide +kernel
theorem dX10_keep_66 : decode cX10_keep 66 = .ok (.invokevirtual 286, 3) := by decide +kernel
theorem dX10_keep_69 : decode cX10_keep 69 = .ok (.ireturn, 1) := by decide +kernel
theorem dX10_shapes_0 : decode cX10_shapes 0 = .ok (.aload_n 0, 1) := by decide +kernel
theorem dX10_shapes_1 : decode cX10_shapes 1 = .ok (.iload_n 1, 1) := by decide +kernel
theorem dX10_shapes_2 : decode cX10_shapes 2 = .ok (.bipush 10, 2) := by decide +kernel
theorem dX10_shapes_4 : decode cX10_shapes 4 = .ok (.invokestatic 34, 3) := by decide +kernel
theorem dX10_shapes_7 : decode cX10_shapes 7 = .ok (.invokevirtual 38, 3) := by decide +kernel
theorem dX10_shapes_10 : decode cX10_shapes 10 = .ok (.aload_n 0, 1) := by decide +kernel
theorem dX10_shapes_11 : decode cX10_shapes 11 = .ok (.getfield 20, 3) := by decide +kernel
theorem dX10_shapes_14 : decode cX10_shapes 14 = .ok (.iload_n 1, 1) := by decide +kernel
theorem dX10_shapes_15 : decode cX10_shapes 15 = .ok (.iconst (-1), 1) := by decide +kernel
theorem dX10_shapes_16 : decode cX10_shapes 16 = .ok (.invokevirtual 242, 3) := by decide +kernel
theorem dX10_shapes_19 : decode cX10_shapes 19 = .ok (.astore_n 2, 1) := by decide +kernel
theorem dX10_shapes_20 : decode cX10_shapes 20 = .ok (.iconst 0, 1) := by decide +kernel
theorem dX10_shapes_21 : decode cX10_shapes 21 = .ok (.istore_n 3, 1) := by decide +kernel
theorem dX10_shapes_22 : decode cX10_shapes 22 = .ok (.iconst 0, 1) := by decide +kernel
theorem dX10_shapes_23 : decode cX10_shapes 23 = .ok (.istore 4, 2) := by decide +kernel
theorem dX10_shapes_25 : decode cX10_shapes 25 = .ok (.iload 4, 2) := by decide +kernel
theorem dX10_shapes_27 : decode cX10_shapes 27 = .ok (.bipush 11, 2) := by decide +kernel
theorem dX10_shapes_29 : decode cX10_shapes 29 = .ok (.if_icmp .ge 36, 3) := by decide +kernel
theorem dX10_shapes_32 : decode cX10_shapes 32 = .ok (.aload_n 2, 1) := by decide +kernel
theorem dX10_shapes_33 : decode cX10_shapes 33 = .ok (.invokevirtual 289, 3) := by decide +kernel
theorem dX10_shapes_36 : decode cX10_shapes 36 = .ok (.ifCond .eq 29, 3) := by decide +kernel
theorem dX10_shapes_39 : decode cX10_shapes 39 = .ok (.aload_n 2, 1) := by decide +kernel
theorem dX10_shapes_40 : decode cX10_shapes 40 = .ok (.iload 4, 2) := by decide +kernel
theorem dX10_shapes_42 : decode cX10_shapes 42 = .ok (.aload_n 2, 1) := by decide +kernel
theorem dX10_shapes_43 : decode cX10_shapes 43 = .ok (.getfield 249, 3) := by decide +kernel
theorem dX10_shapes_46 : decode cX10_shapes 46 = .ok (.invokevirtual 293, 3) := by decide +kernel
theorem dX10_shapes_49 : decode cX10_shapes 49 = .ok (.ifCond .eq 10, 3) := by decide +kernel
theorem dX10_shapes_52 : decode cX10_shapes 52 = .ok (.iload_n 3, 1) := by decide +kernel
theorem dX10_shapes_53 : decode cX10_shapes 53 = .ok (.iconst 1, 1) := by decide +kernel
theorem dX10_shapes_54 : decode cX10_shapes 54 = .ok (.iload 4, 2) := by decide +kernel
theorem dX10_shapes_56 : decode cX10_shapes 56 = .ok (.ishl, 1) := by decide +kernel
theorem dX10_shapes_57 : decode cX10_shapes 57 = .ok (.ior, 1) := by decide +kernel
theorem dX10_shapes_58 : decode cX10_shapes 58 = .ok (.istore_n 3, 1) := by decide +kernel
theorem dX10_shapes_59 : decode cX10_shapes 59 = .ok (.iinc 4 1, 3) := by decide +kernel
theorem dX10_shapes_62 : decode cX10_shapes 62 = .ok (.goto (-37), 3) := by decide +kernel
theorem dX10_shapes_65 : decode cX10_shapes 65 = .ok (.iload_n 3, 1) := by decide +kernel
theorem dX10_shapes_66 : decode cX10_shapes 66 = .ok (.ireturn, 1) := by decide +kernel
theorem dX10_same_0 : decode cX10_same 0 = .ok (.aload_n 0, 1) := by decide +kernel
