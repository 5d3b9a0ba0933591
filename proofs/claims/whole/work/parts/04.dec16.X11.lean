theorem dX11_frame_48 : decode cX11_frame 48 = .ok (.iconst 0, 1) := by decide +kernel
theorem dX11_frame_49 : decode cX11_frame 49 = .ok (.iconst 1, 1) := by decide +kernel
theorem dX11_frame_50 : decode cX11_frame 50 = .ok (.iconst 0, 1) := by decide +kernel
theorem dX11_frame_51 : decode cX11_frame 51 = .ok (.invokevirtual 229, 3) := by decide +kernel
theorem dX11_frame_54 : decode cX11_frame 54 = .ok (.ifCond .ne 26, 3) := by decide +kernel
theorem dX11_frame_57 : decode cX11_frame 57 = .ok (.aload_n 0, 1) := by decide +kernel
theorem dX11_frame_58 : decode cX11_frame 58 = .ok (.iload_n 3, 1) := by decide +kernel
theorem dX11_frame_59 : decode cX11_frame 59 = .ok (.iconst 0, 1) := by decide +kernel
theorem dX11_frame_60 : decode cX11_frame 60 = .ok (.iconst 3, 1) := by decide +kernel
theorem dX11_frame_61 : decode cX11_frame 61 = .ok (.invokestatic 121, 3) := by decide +kernel
theorem dX11_frame_64 : decode cX11_frame 64 = .ok (.ifCond .ne 7, 3) := by decide +kernel
theorem dX11_frame_67 : decode cX11_frame 67 = .ok (.iconst 1, 1) := by decide +kernel
theorem dX11_frame_68 : decode cX11_frame 68 = .ok (.goto 4, 3) := by decide +kernel
theorem dX11_frame_71 : decode cX11_frame 71 = .ok (.iconst 0, 1) := by decide +kernel
theorem dX11_frame_72 : decode cX11_frame 72 = .ok (.iconst 2, 1) := by decide +kernel
theorem dX11_frame_73 : decode cX11_frame 73 = .ok (.iconst 1, 1) := by decide +kernel
theorem dX11_frame_74 : decode cX11_frame 74 = .ok (.invokevirtual 229, 3) := by decide +kernel
theorem dX11_frame_77 : decode cX11_frame 77 = .ok (.ifCond .eq 5, 3) := by decide +kernel
theorem dX11_frame_80 : decode cX11_frame 80 = .ok (.iconst 0, 1) := by decide +kernel
theorem dX11_frame_81 : decode cX11_frame 81 = .ok (.ireturn, 1) := by decide +kernel
theorem dX11_frame_82 : decode cX11_frame 82 = .ok (.aload_n 0, 1) := by decide +kernel
theorem dX11_frame_83 : decode cX11_frame 83 = .ok (.getfield 63, 3) := by decide +kernel
theorem dX11_frame_86 : decode cX11_frame 86 = .ok (.iload_n 1, 1) := by decide +kernel
theorem dX11_frame_87 : decode cX11_frame 87 = .ok (.aaload, 1) := by decide +kernel
theorem dX11_frame_88 : decode cX11_frame 88 = .ok (.aload_n 0, 1) := by decide +kernel
theorem dX11_frame_89 : decode cX11_frame 89 = .ok (.getfield 56, 3) := by decide +kernel
theorem dX11_frame_92 : decode cX11_frame 92 = .ok (.iload_n 1, 1) := by decide +kernel
theorem dX11_frame_93 : decode cX11_frame 93 = .ok (.aaload, 1) := by decide +kernel
theorem dX11_frame_94 : decode cX11_frame 94 = .ok (.iconst 0, 1) := by decide +kernel
theorem dX11_frame_95 : decode cX11_frame 95 = .ok (.iaload, 1) := by decide +kernel
theorem dX11_frame_96 : decode cX11_frame 96 = .ok (.iconst 1, 1) := by decide +kernel
theorem dX11_frame_97 : decode cX11_frame 97 = .ok (.isub, 1) := by decide +kernel
theorem dX11_frame_98 : decode cX11_frame 98 = .ok (.iload_n 2, 1) := by decide +kernel
theorem dX11_frame_99 : decode cX11_frame 99 = .ok (.isub, 1) := by decide +kernel
theorem dX11_frame_100 : decode cX11_frame 100 = .ok (.aaload, 1) := by decide +kernel
theorem dX11_frame_101 : decode cX11_frame 101 = .ok (.iload_n 3, 1) := by decide +kernel
theorem dX11_frame_102 : decode cX11_frame 102 = .ok (.iaload, 1) := by decide +kernel
theorem dX11_frame_103 : decode cX11_frame 103 = .ok (.ireturn, 1) := by decide +kernel
theorem dX11_stuck_0 : decode cX11_stuck 0 = .ok (.aload_n 0, 1) := by decide +kernel
theorem dX11_stuck_1 : decode cX11_stuck 1 = .ok (.iconst 0, 1) := by decide +kernel
theorem dX11_stuck_2 : decode cX11_stuck 2 = .ok (.putfield 78, 3) := by decide +kernel
theorem dX11_stuck_5 : decode cX11_stuck 5 = .ok (.aload_n 0, 1) := by decide +kernel
theorem dX11_stuck_6 : decode cX11_stuck 6 = .ok (.aload_n 0, 1) := by decide +kernel
theorem dX11_stuck_7 : decode cX11_stuck 7 = .ok (.iload_n 1, 1) := by decide +kernel
theorem dX11_stuck_8 : decode cX11_stuck 8 = .ok (.invokevirtual 398, 3) := by decide +kernel
theorem dX11_stuck_11 : decode cX11_stuck 11 = .ok (.ifCond .ne 7, 3) := by decide +kernel
theorem dX11_stuck_14 : decode cX11_stuck 14 = .ok (.iconst 1, 1) := by decide +kernel
theorem dX11_stuck_15 : decode cX11_stuck 15 = .ok (.goto 4, 3) := by decide +kernel
theorem dX11_stuck_18 : decode cX11_stuck 18 = .ok (.iconst 0, 1) := by decide +kernel
theorem dX11_stuck_19 : decode cX11_stuck 19 = .ok (.iconst 1, 1) := by decide +kernel
theorem dX11_stuck_20 : decode cX11_stuck 20 = .ok (.iconst 0, 1) := by decide +kernel
theorem dX11_stuck_21 : decode cX11_stuck 21 = .ok (.invokevirtual 229, 3) := by decide +kernel
theorem dX11_stuck_24 : decode cX11_stuck 24 = .ok (.ifCond .eq 5, 3) := by decide +kernel
theorem dX11_stuck_27 : decode cX11_stuck 27 = .ok (.iconst 0, 1) := by decide +kernel
theorem dX11_stuck_28 : decode cX11_stuck 28 = .ok (.ireturn, 1) := by decide +kernel
theorem dX11_stuck_29 : decode cX11_stuck 29 = .ok (.aload_n 0, 1) := by decide +kernel
theorem dX11_stuck_30 : decode cX11_stuck 30 = .ok (.getfield 69, 3) := by decide +kernel
theorem dX11_stuck_33 : decode cX11_stuck 33 = .ok (.iconst 1, 1) := by decide +kernel
theorem dX11_stuck_34 : decode cX11_stuck 34 = .ok (.iaload, 1) := by decide +kernel
theorem dX11_stuck_35 : decode cX11_stuck 35 = .ok (.iconst (-1), 1) := by decide +kernel
theorem dX11_stuck_36 : decode cX11_stuck 36 = .ok (.if_icmp .eq 20, 3) := by decide +kernel
theorem dX11_stuck_39 : decode cX11_stuck 39 = .ok (.aload_n 0, 1) := by decide +kernel
theorem dX11_stuck_40 : decode cX11_stuck 40 = .ok (.getfield 56, 3) := by decide +kernel
theorem dX11_stuck_43 : decode cX11_stuck 43 = .ok (.iload_n 1, 1) := by decide +kernel
theorem dX11_stuck_44 : decode cX11_stuck 44 = .ok (.aaload, 1) := by decide +kernel
theorem dX11_stuck_45 : decode cX11_stuck 45 = .ok (.iconst 4, 1) := by decide +kernel
theorem dX11_stuck_46 : decode cX11_stuck 46 = .ok (.iaload, 1) := by decide +kernel
theorem dX11_stuck_47 : decode cX11_stuck 47 = .ok (.aload_n 0, 1) := by decide +kernel
theorem dX11_stuck_48 : decode cX11_stuck 48 = .ok (.getfield 69, 3) := by decide +kernel
theorem dX11_stuck_51 : decode cX11_stuck 51 = .ok (.iconst 2, 1) := by decide +kernel
theorem dX11_stuck_52 : decode cX11_stuck 52 = .ok (.iaload, 1) := by decide +kernel
theorem dX11_stuck_53 : decode cX11_stuck 53 = .ok (.if_icmp .ne 7, 3) := by decide +kernel
theorem dX11_stuck_56 : decode cX11_stuck 56 = .ok (.iconst (-1), 1) := by decide +kernel
theorem dX11_stuck_57 : decode cX11_stuck 57 = .ok (.goto 8, 3) := by decide +kernel
theorem dX11_stuck_60 : decode cX11_stuck 60 = .ok (.aload_n 0, 1) := by decide +kernel
theorem dX11_stuck_61 : decode cX11_stuck 61 = .ok (.iload_n 1, 1) := by decide +kernel
theorem dX11_stuck_62 : decode cX11_stuck 62 = .ok (.invokevirtual 374, 3) := by decide +kernel
theorem dX11_stuck_65 : decode cX11_stuck 65 = .ok (.ireturn, 1) := by decide +kernel
theorem dX11_calls_0 : decode cX11_calls 0 = .ok (.aload_n 0, 1) := by decide +kernel
theorem dX11_calls_1 : decode cX11_calls 1 = .ok (.iconst 0, 1) := by decide +kernel
theorem dX11_calls_2 : decode cX11_calls 2 = .ok (.putfield 78, 3) := by decide +kernel
theorem dX11_calls_5 : decode cX11_calls 5 = .ok (.aload_n 0, 1) := by decide +kernel
theorem dX11_calls_6 : decode cX11_calls 6 = .ok (.aload_n 0, 1) := by decide +kernel
theorem dX11_calls_7 : decode cX11_calls 7 = .ok (.iload_n 1, 1) := by decide +kernel
theorem dX11_calls_8 : decode cX11_calls 8 = .ok (.invokevirtual 398, 3) := by decide +kernel
theorem dX11_calls_11 : decode cX11_calls 11 = .ok (.ifCond .eq 11, 3) := by decide +kernel
theorem dX11_calls_14 : decode cX11_calls 14 = .ok (.aload_n 0, 1) := by decide +kernel
theorem dX11_calls_15 : decode cX11_calls 15 = .ok (.iload_n 2, 1) := by decide +kernel
theorem dX11_calls_16 : decode cX11_calls 16 = .ok (.invokevirtual 226, 3) := by decide +kernel
theorem dX11_calls_19 : decode cX11_calls 19 = .ok (.ifCond .ne 7, 3) := by decide +kernel
theorem dX11_calls_22 : decode cX11_calls 22 = .ok (.iconst 1, 1) := by decide +kernel
theorem dX11_calls_23 : decode cX11_calls 23 = .ok (.goto 4, 3) := by decide +kernel
theorem dX11_calls_26 : decode cX11_calls 26 = .ok (.iconst 0, 1) := by decide +kernel
theorem dX11_calls_27 : decode cX11_calls 27 = .ok (.iconst 1, 1) := by decide +kernel
theorem dX11_calls_28 : decode cX11_calls 28 = .ok (.iconst 0, 1) := by decide +kernel
theorem dX11_calls_29 : decode cX11_calls 29 = .ok (.invokevirtual 229, 3) := by decide +kernel
theorem dX11_calls_32 : decode cX11_calls 32 = .ok (.ifCond .eq 5, 3) := by decide +kernel
theorem dX11_calls_35 : decode cX11_calls 35 = .ok (.iconst 0, 1) := by decide +kernel
theorem dX11_calls_36 : decode cX11_calls 36 = .ok (.ireturn, 1) := by decide +kernel
theorem dX11_calls_37 : decode cX11_calls 37 = .ok (.aload_n 0, 1) := by decide +kernel
theorem dX11_calls_38 : decode cX11_calls 38 = .ok (.iload_n 1, 1) := by decide +kernel
theorem dX11_calls_39 : decode cX11_calls 39 = .ok (.iload_n 2, 1) := by decide +kernel
theorem dX11_calls_40 : decode cX11_calls 40 = .ok (.invokevirtual 314, 3) := by decide +kernel
theorem dX11_calls_43 : decode cX11_calls 43 = .ok (.ireturn, 1) := by decide +kernel
theorem dX11_entry_0 : decode cX11_entry 0 = .ok (.aload_n 0, 1) := by decide +kernel
theorem dX11_entry_1 : decode cX11_entry 1 = .ok (.iconst 0, 1) := by decide +kernel
theorem dX11_entry_2 : decode cX11_entry 2 = .ok (.putfield 78, 3) := by decide +kernel
theorem dX11_entry_5 : decode cX11_entry 5 = .ok (.aload_n 0, 1) := by decide +kernel
theorem dX11_entry_6 : decode cX11_entry 6 = .ok (.aload_n 0, 1) := by decide +kernel
theorem dX11_entry_7 : decode cX11_entry 7 = .ok (.iload_n 1, 1) := by decide +kernel
theorem dX11_entry_8 : decode cX11_entry 8 = .ok (.invokevirtual 226, 3) := by decide +kernel
theorem dX11_entry_11 : decode cX11_entry 11 = .ok (.ifCond .ne 7, 3) := by decide +kernel
theorem dX11_entry_14 : decode cX11_entry 14 = .ok (.iconst 1, 1) := by decide +kernel
theorem dX11_entry_15 : decode cX11_entry 15 = .ok (.goto 4, 3) := by decide +kernel
theorem dX11_entry_18 : decode cX11_entry 18 = .ok (.iconst 0, 1) := by decide +kernel
theorem dX11_entry_19 : decode cX11_entry 19 = .ok (.iconst 1, 1) := by decide +kernel
theorem dX11_entry_20 : decode cX11_entry 20 = .ok (.iconst 0, 1) := by decide +kernel
theorem dX11_entry_21 : decode cX11_entry 21 = .ok (.invokevirtual 229, 3) := by decide +kernel
theorem dX11_entry_24 : decode cX11_entry 24 = .ok (.ifCond .eq 5, 3) := by decide +kernel
theorem dX11_entry_27 : decode cX11_entry 27 = .ok (.iconst 0, 1) := by decide +kernel
theorem dX11_entry_28 : decode cX11_entry 28 = .ok (.ireturn, 1) := by decide +kernel
theorem dX11_entry_29 : decode cX11_entry 29 = .ok (.aload_n 0, 1) := by decide +kernel
theorem dX11_entry_30 : decode cX11_entry 30 = .ok (.getfield 69, 3) := by decide +kernel
theorem dX11_entry_33 : decode cX11_entry 33 = .ok (.iconst 0, 1) := by decide +kernel
theorem dX11_entry_34 : decode cX11_entry 34 = .ok (.iaload, 1) := by decide +kernel
theorem dX11_entry_35 : decode cX11_entry 35 = .ok (.iconst 1, 1) := by decide +kernel
theorem dX11_entry_36 : decode cX11_entry 36 = .ok (.isub, 1) := by decide +kernel
theorem dX11_entry_37 : decode cX11_entry 37 = .ok (.istore_n 2, 1) := by decide +kernel
theorem dX11_entry_38 : decode cX11_entry 38 = .ok (.iload_n 2, 1) := by decide +kernel
theorem dX11_entry_39 : decode cX11_entry 39 = .ok (.ifCond .lt 34, 3) := by decide +kernel
theorem dX11_entry_42 : decode cX11_entry 42 = .ok (.aload_n 0, 1) := by decide +kernel
theorem dX11_entry_43 : decode cX11_entry 43 = .ok (.getfield 28, 3) := by decide +kernel
theorem dX11_entry_46 : decode cX11_entry 46 = .ok (.aload_n 0, 1) := by decide +kernel
theorem dX11_entry_47 : decode cX11_entry 47 = .ok (.getfield 66, 3) := by decide +kernel
theorem dX11_entry_50 : decode cX11_entry 50 = .ok (.iload_n 2, 1) := by decide +kernel
theorem dX11_entry_51 : decode cX11_entry 51 = .ok (.iaload, 1) := by decide +kernel
theorem dX11_entry_52 : decode cX11_entry 52 = .ok (.iaload, 1) := by decide +kernel
theorem dX11_entry_53 : decode cX11_entry 53 = .ok (.iload_n 1, 1) := by decide +kernel
theorem dX11_entry_54 : decode cX11_entry 54 = .ok (.invokestatic 248, 3) := by decide +kernel
theorem dX11_entry_57 : decode cX11_entry 57 = .ok (.ifCond .eq 10, 3) := by decide +kernel
theorem dX11_entry_60 : decode cX11_entry 60 = .ok (.aload_n 0, 1) := by decide +kernel
theorem dX11_entry_61 : decode cX11_entry 61 = .ok (.getfield 66, 3) := by decide +kernel
theorem dX11_entry_64 : decode cX11_entry 64 = .ok (.iload_n 2, 1) := by decide +kernel
theorem dX11_entry_65 : decode cX11_entry 65 = .ok (.iaload, 1) := by decide +kernel
theorem dX11_entry_66 : decode cX11_entry 66 = .ok (.ireturn, 1) := by decide +kernel
theorem dX11_entry_67 : decode cX11_entry 67 = .ok (.iinc 2 (-1), 3) := by decide +kernel
theorem dX11_entry_70 : decode cX11_entry 70 = .ok (.goto (-32), 3) := by decide +kernel
theorem dX11_entry_73 : decode cX11_entry 73 = .ok (.iconst (-1), 1) := by decide +kernel
theorem dX11_entry_74 : decode cX11_entry 74 = .ok (.ireturn, 1) := by decide +kernel
theorem dX11_placeOf_0 : decode cX11_placeOf 0 = .ok (.iconst 0, 1) := by decide +kernel
theorem dX11_placeOf_1 : decode cX11_placeOf 1 = .ok (.istore_n 2, 1) := by decide +kernel
theorem dX11_placeOf_2 : decode cX11_placeOf 2 = .ok (.iload_n 2, 1) := by decide +kernel
theorem dX11_placeOf_3 : decode cX11_placeOf 3 = .ok (.aload_n 0, 1) := by decide +kernel
theorem dX11_placeOf_4 : decode cX11_placeOf 4 = .ok (.getfield 69, 3) := by decide +kernel
theorem dX11_placeOf_7 : decode cX11_placeOf 7 = .ok (.iconst 0, 1) := by decide +kernel
theorem dX11_placeOf_8 : decode cX11_placeOf 8 = .ok (.iaload, 1) := by decide +kernel
theorem dX11_placeOf_9 : decode cX11_placeOf 9 = .ok (.if_icmp .ge 21, 3) := by decide +kernel
theorem dX11_placeOf_12 : decode cX11_placeOf 12 = .ok (.aload_n 0, 1) := by decide +kernel
theorem dX11_placeOf_13 : decode cX11_placeOf 13 = .ok (.getfield 66, 3) := by decide +kernel
theorem dX11_placeOf_16 : decode cX11_placeOf 16 = .ok (.iload_n 2, 1) := by decide +kernel
theorem dX11_placeOf_17 : decode cX11_placeOf 17 = .ok (.iaload, 1) := by decide +kernel
theorem dX11_placeOf_18 : decode cX11_placeOf 18 = .ok (.iload_n 1, 1) := by decide +kernel
theorem dX11_placeOf_19 : decode cX11_placeOf 19 = .ok (.if_icmp .ne 5, 3) := by decide +kernel
theorem dX11_placeOf_22 : decode cX11_placeOf 22 = .ok (.iload_n 2, 1) := by decide +kernel
theorem dX11_placeOf_23 : decode cX11_placeOf 23 = .ok (.ireturn, 1) := by decide +kernel
theorem dX11_placeOf_24 : decode cX11_placeOf 24 = .ok (.iinc 2 1, 3) := by decide +kernel
theorem dX11_placeOf_27 : decode cX11_placeOf 27 = .ok (.goto (-25), 3) := by decide +kernel
theorem dX11_placeOf_30 : decode cX11_placeOf 30 = .ok (.iconst (-1), 1) := by decide +kernel
theorem dX11_placeOf_31 : decode cX11_placeOf 31 = .ok (.ireturn, 1) := by decide +kernel
theorem dX11_deedsOfAll_0 : decode cX11_deedsOfAll 0 = .ok (.iconst 0, 1) := by decide +kernel
theorem dX11_deedsOfAll_1 : decode cX11_deedsOfAll 1 = .ok (.istore_n 2, 1) := by decide +kernel
theorem dX11_deedsOfAll_2 : decode cX11_deedsOfAll 2 = .ok (.iconst 0, 1) := by decide +kernel
theorem dX11_deedsOfAll_3 : decode cX11_deedsOfAll 3 = .ok (.istore_n 3, 1) := by decide +kernel
theorem dX11_deedsOfAll_4 : decode cX11_deedsOfAll 4 = .ok (.iload_n 3, 1) := by decide +kernel
theorem dX11_deedsOfAll_5 : decode cX11_deedsOfAll 5 = .ok (.bipush 12, 2) := by decide +kernel
theorem dX11_deedsOfAll_7 : decode cX11_deedsOfAll 7 = .ok (.if_icmp .ge 42, 3) := by decide +kernel
theorem dX11_deedsOfAll_10 : decode cX11_deedsOfAll 10 = .ok (.iload_n 2, 1) := by decide +kernel
theorem dX11_deedsOfAll_11 : decode cX11_deedsOfAll 11 = .ok (.aload_n 0, 1) := by decide +kernel
theorem dX11_deedsOfAll_12 : decode cX11_deedsOfAll 12 = .ok (.getfield 28, 3) := by decide +kernel
theorem dX11_deedsOfAll_15 : decode cX11_deedsOfAll 15 = .ok (.iload_n 1, 1) := by decide +kernel
theorem dX11_deedsOfAll_16 : decode cX11_deedsOfAll 16 = .ok (.iaload, 1) := by decide +kernel
theorem dX11_deedsOfAll_17 : decode cX11_deedsOfAll 17 = .ok (.iload_n 3, 1) := by decide +kernel
theorem dX11_deedsOfAll_18 : decode cX11_deedsOfAll 18 = .ok (.invokestatic 248, 3) := by decide +kernel
theorem dX11_deedsOfAll_21 : decode cX11_deedsOfAll 21 = .ok (.ifCond .eq 19, 3) := by decide +kernel
theorem dX11_deedsOfAll_24 : decode cX11_deedsOfAll 24 = .ok (.aload_n 0, 1) := by decide +kernel
theorem dX11_deedsOfAll_25 : decode cX11_deedsOfAll 25 = .ok (.getfield 20, 3) := by decide +kernel
theorem dX11_deedsOfAll_28 : decode cX11_deedsOfAll 28 = .ok (.aload_n 0, 1) := by decide +kernel
theorem dX11_deedsOfAll_29 : decode cX11_deedsOfAll 29 = .ok (.getfield 39, 3) := by decide +kernel
theorem dX11_deedsOfAll_32 : decode cX11_deedsOfAll 32 = .ok (.iload_n 1, 1) := by decide +kernel
theorem dX11_deedsOfAll_33 : decode cX11_deedsOfAll 33 = .ok (.aaload, 1) := by decide +kernel
theorem dX11_deedsOfAll_34 : decode cX11_deedsOfAll 34 = .ok (.iload_n 3, 1) := by decide +kernel
theorem dX11_deedsOfAll_35 : decode cX11_deedsOfAll 35 = .ok (.iaload, 1) := by decide +kernel
theorem dX11_deedsOfAll_36 : decode cX11_deedsOfAll 36 = .ok (.iaload, 1) := by decide +kernel
theorem dX11_deedsOfAll_37 : decode cX11_deedsOfAll 37 = .ok (.goto 4, 3) := by decide +kernel
theorem dX11_deedsOfAll_40 : decode cX11_deedsOfAll 40 = .ok (.iconst 0, 1) := by decide +kernel
theorem dX11_deedsOfAll_41 : decode cX11_deedsOfAll 41 = .ok (.iadd, 1) := by decide +kernel
theorem dX11_deedsOfAll_42 : decode cX11_deedsOfAll 42 = .ok (.istore_n 2, 1) := by decide +kernel
theorem dX11_deedsOfAll_43 : decode cX11_deedsOfAll 43 = .ok (.iinc 3 1, 3) := by decide +kernel
theorem dX11_deedsOfAll_46 : decode cX11_deedsOfAll 46 = .ok (.goto (-42), 3) := by decide +kernel
theorem dX11_deedsOfAll_49 : decode cX11_deedsOfAll 49 = .ok (.bipush 8, 2) := by decide +kernel
theorem dX11_deedsOfAll_51 : decode cX11_deedsOfAll 51 = .ok (.istore_n 3, 1) := by decide +kernel
theorem dX11_deedsOfAll_52 : decode cX11_deedsOfAll 52 = .ok (.iload_n 3, 1) := by decide +kernel
theorem dX11_deedsOfAll_53 : decode cX11_deedsOfAll 53 = .ok (.bipush 10, 2) := by decide +kernel
theorem dX11_deedsOfAll_55 : decode cX11_deedsOfAll 55 = .ok (.if_icmp .gt 22, 3) := by decide +kernel
theorem dX11_deedsOfAll_58 : decode cX11_deedsOfAll 58 = .ok (.iload_n 2, 1) := by decide +kernel
theorem dX11_deedsOfAll_59 : decode cX11_deedsOfAll 59 = .ok (.aload_n 0, 1) := by decide +kernel
theorem dX11_deedsOfAll_60 : decode cX11_deedsOfAll 60 = .ok (.getfield 20, 3) := by decide +kernel
theorem dX11_deedsOfAll_63 : decode cX11_deedsOfAll 63 = .ok (.iload_n 1, 1) := by decide +kernel
theorem dX11_deedsOfAll_64 : decode cX11_deedsOfAll 64 = .ok (.iload_n 3, 1) := by decide +kernel
theorem dX11_deedsOfAll_65 : decode cX11_deedsOfAll 65 = .ok (.invokestatic 278, 3) := by decide +kernel
theorem dX11_deedsOfAll_68 : decode cX11_deedsOfAll 68 = .ok (.iaload, 1) := by decide +kernel
theorem dX11_deedsOfAll_69 : decode cX11_deedsOfAll 69 = .ok (.iadd, 1) := by decide +kernel
theorem dX11_deedsOfAll_70 : decode cX11_deedsOfAll 70 = .ok (.istore_n 2, 1) := by decide +kernel
theorem dX11_deedsOfAll_71 : decode cX11_deedsOfAll 71 = .ok (.iinc 3 1, 3) := by decide +kernel
theorem dX11_deedsOfAll_74 : decode cX11_deedsOfAll 74 = .ok (.goto (-22), 3) := by decide +kernel
theorem dX11_deedsOfAll_77 : decode cX11_deedsOfAll 77 = .ok (.iload_n 2, 1) := by decide +kernel
theorem dX11_deedsOfAll_78 : decode cX11_deedsOfAll 78 = .ok (.ireturn, 1) := by decide +kernel
theorem dX11_patchOf_0 : decode cX11_patchOf 0 = .ok (.aload_n 0, 1) := by decide +kernel
theorem dX11_patchOf_1 : decode cX11_patchOf 1 = .ok (.iconst 0, 1) := by decide +kernel
theorem dX11_patchOf_2 : decode cX11_patchOf 2 = .ok (.putfield 78, 3) := by decide +kernel
theorem dX11_patchOf_5 : decode cX11_patchOf 5 = .ok (.aload_n 0, 1) := by decide +kernel
theorem dX11_patchOf_6 : decode cX11_patchOf 6 = .ok (.aload_n 0, 1) := by decide +kernel
theorem dX11_patchOf_7 : decode cX11_patchOf 7 = .ok (.iload_n 1, 1) := by decide +kernel
theorem dX11_patchOf_8 : decode cX11_patchOf 8 = .ok (.invokevirtual 389, 3) := by decide +kernel
theorem dX11_patchOf_11 : decode cX11_patchOf 11 = .ok (.ifCond .ne 7, 3) := by decide +kernel
theorem dX11_patchOf_14 : decode cX11_patchOf 14 = .ok (.iconst 1, 1) := by decide +kernel
theorem dX11_patchOf_15 : decode cX11_patchOf 15 = .ok (.goto 4, 3) := by decide +kernel
theorem dX11_patchOf_18 : decode cX11_patchOf 18 = .ok (.iconst 0, 1) := by decide +kernel
theorem dX11_patchOf_19 : decode cX11_patchOf 19 = .ok (.iconst 1, 1) := by decide +kernel
theorem dX11_patchOf_20 : decode cX11_patchOf 20 = .ok (.iconst 0, 1) := by decide +kernel
theorem dX11_patchOf_21 : decode cX11_patchOf 21 = .ok (.invokevirtual 229, 3) := by decide +kernel
theorem dX11_patchOf_24 : decode cX11_patchOf 24 = .ok (.ifCond .ne 26, 3) := by decide +kernel
theorem dX11_patchOf_27 : decode cX11_patchOf 27 = .ok (.aload_n 0, 1) := by decide +kernel
theorem dX11_patchOf_28 : decode cX11_patchOf 28 = .ok (.iload_n 2, 1) := by decide +kernel
theorem dX11_patchOf_29 : decode cX11_patchOf 29 = .ok (.iconst 0, 1) := by decide +kernel
theorem dX11_patchOf_30 : decode cX11_patchOf 30 = .ok (.iconst 4, 1) := by decide +kernel
theorem dX11_patchOf_31 : decode cX11_patchOf 31 = .ok (.invokestatic 121, 3) := by decide +kernel
theorem dX11_patchOf_34 : decode cX11_patchOf 34 = .ok (.ifCond .ne 7, 3) := by decide +kernel
theorem dX11_patchOf_37 : decode cX11_patchOf 37 = .ok (.iconst 1, 1) := by decide +kernel
theorem dX11_patchOf_38 : decode cX11_patchOf 38 = .ok (.goto 4, 3) := by decide +kernel
theorem dX11_patchOf_41 : decode cX11_patchOf 41 = .ok (.iconst 0, 1) := by decide +kernel
theorem dX11_patchOf_42 : decode cX11_patchOf 42 = .ok (.iconst 2, 1) := by decide +kernel
theorem dX11_patchOf_43 : decode cX11_patchOf 43 = .ok (.iconst 1, 1) := by decide +kernel
theorem dX11_patchOf_44 : decode cX11_patchOf 44 = .ok (.invokevirtual 229, 3) := by decide +kernel
theorem dX11_patchOf_47 : decode cX11_patchOf 47 = .ok (.ifCond .eq 5, 3) := by decide +kernel
theorem dX11_patchOf_50 : decode cX11_patchOf 50 = .ok (.iconst 0, 1) := by decide +kernel
theorem dX11_patchOf_51 : decode cX11_patchOf 51 = .ok (.ireturn, 1) := by decide +kernel
theorem dX11_patchOf_52 : decode cX11_patchOf 52 = .ok (.iload_n 2, 1) := by decide +kernel
theorem dX11_patchOf_53 : decode cX11_patchOf 53 = .ok (.ifCond .ne 11, 3) := by decide +kernel
theorem dX11_patchOf_56 : decode cX11_patchOf 56 = .ok (.aload_n 0, 1) := by decide +kernel
theorem dX11_patchOf_57 : decode cX11_patchOf 57 = .ok (.iload_n 1, 1) := by decide +kernel
theorem dX11_patchOf_58 : decode cX11_patchOf 58 = .ok (.invokevirtual 413, 3) := by decide +kernel
theorem dX11_patchOf_61 : decode cX11_patchOf 61 = .ok (.goto 50, 3) := by decide +kernel
theorem dX11_patchOf_64 : decode cX11_patchOf 64 = .ok (.iload_n 2, 1) := by decide +kernel
theorem dX11_patchOf_65 : decode cX11_patchOf 65 = .ok (.iconst 1, 1) := by decide +kernel
theorem dX11_patchOf_66 : decode cX11_patchOf 66 = .ok (.if_icmp .ne 12, 3) := by decide +kernel
theorem dX11_patchOf_69 : decode cX11_patchOf 69 = .ok (.aload_n 0, 1) := by decide +kernel
theorem dX11_patchOf_70 : decode cX11_patchOf 70 = .ok (.getfield 28, 3) := by decide +kernel
theorem dX11_patchOf_73 : decode cX11_patchOf 73 = .ok (.iload_n 1, 1) := by decide +kernel
theorem dX11_patchOf_74 : decode cX11_patchOf 74 = .ok (.iaload, 1) := by decide +kernel
theorem dX11_patchOf_75 : decode cX11_patchOf 75 = .ok (.goto 36, 3) := by decide +kernel
theorem dX11_patchOf_78 : decode cX11_patchOf 78 = .ok (.iload_n 2, 1) := by decide +kernel
theorem dX11_patchOf_79 : decode cX11_patchOf 79 = .ok (.iconst 2, 1) := by decide +kernel
theorem dX11_patchOf_80 : decode cX11_patchOf 80 = .ok (.if_icmp .ne 12, 3) := by decide +kernel
theorem dX11_patchOf_83 : decode cX11_patchOf 83 = .ok (.aload_n 0, 1) := by decide +kernel
theorem dX11_patchOf_84 : decode cX11_patchOf 84 = .ok (.getfield 31, 3) := by decide +kernel
theorem dX11_patchOf_87 : decode cX11_patchOf 87 = .ok (.iload_n 1, 1) := by decide +kernel
theorem dX11_patchOf_88 : decode cX11_patchOf 88 = .ok (.iaload, 1) := by decide +kernel
theorem dX11_patchOf_89 : decode cX11_patchOf 89 = .ok (.goto 22, 3) := by decide +kernel
theorem dX11_patchOf_92 : decode cX11_patchOf 92 = .ok (.iload_n 2, 1) := by decide +kernel
theorem dX11_patchOf_93 : decode cX11_patchOf 93 = .ok (.iconst 3, 1) := by decide +kernel
theorem dX11_patchOf_94 : decode cX11_patchOf 94 = .ok (.if_icmp .ne 11, 3) := by decide +kernel
theorem dX11_patchOf_97 : decode cX11_patchOf 97 = .ok (.aload_n 0, 1) := by decide +kernel
theorem dX11_patchOf_98 : decode cX11_patchOf 98 = .ok (.iload_n 1, 1) := by decide +kernel
theorem dX11_patchOf_99 : decode cX11_patchOf 99 = .ok (.invokevirtual 416, 3) := by decide +kernel
theorem dX11_patchOf_102 : decode cX11_patchOf 102 = .ok (.goto 9, 3) := by decide +kernel
theorem dX11_patchOf_105 : decode cX11_patchOf 105 = .ok (.aload_n 0, 1) := by decide +kernel
theorem dX11_patchOf_106 : decode cX11_patchOf 106 = .ok (.getfield 34, 3) := by decide +kernel
theorem dX11_patchOf_109 : decode cX11_patchOf 109 = .ok (.iload_n 1, 1) := by decide +kernel
theorem dX11_patchOf_110 : decode cX11_patchOf 110 = .ok (.iaload, 1) := by decide +kernel
theorem dX11_patchOf_111 : decode cX11_patchOf 111 = .ok (.ireturn, 1) := by decide +kernel
theorem dX11_datumOf_0 : decode cX11_datumOf 0 = .ok (.aload_n 0, 1) := by decide +kernel
theorem dX11_datumOf_1 : decode cX11_datumOf 1 = .ok (.iconst 0, 1) := by decide +kernel
theorem dX11_datumOf_2 : decode cX11_datumOf 2 = .ok (.putfield 78, 3) := by decide +kernel
theorem dX11_datumOf_5 : decode cX11_datumOf 5 = .ok (.aload_n 0, 1) := by decide +kernel
theorem dX11_datumOf_6 : decode cX11_datumOf 6 = .ok (.aload_n 0, 1) := by decide +kernel
theorem dX11_datumOf_7 : decode cX11_datumOf 7 = .ok (.iload_n 1, 1) := by decide +kernel
theorem dX11_datumOf_8 : decode cX11_datumOf 8 = .ok (.invokevirtual 358, 3) := by decide +kernel
theorem dX11_datumOf_11 : decode cX11_datumOf 11 = .ok (.ifCond .ne 7, 3) := by decide +kernel
theorem dX11_datumOf_14 : decode cX11_datumOf 14 = .ok (.iconst 1, 1) := by decide +kernel
theorem dX11_datumOf_15 : decode cX11_datumOf 15 = .ok (.goto 4, 3) := by decide +kernel
theorem dX11_datumOf_18 : decode cX11_datumOf 18 = .ok (.iconst 0, 1) := by decide +kernel
theorem dX11_datumOf_19 : decode cX11_datumOf 19 = .ok (.iconst 1, 1) := by decide +kernel
theorem dX11_datumOf_20 : decode cX11_datumOf 20 = .ok (.iconst 0, 1) := by decide +kernel
theorem dX11_datumOf_21 : decode cX11_datumOf 21 = .ok (.invokevirtual 229, 3) := by decide +kernel
theorem dX11_datumOf_24 : decode cX11_datumOf 24 = .ok (.ifCond .ne 26, 3) := by decide +kernel
theorem dX11_datumOf_27 : decode cX11_datumOf 27 = .ok (.aload_n 0, 1) := by decide +kernel
theorem dX11_datumOf_28 : decode cX11_datumOf 28 = .ok (.iload_n 2, 1) := by decide +kernel
theorem dX11_datumOf_29 : decode cX11_datumOf 29 = .ok (.iconst 0, 1) := by decide +kernel
theorem dX11_datumOf_30 : decode cX11_datumOf 30 = .ok (.iconst 2, 1) := by decide +kernel
theorem dX11_datumOf_31 : decode cX11_datumOf 31 = .ok (.invokestatic 121, 3) := by decide +kernel
theorem dX11_datumOf_34 : decode cX11_datumOf 34 = .ok (.ifCond .ne 7, 3) := by decide +kernel
theorem dX11_datumOf_37 : decode cX11_datumOf 37 = .ok (.iconst 1, 1) := by decide +kernel
theorem dX11_datumOf_38 : decode cX11_datumOf 38 = .ok (.goto 4, 3) := by decide +kernel
theorem dX11_datumOf_41 : decode cX11_datumOf 41 = .ok (.iconst 0, 1) := by decide +kernel
theorem dX11_datumOf_42 : decode cX11_datumOf 42 = .ok (.iconst 2, 1) := by decide +kernel
theorem dX11_datumOf_43 : decode cX11_datumOf 43 = .ok (.iconst 1, 1) := by decide +kernel
theorem dX11_datumOf_44 : decode cX11_datumOf 44 = .ok (.invokevirtual 229, 3) := by decide +kernel
theorem dX11_datumOf_47 : decode cX11_datumOf 47 = .ok (.ifCond .eq 5, 3) := by decide +kernel
theorem dX11_datumOf_50 : decode cX11_datumOf 50 = .ok (.iconst 0, 1) := by decide +kernel
theorem dX11_datumOf_51 : decode cX11_datumOf 51 = .ok (.ireturn, 1) := by decide +kernel
theorem dX11_datumOf_52 : decode cX11_datumOf 52 = .ok (.iconst 0, 1) := by decide +kernel
theorem dX11_datumOf_53 : decode cX11_datumOf 53 = .ok (.istore_n 3, 1) := by decide +kernel
theorem dX11_datumOf_54 : decode cX11_datumOf 54 = .ok (.iconst 0, 1) := by decide +kernel
theorem dX11_datumOf_55 : decode cX11_datumOf 55 = .ok (.istore 4, 2) := by decide +kernel
theorem dX11_datumOf_57 : decode cX11_datumOf 57 = .ok (.iload 4, 2) := by decide +kernel
theorem dX11_datumOf_59 : decode cX11_datumOf 59 = .ok (.iconst 5, 1) := by decide +kernel
theorem dX11_datumOf_60 : decode cX11_datumOf 60 = .ok (.if_icmp .ge 37, 3) := by decide +kernel
theorem dX11_datumOf_63 : decode cX11_datumOf 63 = .ok (.iload_n 3, 1) := by decide +kernel
theorem dX11_datumOf_64 : decode cX11_datumOf 64 = .ok (.aload_n 0, 1) := by decide +kernel
theorem dX11_datumOf_65 : decode cX11_datumOf 65 = .ok (.getfield 42, 3) := by decide +kernel
theorem dX11_datumOf_68 : decode cX11_datumOf 68 = .ok (.aload_n 0, 1) := by decide +kernel
theorem dX11_datumOf_69 : decode cX11_datumOf 69 = .ok (.iload_n 1, 1) := by decide +kernel
theorem dX11_datumOf_70 : decode cX11_datumOf 70 = .ok (.iload 4, 2) := by decide +kernel
theorem dX11_datumOf_72 : decode cX11_datumOf 72 = .ok (.invokevirtual 345, 3) := by decide +kernel
theorem dX11_datumOf_75 : decode cX11_datumOf 75 = .ok (.iaload, 1) := by decide +kernel
theorem dX11_datumOf_76 : decode cX11_datumOf 76 = .ok (.bipush 12, 2) := by decide +kernel
theorem dX11_datumOf_78 : decode cX11_datumOf 78 = .ok (.if_icmp .eq 10, 3) := by decide +kernel
theorem dX11_datumOf_81 : decode cX11_datumOf 81 = .ok (.iconst 1, 1) := by decide +kernel
theorem dX11_datumOf_82 : decode cX11_datumOf 82 = .ok (.iload 4, 2) := by decide +kernel
theorem dX11_datumOf_84 : decode cX11_datumOf 84 = .ok (.ishl, 1) := by decide +kernel
theorem dX11_datumOf_85 : decode cX11_datumOf 85 = .ok (.goto 4, 3) := by decide +kernel
theorem dX11_datumOf_88 : decode cX11_datumOf 88 = .ok (.iconst 0, 1) := by decide +kernel
theorem dX11_datumOf_89 : decode cX11_datumOf 89 = .ok (.ior, 1) := by decide +kernel
theorem dX11_datumOf_90 : decode cX11_datumOf 90 = .ok (.istore_n 3, 1) := by decide +kernel
theorem dX11_datumOf_91 : decode cX11_datumOf 91 = .ok (.iinc 4 1, 3) := by decide +kernel
theorem dX11_datumOf_94 : decode cX11_datumOf 94 = .ok (.goto (-37), 3) := by decide +kernel
theorem dX11_datumOf_97 : decode cX11_datumOf 97 = .ok (.iload_n 2, 1) := by decide +kernel
theorem dX11_datumOf_98 : decode cX11_datumOf 98 = .ok (.ifCond .ne 12, 3) := by decide +kernel
theorem dX11_datumOf_101 : decode cX11_datumOf 101 = .ok (.aload_n 0, 1) := by decide +kernel
theorem dX11_datumOf_102 : decode cX11_datumOf 102 = .ok (.getfield 42, 3) := by decide +kernel
theorem dX11_datumOf_105 : decode cX11_datumOf 105 = .ok (.iload_n 1, 1) := by decide +kernel
theorem dX11_datumOf_106 : decode cX11_datumOf 106 = .ok (.iaload, 1) := by decide +kernel
theorem dX11_datumOf_107 : decode cX11_datumOf 107 = .ok (.goto 18, 3) := by decide +kernel
theorem dX11_datumOf_110 : decode cX11_datumOf 110 = .ok (.iload_n 2, 1) := by decide +kernel
theorem dX11_datumOf_111 : decode cX11_datumOf 111 = .ok (.iconst 1, 1) := by decide +kernel
theorem dX11_datumOf_112 : decode cX11_datumOf 112 = .ok (.if_icmp .ne 12, 3) := by decide +kernel
theorem dX11_datumOf_115 : decode cX11_datumOf 115 = .ok (.aload_n 0, 1) := by decide +kernel
theorem dX11_datumOf_116 : decode cX11_datumOf 116 = .ok (.getfield 45, 3) := by decide +kernel
theorem dX11_datumOf_119 : decode cX11_datumOf 119 = .ok (.iload_n 1, 1) := by decide +kernel
theorem dX11_datumOf_120 : decode cX11_datumOf 120 = .ok (.iaload, 1) := by decide +kernel
theorem dX11_datumOf_121 : decode cX11_datumOf 121 = .ok (.goto 4, 3) := by decide +kernel
theorem dX11_datumOf_124 : decode cX11_datumOf 124 = .ok (.iload_n 3, 1) := by decide +kernel
theorem dX11_datumOf_125 : decode cX11_datumOf 125 = .ok (.ireturn, 1) := by decide +kernel
theorem dX11_shadowOf_0 : decode cX11_shadowOf 0 = .ok (.aload_n 0, 1) := by decide +kernel
theorem dX11_shadowOf_1 : decode cX11_shadowOf 1 = .ok (.iconst 0, 1) := by decide +kernel
theorem dX11_shadowOf_2 : decode cX11_shadowOf 2 = .ok (.putfield 78, 3) := by decide +kernel
theorem dX11_shadowOf_5 : decode cX11_shadowOf 5 = .ok (.aload_n 0, 1) := by decide +kernel
theorem dX11_shadowOf_6 : decode cX11_shadowOf 6 = .ok (.aload_n 0, 1) := by decide +kernel
theorem dX11_shadowOf_7 : decode cX11_shadowOf 7 = .ok (.iload_n 1, 1) := by decide +kernel
theorem dX11_shadowOf_8 : decode cX11_shadowOf 8 = .ok (.invokevirtual 358, 3) := by decide +kernel
theorem dX11_shadowOf_11 : decode cX11_shadowOf 11 = .ok (.ifCond .eq 12, 3) := by decide +kernel
theorem dX11_shadowOf_14 : decode cX11_shadowOf 14 = .ok (.iload_n 2, 1) := by decide +kernel
theorem dX11_shadowOf_15 : decode cX11_shadowOf 15 = .ok (.iconst 0, 1) := by decide +kernel
theorem dX11_shadowOf_16 : decode cX11_shadowOf 16 = .ok (.iconst 4, 1) := by decide +kernel
theorem dX11_shadowOf_17 : decode cX11_shadowOf 17 = .ok (.invokestatic 121, 3) := by decide +kernel
theorem dX11_shadowOf_20 : decode cX11_shadowOf 20 = .ok (.ifCond .ne 7, 3) := by decide +kernel
theorem dX11_shadowOf_23 : decode cX11_shadowOf 23 = .ok (.iconst 1, 1) := by decide +kernel
theorem dX11_shadowOf_24 : decode cX11_shadowOf 24 = .ok (.goto 4, 3) := by decide +kernel
theorem dX11_shadowOf_27 : decode cX11_shadowOf 27 = .ok (.iconst 0, 1) := by decide +kernel
theorem dX11_shadowOf_28 : decode cX11_shadowOf 28 = .ok (.iconst 1, 1) := by decide +kernel
theorem dX11_shadowOf_29 : decode cX11_shadowOf 29 = .ok (.iconst 0, 1) := by decide +kernel
theorem dX11_shadowOf_30 : decode cX11_shadowOf 30 = .ok (.invokevirtual 229, 3) := by decide +kernel
theorem dX11_shadowOf_33 : decode cX11_shadowOf 33 = .ok (.ifCond .ne 26, 3) := by decide +kernel
theorem dX11_shadowOf_36 : decode cX11_shadowOf 36 = .ok (.aload_n 0, 1) := by decide +kernel
theorem dX11_shadowOf_37 : decode cX11_shadowOf 37 = .ok (.iload_n 3, 1) := by decide +kernel
theorem dX11_shadowOf_38 : decode cX11_shadowOf 38 = .ok (.iconst 0, 1) := by decide +kernel
theorem dX11_shadowOf_39 : decode cX11_shadowOf 39 = .ok (.iconst 1, 1) := by decide +kernel
theorem dX11_shadowOf_40 : decode cX11_shadowOf 40 = .ok (.invokestatic 121, 3) := by decide +kernel
theorem dX11_shadowOf_43 : decode cX11_shadowOf 43 = .ok (.ifCond .ne 7, 3) := by decide +kernel
theorem dX11_shadowOf_46 : decode cX11_shadowOf 46 = .ok (.iconst 1, 1) := by decide +kernel
theorem dX11_shadowOf_47 : decode cX11_shadowOf 47 = .ok (.goto 4, 3) := by decide +kernel
theorem dX11_shadowOf_50 : decode cX11_shadowOf 50 = .ok (.iconst 0, 1) := by decide +kernel
theorem dX11_shadowOf_51 : decode cX11_shadowOf 51 = .ok (.iconst 2, 1) := by decide +kernel
theorem dX11_shadowOf_52 : decode cX11_shadowOf 52 = .ok (.iconst 1, 1) := by decide +kernel
theorem dX11_shadowOf_53 : decode cX11_shadowOf 53 = .ok (.invokevirtual 229, 3) := by decide +kernel
theorem dX11_shadowOf_56 : decode cX11_shadowOf 56 = .ok (.ifCond .eq 5, 3) := by decide +kernel
theorem dX11_shadowOf_59 : decode cX11_shadowOf 59 = .ok (.iconst 0, 1) := by decide +kernel
theorem dX11_shadowOf_60 : decode cX11_shadowOf 60 = .ok (.ireturn, 1) := by decide +kernel
theorem dX11_shadowOf_61 : decode cX11_shadowOf 61 = .ok (.iload_n 3, 1) := by decide +kernel
theorem dX11_shadowOf_62 : decode cX11_shadowOf 62 = .ok (.ifCond .ne 17, 3) := by decide +kernel
theorem dX11_shadowOf_65 : decode cX11_shadowOf 65 = .ok (.aload_n 0, 1) := by decide +kernel
theorem dX11_shadowOf_66 : decode cX11_shadowOf 66 = .ok (.getfield 42, 3) := by decide +kernel
theorem dX11_shadowOf_69 : decode cX11_shadowOf 69 = .ok (.aload_n 0, 1) := by decide +kernel
theorem dX11_shadowOf_70 : decode cX11_shadowOf 70 = .ok (.iload_n 1, 1) := by decide +kernel
theorem dX11_shadowOf_71 : decode cX11_shadowOf 71 = .ok (.iload_n 2, 1) := by decide +kernel
theorem dX11_shadowOf_72 : decode cX11_shadowOf 72 = .ok (.invokevirtual 345, 3) := by decide +kernel
theorem dX11_shadowOf_75 : decode cX11_shadowOf 75 = .ok (.iaload, 1) := by decide +kernel
theorem dX11_shadowOf_76 : decode cX11_shadowOf 76 = .ok (.goto 14, 3) := by decide +kernel
theorem dX11_shadowOf_79 : decode cX11_shadowOf 79 = .ok (.aload_n 0, 1) := by decide +kernel
theorem dX11_shadowOf_80 : decode cX11_shadowOf 80 = .ok (.getfield 45, 3) := by decide +kernel
theorem dX11_shadowOf_83 : decode cX11_shadowOf 83 = .ok (.aload_n 0, 1) := by decide +kernel
theorem dX11_shadowOf_84 : decode cX11_shadowOf 84 = .ok (.iload_n 1, 1) := by decide +kernel
theorem dX11_shadowOf_85 : decode cX11_shadowOf 85 = .ok (.iload_n 2, 1) := by decide +kernel
theorem dX11_shadowOf_86 : decode cX11_shadowOf 86 = .ok (.invokevirtual 345, 3) := by decide +kernel
theorem dX11_shadowOf_89 : decode cX11_shadowOf 89 = .ok (.iaload, 1) := by decide +kernel
theorem dX11_shadowOf_90 : decode cX11_shadowOf 90 = .ok (.ireturn, 1) := by decide +kernel
theorem dX11_cell_0 : decode cX11_cell 0 = .ok (.aload_n 0, 1) := by decide +kernel
theorem dX11_cell_1 : decode cX11_cell 1 = .ok (.iconst 0, 1) := by decide +kernel
theorem dX11_cell_2 : decode cX11_cell 2 = .ok (.putfield 78, 3) := by decide +kernel
theorem dX11_cell_5 : decode cX11_cell 5 = .ok (.aload_n 0, 1) := by decide +kernel
theorem dX11_cell_6 : decode cX11_cell 6 = .ok (.aload_n 0, 1) := by decide +kernel
theorem dX11_cell_7 : decode cX11_cell 7 = .ok (.iload_n 1, 1) := by decide +kernel
theorem dX11_cell_8 : decode cX11_cell 8 = .ok (.invokevirtual 358, 3) := by decide +kernel
theorem dX11_cell_11 : decode cX11_cell 11 = .ok (.ifCond .eq 12, 3) := by decide +kernel
theorem dX11_cell_14 : decode cX11_cell 14 = .ok (.iload_n 2, 1) := by decide +kernel
theorem dX11_cell_15 : decode cX11_cell 15 = .ok (.iconst (-1), 1) := by decide +kernel
theorem dX11_cell_16 : decode cX11_cell 16 = .ok (.iconst 4, 1) := by decide +kernel
theorem dX11_cell_17 : decode cX11_cell 17 = .ok (.invokestatic 121, 3) := by decide +kernel
theorem dX11_cell_20 : decode cX11_cell 20 = .ok (.ifCond .ne 7, 3) := by decide +kernel
theorem dX11_cell_23 : decode cX11_cell 23 = .ok (.iconst 1, 1) := by decide +kernel
theorem dX11_cell_24 : decode cX11_cell 24 = .ok (.goto 4, 3) := by decide +kernel
theorem dX11_cell_27 : decode cX11_cell 27 = .ok (.iconst 0, 1) := by decide +kernel
theorem dX11_cell_28 : decode cX11_cell 28 = .ok (.iconst 1, 1) := by decide +kernel
theorem dX11_cell_29 : decode cX11_cell 29 = .ok (.iconst 0, 1) := by decide +kernel
theorem dX11_cell_30 : decode cX11_cell 30 = .ok (.invokevirtual 229, 3) := by decide +kernel
theorem dX11_cell_33 : decode cX11_cell 33 = .ok (.ifCond .eq 5, 3) := by decide +kernel
theorem dX11_cell_36 : decode cX11_cell 36 = .ok (.lconst 0, 1) := by decide +kernel
theorem dX11_cell_37 : decode cX11_cell 37 = .ok (.lreturn, 1) := by decide +kernel
theorem dX11_cell_38 : decode cX11_cell 38 = .ok (.aload_n 0, 1) := by decide +kernel
theorem dX11_cell_39 : decode cX11_cell 39 = .ok (.iload_n 1, 1) := by decide +kernel
theorem dX11_cell_40 : decode cX11_cell 40 = .ok (.iload_n 2, 1) := by decide +kernel
theorem dX11_cell_41 : decode cX11_cell 41 = .ok (.invokevirtual 345, 3) := by decide +kernel
theorem dX11_cell_44 : decode cX11_cell 44 = .ok (.istore 4, 2) := by decide +kernel
theorem dX11_cell_46 : decode cX11_cell 46 = .ok (.iload_n 3, 1) := by decide +kernel
theorem dX11_cell_47 : decode cX11_cell 47 = .ok (.iconst 0, 1) := by decide +kernel
theorem dX11_cell_48 : decode cX11_cell 48 = .ok (.aload_n 0, 1) := by decide +kernel
theorem dX11_cell_49 : decode cX11_cell 49 = .ok (.getfield 45, 3) := by decide +kernel
theorem dX11_cell_52 : decode cX11_cell 52 = .ok (.iload 4, 2) := by decide +kernel
theorem dX11_cell_54 : decode cX11_cell 54 = .ok (.iaload, 1) := by decide +kernel
theorem dX11_cell_55 : decode cX11_cell 55 = .ok (.iconst 1, 1) := by decide +kernel
theorem dX11_cell_56 : decode cX11_cell 56 = .ok (.isub, 1) := by decide +kernel
theorem dX11_cell_57 : decode cX11_cell 57 = .ok (.invokestatic 121, 3) := by decide +kernel
theorem dX11_cell_60 : decode cX11_cell 60 = .ok (.ifCond .eq 15, 3) := by decide +kernel
theorem dX11_cell_63 : decode cX11_cell 63 = .ok (.aload_n 0, 1) := by decide +kernel
theorem dX11_cell_64 : decode cX11_cell 64 = .ok (.getfield 53, 3) := by decide +kernel
theorem dX11_cell_67 : decode cX11_cell 67 = .ok (.iload 4, 2) := by decide +kernel
theorem dX11_cell_69 : decode cX11_cell 69 = .ok (.aaload, 1) := by decide +kernel
theorem dX11_cell_70 : decode cX11_cell 70 = .ok (.iload_n 3, 1) := by decide +kernel
theorem dX11_cell_71 : decode cX11_cell 71 = .ok (.laload, 1) := by decide +kernel
theorem dX11_cell_72 : decode cX11_cell 72 = .ok (.goto 4, 3) := by decide +kernel
theorem dX11_cell_75 : decode cX11_cell 75 = .ok (.lconst 0, 1) := by decide +kernel
theorem dX11_cell_76 : decode cX11_cell 76 = .ok (.lreturn, 1) := by decide +kernel
theorem dX11_get_0 : decode cX11_get 0 = .ok (.aload_n 0, 1) := by decide +kernel
theorem dX11_get_1 : decode cX11_get 1 = .ok (.iconst 0, 1) := by decide +kernel
theorem dX11_get_2 : decode cX11_get 2 = .ok (.putfield 78, 3) := by decide +kernel
theorem dX11_get_5 : decode cX11_get 5 = .ok (.aload_n 0, 1) := by decide +kernel
theorem dX11_get_6 : decode cX11_get 6 = .ok (.aload_n 0, 1) := by decide +kernel
theorem dX11_get_7 : decode cX11_get 7 = .ok (.iload_n 2, 1) := by decide +kernel
theorem dX11_get_8 : decode cX11_get 8 = .ok (.invokevirtual 358, 3) := by decide +kernel
theorem dX11_get_11 : decode cX11_get 11 = .ok (.ifCond .ne 7, 3) := by decide +kernel
theorem dX11_get_14 : decode cX11_get 14 = .ok (.iconst 1, 1) := by decide +kernel
theorem dX11_get_15 : decode cX11_get 15 = .ok (.goto 4, 3) := by decide +kernel
theorem dX11_get_18 : decode cX11_get 18 = .ok (.iconst 0, 1) := by decide +kernel
theorem dX11_get_19 : decode cX11_get 19 = .ok (.iconst 1, 1) := by decide +kernel
theorem dX11_get_20 : decode cX11_get 20 = .ok (.iconst 0, 1) := by decide +kernel
theorem dX11_get_21 : decode cX11_get 21 = .ok (.invokevirtual 229, 3) := by decide +kernel
theorem dX11_get_24 : decode cX11_get 24 = .ok (.ifCond .ne 27, 3) := by decide +kernel
theorem dX11_get_27 : decode cX11_get 27 = .ok (.aload_n 0, 1) := by decide +kernel
theorem dX11_get_28 : decode cX11_get 28 = .ok (.iload_n 1, 1) := by decide +kernel
theorem dX11_get_29 : decode cX11_get 29 = .ok (.iconst 0, 1) := by decide +kernel
theorem dX11_get_30 : decode cX11_get 30 = .ok (.bipush 7, 2) := by decide +kernel
theorem dX11_get_32 : decode cX11_get 32 = .ok (.invokestatic 121, 3) := by decide +kernel
theorem dX11_get_35 : decode cX11_get 35 = .ok (.ifCond .ne 7, 3) := by decide +kernel
theorem dX11_get_38 : decode cX11_get 38 = .ok (.iconst 1, 1) := by decide +kernel
theorem dX11_get_39 : decode cX11_get 39 = .ok (.goto 4, 3) := by decide +kernel
theorem dX11_get_42 : decode cX11_get 42 = .ok (.iconst 0, 1) := by decide +kernel
theorem dX11_get_43 : decode cX11_get 43 = .ok (.iconst 2, 1) := by decide +kernel
theorem dX11_get_44 : decode cX11_get 44 = .ok (.iconst 1, 1) := by decide +kernel
theorem dX11_get_45 : decode cX11_get 45 = .ok (.invokevirtual 229, 3) := by decide +kernel
theorem dX11_get_48 : decode cX11_get 48 = .ok (.ifCond .eq 5, 3) := by decide +kernel
theorem dX11_get_51 : decode cX11_get 51 = .ok (.lconst 0, 1) := by decide +kernel
theorem dX11_get_52 : decode cX11_get 52 = .ok (.lreturn, 1) := by decide +kernel
theorem dX11_get_53 : decode cX11_get 53 = .ok (.aload_n 0, 1) := by decide +kernel
theorem dX11_get_54 : decode cX11_get 54 = .ok (.iload_n 1, 1) := by decide +kernel
theorem dX11_get_55 : decode cX11_get 55 = .ok (.iload_n 2, 1) := by decide +kernel
theorem dX11_get_56 : decode cX11_get 56 = .ok (.iload_n 3, 1) := by decide +kernel
theorem dX11_get_57 : decode cX11_get 57 = .ok (.ifCond .ge 8, 3) := by decide +kernel
theorem dX11_get_60 : decode cX11_get 60 = .ok (.bipush 9, 2) := by decide +kernel
theorem dX11_get_62 : decode cX11_get 62 = .ok (.goto 4, 3) := by decide +kernel
theorem dX11_get_65 : decode cX11_get 65 = .ok (.iload_n 3, 1) := by decide +kernel
theorem dX11_get_66 : decode cX11_get 66 = .ok (.invokevirtual 317, 3) := by decide +kernel
theorem dX11_get_69 : decode cX11_get 69 = .ok (.istore 4, 2) := by decide +kernel
theorem dX11_get_71 : decode cX11_get 71 = .ok (.iload 4, 2) := by decide +kernel
theorem dX11_get_73 : decode cX11_get 73 = .ok (.ifCond .le 13, 3) := by decide +kernel
theorem dX11_get_76 : decode cX11_get 76 = .ok (.iload 4, 2) := by decide +kernel
theorem dX11_get_78 : decode cX11_get 78 = .ok (.i2l, 1) := by decide +kernel
theorem dX11_get_79 : decode cX11_get 79 = .ok (.ldc2_w 419, 3) := by decide +kernel
theorem dX11_get_82 : decode cX11_get 82 = .ok (.lsub, 1) := by decide +kernel
theorem dX11_get_83 : decode cX11_get 83 = .ok (.goto 7, 3) := by decide +kernel
theorem dX11_get_86 : decode cX11_get 86 = .ok (.aload_n 0, 1) := by decide +kernel
theorem dX11_get_87 : decode cX11_get 87 = .ok (.getfield 300, 3) := by decide +kernel
theorem dX11_get_90 : decode cX11_get 90 = .ok (.lreturn, 1) := by decide +kernel
theorem dX11_set_0 : decode cX11_set 0 = .ok (.aload_n 0, 1) := by decide +kernel
theorem dX11_set_1 : decode cX11_set 1 = .ok (.iconst 0, 1) := by decide +kernel
theorem dX11_set_2 : decode cX11_set 2 = .ok (.putfield 78, 3) := by decide +kernel
theorem dX11_set_5 : decode cX11_set 5 = .ok (.aload_n 0, 1) := by decide +kernel
theorem dX11_set_6 : decode cX11_set 6 = .ok (.aload_n 0, 1) := by decide +kernel
theorem dX11_set_7 : decode cX11_set 7 = .ok (.iload_n 2, 1) := by decide +kernel
theorem dX11_set_8 : decode cX11_set 8 = .ok (.invokevirtual 358, 3) := by decide +kernel
theorem dX11_set_11 : decode cX11_set 11 = .ok (.ifCond .ne 7, 3) := by decide +kernel
theorem dX11_set_14 : decode cX11_set 14 = .ok (.iconst 1, 1) := by decide +kernel
theorem dX11_set_15 : decode cX11_set 15 = .ok (.goto 4, 3) := by decide +kernel
theorem dX11_set_18 : decode cX11_set 18 = .ok (.iconst 0, 1) := by decide +kernel
theorem dX11_set_19 : decode cX11_set 19 = .ok (.iconst 1, 1) := by decide +kernel
theorem dX11_set_20 : decode cX11_set 20 = .ok (.iconst 0, 1) := by decide +kernel
theorem dX11_set_21 : decode cX11_set 21 = .ok (.invokevirtual 229, 3) := by decide +kernel
theorem dX11_set_24 : decode cX11_set 24 = .ok (.ifCond .ne 40, 3) := by decide +kernel
theorem dX11_set_27 : decode cX11_set 27 = .ok (.aload_n 0, 1) := by decide +kernel
theorem dX11_set_28 : decode cX11_set 28 = .ok (.iload_n 1, 1) := by decide +kernel
theorem dX11_set_29 : decode cX11_set 29 = .ok (.iconst 0, 1) := by decide +kernel
theorem dX11_set_30 : decode cX11_set 30 = .ok (.bipush 7, 2) := by decide +kernel
theorem dX11_set_32 : decode cX11_set 32 = .ok (.invokestatic 121, 3) := by decide +kernel
theorem dX11_set_35 : decode cX11_set 35 = .ok (.ifCond .eq 16, 3) := by decide +kernel
theorem dX11_set_38 : decode cX11_set 38 = .ok (.iload 4, 2) := by decide +kernel
theorem dX11_set_40 : decode cX11_set 40 = .ok (.ldc_w 421, 3) := by decide +kernel
theorem dX11_set_43 : decode cX11_set 43 = .ok (.ldc 196, 2) := by decide +kernel
theorem dX11_set_45 : decode cX11_set 45 = .ok (.invokestatic 121, 3) := by decide +kernel
theorem dX11_set_48 : decode cX11_set 48 = .ok (.ifCond .ne 7, 3) := by decide +kernel
theorem dX11_set_51 : decode cX11_set 51 = .ok (.iconst 1, 1) := by decide +kernel
theorem dX11_set_52 : decode cX11_set 52 = .ok (.goto 4, 3) := by decide +kernel
theorem dX11_set_55 : decode cX11_set 55 = .ok (.iconst 0, 1) := by decide +kernel
theorem dX11_set_56 : decode cX11_set 56 = .ok (.iconst 2, 1) := by decide +kernel
theorem dX11_set_57 : decode cX11_set 57 = .ok (.iconst 1, 1) := by decide +kernel
theorem dX11_set_58 : decode cX11_set 58 = .ok (.invokevirtual 229, 3) := by decide +kernel
theorem dX11_set_61 : decode cX11_set 61 = .ok (.ifCond .eq 5, 3) := by decide +kernel
theorem dX11_set_64 : decode cX11_set 64 = .ok (.iconst 0, 1) := by decide +kernel
theorem dX11_set_65 : decode cX11_set 65 = .ok (.ireturn, 1) := by decide +kernel
theorem dX11_set_66 : decode cX11_set 66 = .ok (.aload_n 0, 1) := by decide +kernel
theorem dX11_set_67 : decode cX11_set 67 = .ok (.iload_n 1, 1) := by decide +kernel
theorem dX11_set_68 : decode cX11_set 68 = .ok (.iload_n 2, 1) := by decide +kernel
theorem dX11_set_69 : decode cX11_set 69 = .ok (.iload_n 3, 1) := by decide +kernel
theorem dX11_set_70 : decode cX11_set 70 = .ok (.ifCond .ge 8, 3) := by decide +kernel
theorem dX11_set_73 : decode cX11_set 73 = .ok (.bipush 9, 2) := by decide +kernel
theorem dX11_set_75 : decode cX11_set 75 = .ok (.goto 4, 3) := by decide +kernel
theorem dX11_set_78 : decode cX11_set 78 = .ok (.iload_n 3, 1) := by decide +kernel
theorem dX11_set_79 : decode cX11_set 79 = .ok (.iload 4, 2) := by decide +kernel
theorem dX11_set_81 : decode cX11_set 81 = .ok (.invokevirtual 324, 3) := by decide +kernel
theorem dX11_set_84 : decode cX11_set 84 = .ok (.ireturn, 1) := by decide +kernel
theorem dX11_move_0 : decode cX11_move 0 = .ok (.aload_n 0, 1) := by decide +kernel
theorem dX11_move_1 : decode cX11_move 1 = .ok (.iconst 0, 1) := by decide +kernel
theorem dX11_move_2 : decode cX11_move 2 = .ok (.putfield 78, 3) := by decide +kernel
theorem dX11_move_5 : decode cX11_move 5 = .ok (.aload_n 0, 1) := by decide +kernel
theorem dX11_move_6 : decode cX11_move 6 = .ok (.aload_n 0, 1) := by decide +kernel
theorem dX11_move_7 : decode cX11_move 7 = .ok (.iload_n 1, 1) := by decide +kernel
theorem dX11_move_8 : decode cX11_move 8 = .ok (.invokevirtual 358, 3) := by decide +kernel
theorem dX11_move_11 : decode cX11_move 11 = .ok (.ifCond .eq 11, 3) := by decide +kernel
theorem dX11_move_14 : decode cX11_move 14 = .ok (.aload_n 0, 1) := by decide +kernel
theorem dX11_move_15 : decode cX11_move 15 = .ok (.iload_n 3, 1) := by decide +kernel
theorem dX11_move_16 : decode cX11_move 16 = .ok (.invokevirtual 358, 3) := by decide +kernel
theorem dX11_move_19 : decode cX11_move 19 = .ok (.ifCond .ne 7, 3) := by decide +kernel
theorem dX11_move_22 : decode cX11_move 22 = .ok (.iconst 1, 1) := by decide +kernel
theorem dX11_move_23 : decode cX11_move 23 = .ok (.goto 4, 3) := by decide +kernel
theorem dX11_move_26 : decode cX11_move 26 = .ok (.iconst 0, 1) := by decide +kernel
theorem dX11_move_27 : decode cX11_move 27 = .ok (.iconst 1, 1) := by decide +kernel
theorem dX11_move_28 : decode cX11_move 28 = .ok (.iconst 0, 1) := by decide +kernel
theorem dX11_move_29 : decode cX11_move 29 = .ok (.invokevirtual 229, 3) := by decide +kernel
theorem dX11_move_32 : decode cX11_move 32 = .ok (.ifCond .eq 5, 3) := by decide +kernel
theorem dX11_move_35 : decode cX11_move 35 = .ok (.iconst 0, 1) := by decide +kernel
theorem dX11_move_36 : decode cX11_move 36 = .ok (.ireturn, 1) := by decide +kernel
theorem dX11_move_37 : decode cX11_move 37 = .ok (.aload_n 0, 1) := by decide +kernel
theorem dX11_move_38 : decode cX11_move 38 = .ok (.iload_n 1, 1) := by decide +kernel
theorem dX11_move_39 : decode cX11_move 39 = .ok (.iload_n 2, 1) := by decide +kernel
theorem dX11_move_40 : decode cX11_move 40 = .ok (.ifCond .ge 8, 3) := by decide +kernel
theorem dX11_move_43 : decode cX11_move 43 = .ok (.bipush 9, 2) := by decide +kernel
theorem dX11_move_45 : decode cX11_move 45 = .ok (.goto 4, 3) := by decide +kernel
theorem dX11_move_48 : decode cX11_move 48 = .ok (.iload_n 2, 1) := by decide +kernel
theorem dX11_move_49 : decode cX11_move 49 = .ok (.invokevirtual 321, 3) := by decide +kernel
theorem dX11_move_52 : decode cX11_move 52 = .ok (.istore 5, 2) := by decide +kernel
theorem dX11_move_54 : decode cX11_move 54 = .ok (.iload 5, 2) := by decide +kernel
theorem dX11_move_56 : decode cX11_move 56 = .ok (.ifCond .le 8, 3) := by decide +kernel
theorem dX11_move_59 : decode cX11_move 59 = .ok (.iload 5, 2) := by decide +kernel
theorem dX11_move_61 : decode cX11_move 61 = .ok (.goto 31, 3) := by decide +kernel
theorem dX11_move_64 : decode cX11_move 64 = .ok (.bipush 10, 2) := by decide +kernel
theorem dX11_move_66 : decode cX11_move 66 = .ok (.aload_n 0, 1) := by decide +kernel
theorem dX11_move_67 : decode cX11_move 67 = .ok (.aload_n 0, 1) := by decide +kernel
theorem dX11_move_68 : decode cX11_move 68 = .ok (.getfield 293, 3) := by decide +kernel
theorem dX11_move_71 : decode cX11_move 71 = .ok (.aload_n 0, 1) := by decide +kernel
theorem dX11_move_72 : decode cX11_move 72 = .ok (.getfield 300, 3) := by decide +kernel
theorem dX11_move_75 : decode cX11_move 75 = .ok (.iload_n 3, 1) := by decide +kernel
theorem dX11_move_76 : decode cX11_move 76 = .ok (.iload 4, 2) := by decide +kernel
theorem dX11_move_78 : decode cX11_move 78 = .ok (.ifCond .ge 8, 3) := by decide +kernel
theorem dX11_move_81 : decode cX11_move 81 = .ok (.bipush 9, 2) := by decide +kernel
theorem dX11_move_83 : decode cX11_move 83 = .ok (.goto 5, 3) := by decide +kernel
theorem dX11_move_86 : decode cX11_move 86 = .ok (.iload 4, 2) := by decide +kernel
theorem dX11_move_88 : decode cX11_move 88 = .ok (.invokevirtual 328, 3) := by decide +kernel
theorem dX11_move_91 : decode cX11_move 91 = .ok (.iadd, 1) := by decide +kernel
theorem dX11_move_92 : decode cX11_move 92 = .ok (.ireturn, 1) := by decide +kernel
theorem dX11_areSame_0 : decode cX11_areSame 0 = .ok (.iload_n 1, 1) := by decide +kernel
theorem dX11_areSame_1 : decode cX11_areSame 1 = .ok (.iconst (-1), 1) := by decide +kernel
theorem dX11_areSame_2 : decode cX11_areSame 2 = .ok (.if_icmp .eq 22, 3) := by decide +kernel
theorem dX11_areSame_5 : decode cX11_areSame 5 = .ok (.iload 4, 2) := by decide +kernel
theorem dX11_areSame_7 : decode cX11_areSame 7 = .ok (.iconst (-1), 1) := by decide +kernel
theorem dX11_areSame_8 : decode cX11_areSame 8 = .ok (.if_icmp .eq 16, 3) := by decide +kernel
theorem dX11_areSame_11 : decode cX11_areSame 11 = .ok (.iload_n 1, 1) := by decide +kernel
theorem dX11_areSame_12 : decode cX11_areSame 12 = .ok (.bipush 8, 2) := by decide +kernel
theorem dX11_areSame_14 : decode cX11_areSame 14 = .ok (.if_icmp .eq 10, 3) := by decide +kernel
theorem dX11_areSame_17 : decode cX11_areSame 17 = .ok (.iload 4, 2) := by decide +kernel
theorem dX11_areSame_19 : decode cX11_areSame 19 = .ok (.bipush 8, 2) := by decide +kernel
theorem dX11_areSame_21 : decode cX11_areSame 21 = .ok (.if_icmp .ne 22, 3) := by decide +kernel
theorem dX11_areSame_24 : decode cX11_areSame 24 = .ok (.iload_n 1, 1) := by decide +kernel
theorem dX11_areSame_25 : decode cX11_areSame 25 = .ok (.iload 4, 2) := by decide +kernel
theorem dX11_areSame_27 : decode cX11_areSame 27 = .ok (.if_icmp .ne 14, 3) := by decide +kernel
theorem dX11_areSame_30 : decode cX11_areSame 30 = .ok (.lload_n 2, 1) := by decide +kernel
theorem dX11_areSame_31 : decode cX11_areSame 31 = .ok (.lload 5, 2) := by decide +kernel
theorem dX11_areSame_33 : decode cX11_areSame 33 = .ok (.lcmp, 1) := by decide +kernel
theorem dX11_areSame_34 : decode cX11_areSame 34 = .ok (.ifCond .ne 7, 3) := by decide +kernel
theorem dX11_areSame_37 : decode cX11_areSame 37 = .ok (.iconst 1, 1) := by decide +kernel
theorem dX11_areSame_38 : decode cX11_areSame 38 = .ok (.goto 4, 3) := by decide +kernel
theorem dX11_areSame_41 : decode cX11_areSame 41 = .ok (.iconst 0, 1) := by decide +kernel
theorem dX11_areSame_42 : decode cX11_areSame 42 = .ok (.ireturn, 1) := by decide +kernel
theorem dX11_areSame_43 : decode cX11_areSame 43 = .ok (.iload_n 1, 1) := by decide +kernel
theorem dX11_areSame_44 : decode cX11_areSame 44 = .ok (.invokestatic 281, 3) := by decide +kernel
theorem dX11_areSame_47 : decode cX11_areSame 47 = .ok (.ifCond .eq 7, 3) := by decide +kernel
theorem dX11_areSame_50 : decode cX11_areSame 50 = .ok (.lload_n 2, 1) := by decide +kernel
theorem dX11_areSame_51 : decode cX11_areSame 51 = .ok (.goto 8, 3) := by decide +kernel
theorem dX11_areSame_54 : decode cX11_areSame 54 = .ok (.ldc2_w 284, 3) := by decide +kernel
theorem dX11_areSame_57 : decode cX11_areSame 57 = .ok (.lload_n 2, 1) := by decide +kernel
theorem dX11_areSame_58 : decode cX11_areSame 58 = .ok (.lmul, 1) := by decide +kernel
theorem dX11_areSame_59 : decode cX11_areSame 59 = .ok (.iload 4, 2) := by decide +kernel
theorem dX11_areSame_61 : decode cX11_areSame 61 = .ok (.invokestatic 281, 3) := by decide +kernel
theorem dX11_areSame_64 : decode cX11_areSame 64 = .ok (.ifCond .eq 8, 3) := by decide +kernel
theorem dX11_areSame_67 : decode cX11_areSame 67 = .ok (.lload 5, 2) := by decide +kernel
theorem dX11_areSame_69 : decode cX11_areSame 69 = .ok (.goto 9, 3) := by decide +kernel
theorem dX11_areSame_72 : decode cX11_areSame 72 = .ok (.ldc2_w 284, 3) := by decide +kernel
theorem dX11_areSame_75 : decode cX11_areSame 75 = .ok (.lload 5, 2) := by decide +kernel
theorem dX11_areSame_77 : decode cX11_areSame 77 = .ok (.lmul, 1) := by decide +kernel
theorem dX11_areSame_78 : decode cX11_areSame 78 = .ok (.lcmp, 1) := by decide +kernel
theorem dX11_areSame_79 : decode cX11_areSame 79 = .ok (.ifCond .ne 7, 3) := by decide +kernel
theorem dX11_areSame_82 : decode cX11_areSame 82 = .ok (.iconst 1, 1) := by decide +kernel
theorem dX11_areSame_83 : decode cX11_areSame 83 = .ok (.goto 4, 3) := by decide +kernel
theorem dX11_areSame_86 : decode cX11_areSame 86 = .ok (.iconst 0, 1) := by decide +kernel
theorem dX11_areSame_87 : decode cX11_areSame 87 = .ok (.ireturn, 1) := by decide +kernel
theorem dX11_same_0 : decode cX11_same 0 = .ok (.aload_n 0, 1) := by decide +kernel
theorem dX11_same_1 : decode cX11_same 1 = .ok (.iconst 0, 1) := by decide +kernel
theorem dX11_same_2 : decode cX11_same 2 = .ok (.putfield 78, 3) := by decide +kernel
theorem dX11_same_5 : decode cX11_same 5 = .ok (.aload_n 0, 1) := by decide +kernel
theorem dX11_same_6 : decode cX11_same 6 = .ok (.aload_n 0, 1) := by decide +kernel
theorem dX11_same_7 : decode cX11_same 7 = .ok (.iload_n 1, 1) := by decide +kernel
theorem dX11_same_8 : decode cX11_same 8 = .ok (.invokevirtual 358, 3) := by decide +kernel
theorem dX11_same_11 : decode cX11_same 11 = .ok (.ifCond .eq 11, 3) := by decide +kernel
theorem dX11_same_14 : decode cX11_same 14 = .ok (.aload_n 0, 1) := by decide +kernel
theorem dX11_same_15 : decode cX11_same 15 = .ok (.iload_n 2, 1) := by decide +kernel
theorem dX11_same_16 : decode cX11_same 16 = .ok (.invokevirtual 358, 3) := by decide +kernel
theorem dX11_same_19 : decode cX11_same 19 = .ok (.ifCond .ne 7, 3) := by decide +kernel
theorem dX11_same_22 : decode cX11_same 22 = .ok (.iconst 1, 1) := by decide +kernel
theorem dX11_same_23 : decode cX11_same 23 = .ok (.goto 4, 3) := by decide +kernel
theorem dX11_same_26 : decode cX11_same 26 = .ok (.iconst 0, 1) := by decide +kernel
theorem dX11_same_27 : decode cX11_same 27 = .ok (.iconst 1, 1) := by decide +kernel
theorem dX11_same_28 : decode cX11_same 28 = .ok (.iconst 0, 1) := by decide +kernel
theorem dX11_same_29 : decode cX11_same 29 = .ok (.invokevirtual 229, 3) := by decide +kernel
theorem dX11_same_32 : decode cX11_same 32 = .ok (.ifCond .eq 5, 3) := by decide +kernel
theorem dX11_same_35 : decode cX11_same 35 = .ok (.iconst 0, 1) := by decide +kernel
theorem dX11_same_36 : decode cX11_same 36 = .ok (.ireturn, 1) := by decide +kernel
theorem dX11_same_37 : decode cX11_same 37 = .ok (.aload_n 0, 1) := by decide +kernel
theorem dX11_same_38 : decode cX11_same 38 = .ok (.getfield 42, 3) := by decide +kernel
theorem dX11_same_41 : decode cX11_same 41 = .ok (.iload_n 1, 1) := by decide +kernel
theorem dX11_same_42 : decode cX11_same 42 = .ok (.iaload, 1) := by decide +kernel
theorem dX11_same_43 : decode cX11_same 43 = .ok (.bipush 10, 2) := by decide +kernel
theorem dX11_same_45 : decode cX11_same 45 = .ok (.if_icmp .gt 14, 3) := by decide +kernel
theorem dX11_same_48 : decode cX11_same 48 = .ok (.aload_n 0, 1) := by decide +kernel
theorem dX11_same_49 : decode cX11_same 49 = .ok (.getfield 42, 3) := by decide +kernel
theorem dX11_same_52 : decode cX11_same 52 = .ok (.iload_n 2, 1) := by decide +kernel
theorem dX11_same_53 : decode cX11_same 53 = .ok (.iaload, 1) := by decide +kernel
theorem dX11_same_54 : decode cX11_same 54 = .ok (.bipush 10, 2) := by decide +kernel
theorem dX11_same_56 : decode cX11_same 56 = .ok (.if_icmp .le 5, 3) := by decide +kernel
theorem dX11_same_59 : decode cX11_same 59 = .ok (.iconst (-1), 1) := by decide +kernel
theorem dX11_same_60 : decode cX11_same 60 = .ok (.ireturn, 1) := by decide +kernel
theorem dX11_same_61 : decode cX11_same 61 = .ok (.iconst 0, 1) := by decide +kernel
theorem dX11_same_62 : decode cX11_same 62 = .ok (.istore_n 3, 1) := by decide +kernel
theorem dX11_same_63 : decode cX11_same 63 = .ok (.iconst 0, 1) := by decide +kernel
theorem dX11_same_64 : decode cX11_same 64 = .ok (.istore 4, 2) := by decide +kernel
theorem dX11_same_66 : decode cX11_same 66 = .ok (.iload 4, 2) := by decide +kernel
theorem dX11_same_68 : decode cX11_same 68 = .ok (.aload_n 0, 1) := by decide +kernel
theorem dX11_same_69 : decode cX11_same 69 = .ok (.getfield 45, 3) := by decide +kernel
theorem dX11_same_72 : decode cX11_same 72 = .ok (.iload_n 1, 1) := by decide +kernel
theorem dX11_same_73 : decode cX11_same 73 = .ok (.iaload, 1) := by decide +kernel
theorem dX11_same_74 : decode cX11_same 74 = .ok (.aload_n 0, 1) := by decide +kernel
theorem dX11_same_75 : decode cX11_same 75 = .ok (.getfield 45, 3) := by decide +kernel
theorem dX11_same_78 : decode cX11_same 78 = .ok (.iload_n 2, 1) := by decide +kernel
theorem dX11_same_79 : decode cX11_same 79 = .ok (.iaload, 1) := by decide +kernel
theorem dX11_same_80 : decode cX11_same 80 = .ok (.invokestatic 117, 3) := by decide +kernel
theorem dX11_same_83 : decode cX11_same 83 = .ok (.if_icmp .ge 60, 3) := by decide +kernel
theorem dX11_same_86 : decode cX11_same 86 = .ok (.iload_n 3, 1) := by decide +kernel
theorem dX11_same_87 : decode cX11_same 87 = .ok (.aload_n 0, 1) := by decide +kernel
theorem dX11_same_88 : decode cX11_same 88 = .ok (.aload_n 0, 1) := by decide +kernel
theorem dX11_same_89 : decode cX11_same 89 = .ok (.getfield 48, 3) := by decide +kernel
theorem dX11_same_92 : decode cX11_same 92 = .ok (.iload_n 1, 1) := by decide +kernel
theorem dX11_same_93 : decode cX11_same 93 = .ok (.aaload, 1) := by decide +kernel
theorem dX11_same_94 : decode cX11_same 94 = .ok (.iload 4, 2) := by decide +kernel
theorem dX11_same_96 : decode cX11_same 96 = .ok (.iaload, 1) := by decide +kernel
theorem dX11_same_97 : decode cX11_same 97 = .ok (.aload_n 0, 1) := by decide +kernel
theorem dX11_same_98 : decode cX11_same 98 = .ok (.getfield 53, 3) := by decide +kernel
theorem dX11_same_101 : decode cX11_same 101 = .ok (.iload_n 1, 1) := by decide +kernel
theorem dX11_same_102 : decode cX11_same 102 = .ok (.aaload, 1) := by decide +kernel
theorem dX11_same_103 : decode cX11_same 103 = .ok (.iload 4, 2) := by decide +kernel
theorem dX11_same_105 : decode cX11_same 105 = .ok (.laload, 1) := by decide +kernel
theorem dX11_same_106 : decode cX11_same 106 = .ok (.aload_n 0, 1) := by decide +kernel
theorem dX11_same_107 : decode cX11_same 107 = .ok (.getfield 48, 3) := by decide +kernel
theorem dX11_same_110 : decode cX11_same 110 = .ok (.iload_n 2, 1) := by decide +kernel
theorem dX11_same_111 : decode cX11_same 111 = .ok (.aaload, 1) := by decide +kernel
theorem dX11_same_112 : decode cX11_same 112 = .ok (.iload 4, 2) := by decide +kernel
theorem dX11_same_114 : decode cX11_same 114 = .ok (.iaload, 1) := by decide +kernel
theorem dX11_same_115 : decode cX11_same 115 = .ok (.aload_n 0, 1) := by decide +kernel
theorem dX11_same_116 : decode cX11_same 116 = .ok (.getfield 53, 3) := by decide +kernel
theorem dX11_same_119 : decode cX11_same 119 = .ok (.iload_n 2, 1) := by decide +kernel
theorem dX11_same_120 : decode cX11_same 120 = .ok (.aaload, 1) := by decide +kernel
theorem dX11_same_121 : decode cX11_same 121 = .ok (.iload 4, 2) := by decide +kernel
theorem dX11_same_123 : decode cX11_same 123 = .ok (.laload, 1) := by decide +kernel
theorem dX11_same_124 : decode cX11_same 124 = .ok (.invokevirtual 422, 3) := by decide +kernel
theorem dX11_same_127 : decode cX11_same 127 = .ok (.ifCond .eq 7, 3) := by decide +kernel
theorem dX11_same_130 : decode cX11_same 130 = .ok (.iconst 1, 1) := by decide +kernel
theorem dX11_same_131 : decode cX11_same 131 = .ok (.goto 4, 3) := by decide +kernel
theorem dX11_same_134 : decode cX11_same 134 = .ok (.iconst 0, 1) := by decide +kernel
theorem dX11_same_135 : decode cX11_same 135 = .ok (.iadd, 1) := by decide +kernel
theorem dX11_same_136 : decode cX11_same 136 = .ok (.istore_n 3, 1) := by decide +kernel
theorem dX11_same_137 : decode cX11_same 137 = .ok (.iinc 4 1, 3) := by decide +kernel
theorem dX11_same_140 : decode cX11_same 140 = .ok (.goto (-74), 3) := by decide +kernel
theorem dX11_same_143 : decode cX11_same 143 = .ok (.iload_n 3, 1) := by decide +kernel
theorem dX11_same_144 : decode cX11_same 144 = .ok (.ireturn, 1) := by decide +kernel
theorem dX11_lays_0 : decode cX11_lays 0 = .ok (.iconst 0, 1) := by decide +kernel
theorem dX11_lays_1 : decode cX11_lays 1 = .ok (.istore_n 3, 1) := by decide +kernel
theorem dX11_lays_2 : decode cX11_lays 2 = .ok (.iload_n 3, 1) := by decide +kernel
theorem dX11_lays_3 : decode cX11_lays 3 = .ok (.aload_n 1, 1) := by decide +kernel
theorem dX11_lays_4 : decode cX11_lays 4 = .ok (.arraylength, 1) := by decide +kernel
theorem dX11_lays_5 : decode cX11_lays 5 = .ok (.if_icmp .ge 50, 3) := by decide +kernel
theorem dX11_lays_8 : decode cX11_lays 8 = .ok (.iload_n 2, 1) := by decide +kernel
theorem dX11_lays_9 : decode cX11_lays 9 = .ok (.ifCond .eq 18, 3) := by decide +kernel
theorem dX11_lays_12 : decode cX11_lays 12 = .ok (.aload_n 1, 1) := by decide +kernel
theorem dX11_lays_13 : decode cX11_lays 13 = .ok (.iload_n 3, 1) := by decide +kernel
theorem dX11_lays_14 : decode cX11_lays 14 = .ok (.aload_n 0, 1) := by decide +kernel
theorem dX11_lays_15 : decode cX11_lays 15 = .ok (.getfield 72, 3) := by decide +kernel
theorem dX11_lays_18 : decode cX11_lays 18 = .ok (.aload_n 0, 1) := by decide +kernel
theorem dX11_lays_19 : decode cX11_lays 19 = .ok (.getfield 426, 3) := by decide +kernel
theorem dX11_lays_22 : decode cX11_lays 22 = .ok (.iaload, 1) := by decide +kernel
theorem dX11_lays_23 : decode cX11_lays 23 = .ok (.iastore, 1) := by decide +kernel
theorem dX11_lays_24 : decode cX11_lays 24 = .ok (.goto 15, 3) := by decide +kernel
theorem dX11_lays_27 : decode cX11_lays 27 = .ok (.aload_n 0, 1) := by decide +kernel
theorem dX11_lays_28 : decode cX11_lays 28 = .ok (.getfield 72, 3) := by decide +kernel
theorem dX11_lays_31 : decode cX11_lays 31 = .ok (.aload_n 0, 1) := by decide +kernel
theorem dX11_lays_32 : decode cX11_lays 32 = .ok (.getfield 426, 3) := by decide +kernel
theorem dX11_lays_35 : decode cX11_lays 35 = .ok (.aload_n 1, 1) := by decide +kernel
theorem dX11_lays_36 : decode cX11_lays 36 = .ok (.iload_n 3, 1) := by decide +kernel
theorem dX11_lays_37 : decode cX11_lays 37 = .ok (.iaload, 1) := by decide +kernel
theorem dX11_lays_38 : decode cX11_lays 38 = .ok (.iastore, 1) := by decide +kernel
theorem dX11_lays_39 : decode cX11_lays 39 = .ok (.aload_n 0, 1) := by decide +kernel
theorem dX11_lays_40 : decode cX11_lays 40 = .ok (.dup, 1) := by decide +kernel
theorem dX11_lays_41 : decode cX11_lays 41 = .ok (.getfield 426, 3) := by decide +kernel
theorem dX11_lays_44 : decode cX11_lays 44 = .ok (.iconst 1, 1) := by decide +kernel
theorem dX11_lays_45 : decode cX11_lays 45 = .ok (.iadd, 1) := by decide +kernel
theorem dX11_lays_46 : decode cX11_lays 46 = .ok (.putfield 426, 3) := by decide +kernel
theorem dX11_lays_49 : decode cX11_lays 49 = .ok (.iinc 3 1, 3) := by decide +kernel
theorem dX11_lays_52 : decode cX11_lays 52 = .ok (.goto (-50), 3) := by decide +kernel
theorem dX11_lays_55 : decode cX11_lays 55 = .ok (.return_, 1) := by decide +kernel
theorem dX11_laysAll_0 : decode cX11_laysAll 0 = .ok (.aload_n 0, 1) := by decide +kernel
theorem dX11_laysAll_1 : decode cX11_laysAll 1 = .ok (.iconst 0, 1) := by decide +kernel
theorem dX11_laysAll_2 : decode cX11_laysAll 2 = .ok (.putfield 426, 3) := by decide +kernel
theorem dX11_laysAll_5 : decode cX11_laysAll 5 = .ok (.aload_n 0, 1) := by decide +kernel
theorem dX11_laysAll_6 : decode cX11_laysAll 6 = .ok (.aload_n 0, 1) := by decide +kernel
theorem dX11_laysAll_7 : decode cX11_laysAll 7 = .ok (.getfield 42, 3) := by decide +kernel
theorem dX11_laysAll_10 : decode cX11_laysAll 10 = .ok (.iload_n 1, 1) := by decide +kernel
theorem dX11_laysAll_11 : decode cX11_laysAll 11 = .ok (.invokevirtual 429, 3) := by decide +kernel
theorem dX11_laysAll_14 : decode cX11_laysAll 14 = .ok (.aload_n 0, 1) := by decide +kernel
theorem dX11_laysAll_15 : decode cX11_laysAll 15 = .ok (.aload_n 0, 1) := by decide +kernel
theorem dX11_laysAll_16 : decode cX11_laysAll 16 = .ok (.getfield 45, 3) := by decide +kernel
theorem dX11_laysAll_19 : decode cX11_laysAll 19 = .ok (.iload_n 1, 1) := by decide +kernel
theorem dX11_laysAll_20 : decode cX11_laysAll 20 = .ok (.invokevirtual 429, 3) := by decide +kernel
theorem dX11_laysAll_23 : decode cX11_laysAll 23 = .ok (.aload_n 0, 1) := by decide +kernel
theorem dX11_laysAll_24 : decode cX11_laysAll 24 = .ok (.aload_n 0, 1) := by decide +kernel
theorem dX11_laysAll_25 : decode cX11_laysAll 25 = .ok (.getfield 66, 3) := by decide +kernel
theorem dX11_laysAll_28 : decode cX11_laysAll 28 = .ok (.iload_n 1, 1) := by decide +kernel
theorem dX11_laysAll_29 : decode cX11_laysAll 29 = .ok (.invokevirtual 429, 3) := by decide +kernel
theorem dX11_laysAll_32 : decode cX11_laysAll 32 = .ok (.aload_n 0, 1) := by decide +kernel
theorem dX11_laysAll_33 : decode cX11_laysAll 33 = .ok (.aload_n 0, 1) := by decide +kernel
theorem dX11_laysAll_34 : decode cX11_laysAll 34 = .ok (.getfield 69, 3) := by decide +kernel
theorem dX11_laysAll_37 : decode cX11_laysAll 37 = .ok (.iload_n 1, 1) := by decide +kernel
theorem dX11_laysAll_38 : decode cX11_laysAll 38 = .ok (.invokevirtual 429, 3) := by decide +kernel
theorem dX11_laysAll_41 : decode cX11_laysAll 41 = .ok (.iconst 0, 1) := by decide +kernel
theorem dX11_laysAll_42 : decode cX11_laysAll 42 = .ok (.istore_n 2, 1) := by decide +kernel
theorem dX11_laysAll_43 : decode cX11_laysAll 43 = .ok (.iload_n 2, 1) := by decide +kernel
theorem dX11_laysAll_44 : decode cX11_laysAll 44 = .ok (.bipush 60, 2) := by decide +kernel
theorem dX11_laysAll_46 : decode cX11_laysAll 46 = .ok (.if_icmp .ge 20, 3) := by decide +kernel
theorem dX11_laysAll_49 : decode cX11_laysAll 49 = .ok (.aload_n 0, 1) := by decide +kernel
theorem dX11_laysAll_50 : decode cX11_laysAll 50 = .ok (.aload_n 0, 1) := by decide +kernel
theorem dX11_laysAll_51 : decode cX11_laysAll 51 = .ok (.getfield 48, 3) := by decide +kernel
theorem dX11_laysAll_54 : decode cX11_laysAll 54 = .ok (.iload_n 2, 1) := by decide +kernel
theorem dX11_laysAll_55 : decode cX11_laysAll 55 = .ok (.aaload, 1) := by decide +kernel
theorem dX11_laysAll_56 : decode cX11_laysAll 56 = .ok (.iload_n 1, 1) := by decide +kernel
theorem dX11_laysAll_57 : decode cX11_laysAll 57 = .ok (.invokevirtual 429, 3) := by decide +kernel
theorem dX11_laysAll_60 : decode cX11_laysAll 60 = .ok (.iinc 2 1, 3) := by decide +kernel
theorem dX11_laysAll_63 : decode cX11_laysAll 63 = .ok (.goto (-20), 3) := by decide +kernel
theorem dX11_laysAll_66 : decode cX11_laysAll 66 = .ok (.iconst 0, 1) := by decide +kernel
theorem dX11_laysAll_67 : decode cX11_laysAll 67 = .ok (.istore_n 2, 1) := by decide +kernel
theorem dX11_laysAll_68 : decode cX11_laysAll 68 = .ok (.iload_n 2, 1) := by decide +kernel
theorem dX11_laysAll_69 : decode cX11_laysAll 69 = .ok (.bipush 6, 2) := by decide +kernel
theorem dX11_laysAll_71 : decode cX11_laysAll 71 = .ok (.if_icmp .gt 20, 3) := by decide +kernel
theorem dX11_laysAll_74 : decode cX11_laysAll 74 = .ok (.aload_n 0, 1) := by decide +kernel
theorem dX11_laysAll_75 : decode cX11_laysAll 75 = .ok (.aload_n 0, 1) := by decide +kernel
theorem dX11_laysAll_76 : decode cX11_laysAll 76 = .ok (.getfield 56, 3) := by decide +kernel
theorem dX11_laysAll_79 : decode cX11_laysAll 79 = .ok (.iload_n 2, 1) := by decide +kernel
theorem dX11_laysAll_80 : decode cX11_laysAll 80 = .ok (.aaload, 1) := by decide +kernel
theorem dX11_laysAll_81 : decode cX11_laysAll 81 = .ok (.iload_n 1, 1) := by decide +kernel
theorem dX11_laysAll_82 : decode cX11_laysAll 82 = .ok (.invokevirtual 429, 3) := by decide +kernel
theorem dX11_laysAll_85 : decode cX11_laysAll 85 = .ok (.iinc 2 1, 3) := by decide +kernel
theorem dX11_laysAll_88 : decode cX11_laysAll 88 = .ok (.goto (-20), 3) := by decide +kernel
theorem dX11_laysAll_91 : decode cX11_laysAll 91 = .ok (.iconst 0, 1) := by decide +kernel
theorem dX11_laysAll_92 : decode cX11_laysAll 92 = .ok (.istore_n 2, 1) := by decide +kernel
theorem dX11_laysAll_93 : decode cX11_laysAll 93 = .ok (.iload_n 2, 1) := by decide +kernel
theorem dX11_laysAll_94 : decode cX11_laysAll 94 = .ok (.bipush 6, 2) := by decide +kernel
theorem dX11_laysAll_96 : decode cX11_laysAll 96 = .ok (.if_icmp .ge 36, 3) := by decide +kernel
theorem dX11_laysAll_99 : decode cX11_laysAll 99 = .ok (.iconst 0, 1) := by decide +kernel
theorem dX11_laysAll_100 : decode cX11_laysAll 100 = .ok (.istore_n 3, 1) := by decide +kernel
theorem dX11_laysAll_101 : decode cX11_laysAll 101 = .ok (.iload_n 3, 1) := by decide +kernel
theorem dX11_laysAll_102 : decode cX11_laysAll 102 = .ok (.bipush 10, 2) := by decide +kernel
theorem dX11_laysAll_104 : decode cX11_laysAll 104 = .ok (.if_icmp .ge 22, 3) := by decide +kernel
theorem dX11_laysAll_107 : decode cX11_laysAll 107 = .ok (.aload_n 0, 1) := by decide +kernel
theorem dX11_laysAll_108 : decode cX11_laysAll 108 = .ok (.aload_n 0, 1) := by decide +kernel
theorem dX11_laysAll_109 : decode cX11_laysAll 109 = .ok (.getfield 63, 3) := by decide +kernel
theorem dX11_laysAll_112 : decode cX11_laysAll 112 = .ok (.iload_n 2, 1) := by decide +kernel
theorem dX11_laysAll_113 : decode cX11_laysAll 113 = .ok (.aaload, 1) := by decide +kernel
theorem dX11_laysAll_114 : decode cX11_laysAll 114 = .ok (.iload_n 3, 1) := by decide +kernel
theorem dX11_laysAll_115 : decode cX11_laysAll 115 = .ok (.aaload, 1) := by decide +kernel
theorem dX11_laysAll_116 : decode cX11_laysAll 116 = .ok (.iload_n 1, 1) := by decide +kernel
theorem dX11_laysAll_117 : decode cX11_laysAll 117 = .ok (.invokevirtual 429, 3) := by decide +kernel
theorem dX11_laysAll_120 : decode cX11_laysAll 120 = .ok (.iinc 3 1, 3) := by decide +kernel
theorem dX11_laysAll_123 : decode cX11_laysAll 123 = .ok (.goto (-22), 3) := by decide +kernel
theorem dX11_laysAll_126 : decode cX11_laysAll 126 = .ok (.iinc 2 1, 3) := by decide +kernel
theorem dX11_laysAll_129 : decode cX11_laysAll 129 = .ok (.goto (-36), 3) := by decide +kernel
theorem dX11_laysAll_132 : decode cX11_laysAll 132 = .ok (.iconst 0, 1) := by decide +kernel
theorem dX11_laysAll_133 : decode cX11_laysAll 133 = .ok (.istore_n 2, 1) := by decide +kernel
theorem dX11_laysAll_134 : decode cX11_laysAll 134 = .ok (.iload_n 2, 1) := by decide +kernel
theorem dX11_laysAll_135 : decode cX11_laysAll 135 = .ok (.bipush 60, 2) := by decide +kernel
theorem dX11_laysAll_137 : decode cX11_laysAll 137 = .ok (.if_icmp .ge 41, 3) := by decide +kernel
theorem dX11_laysAll_140 : decode cX11_laysAll 140 = .ok (.iconst 0, 1) := by decide +kernel
theorem dX11_laysAll_141 : decode cX11_laysAll 141 = .ok (.istore_n 3, 1) := by decide +kernel
theorem dX11_laysAll_142 : decode cX11_laysAll 142 = .ok (.iload_n 3, 1) := by decide +kernel
theorem dX11_laysAll_143 : decode cX11_laysAll 143 = .ok (.bipush 9, 2) := by decide +kernel
theorem dX11_laysAll_145 : decode cX11_laysAll 145 = .ok (.if_icmp .ge 27, 3) := by decide +kernel
theorem dX11_laysAll_148 : decode cX11_laysAll 148 = .ok (.aload_n 0, 1) := by decide +kernel
theorem dX11_laysAll_149 : decode cX11_laysAll 149 = .ok (.aload_n 0, 1) := by decide +kernel
theorem dX11_laysAll_150 : decode cX11_laysAll 150 = .ok (.getfield 53, 3) := by decide +kernel
theorem dX11_laysAll_153 : decode cX11_laysAll 153 = .ok (.iload_n 2, 1) := by decide +kernel
theorem dX11_laysAll_154 : decode cX11_laysAll 154 = .ok (.aaload, 1) := by decide +kernel
theorem dX11_laysAll_155 : decode cX11_laysAll 155 = .ok (.iload_n 3, 1) := by decide +kernel
theorem dX11_laysAll_156 : decode cX11_laysAll 156 = .ok (.iload_n 2, 1) := by decide +kernel
theorem dX11_laysAll_157 : decode cX11_laysAll 157 = .ok (.bipush 9, 2) := by decide +kernel
theorem dX11_laysAll_159 : decode cX11_laysAll 159 = .ok (.imul, 1) := by decide +kernel
theorem dX11_laysAll_160 : decode cX11_laysAll 160 = .ok (.iload_n 3, 1) := by decide +kernel
theorem dX11_laysAll_161 : decode cX11_laysAll 161 = .ok (.iadd, 1) := by decide +kernel
theorem dX11_laysAll_162 : decode cX11_laysAll 162 = .ok (.iload_n 1, 1) := by decide +kernel
theorem dX11_laysAll_163 : decode cX11_laysAll 163 = .ok (.invokevirtual 433, 3) := by decide +kernel
theorem dX11_laysAll_166 : decode cX11_laysAll 166 = .ok (.iinc 3 1, 3) := by decide +kernel
theorem dX11_laysAll_169 : decode cX11_laysAll 169 = .ok (.goto (-27), 3) := by decide +kernel
theorem dX11_laysAll_172 : decode cX11_laysAll 172 = .ok (.iinc 2 1, 3) := by decide +kernel
theorem dX11_laysAll_175 : decode cX11_laysAll 175 = .ok (.goto (-41), 3) := by decide +kernel
theorem dX11_laysAll_178 : decode cX11_laysAll 178 = .ok (.iconst 0, 1) := by decide +kernel
theorem dX11_laysAll_179 : decode cX11_laysAll 179 = .ok (.istore_n 2, 1) := by decide +kernel
theorem dX11_laysAll_180 : decode cX11_laysAll 180 = .ok (.iload_n 2, 1) := by decide +kernel
theorem dX11_laysAll_181 : decode cX11_laysAll 181 = .ok (.bipush 6, 2) := by decide +kernel
theorem dX11_laysAll_183 : decode cX11_laysAll 183 = .ok (.if_icmp .gt 24, 3) := by decide +kernel
theorem dX11_laysAll_186 : decode cX11_laysAll 186 = .ok (.aload_n 0, 1) := by decide +kernel
theorem dX11_laysAll_187 : decode cX11_laysAll 187 = .ok (.aload_n 0, 1) := by decide +kernel
theorem dX11_laysAll_188 : decode cX11_laysAll 188 = .ok (.getfield 59, 3) := by decide +kernel
theorem dX11_laysAll_191 : decode cX11_laysAll 191 = .ok (.iload_n 2, 1) := by decide +kernel
theorem dX11_laysAll_192 : decode cX11_laysAll 192 = .ok (.sipush 540, 3) := by decide +kernel
theorem dX11_laysAll_195 : decode cX11_laysAll 195 = .ok (.iload_n 2, 1) := by decide +kernel
theorem dX11_laysAll_196 : decode cX11_laysAll 196 = .ok (.iadd, 1) := by decide +kernel
theorem dX11_laysAll_197 : decode cX11_laysAll 197 = .ok (.iload_n 1, 1) := by decide +kernel
theorem dX11_laysAll_198 : decode cX11_laysAll 198 = .ok (.invokevirtual 433, 3) := by decide +kernel
theorem dX11_laysAll_201 : decode cX11_laysAll 201 = .ok (.iinc 2 1, 3) := by decide +kernel
theorem dX11_laysAll_204 : decode cX11_laysAll 204 = .ok (.goto (-24), 3) := by decide +kernel
theorem dX11_laysAll_207 : decode cX11_laysAll 207 = .ok (.return_, 1) := by decide +kernel
theorem dX11_laysLong_0 : decode cX11_laysLong 0 = .ok (.iload 4, 2) := by decide +kernel
theorem dX11_laysLong_2 : decode cX11_laysLong 2 = .ok (.ifCond .eq 15, 3) := by decide +kernel
theorem dX11_laysLong_5 : decode cX11_laysLong 5 = .ok (.aload_n 1, 1) := by decide +kernel
theorem dX11_laysLong_6 : decode cX11_laysLong 6 = .ok (.iload_n 2, 1) := by decide +kernel
theorem dX11_laysLong_7 : decode cX11_laysLong 7 = .ok (.aload_n 0, 1) := by decide +kernel
theorem dX11_laysLong_8 : decode cX11_laysLong 8 = .ok (.getfield 75, 3) := by decide +kernel
theorem dX11_laysLong_11 : decode cX11_laysLong 11 = .ok (.iload_n 3, 1) := by decide +kernel
theorem dX11_laysLong_12 : decode cX11_laysLong 12 = .ok (.laload, 1) := by decide +kernel
theorem dX11_laysLong_13 : decode cX11_laysLong 13 = .ok (.lastore, 1) := by decide +kernel
theorem dX11_laysLong_14 : decode cX11_laysLong 14 = .ok (.goto 12, 3) := by decide +kernel
theorem dX11_laysLong_17 : decode cX11_laysLong 17 = .ok (.aload_n 0, 1) := by decide +kernel
theorem dX11_laysLong_18 : decode cX11_laysLong 18 = .ok (.getfield 75, 3) := by decide +kernel
theorem dX11_laysLong_21 : decode cX11_laysLong 21 = .ok (.iload_n 3, 1) := by decide +kernel
theorem dX11_laysLong_22 : decode cX11_laysLong 22 = .ok (.aload_n 1, 1) := by decide +kernel
theorem dX11_laysLong_23 : decode cX11_laysLong 23 = .ok (.iload_n 2, 1) := by decide +kernel
theorem dX11_laysLong_24 : decode cX11_laysLong 24 = .ok (.laload, 1) := by decide +kernel
theorem dX11_laysLong_25 : decode cX11_laysLong 25 = .ok (.lastore, 1) := by decide +kernel
theorem dX11_laysLong_26 : decode cX11_laysLong 26 = .ok (.return_, 1) := by decide +kernel
theorem dX11_waits_0 : decode cX11_waits 0 = .ok (.aload_n 0, 1) := by decide +kernel
theorem dX11_waits_1 : decode cX11_waits 1 = .ok (.iconst 0, 1) := by decide +kernel
theorem dX11_waits_2 : decode cX11_waits 2 = .ok (.putfield 78, 3) := by decide +kernel
theorem dX11_waits_5 : decode cX11_waits 5 = .ok (.aload_n 0, 1) := by decide +kernel
theorem dX11_waits_6 : decode cX11_waits 6 = .ok (.getfield 69, 3) := by decide +kernel
theorem dX11_waits_9 : decode cX11_waits 9 = .ok (.iconst 1, 1) := by decide +kernel
theorem dX11_waits_10 : decode cX11_waits 10 = .ok (.iaload, 1) := by decide +kernel
theorem dX11_waits_11 : decode cX11_waits 11 = .ok (.iconst (-1), 1) := by decide +kernel
theorem dX11_waits_12 : decode cX11_waits 12 = .ok (.if_icmp .ne 5, 3) := by decide +kernel
theorem dX11_waits_15 : decode cX11_waits 15 = .ok (.iconst 0, 1) := by decide +kernel
theorem dX11_waits_16 : decode cX11_waits 16 = .ok (.ireturn, 1) := by decide +kernel
theorem dX11_waits_17 : decode cX11_waits 17 = .ok (.aload_n 0, 1) := by decide +kernel
theorem dX11_waits_18 : decode cX11_waits 18 = .ok (.iconst 0, 1) := by decide +kernel
theorem dX11_waits_19 : decode cX11_waits 19 = .ok (.invokevirtual 437, 3) := by decide +kernel
theorem dX11_waits_22 : decode cX11_waits 22 = .ok (.iconst 0, 1) := by decide +kernel
theorem dX11_waits_23 : decode cX11_waits 23 = .ok (.istore_n 1, 1) := by decide +kernel
theorem dX11_waits_24 : decode cX11_waits 24 = .ok (.iload_n 1, 1) := by decide +kernel
theorem dX11_waits_25 : decode cX11_waits 25 = .ok (.bipush 60, 2) := by decide +kernel
theorem dX11_waits_27 : decode cX11_waits 27 = .ok (.if_icmp .ge 23, 3) := by decide +kernel
theorem dX11_waits_30 : decode cX11_waits 30 = .ok (.aload_n 0, 1) := by decide +kernel
theorem dX11_waits_31 : decode cX11_waits 31 = .ok (.getfield 69, 3) := by decide +kernel
theorem dX11_waits_34 : decode cX11_waits 34 = .ok (.iconst 1, 1) := by decide +kernel
theorem dX11_waits_35 : decode cX11_waits 35 = .ok (.iaload, 1) := by decide +kernel
theorem dX11_waits_36 : decode cX11_waits 36 = .ok (.iconst (-1), 1) := by decide +kernel
theorem dX11_waits_37 : decode cX11_waits 37 = .ok (.if_icmp .eq 13, 3) := by decide +kernel
theorem dX11_waits_40 : decode cX11_waits 40 = .ok (.aload_n 0, 1) := by decide +kernel
theorem dX11_waits_41 : decode cX11_waits 41 = .ok (.invokevirtual 404, 3) := by decide +kernel
theorem dX11_waits_44 : decode cX11_waits 44 = .ok (.iinc 1 1, 3) := by decide +kernel
theorem dX11_waits_47 : decode cX11_waits 47 = .ok (.goto (-23), 3) := by decide +kernel
theorem dX11_waits_50 : decode cX11_waits 50 = .ok (.aload_n 0, 1) := by decide +kernel
theorem dX11_waits_51 : decode cX11_waits 51 = .ok (.getfield 69, 3) := by decide +kernel
theorem dX11_waits_54 : decode cX11_waits 54 = .ok (.iconst 1, 1) := by decide +kernel
theorem dX11_waits_55 : decode cX11_waits 55 = .ok (.iaload, 1) := by decide +kernel
theorem dX11_waits_56 : decode cX11_waits 56 = .ok (.iconst (-1), 1) := by decide +kernel
theorem dX11_waits_57 : decode cX11_waits 57 = .ok (.if_icmp .ne 7, 3) := by decide +kernel
theorem dX11_waits_60 : decode cX11_waits 60 = .ok (.iconst 1, 1) := by decide +kernel
theorem dX11_waits_61 : decode cX11_waits 61 = .ok (.goto 4, 3) := by decide +kernel
theorem dX11_waits_64 : decode cX11_waits 64 = .ok (.iconst 0, 1) := by decide +kernel
theorem dX11_waits_65 : decode cX11_waits 65 = .ok (.istore_n 2, 1) := by decide +kernel
theorem dX11_waits_66 : decode cX11_waits 66 = .ok (.aload_n 0, 1) := by decide +kernel
theorem dX11_waits_67 : decode cX11_waits 67 = .ok (.iconst 1, 1) := by decide +kernel
theorem dX11_waits_68 : decode cX11_waits 68 = .ok (.invokevirtual 437, 3) := by decide +kernel
theorem dX11_waits_71 : decode cX11_waits 71 = .ok (.iload_n 2, 1) := by decide +kernel
theorem dX11_waits_72 : decode cX11_waits 72 = .ok (.ifCond .eq 7, 3) := by decide +kernel
theorem dX11_waits_75 : decode cX11_waits 75 = .ok (.iload_n 1, 1) := by decide +kernel
theorem dX11_waits_76 : decode cX11_waits 76 = .ok (.goto 4, 3) := by decide +kernel
theorem dX11_waits_79 : decode cX11_waits 79 = .ok (.iconst (-1), 1) := by decide +kernel
theorem dX11_waits_80 : decode cX11_waits 80 = .ok (.ireturn, 1) := by decide +kernel
theorem dX11_deepest_0 : decode cX11_deepest 0 = .ok (.aload_n 0, 1) := by decide +kernel
theorem dX11_deepest_1 : decode cX11_deepest 1 = .ok (.iconst 0, 1) := by decide +kernel
theorem dX11_deepest_2 : decode cX11_deepest 2 = .ok (.putfield 78, 3) := by decide +kernel
theorem dX11_deepest_5 : decode cX11_deepest 5 = .ok (.iconst (-1), 1) := by decide +kernel
theorem dX11_deepest_6 : decode cX11_deepest 6 = .ok (.istore_n 1, 1) := by decide +kernel
theorem dX11_deepest_7 : decode cX11_deepest 7 = .ok (.iconst 0, 1) := by decide +kernel
theorem dX11_deepest_8 : decode cX11_deepest 8 = .ok (.istore_n 2, 1) := by decide +kernel
theorem dX11_deepest_9 : decode cX11_deepest 9 = .ok (.iload_n 2, 1) := by decide +kernel
theorem dX11_deepest_10 : decode cX11_deepest 10 = .ok (.bipush 6, 2) := by decide +kernel
theorem dX11_deepest_12 : decode cX11_deepest 12 = .ok (.if_icmp .ge 43, 3) := by decide +kernel
theorem dX11_deepest_15 : decode cX11_deepest 15 = .ok (.aload_n 0, 1) := by decide +kernel
theorem dX11_deepest_16 : decode cX11_deepest 16 = .ok (.iload_n 2, 1) := by decide +kernel
theorem dX11_deepest_17 : decode cX11_deepest 17 = .ok (.invokevirtual 223, 3) := by decide +kernel
theorem dX11_deepest_20 : decode cX11_deepest 20 = .ok (.ifCond .ne 29, 3) := by decide +kernel
theorem dX11_deepest_23 : decode cX11_deepest 23 = .ok (.iload_n 1, 1) := by decide +kernel
theorem dX11_deepest_24 : decode cX11_deepest 24 = .ok (.iconst (-1), 1) := by decide +kernel
theorem dX11_deepest_25 : decode cX11_deepest 25 = .ok (.if_icmp .eq 22, 3) := by decide +kernel
theorem dX11_deepest_28 : decode cX11_deepest 28 = .ok (.aload_n 0, 1) := by decide +kernel
theorem dX11_deepest_29 : decode cX11_deepest 29 = .ok (.getfield 56, 3) := by decide +kernel
theorem dX11_deepest_32 : decode cX11_deepest 32 = .ok (.iload_n 2, 1) := by decide +kernel
theorem dX11_deepest_33 : decode cX11_deepest 33 = .ok (.aaload, 1) := by decide +kernel
theorem dX11_deepest_34 : decode cX11_deepest 34 = .ok (.iconst 0, 1) := by decide +kernel
theorem dX11_deepest_35 : decode cX11_deepest 35 = .ok (.iaload, 1) := by decide +kernel
theorem dX11_deepest_36 : decode cX11_deepest 36 = .ok (.aload_n 0, 1) := by decide +kernel
theorem dX11_deepest_37 : decode cX11_deepest 37 = .ok (.getfield 56, 3) := by decide +kernel
theorem dX11_deepest_40 : decode cX11_deepest 40 = .ok (.iload_n 1, 1) := by decide +kernel
theorem dX11_deepest_41 : decode cX11_deepest 41 = .ok (.aaload, 1) := by decide +kernel
theorem dX11_deepest_42 : decode cX11_deepest 42 = .ok (.iconst 0, 1) := by decide +kernel
theorem dX11_deepest_43 : decode cX11_deepest 43 = .ok (.iaload, 1) := by decide +kernel
theorem dX11_deepest_44 : decode cX11_deepest 44 = .ok (.if_icmp .le 5, 3) := by decide +kernel
theorem dX11_deepest_47 : decode cX11_deepest 47 = .ok (.iload_n 2, 1) := by decide +kernel
theorem dX11_deepest_48 : decode cX11_deepest 48 = .ok (.istore_n 1, 1) := by decide +kernel
theorem dX11_deepest_49 : decode cX11_deepest 49 = .ok (.iinc 2 1, 3) := by decide +kernel
theorem dX11_deepest_52 : decode cX11_deepest 52 = .ok (.goto (-43), 3) := by decide +kernel
theorem dX11_deepest_55 : decode cX11_deepest 55 = .ok (.iload_n 1, 1) := by decide +kernel
theorem dX11_deepest_56 : decode cX11_deepest 56 = .ok (.ireturn, 1) := by decide +kernel
theorem dX11_status_0 : decode cX11_status 0 = .ok (.aload_n 0, 1) := by decide +kernel
theorem dX11_status_1 : decode cX11_status 1 = .ok (.iconst 0, 1) := by decide +kernel
theorem dX11_status_2 : decode cX11_status 2 = .ok (.putfield 78, 3) := by decide +kernel
theorem dX11_status_5 : decode cX11_status 5 = .ok (.iload_n 1, 1) := by decide +kernel
theorem dX11_status_6 : decode cX11_status 6 = .ok (.iconst 0, 1) := by decide +kernel
theorem dX11_status_7 : decode cX11_status 7 = .ok (.iconst 2, 1) := by decide +kernel
theorem dX11_status_8 : decode cX11_status 8 = .ok (.invokestatic 121, 3) := by decide +kernel
theorem dX11_status_11 : decode cX11_status 11 = .ok (.ifCond .eq 12, 3) := by decide +kernel
theorem dX11_status_14 : decode cX11_status 14 = .ok (.aload_n 0, 1) := by decide +kernel
theorem dX11_status_15 : decode cX11_status 15 = .ok (.getfield 7, 3) := by decide +kernel
theorem dX11_status_18 : decode cX11_status 18 = .ok (.iload_n 1, 1) := by decide +kernel
theorem dX11_status_19 : decode cX11_status 19 = .ok (.iaload, 1) := by decide +kernel
theorem dX11_status_20 : decode cX11_status 20 = .ok (.goto 4, 3) := by decide +kernel
theorem dX11_status_23 : decode cX11_status 23 = .ok (.iconst (-1), 1) := by decide +kernel
theorem dX11_status_24 : decode cX11_status 24 = .ok (.ireturn, 1) := by decide +kernel
