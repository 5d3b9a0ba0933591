theorem dX10_same_1 : decode cX10_same 1 = .ok (.iload_n 1, 1) := by decide +kernel
theorem dX10_same_2 : decode cX10_same 2 = .ok (.bipush 10, 2) := by decide +kernel
theorem dX10_same_4 : decode cX10_same 4 = .ok (.invokestatic 34, 3) := by decide +kernel
theorem dX10_same_7 : decode cX10_same 7 = .ok (.ifCond .eq 16, 3) := by decide +kernel
theorem dX10_same_10 : decode cX10_same 10 = .ok (.iload_n 2, 1) := by decide +kernel
theorem dX10_same_11 : decode cX10_same 11 = .ok (.bipush 10, 2) := by decide +kernel
theorem dX10_same_13 : decode cX10_same 13 = .ok (.invokestatic 34, 3) := by decide +kernel
theorem dX10_same_16 : decode cX10_same 16 = .ok (.ifCond .eq 7, 3) := by decide +kernel
theorem dX10_same_19 : decode cX10_same 19 = .ok (.iconst 1, 1) := by decide +kernel
theorem dX10_same_20 : decode cX10_same 20 = .ok (.goto 4, 3) := by decide +kernel
theorem dX10_same_23 : decode cX10_same 23 = .ok (.iconst 0, 1) := by decide +kernel
theorem dX10_same_24 : decode cX10_same 24 = .ok (.invokevirtual 38, 3) := by decide +kernel
theorem dX10_same_27 : decode cX10_same 27 = .ok (.aload_n 0, 1) := by decide +kernel
theorem dX10_same_28 : decode cX10_same 28 = .ok (.getfield 20, 3) := by decide +kernel
theorem dX10_same_31 : decode cX10_same 31 = .ok (.iload_n 1, 1) := by decide +kernel
theorem dX10_same_32 : decode cX10_same 32 = .ok (.iconst (-1), 1) := by decide +kernel
theorem dX10_same_33 : decode cX10_same 33 = .ok (.invokevirtual 242, 3) := by decide +kernel
theorem dX10_same_36 : decode cX10_same 36 = .ok (.astore_n 3, 1) := by decide +kernel
theorem dX10_same_37 : decode cX10_same 37 = .ok (.aload_n 0, 1) := by decide +kernel
theorem dX10_same_38 : decode cX10_same 38 = .ok (.getfield 20, 3) := by decide +kernel
theorem dX10_same_41 : decode cX10_same 41 = .ok (.iload_n 2, 1) := by decide +kernel
theorem dX10_same_42 : decode cX10_same 42 = .ok (.iconst (-1), 1) := by decide +kernel
theorem dX10_same_43 : decode cX10_same 43 = .ok (.invokevirtual 242, 3) := by decide +kernel
theorem dX10_same_46 : decode cX10_same 46 = .ok (.astore 4, 2) := by decide +kernel
theorem dX10_same_48 : decode cX10_same 48 = .ok (.aload_n 3, 1) := by decide +kernel
theorem dX10_same_49 : decode cX10_same 49 = .ok (.invokevirtual 289, 3) := by decide +kernel
theorem dX10_same_52 : decode cX10_same 52 = .ok (.ifCond .eq 20, 3) := by decide +kernel
theorem dX10_same_55 : decode cX10_same 55 = .ok (.aload 4, 2) := by decide +kernel
theorem dX10_same_57 : decode cX10_same 57 = .ok (.invokevirtual 289, 3) := by decide +kernel
theorem dX10_same_60 : decode cX10_same 60 = .ok (.ifCond .eq 12, 3) := by decide +kernel
theorem dX10_same_63 : decode cX10_same 63 = .ok (.aload_n 3, 1) := by decide +kernel
theorem dX10_same_64 : decode cX10_same 64 = .ok (.aload 4, 2) := by decide +kernel
theorem dX10_same_66 : decode cX10_same 66 = .ok (.invokevirtual 296, 3) := by decide +kernel
theorem dX10_same_69 : decode cX10_same 69 = .ok (.goto 4, 3) := by decide +kernel
theorem dX10_same_72 : decode cX10_same 72 = .ok (.iconst (-1), 1) := by decide +kernel
theorem dX10_same_73 : decode cX10_same 73 = .ok (.ireturn, 1) := by decide +kernel
theorem dX10_waits_0 : decode cX10_waits 0 = .ok (.aload_n 0, 1) := by decide +kernel
theorem dX10_waits_1 : decode cX10_waits 1 = .ok (.getfield 20, 3) := by decide +kernel
theorem dX10_waits_4 : decode cX10_waits 4 = .ok (.getfield 131, 3) := by decide +kernel
theorem dX10_waits_7 : decode cX10_waits 7 = .ok (.iconst (-1), 1) := by decide +kernel
theorem dX10_waits_8 : decode cX10_waits 8 = .ok (.if_icmp .ne 5, 3) := by decide +kernel
theorem dX10_waits_11 : decode cX10_waits 11 = .ok (.iconst 0, 1) := by decide +kernel
theorem dX10_waits_12 : decode cX10_waits 12 = .ok (.ireturn, 1) := by decide +kernel
theorem dX10_waits_13 : decode cX10_waits 13 = .ok (.aload_n 0, 1) := by decide +kernel
theorem dX10_waits_14 : decode cX10_waits 14 = .ok (.getfield 24, 3) := by decide +kernel
theorem dX10_waits_17 : decode cX10_waits 17 = .ok (.aload_n 0, 1) := by decide +kernel
theorem dX10_waits_18 : decode cX10_waits 18 = .ok (.getfield 20, 3) := by decide +kernel
theorem dX10_waits_21 : decode cX10_waits 21 = .ok (.invokevirtual 300, 3) := by decide +kernel
theorem dX10_waits_24 : decode cX10_waits 24 = .ok (.iconst 1, 1) := by decide +kernel
theorem dX10_waits_25 : decode cX10_waits 25 = .ok (.istore_n 1, 1) := by decide +kernel
theorem dX10_waits_26 : decode cX10_waits 26 = .ok (.iload_n 1, 1) := by decide +kernel
theorem dX10_waits_27 : decode cX10_waits 27 = .ok (.bipush 60, 2) := by decide +kernel
theorem dX10_waits_29 : decode cX10_waits 29 = .ok (.if_icmp .gt 29, 3) := by decide +kernel
theorem dX10_waits_32 : decode cX10_waits 32 = .ok (.aload_n 0, 1) := by decide +kernel
theorem dX10_waits_33 : decode cX10_waits 33 = .ok (.getfield 24, 3) := by decide +kernel
theorem dX10_waits_36 : decode cX10_waits 36 = .ok (.invokevirtual 128, 3) := by decide +kernel
theorem dX10_waits_39 : decode cX10_waits 39 = .ok (.aload_n 0, 1) := by decide +kernel
theorem dX10_waits_40 : decode cX10_waits 40 = .ok (.getfield 24, 3) := by decide +kernel
theorem dX10_waits_43 : decode cX10_waits 43 = .ok (.getfield 131, 3) := by decide +kernel
theorem dX10_waits_46 : decode cX10_waits 46 = .ok (.iconst (-1), 1) := by decide +kernel
theorem dX10_waits_47 : decode cX10_waits 47 = .ok (.if_icmp .ne 5, 3) := by decide +kernel
theorem dX10_waits_50 : decode cX10_waits 50 = .ok (.iload_n 1, 1) := by decide +kernel
theorem dX10_waits_51 : decode cX10_waits 51 = .ok (.ireturn, 1) := by decide +kernel
theorem dX10_waits_52 : decode cX10_waits 52 = .ok (.iinc 1 1, 3) := by decide +kernel
theorem dX10_waits_55 : decode cX10_waits 55 = .ok (.goto (-29), 3) := by decide +kernel
theorem dX10_waits_58 : decode cX10_waits 58 = .ok (.iconst (-1), 1) := by decide +kernel
theorem dX10_waits_59 : decode cX10_waits 59 = .ok (.ireturn, 1) := by decide +kernel
theorem dX10_deepest_0 : decode cX10_deepest 0 = .ok (.iconst 0, 1) := by decide +kernel
theorem dX10_deepest_1 : decode cX10_deepest 1 = .ok (.istore_n 1, 1) := by decide +kernel
theorem dX10_deepest_2 : decode cX10_deepest 2 = .ok (.iconst (-1), 1) := by decide +kernel
theorem dX10_deepest_3 : decode cX10_deepest 3 = .ok (.istore_n 2, 1) := by decide +kernel
theorem dX10_deepest_4 : decode cX10_deepest 4 = .ok (.iconst 0, 1) := by decide +kernel
theorem dX10_deepest_5 : decode cX10_deepest 5 = .ok (.istore_n 3, 1) := by decide +kernel
theorem dX10_deepest_6 : decode cX10_deepest 6 = .ok (.iload_n 3, 1) := by decide +kernel
theorem dX10_deepest_7 : decode cX10_deepest 7 = .ok (.bipush 6, 2) := by decide +kernel
theorem dX10_deepest_9 : decode cX10_deepest 9 = .ok (.if_icmp .ge 40, 3) := by decide +kernel
theorem dX10_deepest_12 : decode cX10_deepest 12 = .ok (.aload_n 0, 1) := by decide +kernel
theorem dX10_deepest_13 : decode cX10_deepest 13 = .ok (.getfield 20, 3) := by decide +kernel
theorem dX10_deepest_16 : decode cX10_deepest 16 = .ok (.getfield 103, 3) := by decide +kernel
theorem dX10_deepest_19 : decode cX10_deepest 19 = .ok (.iload_n 3, 1) := by decide +kernel
theorem dX10_deepest_20 : decode cX10_deepest 20 = .ok (.aaload, 1) := by decide +kernel
theorem dX10_deepest_21 : decode cX10_deepest 21 = .ok (.getfield 107, 3) := by decide +kernel
theorem dX10_deepest_24 : decode cX10_deepest 24 = .ok (.iload_n 1, 1) := by decide +kernel
theorem dX10_deepest_25 : decode cX10_deepest 25 = .ok (.if_icmp .le 18, 3) := by decide +kernel
theorem dX10_deepest_28 : decode cX10_deepest 28 = .ok (.aload_n 0, 1) := by decide +kernel
theorem dX10_deepest_29 : decode cX10_deepest 29 = .ok (.getfield 20, 3) := by decide +kernel
theorem dX10_deepest_32 : decode cX10_deepest 32 = .ok (.getfield 103, 3) := by decide +kernel
theorem dX10_deepest_35 : decode cX10_deepest 35 = .ok (.iload_n 3, 1) := by decide +kernel
theorem dX10_deepest_36 : decode cX10_deepest 36 = .ok (.aaload, 1) := by decide +kernel
theorem dX10_deepest_37 : decode cX10_deepest 37 = .ok (.getfield 107, 3) := by decide +kernel
theorem dX10_deepest_40 : decode cX10_deepest 40 = .ok (.istore_n 1, 1) := by decide +kernel
theorem dX10_deepest_41 : decode cX10_deepest 41 = .ok (.iload_n 3, 1) := by decide +kernel
theorem dX10_deepest_42 : decode cX10_deepest 42 = .ok (.istore_n 2, 1) := by decide +kernel
theorem dX10_deepest_43 : decode cX10_deepest 43 = .ok (.iinc 3 1, 3) := by decide +kernel
theorem dX10_deepest_46 : decode cX10_deepest 46 = .ok (.goto (-40), 3) := by decide +kernel
theorem dX10_deepest_49 : decode cX10_deepest 49 = .ok (.iload_n 2, 1) := by decide +kernel
theorem dX10_deepest_50 : decode cX10_deepest 50 = .ok (.ireturn, 1) := by decide +kernel
theorem dX10_status_0 : decode cX10_status 0 = .ok (.iload_n 1, 1) := by decide +kernel
theorem dX10_status_1 : decode cX10_status 1 = .ok (.tableswitch 42 0 2 #[27, 32, 37], 27) := by decide +kernel
theorem dX10_status_28 : decode cX10_status 28 = .ok (.aload_n 0, 1) := by decide +kernel
theorem dX10_status_29 : decode cX10_status 29 = .ok (.getfield 304, 3) := by decide +kernel
theorem dX10_status_32 : decode cX10_status 32 = .ok (.ireturn, 1) := by decide +kernel
theorem dX10_status_33 : decode cX10_status 33 = .ok (.aload_n 0, 1) := by decide +kernel
theorem dX10_status_34 : decode cX10_status 34 = .ok (.getfield 307, 3) := by decide +kernel
theorem dX10_status_37 : decode cX10_status 37 = .ok (.ireturn, 1) := by decide +kernel
theorem dX10_status_38 : decode cX10_status 38 = .ok (.aload_n 0, 1) := by decide +kernel
theorem dX10_status_39 : decode cX10_status 39 = .ok (.getfield 310, 3) := by decide +kernel
theorem dX10_status_42 : decode cX10_status 42 = .ok (.ireturn, 1) := by decide +kernel
theorem dX10_status_43 : decode cX10_status 43 = .ok (.iconst (-1), 1) := by decide +kernel
theorem dX10_status_44 : decode cX10_status 44 = .ok (.ireturn, 1) := by decide +kernel
theorem dX10_append_0 : decode cX10_append 0 = .ok (.bipush 24, 2) := by decide +kernel
theorem dX10_append_2 : decode cX10_append 2 = .ok (.istore_n 2, 1) := by decide +kernel
theorem dX10_append_3 : decode cX10_append 3 = .ok (.iload_n 2, 1) := by decide +kernel
theorem dX10_append_4 : decode cX10_append 4 = .ok (.ifCond .lt 42, 3) := by decide +kernel
theorem dX10_append_7 : decode cX10_append 7 = .ok (.aload_n 0, 1) := by decide +kernel
theorem dX10_append_8 : decode cX10_append 8 = .ok (.getfield 27, 3) := by decide +kernel
theorem dX10_append_11 : decode cX10_append 11 = .ok (.sipush 500, 3) := by decide +kernel
theorem dX10_append_14 : decode cX10_append 14 = .ok (.if_icmp .ge 32, 3) := by decide +kernel
theorem dX10_append_17 : decode cX10_append 17 = .ok (.aload_n 0, 1) := by decide +kernel
theorem dX10_append_18 : decode cX10_append 18 = .ok (.getfield 9, 3) := by decide +kernel
theorem dX10_append_21 : decode cX10_append 21 = .ok (.aload_n 0, 1) := by decide +kernel
theorem dX10_append_22 : decode cX10_append 22 = .ok (.getfield 27, 3) := by decide +kernel
theorem dX10_append_25 : decode cX10_append 25 = .ok (.iload_n 1, 1) := by decide +kernel
theorem dX10_append_26 : decode cX10_append 26 = .ok (.iload_n 2, 1) := by decide +kernel
theorem dX10_append_27 : decode cX10_append 27 = .ok (.ishr, 1) := by decide +kernel
theorem dX10_append_28 : decode cX10_append 28 = .ok (.i2b, 1) := by decide +kernel
theorem dX10_append_29 : decode cX10_append 29 = .ok (.bastore, 1) := by decide +kernel
theorem dX10_append_30 : decode cX10_append 30 = .ok (.aload_n 0, 1) := by decide +kernel
theorem dX10_append_31 : decode cX10_append 31 = .ok (.dup, 1) := by decide +kernel
theorem dX10_append_32 : decode cX10_append 32 = .ok (.getfield 27, 3) := by decide +kernel
theorem dX10_append_35 : decode cX10_append 35 = .ok (.iconst 1, 1) := by decide +kernel
theorem dX10_append_36 : decode cX10_append 36 = .ok (.iadd, 1) := by decide +kernel
theorem dX10_append_37 : decode cX10_append 37 = .ok (.putfield 27, 3) := by decide +kernel
theorem dX10_append_40 : decode cX10_append 40 = .ok (.iinc 2 (-8), 3) := by decide +kernel
theorem dX10_append_43 : decode cX10_append 43 = .ok (.goto (-40), 3) := by decide +kernel
theorem dX10_append_46 : decode cX10_append 46 = .ok (.return_, 1) := by decide +kernel
theorem dX10_emptyTape_0 : decode cX10_emptyTape 0 = .ok (.aload_n 0, 1) := by decide +kernel
theorem dX10_emptyTape_1 : decode cX10_emptyTape 1 = .ok (.iconst 0, 1) := by decide +kernel
theorem dX10_emptyTape_2 : decode cX10_emptyTape 2 = .ok (.putfield 27, 3) := by decide +kernel
theorem dX10_emptyTape_5 : decode cX10_emptyTape 5 = .ok (.aload_n 0, 1) := by decide +kernel
theorem dX10_emptyTape_6 : decode cX10_emptyTape 6 = .ok (.iload_n 1, 1) := by decide +kernel
theorem dX10_emptyTape_7 : decode cX10_emptyTape 7 = .ok (.putfield 13, 3) := by decide +kernel
theorem dX10_emptyTape_10 : decode cX10_emptyTape 10 = .ok (.return_, 1) := by decide +kernel
theorem dX10_needElement_0 : decode cX10_needElement 0 = .ok (.iload_n 1, 1) := by decide +kernel
theorem dX10_needElement_1 : decode cX10_needElement 1 = .ok (.ifCond .ne 24, 3) := by decide +kernel
theorem dX10_needElement_4 : decode cX10_needElement 4 = .ok (.aload_n 0, 1) := by decide +kernel
theorem dX10_needElement_5 : decode cX10_needElement 5 = .ok (.dup, 1) := by decide +kernel
theorem dX10_needElement_6 : decode cX10_needElement 6 = .ok (.getfield 304, 3) := by decide +kernel
theorem dX10_needElement_9 : decode cX10_needElement 9 = .ok (.iconst 1, 1) := by decide +kernel
theorem dX10_needElement_10 : decode cX10_needElement 10 = .ok (.iadd, 1) := by decide +kernel
theorem dX10_needElement_11 : decode cX10_needElement 11 = .ok (.putfield 304, 3) := by decide +kernel
theorem dX10_needElement_14 : decode cX10_needElement 14 = .ok (.new 313, 3) := by decide +kernel
theorem dX10_needElement_17 : decode cX10_needElement 17 = .ok (.dup, 1) := by decide +kernel
theorem dX10_needElement_18 : decode cX10_needElement 18 = .ok (.ldc_w 315, 3) := by decide +kernel
theorem dX10_needElement_21 : decode cX10_needElement 21 = .ok (.invokespecial 317, 3) := by decide +kernel
theorem dX10_needElement_24 : decode cX10_needElement 24 = .ok (.athrow, 1) := by decide +kernel
theorem dX10_needElement_25 : decode cX10_needElement 25 = .ok (.return_, 1) := by decide +kernel
theorem dX10_needArgument_0 : decode cX10_needArgument 0 = .ok (.iload_n 1, 1) := by decide +kernel
theorem dX10_needArgument_1 : decode cX10_needArgument 1 = .ok (.ifCond .ne 24, 3) := by decide +kernel
theorem dX10_needArgument_4 : decode cX10_needArgument 4 = .ok (.aload_n 0, 1) := by decide +kernel
theorem dX10_needArgument_5 : decode cX10_needArgument 5 = .ok (.dup, 1) := by decide +kernel
theorem dX10_needArgument_6 : decode cX10_needArgument 6 = .ok (.getfield 307, 3) := by decide +kernel
theorem dX10_needArgument_9 : decode cX10_needArgument 9 = .ok (.iconst 1, 1) := by decide +kernel
theorem dX10_needArgument_10 : decode cX10_needArgument 10 = .ok (.iadd, 1) := by decide +kernel
theorem dX10_needArgument_11 : decode cX10_needArgument 11 = .ok (.putfield 307, 3) := by decide +kernel
theorem dX10_needArgument_14 : decode cX10_needArgument 14 = .ok (.new 320, 3) := by decide +kernel
theorem dX10_needArgument_17 : decode cX10_needArgument 17 = .ok (.dup, 1) := by decide +kernel
theorem dX10_needArgument_18 : decode cX10_needArgument 18 = .ok (.ldc_w 322, 3) := by decide +kernel
theorem dX10_needArgument_21 : decode cX10_needArgument 21 = .ok (.invokespecial 324, 3) := by decide +kernel
theorem dX10_needArgument_24 : decode cX10_needArgument 24 = .ok (.athrow, 1) := by decide +kernel
theorem dX10_needArgument_25 : decode cX10_needArgument 25 = .ok (.return_, 1) := by decide +kernel
theorem dX10_needState_0 : decode cX10_needState 0 = .ok (.iload_n 1, 1) := by decide +kernel
theorem dX10_needState_1 : decode cX10_needState 1 = .ok (.ifCond .ne 24, 3) := by decide +kernel
theorem dX10_needState_4 : decode cX10_needState 4 = .ok (.aload_n 0, 1) := by decide +kernel
theorem dX10_needState_5 : decode cX10_needState 5 = .ok (.dup, 1) := by decide +kernel
theorem dX10_needState_6 : decode cX10_needState 6 = .ok (.getfield 310, 3) := by decide +kernel
theorem dX10_needState_9 : decode cX10_needState 9 = .ok (.iconst 1, 1) := by decide +kernel
theorem dX10_needState_10 : decode cX10_needState 10 = .ok (.iadd, 1) := by decide +kernel
theorem dX10_needState_11 : decode cX10_needState 11 = .ok (.putfield 310, 3) := by decide +kernel
theorem dX10_needState_14 : decode cX10_needState 14 = .ok (.new 325, 3) := by decide +kernel
theorem dX10_needState_17 : decode cX10_needState 17 = .ok (.dup, 1) := by decide +kernel
theorem dX10_needState_18 : decode cX10_needState 18 = .ok (.ldc_w 327, 3) := by decide +kernel
theorem dX10_needState_21 : decode cX10_needState 21 = .ok (.invokespecial 329, 3) := by decide +kernel
theorem dX10_needState_24 : decode cX10_needState 24 = .ok (.athrow, 1) := by decide +kernel
theorem dX10_needState_25 : decode cX10_needState 25 = .ok (.return_, 1) := by decide +kernel
theorem dX10_within_0 : decode cX10_within 0 = .ok (.iload_n 0, 1) := by decide +kernel
theorem dX10_within_1 : decode cX10_within 1 = .ok (.ifCond .lt 12, 3) := by decide +kernel
theorem dX10_within_4 : decode cX10_within 4 = .ok (.iload_n 0, 1) := by decide +kernel
theorem dX10_within_5 : decode cX10_within 5 = .ok (.iload_n 1, 1) := by decide +kernel
theorem dX10_within_6 : decode cX10_within 6 = .ok (.if_icmp .ge 7, 3) := by decide +kernel
theorem dX10_within_9 : decode cX10_within 9 = .ok (.iconst 1, 1) := by decide +kernel
theorem dX10_within_10 : decode cX10_within 10 = .ok (.goto 4, 3) := by decide +kernel
theorem dX10_within_13 : decode cX10_within 13 = .ok (.iconst 0, 1) := by decide +kernel
theorem dX10_within_14 : decode cX10_within 14 = .ok (.ireturn, 1) := by decide +kernel
theorem dX10_fits_0 : decode cX10_fits 0 = .ok (.iload_n 1, 1) := by decide +kernel
theorem dX10_fits_1 : decode cX10_fits 1 = .ok (.ifCond .lt 28, 3) := by decide +kernel
theorem dX10_fits_4 : decode cX10_fits 4 = .ok (.iload_n 1, 1) := by decide +kernel
theorem dX10_fits_5 : decode cX10_fits 5 = .ok (.bipush 11, 2) := by decide +kernel
theorem dX10_fits_7 : decode cX10_fits 7 = .ok (.if_icmp .ge 22, 3) := by decide +kernel
theorem dX10_fits_10 : decode cX10_fits 10 = .ok (.getstatic 330, 3) := by decide +kernel
theorem dX10_fits_13 : decode cX10_fits 13 = .ok (.iload_n 1, 1) := by decide +kernel
theorem dX10_fits_14 : decode cX10_fits 14 = .ok (.iaload, 1) := by decide +kernel
theorem dX10_fits_15 : decode cX10_fits 15 = .ok (.iload_n 0, 1) := by decide +kernel
theorem dX10_fits_16 : decode cX10_fits 16 = .ok (.iconst 1, 1) := by decide +kernel
theorem dX10_fits_17 : decode cX10_fits 17 = .ok (.iadd, 1) := by decide +kernel
theorem dX10_fits_18 : decode cX10_fits 18 = .ok (.ishr, 1) := by decide +kernel
theorem dX10_fits_19 : decode cX10_fits 19 = .ok (.iconst 1, 1) := by decide +kernel
theorem dX10_fits_20 : decode cX10_fits 20 = .ok (.iand, 1) := by decide +kernel
theorem dX10_fits_21 : decode cX10_fits 21 = .ok (.iconst 1, 1) := by decide +kernel
theorem dX10_fits_22 : decode cX10_fits 22 = .ok (.if_icmp .ne 7, 3) := by decide +kernel
theorem dX10_fits_25 : decode cX10_fits 25 = .ok (.iconst 1, 1) := by decide +kernel
theorem dX10_fits_26 : decode cX10_fits 26 = .ok (.goto 4, 3) := by decide +kernel
theorem dX10_fits_29 : decode cX10_fits 29 = .ok (.iconst 0, 1) := by decide +kernel
theorem dX10_fits_30 : decode cX10_fits 30 = .ok (.ireturn, 1) := by decide +kernel
theorem dX10_widened_0 : decode cX10_widened 0 = .ok (.iload_n 2, 1) := by decide +kernel
theorem dX10_widened_1 : decode cX10_widened 1 = .ok (.bipush 6, 2) := by decide +kernel
theorem dX10_widened_3 : decode cX10_widened 3 = .ok (.if_icmp .ge 17, 3) := by decide +kernel
theorem dX10_widened_6 : decode cX10_widened 6 = .ok (.iload_n 3, 1) := by decide +kernel
theorem dX10_widened_7 : decode cX10_widened 7 = .ok (.bipush 6, 2) := by decide +kernel
theorem dX10_widened_9 : decode cX10_widened 9 = .ok (.if_icmp .lt 11, 3) := by decide +kernel
theorem dX10_widened_12 : decode cX10_widened 12 = .ok (.lload_n 0, 1) := by decide +kernel
theorem dX10_widened_13 : decode cX10_widened 13 = .ok (.ldc2_w 333, 3) := by decide +kernel
theorem dX10_widened_16 : decode cX10_widened 16 = .ok (.lmul, 1) := by decide +kernel
theorem dX10_widened_17 : decode cX10_widened 17 = .ok (.goto 4, 3) := by decide +kernel
theorem dX10_widened_20 : decode cX10_widened 20 = .ok (.lload_n 0, 1) := by decide +kernel
theorem dX10_widened_21 : decode cX10_widened 21 = .ok (.lreturn, 1) := by decide +kernel
theorem dX10_cut_0 : decode cX10_cut 0 = .ok (.iload_n 0, 1) := by decide +kernel
theorem dX10_cut_1 : decode cX10_cut 1 = .ok (.tableswitch 53 0 3 #[31, 41, 45, 49], 31) := by decide +kernel
theorem dX10_cut_32 : decode cX10_cut 32 = .ok (.iload_n 1, 1) := by decide +kernel
theorem dX10_cut_33 : decode cX10_cut 33 = .ok (.ifCond .eq 7, 3) := by decide +kernel
theorem dX10_cut_36 : decode cX10_cut 36 = .ok (.lconst 1, 1) := by decide +kernel
theorem dX10_cut_37 : decode cX10_cut 37 = .ok (.goto 4, 3) := by decide +kernel
theorem dX10_cut_40 : decode cX10_cut 40 = .ok (.lconst 0, 1) := by decide +kernel
theorem dX10_cut_41 : decode cX10_cut 41 = .ok (.lreturn, 1) := by decide +kernel
theorem dX10_cut_42 : decode cX10_cut 42 = .ok (.iload_n 1, 1) := by decide +kernel
theorem dX10_cut_43 : decode cX10_cut 43 = .ok (.i2b, 1) := by decide +kernel
theorem dX10_cut_44 : decode cX10_cut 44 = .ok (.i2l, 1) := by decide +kernel
theorem dX10_cut_45 : decode cX10_cut 45 = .ok (.lreturn, 1) := by decide +kernel
theorem dX10_cut_46 : decode cX10_cut 46 = .ok (.iload_n 1, 1) := by decide +kernel
theorem dX10_cut_47 : decode cX10_cut 47 = .ok (.i2c, 1) := by decide +kernel
theorem dX10_cut_48 : decode cX10_cut 48 = .ok (.i2l, 1) := by decide +kernel
theorem dX10_cut_49 : decode cX10_cut 49 = .ok (.lreturn, 1) := by decide +kernel
theorem dX10_cut_50 : decode cX10_cut 50 = .ok (.iload_n 1, 1) := by decide +kernel
theorem dX10_cut_51 : decode cX10_cut 51 = .ok (.i2s, 1) := by decide +kernel
theorem dX10_cut_52 : decode cX10_cut 52 = .ok (.i2l, 1) := by decide +kernel
theorem dX10_cut_53 : decode cX10_cut 53 = .ok (.lreturn, 1) := by decide +kernel
theorem dX10_cut_54 : decode cX10_cut 54 = .ok (.iload_n 1, 1) := by decide +kernel
theorem dX10_cut_55 : decode cX10_cut 55 = .ok (.i2l, 1) := by decide +kernel
theorem dX10_cut_56 : decode cX10_cut 56 = .ok (.lreturn, 1) := by decide +kernel
