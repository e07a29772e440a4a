theorem dX5_longest_5 : decode cX5_longest 5 = .ok (.iload_n 2, 1) := by decide +kernel
theorem dX5_longest_6 : decode cX5_longest 6 = .ok (.invokevirtual 240, 3) := by decide +kernel
theorem dX5_longest_9 : decode cX5_longest 9 = .ok (.ifCond .ne 10, 3) := by decide +kernel
theorem dX5_longest_12 : decode cX5_longest 12 = .ok (.aload_n 0, 1) := by decide +kernel
theorem dX5_longest_13 : decode cX5_longest 13 = .ok (.iconst 2, 1) := by decide +kernel
theorem dX5_longest_14 : decode cX5_longest 14 = .ok (.invokevirtual 88, 3) := by decide +kernel
theorem dX5_longest_17 : decode cX5_longest 17 = .ok (.i2l, 1) := by decide +kernel
theorem dX5_longest_18 : decode cX5_longest 18 = .ok (.lreturn, 1) := by decide +kernel
theorem dX5_longest_19 : decode cX5_longest 19 = .ok (.aload_n 0, 1) := by decide +kernel
theorem dX5_longest_20 : decode cX5_longest 20 = .ok (.getfield 43, 3) := by decide +kernel
theorem dX5_longest_23 : decode cX5_longest 23 = .ok (.iload_n 1, 1) := by decide +kernel
theorem dX5_longest_24 : decode cX5_longest 24 = .ok (.iload_n 2, 1) := by decide +kernel
theorem dX5_longest_25 : decode cX5_longest 25 = .ok (.invokevirtual 273, 3) := by decide +kernel
theorem dX5_longest_28 : decode cX5_longest 28 = .ok (.lstore_n 3, 1) := by decide +kernel
theorem dX5_longest_29 : decode cX5_longest 29 = .ok (.lload_n 3, 1) := by decide +kernel
theorem dX5_longest_30 : decode cX5_longest 30 = .ok (.ldc2_w 277, 3) := by decide +kernel
theorem dX5_longest_33 : decode cX5_longest 33 = .ok (.lcmp, 1) := by decide +kernel
theorem dX5_longest_34 : decode cX5_longest 34 = .ok (.ifCond .eq 33, 3) := by decide +kernel
theorem dX5_longest_37 : decode cX5_longest 37 = .ok (.aload_n 0, 1) := by decide +kernel
theorem dX5_longest_38 : decode cX5_longest 38 = .ok (.getfield 43, 3) := by decide +kernel
theorem dX5_longest_41 : decode cX5_longest 41 = .ok (.invokevirtual 250, 3) := by decide +kernel
theorem dX5_longest_44 : decode cX5_longest 44 = .ok (.ifCond .eq 23, 3) := by decide +kernel
theorem dX5_longest_47 : decode cX5_longest 47 = .ok (.aload_n 0, 1) := by decide +kernel
theorem dX5_longest_48 : decode cX5_longest 48 = .ok (.getfield 43, 3) := by decide +kernel
theorem dX5_longest_51 : decode cX5_longest 51 = .ok (.getfield 253, 3) := by decide +kernel
theorem dX5_longest_54 : decode cX5_longest 54 = .ok (.lconst 0, 1) := by decide +kernel
theorem dX5_longest_55 : decode cX5_longest 55 = .ok (.lcmp, 1) := by decide +kernel
theorem dX5_longest_56 : decode cX5_longest 56 = .ok (.ifCond .le 11, 3) := by decide +kernel
theorem dX5_longest_59 : decode cX5_longest 59 = .ok (.aload_n 0, 1) := by decide +kernel
theorem dX5_longest_60 : decode cX5_longest 60 = .ok (.bipush 9, 2) := by decide +kernel
theorem dX5_longest_62 : decode cX5_longest 62 = .ok (.invokevirtual 88, 3) := by decide +kernel
theorem dX5_longest_65 : decode cX5_longest 65 = .ok (.i2l, 1) := by decide +kernel
theorem dX5_longest_66 : decode cX5_longest 66 = .ok (.lreturn, 1) := by decide +kernel
theorem dX5_longest_67 : decode cX5_longest 67 = .ok (.aload_n 0, 1) := by decide +kernel
theorem dX5_longest_68 : decode cX5_longest 68 = .ok (.lload_n 3, 1) := by decide +kernel
theorem dX5_longest_69 : decode cX5_longest 69 = .ok (.invokevirtual 269, 3) := by decide +kernel
theorem dX5_longest_72 : decode cX5_longest 72 = .ok (.lreturn, 1) := by decide +kernel
theorem dX5_again_0 : decode cX5_again 0 = .ok (.iload_n 1, 1) := by decide +kernel
theorem dX5_again_1 : decode cX5_again 1 = .ok (.ifCond .lt 8, 3) := by decide +kernel
theorem dX5_again_4 : decode cX5_again 4 = .ok (.iload_n 1, 1) := by decide +kernel
theorem dX5_again_5 : decode cX5_again 5 = .ok (.iconst 1, 1) := by decide +kernel
theorem dX5_again_6 : decode cX5_again 6 = .ok (.if_icmp .le 9, 3) := by decide +kernel
theorem dX5_again_9 : decode cX5_again 9 = .ok (.aload_n 0, 1) := by decide +kernel
theorem dX5_again_10 : decode cX5_again 10 = .ok (.iconst 2, 1) := by decide +kernel
theorem dX5_again_11 : decode cX5_again 11 = .ok (.invokevirtual 88, 3) := by decide +kernel
theorem dX5_again_14 : decode cX5_again 14 = .ok (.ireturn, 1) := by decide +kernel
theorem dX5_again_15 : decode cX5_again 15 = .ok (.aload_n 0, 1) := by decide +kernel
theorem dX5_again_16 : decode cX5_again 16 = .ok (.getfield 43, 3) := by decide +kernel
theorem dX5_again_19 : decode cX5_again 19 = .ok (.invokevirtual 250, 3) := by decide +kernel
theorem dX5_again_22 : decode cX5_again 22 = .ok (.ifCond .ne 10, 3) := by decide +kernel
theorem dX5_again_25 : decode cX5_again 25 = .ok (.aload_n 0, 1) := by decide +kernel
theorem dX5_again_26 : decode cX5_again 26 = .ok (.bipush 8, 2) := by decide +kernel
theorem dX5_again_28 : decode cX5_again 28 = .ok (.invokevirtual 88, 3) := by decide +kernel
theorem dX5_again_31 : decode cX5_again 31 = .ok (.ireturn, 1) := by decide +kernel
theorem dX5_again_32 : decode cX5_again 32 = .ok (.aload_n 0, 1) := by decide +kernel
theorem dX5_again_33 : decode cX5_again 33 = .ok (.getfield 43, 3) := by decide +kernel
theorem dX5_again_36 : decode cX5_again 36 = .ok (.invokevirtual 279, 3) := by decide +kernel
theorem dX5_again_39 : decode cX5_again 39 = .ok (.ifCond .ne 10, 3) := by decide +kernel
theorem dX5_again_42 : decode cX5_again 42 = .ok (.aload_n 0, 1) := by decide +kernel
theorem dX5_again_43 : decode cX5_again 43 = .ok (.bipush 10, 2) := by decide +kernel
theorem dX5_again_45 : decode cX5_again 45 = .ok (.invokevirtual 88, 3) := by decide +kernel
theorem dX5_again_48 : decode cX5_again 48 = .ok (.ireturn, 1) := by decide +kernel
theorem dX5_again_49 : decode cX5_again 49 = .ok (.aload_n 0, 1) := by decide +kernel
theorem dX5_again_50 : decode cX5_again 50 = .ok (.iload_n 1, 1) := by decide +kernel
theorem dX5_again_51 : decode cX5_again 51 = .ok (.ifCond .ne 13, 3) := by decide +kernel
theorem dX5_again_54 : decode cX5_again 54 = .ok (.aload_n 0, 1) := by decide +kernel
theorem dX5_again_55 : decode cX5_again 55 = .ok (.getfield 43, 3) := by decide +kernel
theorem dX5_again_58 : decode cX5_again 58 = .ok (.getfield 282, 3) := by decide +kernel
theorem dX5_again_61 : decode cX5_again 61 = .ok (.goto 10, 3) := by decide +kernel
theorem dX5_again_64 : decode cX5_again 64 = .ok (.aload_n 0, 1) := by decide +kernel
theorem dX5_again_65 : decode cX5_again 65 = .ok (.getfield 43, 3) := by decide +kernel
theorem dX5_again_68 : decode cX5_again 68 = .ok (.getfield 285, 3) := by decide +kernel
theorem dX5_again_71 : decode cX5_again 71 = .ok (.invokevirtual 126, 3) := by decide +kernel
theorem dX5_again_74 : decode cX5_again 74 = .ok (.ireturn, 1) := by decide +kernel
theorem dX5_out_0 : decode cX5_out 0 = .ok (.iload_n 1, 1) := by decide +kernel
theorem dX5_out_1 : decode cX5_out 1 = .ok (.ifCond .lt 11, 3) := by decide +kernel
theorem dX5_out_4 : decode cX5_out 4 = .ok (.iload_n 1, 1) := by decide +kernel
theorem dX5_out_5 : decode cX5_out 5 = .ok (.aload_n 0, 1) := by decide +kernel
theorem dX5_out_6 : decode cX5_out 6 = .ok (.getfield 57, 3) := by decide +kernel
theorem dX5_out_9 : decode cX5_out 9 = .ok (.if_icmp .lt 14, 3) := by decide +kernel
theorem dX5_out_12 : decode cX5_out 12 = .ok (.new 288, 3) := by decide +kernel
theorem dX5_out_15 : decode cX5_out 15 = .ok (.dup, 1) := by decide +kernel
theorem dX5_out_16 : decode cX5_out 16 = .ok (.ldc_w 290, 3) := by decide +kernel
theorem dX5_out_19 : decode cX5_out 19 = .ok (.invokespecial 292, 3) := by decide +kernel
theorem dX5_out_22 : decode cX5_out 22 = .ok (.athrow, 1) := by decide +kernel
theorem dX5_out_23 : decode cX5_out 23 = .ok (.aload_n 0, 1) := by decide +kernel
theorem dX5_out_24 : decode cX5_out 24 = .ok (.getfield 54, 3) := by decide +kernel
theorem dX5_out_27 : decode cX5_out 27 = .ok (.iload_n 1, 1) := by decide +kernel
theorem dX5_out_28 : decode cX5_out 28 = .ok (.iaload, 1) := by decide +kernel
theorem dX5_out_29 : decode cX5_out 29 = .ok (.ireturn, 1) := by decide +kernel
theorem dX5_accept_0 : decode cX5_accept 0 = .ok (.aload_n 0, 1) := by decide +kernel
theorem dX5_accept_1 : decode cX5_accept 1 = .ok (.iconst 0, 1) := by decide +kernel
theorem dX5_accept_2 : decode cX5_accept 2 = .ok (.putfield 9, 3) := by decide +kernel
theorem dX5_accept_5 : decode cX5_accept 5 = .ok (.iconst 1, 1) := by decide +kernel
theorem dX5_accept_6 : decode cX5_accept 6 = .ok (.ireturn, 1) := by decide +kernel
theorem dX5_refuse_0 : decode cX5_refuse 0 = .ok (.aload_n 0, 1) := by decide +kernel
theorem dX5_refuse_1 : decode cX5_refuse 1 = .ok (.iload_n 1, 1) := by decide +kernel
theorem dX5_refuse_2 : decode cX5_refuse 2 = .ok (.putfield 9, 3) := by decide +kernel
theorem dX5_refuse_5 : decode cX5_refuse 5 = .ok (.iconst 0, 1) := by decide +kernel
theorem dX5_refuse_6 : decode cX5_refuse 6 = .ok (.ireturn, 1) := by decide +kernel
theorem dX5_answer_0 : decode cX5_answer 0 = .ok (.aload_n 0, 1) := by decide +kernel
theorem dX5_answer_1 : decode cX5_answer 1 = .ok (.iconst 0, 1) := by decide +kernel
theorem dX5_answer_2 : decode cX5_answer 2 = .ok (.putfield 9, 3) := by decide +kernel
theorem dX5_answer_5 : decode cX5_answer 5 = .ok (.iload_n 1, 1) := by decide +kernel
theorem dX5_answer_6 : decode cX5_answer 6 = .ok (.ireturn, 1) := by decide +kernel
theorem dX5_lack_0 : decode cX5_lack 0 = .ok (.aload_n 0, 1) := by decide +kernel
theorem dX5_lack_1 : decode cX5_lack 1 = .ok (.iload_n 1, 1) := by decide +kernel
theorem dX5_lack_2 : decode cX5_lack 2 = .ok (.putfield 9, 3) := by decide +kernel
theorem dX5_lack_5 : decode cX5_lack 5 = .ok (.iconst (-1), 1) := by decide +kernel
theorem dX5_lack_6 : decode cX5_lack 6 = .ok (.ireturn, 1) := by decide +kernel
theorem dX5_sumOrNone_0 : decode cX5_sumOrNone 0 = .ok (.aload_n 0, 1) := by decide +kernel
theorem dX5_sumOrNone_1 : decode cX5_sumOrNone 1 = .ok (.lload_n 1, 1) := by decide +kernel
theorem dX5_sumOrNone_2 : decode cX5_sumOrNone 2 = .ok (.ldc2_w 277, 3) := by decide +kernel
theorem dX5_sumOrNone_5 : decode cX5_sumOrNone 5 = .ok (.lcmp, 1) := by decide +kernel
theorem dX5_sumOrNone_6 : decode cX5_sumOrNone 6 = .ok (.ifCond .ne 8, 3) := by decide +kernel
theorem dX5_sumOrNone_9 : decode cX5_sumOrNone 9 = .ok (.bipush 8, 2) := by decide +kernel
theorem dX5_sumOrNone_11 : decode cX5_sumOrNone 11 = .ok (.goto 4, 3) := by decide +kernel
theorem dX5_sumOrNone_14 : decode cX5_sumOrNone 14 = .ok (.iconst 0, 1) := by decide +kernel
theorem dX5_sumOrNone_15 : decode cX5_sumOrNone 15 = .ok (.putfield 9, 3) := by decide +kernel
theorem dX5_sumOrNone_18 : decode cX5_sumOrNone 18 = .ok (.lload_n 1, 1) := by decide +kernel
theorem dX5_sumOrNone_19 : decode cX5_sumOrNone 19 = .ok (.ldc2_w 277, 3) := by decide +kernel
theorem dX5_sumOrNone_22 : decode cX5_sumOrNone 22 = .ok (.lcmp, 1) := by decide +kernel
theorem dX5_sumOrNone_23 : decode cX5_sumOrNone 23 = .ok (.ifCond .ne 9, 3) := by decide +kernel
theorem dX5_sumOrNone_26 : decode cX5_sumOrNone 26 = .ok (.ldc2_w 295, 3) := by decide +kernel
theorem dX5_sumOrNone_29 : decode cX5_sumOrNone 29 = .ok (.goto 4, 3) := by decide +kernel
theorem dX5_sumOrNone_32 : decode cX5_sumOrNone 32 = .ok (.lload_n 1, 1) := by decide +kernel
theorem dX5_sumOrNone_33 : decode cX5_sumOrNone 33 = .ok (.lreturn, 1) := by decide +kernel
theorem dX5_sheetAt_0 : decode cX5_sheetAt 0 = .ok (.iload_n 1, 1) := by decide +kernel
theorem dX5_sheetAt_1 : decode cX5_sheetAt 1 = .ok (.ifCond .lt 21, 3) := by decide +kernel
theorem dX5_sheetAt_4 : decode cX5_sheetAt 4 = .ok (.iload_n 1, 1) := by decide +kernel
theorem dX5_sheetAt_5 : decode cX5_sheetAt 5 = .ok (.aload_n 0, 1) := by decide +kernel
theorem dX5_sheetAt_6 : decode cX5_sheetAt 6 = .ok (.getfield 15, 3) := by decide +kernel
theorem dX5_sheetAt_9 : decode cX5_sheetAt 9 = .ok (.arraylength, 1) := by decide +kernel
theorem dX5_sheetAt_10 : decode cX5_sheetAt 10 = .ok (.if_icmp .ge 12, 3) := by decide +kernel
theorem dX5_sheetAt_13 : decode cX5_sheetAt 13 = .ok (.aload_n 0, 1) := by decide +kernel
theorem dX5_sheetAt_14 : decode cX5_sheetAt 14 = .ok (.getfield 15, 3) := by decide +kernel
theorem dX5_sheetAt_17 : decode cX5_sheetAt 17 = .ok (.iload_n 1, 1) := by decide +kernel
theorem dX5_sheetAt_18 : decode cX5_sheetAt 18 = .ok (.aaload, 1) := by decide +kernel
theorem dX5_sheetAt_19 : decode cX5_sheetAt 19 = .ok (.goto 4, 3) := by decide +kernel
theorem dX5_sheetAt_22 : decode cX5_sheetAt 22 = .ok (.aconst_null, 1) := by decide +kernel
theorem dX5_sheetAt_23 : decode cX5_sheetAt 23 = .ok (.areturn, 1) := by decide +kernel
theorem dX5_isKind_0 : decode cX5_isKind 0 = .ok (.iload_n 0, 1) := by decide +kernel
theorem dX5_isKind_1 : decode cX5_isKind 1 = .ok (.ifCond .lt 12, 3) := by decide +kernel
theorem dX5_isKind_4 : decode cX5_isKind 4 = .ok (.iload_n 0, 1) := by decide +kernel
theorem dX5_isKind_5 : decode cX5_isKind 5 = .ok (.iconst 4, 1) := by decide +kernel
theorem dX5_isKind_6 : decode cX5_isKind 6 = .ok (.if_icmp .ge 7, 3) := by decide +kernel
theorem dX5_isKind_9 : decode cX5_isKind 9 = .ok (.iconst 1, 1) := by decide +kernel
theorem dX5_isKind_10 : decode cX5_isKind 10 = .ok (.goto 4, 3) := by decide +kernel
theorem dX5_isKind_13 : decode cX5_isKind 13 = .ok (.iconst 0, 1) := by decide +kernel
theorem dX5_isKind_14 : decode cX5_isKind 14 = .ok (.ireturn, 1) := by decide +kernel
