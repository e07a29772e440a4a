theorem dX3_sumOf_69 : decode cX3_sumOf 69 = .ok (.goto (-45), 3) := by decide +kernel
theorem dX3_sumOf_72 : decode cX3_sumOf 72 = .ok (.aload_n 0, 1) := by decide +kernel
theorem dX3_sumOf_73 : decode cX3_sumOf 73 = .ok (.getfield 28, 3) := by decide +kernel
theorem dX3_sumOf_76 : decode cX3_sumOf 76 = .ok (.iload_n 3, 1) := by decide +kernel
theorem dX3_sumOf_77 : decode cX3_sumOf 77 = .ok (.laload, 1) := by decide +kernel
theorem dX3_sumOf_78 : decode cX3_sumOf 78 = .ok (.lreturn, 1) := by decide +kernel
theorem dX3_longestSum_0 : decode cX3_longestSum 0 = .ok (.aload_n 0, 1) := by decide +kernel
theorem dX3_longestSum_1 : decode cX3_longestSum 1 = .ok (.iload_n 2, 1) := by decide +kernel
theorem dX3_longestSum_2 : decode cX3_longestSum 2 = .ok (.invokevirtual 93, 3) := by decide +kernel
theorem dX3_longestSum_5 : decode cX3_longestSum 5 = .ok (.aload_n 0, 1) := by decide +kernel
theorem dX3_longestSum_6 : decode cX3_longestSum 6 = .ok (.getfield 28, 3) := by decide +kernel
theorem dX3_longestSum_9 : decode cX3_longestSum 9 = .ok (.iload_n 1, 1) := by decide +kernel
theorem dX3_longestSum_10 : decode cX3_longestSum 10 = .ok (.laload, 1) := by decide +kernel
theorem dX3_longestSum_11 : decode cX3_longestSum 11 = .ok (.lstore_n 3, 1) := by decide +kernel
theorem dX3_longestSum_12 : decode cX3_longestSum 12 = .ok (.iconst 1, 1) := by decide +kernel
theorem dX3_longestSum_13 : decode cX3_longestSum 13 = .ok (.istore 5, 2) := by decide +kernel
theorem dX3_longestSum_15 : decode cX3_longestSum 15 = .ok (.iload 5, 2) := by decide +kernel
theorem dX3_longestSum_17 : decode cX3_longestSum 17 = .ok (.aload_n 0, 1) := by decide +kernel
theorem dX3_longestSum_18 : decode cX3_longestSum 18 = .ok (.getfield 9, 3) := by decide +kernel
theorem dX3_longestSum_21 : decode cX3_longestSum 21 = .ok (.if_icmp .ge 28, 3) := by decide +kernel
theorem dX3_longestSum_24 : decode cX3_longestSum 24 = .ok (.aload_n 0, 1) := by decide +kernel
theorem dX3_longestSum_25 : decode cX3_longestSum 25 = .ok (.aload_n 0, 1) := by decide +kernel
theorem dX3_longestSum_26 : decode cX3_longestSum 26 = .ok (.getfield 15, 3) := by decide +kernel
theorem dX3_longestSum_29 : decode cX3_longestSum 29 = .ok (.invokevirtual 97, 3) := by decide +kernel
theorem dX3_longestSum_32 : decode cX3_longestSum 32 = .ok (.lload_n 3, 1) := by decide +kernel
theorem dX3_longestSum_33 : decode cX3_longestSum 33 = .ok (.aload_n 0, 1) := by decide +kernel
theorem dX3_longestSum_34 : decode cX3_longestSum 34 = .ok (.getfield 28, 3) := by decide +kernel
theorem dX3_longestSum_37 : decode cX3_longestSum 37 = .ok (.iload_n 1, 1) := by decide +kernel
theorem dX3_longestSum_38 : decode cX3_longestSum 38 = .ok (.laload, 1) := by decide +kernel
theorem dX3_longestSum_39 : decode cX3_longestSum 39 = .ok (.invokestatic 82, 3) := by decide +kernel
theorem dX3_longestSum_42 : decode cX3_longestSum 42 = .ok (.lstore_n 3, 1) := by decide +kernel
theorem dX3_longestSum_43 : decode cX3_longestSum 43 = .ok (.iinc 5 1, 3) := by decide +kernel
theorem dX3_longestSum_46 : decode cX3_longestSum 46 = .ok (.goto (-31), 3) := by decide +kernel
theorem dX3_longestSum_49 : decode cX3_longestSum 49 = .ok (.lload_n 3, 1) := by decide +kernel
theorem dX3_longestSum_50 : decode cX3_longestSum 50 = .ok (.lreturn, 1) := by decide +kernel
theorem dX3_findPace_0 : decode cX3_findPace 0 = .ok (.aload_n 0, 1) := by decide +kernel
theorem dX3_findPace_1 : decode cX3_findPace 1 = .ok (.iconst 0, 1) := by decide +kernel
theorem dX3_findPace_2 : decode cX3_findPace 2 = .ok (.putfield 49, 3) := by decide +kernel
theorem dX3_findPace_5 : decode cX3_findPace 5 = .ok (.aload_n 0, 1) := by decide +kernel
theorem dX3_findPace_6 : decode cX3_findPace 6 = .ok (.getfield 15, 3) := by decide +kernel
theorem dX3_findPace_9 : decode cX3_findPace 9 = .ok (.iconst 0, 1) := by decide +kernel
theorem dX3_findPace_10 : decode cX3_findPace 10 = .ok (.aload_n 0, 1) := by decide +kernel
theorem dX3_findPace_11 : decode cX3_findPace 11 = .ok (.getfield 19, 3) := by decide +kernel
theorem dX3_findPace_14 : decode cX3_findPace 14 = .ok (.iconst 0, 1) := by decide +kernel
theorem dX3_findPace_15 : decode cX3_findPace 15 = .ok (.bipush 100, 2) := by decide +kernel
theorem dX3_findPace_17 : decode cX3_findPace 17 = .ok (.invokestatic 87, 3) := by decide +kernel
theorem dX3_findPace_20 : decode cX3_findPace 20 = .ok (.iconst 1, 1) := by decide +kernel
theorem dX3_findPace_21 : decode cX3_findPace 21 = .ok (.istore_n 1, 1) := by decide +kernel
theorem dX3_findPace_22 : decode cX3_findPace 22 = .ok (.iload_n 1, 1) := by decide +kernel
theorem dX3_findPace_23 : decode cX3_findPace 23 = .ok (.aload_n 0, 1) := by decide +kernel
theorem dX3_findPace_24 : decode cX3_findPace 24 = .ok (.getfield 9, 3) := by decide +kernel
theorem dX3_findPace_27 : decode cX3_findPace 27 = .ok (.if_icmp .gt 22, 3) := by decide +kernel
theorem dX3_findPace_30 : decode cX3_findPace 30 = .ok (.aload_n 0, 1) := by decide +kernel
theorem dX3_findPace_31 : decode cX3_findPace 31 = .ok (.iload_n 1, 1) := by decide +kernel
theorem dX3_findPace_32 : decode cX3_findPace 32 = .ok (.invokevirtual 104, 3) := by decide +kernel
theorem dX3_findPace_35 : decode cX3_findPace 35 = .ok (.aload_n 0, 1) := by decide +kernel
theorem dX3_findPace_36 : decode cX3_findPace 36 = .ok (.aload_n 0, 1) := by decide +kernel
theorem dX3_findPace_37 : decode cX3_findPace 37 = .ok (.getfield 15, 3) := by decide +kernel
theorem dX3_findPace_40 : decode cX3_findPace 40 = .ok (.invokevirtual 101, 3) := by decide +kernel
theorem dX3_findPace_43 : decode cX3_findPace 43 = .ok (.iinc 1 1, 3) := by decide +kernel
theorem dX3_findPace_46 : decode cX3_findPace 46 = .ok (.goto (-24), 3) := by decide +kernel
theorem dX3_findPace_49 : decode cX3_findPace 49 = .ok (.aload_n 0, 1) := by decide +kernel
theorem dX3_findPace_50 : decode cX3_findPace 50 = .ok (.invokevirtual 107, 3) := by decide +kernel
theorem dX3_findPace_53 : decode cX3_findPace 53 = .ok (.aload_n 0, 1) := by decide +kernel
theorem dX3_findPace_54 : decode cX3_findPace 54 = .ok (.getfield 49, 3) := by decide +kernel
theorem dX3_findPace_57 : decode cX3_findPace 57 = .ok (.ifCond .le 7, 3) := by decide +kernel
theorem dX3_findPace_60 : decode cX3_findPace 60 = .ok (.iconst 1, 1) := by decide +kernel
theorem dX3_findPace_61 : decode cX3_findPace 61 = .ok (.goto 4, 3) := by decide +kernel
theorem dX3_findPace_64 : decode cX3_findPace 64 = .ok (.iconst 0, 1) := by decide +kernel
theorem dX3_findPace_65 : decode cX3_findPace 65 = .ok (.ireturn, 1) := by decide +kernel
theorem dX3_takeRounds_0 : decode cX3_takeRounds 0 = .ok (.iconst 0, 1) := by decide +kernel
theorem dX3_takeRounds_1 : decode cX3_takeRounds 1 = .ok (.istore_n 2, 1) := by decide +kernel
theorem dX3_takeRounds_2 : decode cX3_takeRounds 2 = .ok (.iload_n 2, 1) := by decide +kernel
theorem dX3_takeRounds_3 : decode cX3_takeRounds 3 = .ok (.aload_n 0, 1) := by decide +kernel
theorem dX3_takeRounds_4 : decode cX3_takeRounds 4 = .ok (.getfield 9, 3) := by decide +kernel
theorem dX3_takeRounds_7 : decode cX3_takeRounds 7 = .ok (.if_icmp .ge 68, 3) := by decide +kernel
theorem dX3_takeRounds_10 : decode cX3_takeRounds 10 = .ok (.aload_n 0, 1) := by decide +kernel
theorem dX3_takeRounds_11 : decode cX3_takeRounds 11 = .ok (.getfield 19, 3) := by decide +kernel
theorem dX3_takeRounds_14 : decode cX3_takeRounds 14 = .ok (.iload_n 2, 1) := by decide +kernel
theorem dX3_takeRounds_15 : decode cX3_takeRounds 15 = .ok (.iload_n 2, 1) := by decide +kernel
theorem dX3_takeRounds_16 : decode cX3_takeRounds 16 = .ok (.invokestatic 66, 3) := by decide +kernel
theorem dX3_takeRounds_19 : decode cX3_takeRounds 19 = .ok (.laload, 1) := by decide +kernel
theorem dX3_takeRounds_20 : decode cX3_takeRounds 20 = .ok (.lstore_n 3, 1) := by decide +kernel
theorem dX3_takeRounds_21 : decode cX3_takeRounds 21 = .ok (.lload_n 3, 1) := by decide +kernel
theorem dX3_takeRounds_22 : decode cX3_takeRounds 22 = .ok (.ldc2_w 58, 3) := by decide +kernel
theorem dX3_takeRounds_25 : decode cX3_takeRounds 25 = .ok (.lcmp, 1) := by decide +kernel
theorem dX3_takeRounds_26 : decode cX3_takeRounds 26 = .ok (.ifCond .eq 43, 3) := by decide +kernel
theorem dX3_takeRounds_29 : decode cX3_takeRounds 29 = .ok (.aload_n 0, 1) := by decide +kernel
theorem dX3_takeRounds_30 : decode cX3_takeRounds 30 = .ok (.getfield 49, 3) := by decide +kernel
theorem dX3_takeRounds_33 : decode cX3_takeRounds 33 = .ok (.ifCond .eq 20, 3) := by decide +kernel
theorem dX3_takeRounds_36 : decode cX3_takeRounds 36 = .ok (.lload_n 3, 1) := by decide +kernel
theorem dX3_takeRounds_37 : decode cX3_takeRounds 37 = .ok (.aload_n 0, 1) := by decide +kernel
theorem dX3_takeRounds_38 : decode cX3_takeRounds 38 = .ok (.getfield 46, 3) := by decide +kernel
theorem dX3_takeRounds_41 : decode cX3_takeRounds 41 = .ok (.lmul, 1) := by decide +kernel
theorem dX3_takeRounds_42 : decode cX3_takeRounds 42 = .ok (.aload_n 0, 1) := by decide +kernel
theorem dX3_takeRounds_43 : decode cX3_takeRounds 43 = .ok (.getfield 42, 3) := by decide +kernel
theorem dX3_takeRounds_46 : decode cX3_takeRounds 46 = .ok (.iload_n 1, 1) := by decide +kernel
theorem dX3_takeRounds_47 : decode cX3_takeRounds 47 = .ok (.i2l, 1) := by decide +kernel
theorem dX3_takeRounds_48 : decode cX3_takeRounds 48 = .ok (.lmul, 1) := by decide +kernel
theorem dX3_takeRounds_49 : decode cX3_takeRounds 49 = .ok (.lcmp, 1) := by decide +kernel
theorem dX3_takeRounds_50 : decode cX3_takeRounds 50 = .ok (.ifCond .le 19, 3) := by decide +kernel
theorem dX3_takeRounds_53 : decode cX3_takeRounds 53 = .ok (.aload_n 0, 1) := by decide +kernel
theorem dX3_takeRounds_54 : decode cX3_takeRounds 54 = .ok (.lload_n 3, 1) := by decide +kernel
theorem dX3_takeRounds_55 : decode cX3_takeRounds 55 = .ok (.putfield 42, 3) := by decide +kernel
theorem dX3_takeRounds_58 : decode cX3_takeRounds 58 = .ok (.aload_n 0, 1) := by decide +kernel
theorem dX3_takeRounds_59 : decode cX3_takeRounds 59 = .ok (.iload_n 1, 1) := by decide +kernel
theorem dX3_takeRounds_60 : decode cX3_takeRounds 60 = .ok (.i2l, 1) := by decide +kernel
theorem dX3_takeRounds_61 : decode cX3_takeRounds 61 = .ok (.putfield 46, 3) := by decide +kernel
theorem dX3_takeRounds_64 : decode cX3_takeRounds 64 = .ok (.aload_n 0, 1) := by decide +kernel
theorem dX3_takeRounds_65 : decode cX3_takeRounds 65 = .ok (.iload_n 1, 1) := by decide +kernel
theorem dX3_takeRounds_66 : decode cX3_takeRounds 66 = .ok (.putfield 49, 3) := by decide +kernel
theorem dX3_takeRounds_69 : decode cX3_takeRounds 69 = .ok (.iinc 2 1, 3) := by decide +kernel
theorem dX3_takeRounds_72 : decode cX3_takeRounds 72 = .ok (.goto (-70), 3) := by decide +kernel
theorem dX3_takeRounds_75 : decode cX3_takeRounds 75 = .ok (.return_, 1) := by decide +kernel
theorem dX3_reducePace_0 : decode cX3_reducePace 0 = .ok (.aload_n 0, 1) := by decide +kernel
theorem dX3_reducePace_1 : decode cX3_reducePace 1 = .ok (.getfield 46, 3) := by decide +kernel
theorem dX3_reducePace_4 : decode cX3_reducePace 4 = .ok (.lstore_n 1, 1) := by decide +kernel
theorem dX3_reducePace_5 : decode cX3_reducePace 5 = .ok (.lload_n 1, 1) := by decide +kernel
theorem dX3_reducePace_6 : decode cX3_reducePace 6 = .ok (.lconst 1, 1) := by decide +kernel
theorem dX3_reducePace_7 : decode cX3_reducePace 7 = .ok (.lcmp, 1) := by decide +kernel
theorem dX3_reducePace_8 : decode cX3_reducePace 8 = .ok (.ifCond .le 53, 3) := by decide +kernel
theorem dX3_reducePace_11 : decode cX3_reducePace 11 = .ok (.aload_n 0, 1) := by decide +kernel
theorem dX3_reducePace_12 : decode cX3_reducePace 12 = .ok (.getfield 42, 3) := by decide +kernel
theorem dX3_reducePace_15 : decode cX3_reducePace 15 = .ok (.lload_n 1, 1) := by decide +kernel
theorem dX3_reducePace_16 : decode cX3_reducePace 16 = .ok (.lrem, 1) := by decide +kernel
theorem dX3_reducePace_17 : decode cX3_reducePace 17 = .ok (.lconst 0, 1) := by decide +kernel
theorem dX3_reducePace_18 : decode cX3_reducePace 18 = .ok (.lcmp, 1) := by decide +kernel
theorem dX3_reducePace_19 : decode cX3_reducePace 19 = .ok (.ifCond .ne 35, 3) := by decide +kernel
theorem dX3_reducePace_22 : decode cX3_reducePace 22 = .ok (.aload_n 0, 1) := by decide +kernel
theorem dX3_reducePace_23 : decode cX3_reducePace 23 = .ok (.getfield 46, 3) := by decide +kernel
theorem dX3_reducePace_26 : decode cX3_reducePace 26 = .ok (.lload_n 1, 1) := by decide +kernel
theorem dX3_reducePace_27 : decode cX3_reducePace 27 = .ok (.lrem, 1) := by decide +kernel
theorem dX3_reducePace_28 : decode cX3_reducePace 28 = .ok (.lconst 0, 1) := by decide +kernel
theorem dX3_reducePace_29 : decode cX3_reducePace 29 = .ok (.lcmp, 1) := by decide +kernel
theorem dX3_reducePace_30 : decode cX3_reducePace 30 = .ok (.ifCond .ne 24, 3) := by decide +kernel
theorem dX3_reducePace_33 : decode cX3_reducePace 33 = .ok (.aload_n 0, 1) := by decide +kernel
theorem dX3_reducePace_34 : decode cX3_reducePace 34 = .ok (.dup, 1) := by decide +kernel
theorem dX3_reducePace_35 : decode cX3_reducePace 35 = .ok (.getfield 42, 3) := by decide +kernel
theorem dX3_reducePace_38 : decode cX3_reducePace 38 = .ok (.lload_n 1, 1) := by decide +kernel
theorem dX3_reducePace_39 : decode cX3_reducePace 39 = .ok (.ldiv, 1) := by decide +kernel
theorem dX3_reducePace_40 : decode cX3_reducePace 40 = .ok (.putfield 42, 3) := by decide +kernel
theorem dX3_reducePace_43 : decode cX3_reducePace 43 = .ok (.aload_n 0, 1) := by decide +kernel
theorem dX3_reducePace_44 : decode cX3_reducePace 44 = .ok (.dup, 1) := by decide +kernel
theorem dX3_reducePace_45 : decode cX3_reducePace 45 = .ok (.getfield 46, 3) := by decide +kernel
theorem dX3_reducePace_48 : decode cX3_reducePace 48 = .ok (.lload_n 1, 1) := by decide +kernel
theorem dX3_reducePace_49 : decode cX3_reducePace 49 = .ok (.ldiv, 1) := by decide +kernel
theorem dX3_reducePace_50 : decode cX3_reducePace 50 = .ok (.putfield 46, 3) := by decide +kernel
theorem dX3_reducePace_53 : decode cX3_reducePace 53 = .ok (.return_, 1) := by decide +kernel
theorem dX3_reducePace_54 : decode cX3_reducePace 54 = .ok (.lload_n 1, 1) := by decide +kernel
theorem dX3_reducePace_55 : decode cX3_reducePace 55 = .ok (.lconst 1, 1) := by decide +kernel
theorem dX3_reducePace_56 : decode cX3_reducePace 56 = .ok (.lsub, 1) := by decide +kernel
theorem dX3_reducePace_57 : decode cX3_reducePace 57 = .ok (.lstore_n 1, 1) := by decide +kernel
theorem dX3_reducePace_58 : decode cX3_reducePace 58 = .ok (.goto (-53), 3) := by decide +kernel
theorem dX3_reducePace_61 : decode cX3_reducePace 61 = .ok (.return_, 1) := by decide +kernel
theorem dX3_shiftByPace_0 : decode cX3_shiftByPace 0 = .ok (.iconst 0, 1) := by decide +kernel
theorem dX3_shiftByPace_1 : decode cX3_shiftByPace 1 = .ok (.istore_n 1, 1) := by decide +kernel
theorem dX3_shiftByPace_2 : decode cX3_shiftByPace 2 = .ok (.iload_n 1, 1) := by decide +kernel
theorem dX3_shiftByPace_3 : decode cX3_shiftByPace 3 = .ok (.bipush 100, 2) := by decide +kernel
theorem dX3_shiftByPace_5 : decode cX3_shiftByPace 5 = .ok (.if_icmp .ge 50, 3) := by decide +kernel
theorem dX3_shiftByPace_8 : decode cX3_shiftByPace 8 = .ok (.aload_n 0, 1) := by decide +kernel
theorem dX3_shiftByPace_9 : decode cX3_shiftByPace 9 = .ok (.getfield 25, 3) := by decide +kernel
theorem dX3_shiftByPace_12 : decode cX3_shiftByPace 12 = .ok (.iload_n 1, 1) := by decide +kernel
theorem dX3_shiftByPace_13 : decode cX3_shiftByPace 13 = .ok (.aload_n 0, 1) := by decide +kernel
theorem dX3_shiftByPace_14 : decode cX3_shiftByPace 14 = .ok (.getfield 15, 3) := by decide +kernel
theorem dX3_shiftByPace_17 : decode cX3_shiftByPace 17 = .ok (.iload_n 1, 1) := by decide +kernel
theorem dX3_shiftByPace_18 : decode cX3_shiftByPace 18 = .ok (.laload, 1) := by decide +kernel
theorem dX3_shiftByPace_19 : decode cX3_shiftByPace 19 = .ok (.ldc2_w 58, 3) := by decide +kernel
theorem dX3_shiftByPace_22 : decode cX3_shiftByPace 22 = .ok (.lcmp, 1) := by decide +kernel
theorem dX3_shiftByPace_23 : decode cX3_shiftByPace 23 = .ok (.ifCond .ne 9, 3) := by decide +kernel
theorem dX3_shiftByPace_26 : decode cX3_shiftByPace 26 = .ok (.ldc2_w 58, 3) := by decide +kernel
theorem dX3_shiftByPace_29 : decode cX3_shiftByPace 29 = .ok (.goto 19, 3) := by decide +kernel
theorem dX3_shiftByPace_32 : decode cX3_shiftByPace 32 = .ok (.aload_n 0, 1) := by decide +kernel
theorem dX3_shiftByPace_33 : decode cX3_shiftByPace 33 = .ok (.getfield 15, 3) := by decide +kernel
theorem dX3_shiftByPace_36 : decode cX3_shiftByPace 36 = .ok (.iload_n 1, 1) := by decide +kernel
theorem dX3_shiftByPace_37 : decode cX3_shiftByPace 37 = .ok (.laload, 1) := by decide +kernel
theorem dX3_shiftByPace_38 : decode cX3_shiftByPace 38 = .ok (.aload_n 0, 1) := by decide +kernel
theorem dX3_shiftByPace_39 : decode cX3_shiftByPace 39 = .ok (.getfield 46, 3) := by decide +kernel
theorem dX3_shiftByPace_42 : decode cX3_shiftByPace 42 = .ok (.lmul, 1) := by decide +kernel
theorem dX3_shiftByPace_43 : decode cX3_shiftByPace 43 = .ok (.aload_n 0, 1) := by decide +kernel
theorem dX3_shiftByPace_44 : decode cX3_shiftByPace 44 = .ok (.getfield 42, 3) := by decide +kernel
theorem dX3_shiftByPace_47 : decode cX3_shiftByPace 47 = .ok (.lsub, 1) := by decide +kernel
theorem dX3_shiftByPace_48 : decode cX3_shiftByPace 48 = .ok (.lastore, 1) := by decide +kernel
theorem dX3_shiftByPace_49 : decode cX3_shiftByPace 49 = .ok (.iinc 1 1, 3) := by decide +kernel
theorem dX3_shiftByPace_52 : decode cX3_shiftByPace 52 = .ok (.goto (-50), 3) := by decide +kernel
theorem dX3_shiftByPace_55 : decode cX3_shiftByPace 55 = .ok (.return_, 1) := by decide +kernel
theorem dX3_traceCritical_0 : decode cX3_traceCritical 0 = .ok (.aload_n 0, 1) := by decide +kernel
theorem dX3_traceCritical_1 : decode cX3_traceCritical 1 = .ok (.invokevirtual 110, 3) := by decide +kernel
theorem dX3_traceCritical_4 : decode cX3_traceCritical 4 = .ok (.iconst 0, 1) := by decide +kernel
theorem dX3_traceCritical_5 : decode cX3_traceCritical 5 = .ok (.istore_n 2, 1) := by decide +kernel
theorem dX3_traceCritical_6 : decode cX3_traceCritical 6 = .ok (.iload_n 2, 1) := by decide +kernel
theorem dX3_traceCritical_7 : decode cX3_traceCritical 7 = .ok (.aload_n 0, 1) := by decide +kernel
theorem dX3_traceCritical_8 : decode cX3_traceCritical 8 = .ok (.getfield 9, 3) := by decide +kernel
theorem dX3_traceCritical_11 : decode cX3_traceCritical 11 = .ok (.if_icmp .ge 43, 3) := by decide +kernel
theorem dX3_traceCritical_14 : decode cX3_traceCritical 14 = .ok (.aload_n 0, 1) := by decide +kernel
theorem dX3_traceCritical_15 : decode cX3_traceCritical 15 = .ok (.iload_n 2, 1) := by decide +kernel
theorem dX3_traceCritical_16 : decode cX3_traceCritical 16 = .ok (.invokevirtual 113, 3) := by decide +kernel
theorem dX3_traceCritical_19 : decode cX3_traceCritical 19 = .ok (.aload_n 0, 1) := by decide +kernel
theorem dX3_traceCritical_20 : decode cX3_traceCritical 20 = .ok (.getfield 34, 3) := by decide +kernel
theorem dX3_traceCritical_23 : decode cX3_traceCritical 23 = .ok (.aload_n 0, 1) := by decide +kernel
theorem dX3_traceCritical_24 : decode cX3_traceCritical 24 = .ok (.getfield 49, 3) := by decide +kernel
theorem dX3_traceCritical_27 : decode cX3_traceCritical 27 = .ok (.iload_n 2, 1) := by decide +kernel
theorem dX3_traceCritical_28 : decode cX3_traceCritical 28 = .ok (.invokestatic 66, 3) := by decide +kernel
theorem dX3_traceCritical_31 : decode cX3_traceCritical 31 = .ok (.laload, 1) := by decide +kernel
theorem dX3_traceCritical_32 : decode cX3_traceCritical 32 = .ok (.lconst 0, 1) := by decide +kernel
theorem dX3_traceCritical_33 : decode cX3_traceCritical 33 = .ok (.lcmp, 1) := by decide +kernel
theorem dX3_traceCritical_34 : decode cX3_traceCritical 34 = .ok (.ifCond .ne 14, 3) := by decide +kernel
theorem dX3_traceCritical_37 : decode cX3_traceCritical 37 = .ok (.aload_n 0, 1) := by decide +kernel
theorem dX3_traceCritical_38 : decode cX3_traceCritical 38 = .ok (.iload_n 2, 1) := by decide +kernel
theorem dX3_traceCritical_39 : decode cX3_traceCritical 39 = .ok (.aload_n 1, 1) := by decide +kernel
theorem dX3_traceCritical_40 : decode cX3_traceCritical 40 = .ok (.invokevirtual 116, 3) := by decide +kernel
theorem dX3_traceCritical_43 : decode cX3_traceCritical 43 = .ok (.aload_n 0, 1) := by decide +kernel
theorem dX3_traceCritical_44 : decode cX3_traceCritical 44 = .ok (.getfield 49, 3) := by decide +kernel
theorem dX3_traceCritical_47 : decode cX3_traceCritical 47 = .ok (.ireturn, 1) := by decide +kernel
theorem dX3_traceCritical_48 : decode cX3_traceCritical 48 = .ok (.iinc 2 1, 3) := by decide +kernel
theorem dX3_traceCritical_51 : decode cX3_traceCritical 51 = .ok (.goto (-45), 3) := by decide +kernel
theorem dX3_traceCritical_54 : decode cX3_traceCritical 54 = .ok (.iconst 0, 1) := by decide +kernel
theorem dX3_traceCritical_55 : decode cX3_traceCritical 55 = .ok (.ireturn, 1) := by decide +kernel
theorem dX3_fillBack_0 : decode cX3_fillBack 0 = .ok (.aload_n 0, 1) := by decide +kernel
theorem dX3_fillBack_1 : decode cX3_fillBack 1 = .ok (.getfield 34, 3) := by decide +kernel
theorem dX3_fillBack_4 : decode cX3_fillBack 4 = .ok (.ldc2_w 58, 3) := by decide +kernel
theorem dX3_fillBack_7 : decode cX3_fillBack 7 = .ok (.invokestatic 60, 3) := by decide +kernel
theorem dX3_fillBack_10 : decode cX3_fillBack 10 = .ok (.aload_n 0, 1) := by decide +kernel
theorem dX3_fillBack_11 : decode cX3_fillBack 11 = .ok (.getfield 34, 3) := by decide +kernel
theorem dX3_fillBack_14 : decode cX3_fillBack 14 = .ok (.iload_n 1, 1) := by decide +kernel
theorem dX3_fillBack_15 : decode cX3_fillBack 15 = .ok (.lconst 0, 1) := by decide +kernel
theorem dX3_fillBack_16 : decode cX3_fillBack 16 = .ok (.lastore, 1) := by decide +kernel
theorem dX3_fillBack_17 : decode cX3_fillBack 17 = .ok (.iconst 1, 1) := by decide +kernel
theorem dX3_fillBack_18 : decode cX3_fillBack 18 = .ok (.istore_n 2, 1) := by decide +kernel
theorem dX3_fillBack_19 : decode cX3_fillBack 19 = .ok (.iload_n 2, 1) := by decide +kernel
theorem dX3_fillBack_20 : decode cX3_fillBack 20 = .ok (.aload_n 0, 1) := by decide +kernel
theorem dX3_fillBack_21 : decode cX3_fillBack 21 = .ok (.getfield 49, 3) := by decide +kernel
theorem dX3_fillBack_24 : decode cX3_fillBack 24 = .ok (.if_icmp .gt 94, 3) := by decide +kernel
theorem dX3_fillBack_27 : decode cX3_fillBack 27 = .ok (.iconst 0, 1) := by decide +kernel
theorem dX3_fillBack_28 : decode cX3_fillBack 28 = .ok (.istore_n 3, 1) := by decide +kernel
theorem dX3_fillBack_29 : decode cX3_fillBack 29 = .ok (.iload_n 3, 1) := by decide +kernel
theorem dX3_fillBack_30 : decode cX3_fillBack 30 = .ok (.aload_n 0, 1) := by decide +kernel
theorem dX3_fillBack_31 : decode cX3_fillBack 31 = .ok (.getfield 9, 3) := by decide +kernel
theorem dX3_fillBack_34 : decode cX3_fillBack 34 = .ok (.if_icmp .ge 78, 3) := by decide +kernel
theorem dX3_fillBack_37 : decode cX3_fillBack 37 = .ok (.ldc2_w 58, 3) := by decide +kernel
theorem dX3_fillBack_40 : decode cX3_fillBack 40 = .ok (.lstore 4, 2) := by decide +kernel
theorem dX3_fillBack_42 : decode cX3_fillBack 42 = .ok (.iconst 0, 1) := by decide +kernel
theorem dX3_fillBack_43 : decode cX3_fillBack 43 = .ok (.istore 6, 2) := by decide +kernel
theorem dX3_fillBack_45 : decode cX3_fillBack 45 = .ok (.iload 6, 2) := by decide +kernel
theorem dX3_fillBack_47 : decode cX3_fillBack 47 = .ok (.aload_n 0, 1) := by decide +kernel
theorem dX3_fillBack_48 : decode cX3_fillBack 48 = .ok (.getfield 9, 3) := by decide +kernel
theorem dX3_fillBack_51 : decode cX3_fillBack 51 = .ok (.if_icmp .ge 43, 3) := by decide +kernel
theorem dX3_fillBack_54 : decode cX3_fillBack 54 = .ok (.lload 4, 2) := by decide +kernel
theorem dX3_fillBack_56 : decode cX3_fillBack 56 = .ok (.aload_n 0, 1) := by decide +kernel
theorem dX3_fillBack_57 : decode cX3_fillBack 57 = .ok (.getfield 25, 3) := by decide +kernel
theorem dX3_fillBack_60 : decode cX3_fillBack 60 = .ok (.iload 6, 2) := by decide +kernel
theorem dX3_fillBack_62 : decode cX3_fillBack 62 = .ok (.iload_n 3, 1) := by decide +kernel
theorem dX3_fillBack_63 : decode cX3_fillBack 63 = .ok (.invokestatic 66, 3) := by decide +kernel
theorem dX3_fillBack_66 : decode cX3_fillBack 66 = .ok (.laload, 1) := by decide +kernel
theorem dX3_fillBack_67 : decode cX3_fillBack 67 = .ok (.aload_n 0, 1) := by decide +kernel
theorem dX3_fillBack_68 : decode cX3_fillBack 68 = .ok (.getfield 34, 3) := by decide +kernel
theorem dX3_fillBack_71 : decode cX3_fillBack 71 = .ok (.iload_n 2, 1) := by decide +kernel
theorem dX3_fillBack_72 : decode cX3_fillBack 72 = .ok (.iconst 1, 1) := by decide +kernel
theorem dX3_fillBack_73 : decode cX3_fillBack 73 = .ok (.isub, 1) := by decide +kernel
theorem dX3_fillBack_74 : decode cX3_fillBack 74 = .ok (.iload 6, 2) := by decide +kernel
theorem dX3_fillBack_76 : decode cX3_fillBack 76 = .ok (.invokestatic 66, 3) := by decide +kernel
theorem dX3_fillBack_79 : decode cX3_fillBack 79 = .ok (.laload, 1) := by decide +kernel
theorem dX3_fillBack_80 : decode cX3_fillBack 80 = .ok (.invokestatic 78, 3) := by decide +kernel
theorem dX3_fillBack_83 : decode cX3_fillBack 83 = .ok (.invokestatic 82, 3) := by decide +kernel
theorem dX3_fillBack_86 : decode cX3_fillBack 86 = .ok (.lstore 4, 2) := by decide +kernel
theorem dX3_fillBack_88 : decode cX3_fillBack 88 = .ok (.iinc 6 1, 3) := by decide +kernel
theorem dX3_fillBack_91 : decode cX3_fillBack 91 = .ok (.goto (-46), 3) := by decide +kernel
theorem dX3_fillBack_94 : decode cX3_fillBack 94 = .ok (.aload_n 0, 1) := by decide +kernel
theorem dX3_fillBack_95 : decode cX3_fillBack 95 = .ok (.getfield 34, 3) := by decide +kernel
theorem dX3_fillBack_98 : decode cX3_fillBack 98 = .ok (.iload_n 2, 1) := by decide +kernel
theorem dX3_fillBack_99 : decode cX3_fillBack 99 = .ok (.iload_n 3, 1) := by decide +kernel
theorem dX3_fillBack_100 : decode cX3_fillBack 100 = .ok (.invokestatic 66, 3) := by decide +kernel
theorem dX3_fillBack_103 : decode cX3_fillBack 103 = .ok (.lload 4, 2) := by decide +kernel
theorem dX3_fillBack_105 : decode cX3_fillBack 105 = .ok (.lastore, 1) := by decide +kernel
theorem dX3_fillBack_106 : decode cX3_fillBack 106 = .ok (.iinc 3 1, 3) := by decide +kernel
theorem dX3_fillBack_109 : decode cX3_fillBack 109 = .ok (.goto (-80), 3) := by decide +kernel
theorem dX3_fillBack_112 : decode cX3_fillBack 112 = .ok (.iinc 2 1, 3) := by decide +kernel
theorem dX3_fillBack_115 : decode cX3_fillBack 115 = .ok (.goto (-96), 3) := by decide +kernel
theorem dX3_fillBack_118 : decode cX3_fillBack 118 = .ok (.return_, 1) := by decide +kernel
theorem dX3_writeRound_0 : decode cX3_writeRound 0 = .ok (.iload_n 1, 1) := by decide +kernel
theorem dX3_writeRound_1 : decode cX3_writeRound 1 = .ok (.istore_n 3, 1) := by decide +kernel
theorem dX3_writeRound_2 : decode cX3_writeRound 2 = .ok (.aload_n 0, 1) := by decide +kernel
theorem dX3_writeRound_3 : decode cX3_writeRound 3 = .ok (.getfield 49, 3) := by decide +kernel
theorem dX3_writeRound_6 : decode cX3_writeRound 6 = .ok (.iconst 1, 1) := by decide +kernel
theorem dX3_writeRound_7 : decode cX3_writeRound 7 = .ok (.isub, 1) := by decide +kernel
theorem dX3_writeRound_8 : decode cX3_writeRound 8 = .ok (.istore 4, 2) := by decide +kernel
theorem dX3_writeRound_10 : decode cX3_writeRound 10 = .ok (.iload 4, 2) := by decide +kernel
theorem dX3_writeRound_12 : decode cX3_writeRound 12 = .ok (.ifCond .lt 45, 3) := by decide +kernel
theorem dX3_writeRound_15 : decode cX3_writeRound 15 = .ok (.iload_n 3, 1) := by decide +kernel
theorem dX3_writeRound_16 : decode cX3_writeRound 16 = .ok (.iconst (-1), 1) := by decide +kernel
theorem dX3_writeRound_17 : decode cX3_writeRound 17 = .ok (.if_icmp .eq 40, 3) := by decide +kernel
theorem dX3_writeRound_20 : decode cX3_writeRound 20 = .ok (.aload_n 0, 1) := by decide +kernel
theorem dX3_writeRound_21 : decode cX3_writeRound 21 = .ok (.getfield 49, 3) := by decide +kernel
theorem dX3_writeRound_24 : decode cX3_writeRound 24 = .ok (.iconst 1, 1) := by decide +kernel
theorem dX3_writeRound_25 : decode cX3_writeRound 25 = .ok (.isub, 1) := by decide +kernel
theorem dX3_writeRound_26 : decode cX3_writeRound 26 = .ok (.iload 4, 2) := by decide +kernel
theorem dX3_writeRound_28 : decode cX3_writeRound 28 = .ok (.isub, 1) := by decide +kernel
theorem dX3_writeRound_29 : decode cX3_writeRound 29 = .ok (.istore 5, 2) := by decide +kernel
theorem dX3_writeRound_31 : decode cX3_writeRound 31 = .ok (.iload 5, 2) := by decide +kernel
theorem dX3_writeRound_33 : decode cX3_writeRound 33 = .ok (.aload_n 2, 1) := by decide +kernel
theorem dX3_writeRound_34 : decode cX3_writeRound 34 = .ok (.arraylength, 1) := by decide +kernel
theorem dX3_writeRound_35 : decode cX3_writeRound 35 = .ok (.if_icmp .ge 8, 3) := by decide +kernel
theorem dX3_writeRound_38 : decode cX3_writeRound 38 = .ok (.aload_n 2, 1) := by decide +kernel
theorem dX3_writeRound_39 : decode cX3_writeRound 39 = .ok (.iload 5, 2) := by decide +kernel
theorem dX3_writeRound_41 : decode cX3_writeRound 41 = .ok (.iload_n 3, 1) := by decide +kernel
theorem dX3_writeRound_42 : decode cX3_writeRound 42 = .ok (.iastore, 1) := by decide +kernel
theorem dX3_writeRound_43 : decode cX3_writeRound 43 = .ok (.aload_n 0, 1) := by decide +kernel
theorem dX3_writeRound_44 : decode cX3_writeRound 44 = .ok (.iload_n 3, 1) := by decide +kernel
theorem dX3_writeRound_45 : decode cX3_writeRound 45 = .ok (.iload 4, 2) := by decide +kernel
theorem dX3_writeRound_47 : decode cX3_writeRound 47 = .ok (.invokevirtual 120, 3) := by decide +kernel
theorem dX3_writeRound_50 : decode cX3_writeRound 50 = .ok (.istore_n 3, 1) := by decide +kernel
theorem dX3_writeRound_51 : decode cX3_writeRound 51 = .ok (.iinc 4 (-1), 3) := by decide +kernel
theorem dX3_writeRound_54 : decode cX3_writeRound 54 = .ok (.goto (-44), 3) := by decide +kernel
theorem dX3_writeRound_57 : decode cX3_writeRound 57 = .ok (.return_, 1) := by decide +kernel
theorem dX3_leastNext_0 : decode cX3_leastNext 0 = .ok (.iconst 0, 1) := by decide +kernel
theorem dX3_leastNext_1 : decode cX3_leastNext 1 = .ok (.istore_n 3, 1) := by decide +kernel
theorem dX3_leastNext_2 : decode cX3_leastNext 2 = .ok (.iload_n 3, 1) := by decide +kernel
theorem dX3_leastNext_3 : decode cX3_leastNext 3 = .ok (.aload_n 0, 1) := by decide +kernel
theorem dX3_leastNext_4 : decode cX3_leastNext 4 = .ok (.getfield 9, 3) := by decide +kernel
theorem dX3_leastNext_7 : decode cX3_leastNext 7 = .ok (.if_icmp .ge 63, 3) := by decide +kernel
theorem dX3_leastNext_10 : decode cX3_leastNext 10 = .ok (.aload_n 0, 1) := by decide +kernel
theorem dX3_leastNext_11 : decode cX3_leastNext 11 = .ok (.getfield 25, 3) := by decide +kernel
theorem dX3_leastNext_14 : decode cX3_leastNext 14 = .ok (.iload_n 3, 1) := by decide +kernel
theorem dX3_leastNext_15 : decode cX3_leastNext 15 = .ok (.iload_n 1, 1) := by decide +kernel
theorem dX3_leastNext_16 : decode cX3_leastNext 16 = .ok (.invokestatic 66, 3) := by decide +kernel
theorem dX3_leastNext_19 : decode cX3_leastNext 19 = .ok (.laload, 1) := by decide +kernel
theorem dX3_leastNext_20 : decode cX3_leastNext 20 = .ok (.aload_n 0, 1) := by decide +kernel
theorem dX3_leastNext_21 : decode cX3_leastNext 21 = .ok (.getfield 34, 3) := by decide +kernel
theorem dX3_leastNext_24 : decode cX3_leastNext 24 = .ok (.iload_n 2, 1) := by decide +kernel
theorem dX3_leastNext_25 : decode cX3_leastNext 25 = .ok (.iload_n 3, 1) := by decide +kernel
theorem dX3_leastNext_26 : decode cX3_leastNext 26 = .ok (.invokestatic 66, 3) := by decide +kernel
theorem dX3_leastNext_29 : decode cX3_leastNext 29 = .ok (.laload, 1) := by decide +kernel
theorem dX3_leastNext_30 : decode cX3_leastNext 30 = .ok (.invokestatic 78, 3) := by decide +kernel
theorem dX3_leastNext_33 : decode cX3_leastNext 33 = .ok (.lstore 4, 2) := by decide +kernel
theorem dX3_leastNext_35 : decode cX3_leastNext 35 = .ok (.lload 4, 2) := by decide +kernel
theorem dX3_leastNext_37 : decode cX3_leastNext 37 = .ok (.ldc2_w 58, 3) := by decide +kernel
theorem dX3_leastNext_40 : decode cX3_leastNext 40 = .ok (.lcmp, 1) := by decide +kernel
theorem dX3_leastNext_41 : decode cX3_leastNext 41 = .ok (.ifCond .eq 23, 3) := by decide +kernel
theorem dX3_leastNext_44 : decode cX3_leastNext 44 = .ok (.lload 4, 2) := by decide +kernel
theorem dX3_leastNext_46 : decode cX3_leastNext 46 = .ok (.aload_n 0, 1) := by decide +kernel
theorem dX3_leastNext_47 : decode cX3_leastNext 47 = .ok (.getfield 34, 3) := by decide +kernel
theorem dX3_leastNext_50 : decode cX3_leastNext 50 = .ok (.iload_n 2, 1) := by decide +kernel
theorem dX3_leastNext_51 : decode cX3_leastNext 51 = .ok (.iconst 1, 1) := by decide +kernel
theorem dX3_leastNext_52 : decode cX3_leastNext 52 = .ok (.iadd, 1) := by decide +kernel
theorem dX3_leastNext_53 : decode cX3_leastNext 53 = .ok (.iload_n 1, 1) := by decide +kernel
theorem dX3_leastNext_54 : decode cX3_leastNext 54 = .ok (.invokestatic 66, 3) := by decide +kernel
theorem dX3_leastNext_57 : decode cX3_leastNext 57 = .ok (.laload, 1) := by decide +kernel
theorem dX3_leastNext_58 : decode cX3_leastNext 58 = .ok (.lcmp, 1) := by decide +kernel
theorem dX3_leastNext_59 : decode cX3_leastNext 59 = .ok (.ifCond .ne 5, 3) := by decide +kernel
theorem dX3_leastNext_62 : decode cX3_leastNext 62 = .ok (.iload_n 3, 1) := by decide +kernel
theorem dX3_leastNext_63 : decode cX3_leastNext 63 = .ok (.ireturn, 1) := by decide +kernel
theorem dX3_leastNext_64 : decode cX3_leastNext 64 = .ok (.iinc 3 1, 3) := by decide +kernel
theorem dX3_leastNext_67 : decode cX3_leastNext 67 = .ok (.goto (-65), 3) := by decide +kernel
theorem dX3_leastNext_70 : decode cX3_leastNext 70 = .ok (.iconst (-1), 1) := by decide +kernel
theorem dX3_leastNext_71 : decode cX3_leastNext 71 = .ok (.ireturn, 1) := by decide +kernel
theorem dX3_findAgain_0 : decode cX3_findAgain 0 = .ok (.aload_n 0, 1) := by decide +kernel
theorem dX3_findAgain_1 : decode cX3_findAgain 1 = .ok (.invokevirtual 110, 3) := by decide +kernel
theorem dX3_findAgain_4 : decode cX3_findAgain 4 = .ok (.aload_n 0, 1) := by decide +kernel
theorem dX3_findAgain_5 : decode cX3_findAgain 5 = .ok (.getfield 39, 3) := by decide +kernel
theorem dX3_findAgain_8 : decode cX3_findAgain 8 = .ok (.arraylength, 1) := by decide +kernel
theorem dX3_findAgain_9 : decode cX3_findAgain 9 = .ok (.ifCond .ne 16, 3) := by decide +kernel
theorem dX3_findAgain_12 : decode cX3_findAgain 12 = .ok (.aload_n 0, 1) := by decide +kernel
theorem dX3_findAgain_13 : decode cX3_findAgain 13 = .ok (.sipush 201, 3) := by decide +kernel
theorem dX3_findAgain_16 : decode cX3_findAgain 16 = .ok (.bipush 100, 2) := by decide +kernel
theorem dX3_findAgain_18 : decode cX3_findAgain 18 = .ok (.multianewarray 37 2, 4) := by decide +kernel
theorem dX3_findAgain_22 : decode cX3_findAgain 22 = .ok (.putfield 39, 3) := by decide +kernel
theorem dX3_findAgain_25 : decode cX3_findAgain 25 = .ok (.aload_n 0, 1) := by decide +kernel
theorem dX3_findAgain_26 : decode cX3_findAgain 26 = .ok (.getfield 39, 3) := by decide +kernel
theorem dX3_findAgain_29 : decode cX3_findAgain 29 = .ok (.iconst 0, 1) := by decide +kernel
theorem dX3_findAgain_30 : decode cX3_findAgain 30 = .ok (.aaload, 1) := by decide +kernel
theorem dX3_findAgain_31 : decode cX3_findAgain 31 = .ok (.ldc2_w 58, 3) := by decide +kernel
theorem dX3_findAgain_34 : decode cX3_findAgain 34 = .ok (.invokestatic 60, 3) := by decide +kernel
theorem dX3_findAgain_37 : decode cX3_findAgain 37 = .ok (.iconst 0, 1) := by decide +kernel
theorem dX3_findAgain_38 : decode cX3_findAgain 38 = .ok (.istore_n 1, 1) := by decide +kernel
theorem dX3_findAgain_39 : decode cX3_findAgain 39 = .ok (.iload_n 1, 1) := by decide +kernel
theorem dX3_findAgain_40 : decode cX3_findAgain 40 = .ok (.aload_n 0, 1) := by decide +kernel
theorem dX3_findAgain_41 : decode cX3_findAgain 41 = .ok (.getfield 9, 3) := by decide +kernel
theorem dX3_findAgain_44 : decode cX3_findAgain 44 = .ok (.if_icmp .ge 22, 3) := by decide +kernel
theorem dX3_findAgain_47 : decode cX3_findAgain 47 = .ok (.aload_n 0, 1) := by decide +kernel
theorem dX3_findAgain_48 : decode cX3_findAgain 48 = .ok (.getfield 39, 3) := by decide +kernel
theorem dX3_findAgain_51 : decode cX3_findAgain 51 = .ok (.iconst 0, 1) := by decide +kernel
theorem dX3_findAgain_52 : decode cX3_findAgain 52 = .ok (.aaload, 1) := by decide +kernel
theorem dX3_findAgain_53 : decode cX3_findAgain 53 = .ok (.iload_n 1, 1) := by decide +kernel
theorem dX3_findAgain_54 : decode cX3_findAgain 54 = .ok (.iload_n 1, 1) := by decide +kernel
theorem dX3_findAgain_55 : decode cX3_findAgain 55 = .ok (.invokestatic 66, 3) := by decide +kernel
theorem dX3_findAgain_58 : decode cX3_findAgain 58 = .ok (.lconst 0, 1) := by decide +kernel
theorem dX3_findAgain_59 : decode cX3_findAgain 59 = .ok (.lastore, 1) := by decide +kernel
theorem dX3_findAgain_60 : decode cX3_findAgain 60 = .ok (.iinc 1 1, 3) := by decide +kernel
theorem dX3_findAgain_63 : decode cX3_findAgain 63 = .ok (.goto (-24), 3) := by decide +kernel
theorem dX3_findAgain_66 : decode cX3_findAgain 66 = .ok (.iconst 1, 1) := by decide +kernel
theorem dX3_findAgain_67 : decode cX3_findAgain 67 = .ok (.istore_n 1, 1) := by decide +kernel
theorem dX3_findAgain_68 : decode cX3_findAgain 68 = .ok (.iload_n 1, 1) := by decide +kernel
theorem dX3_findAgain_69 : decode cX3_findAgain 69 = .ok (.aload_n 0, 1) := by decide +kernel
theorem dX3_findAgain_70 : decode cX3_findAgain 70 = .ok (.getfield 39, 3) := by decide +kernel
theorem dX3_findAgain_73 : decode cX3_findAgain 73 = .ok (.arraylength, 1) := by decide +kernel
theorem dX3_findAgain_74 : decode cX3_findAgain 74 = .ok (.if_icmp .ge 77, 3) := by decide +kernel
theorem dX3_findAgain_77 : decode cX3_findAgain 77 = .ok (.aload_n 0, 1) := by decide +kernel
theorem dX3_findAgain_78 : decode cX3_findAgain 78 = .ok (.aload_n 0, 1) := by decide +kernel
theorem dX3_findAgain_79 : decode cX3_findAgain 79 = .ok (.getfield 25, 3) := by decide +kernel
theorem dX3_findAgain_82 : decode cX3_findAgain 82 = .ok (.aload_n 0, 1) := by decide +kernel
theorem dX3_findAgain_83 : decode cX3_findAgain 83 = .ok (.getfield 39, 3) := by decide +kernel
theorem dX3_findAgain_86 : decode cX3_findAgain 86 = .ok (.iload_n 1, 1) := by decide +kernel
theorem dX3_findAgain_87 : decode cX3_findAgain 87 = .ok (.iconst 1, 1) := by decide +kernel
theorem dX3_findAgain_88 : decode cX3_findAgain 88 = .ok (.isub, 1) := by decide +kernel
theorem dX3_findAgain_89 : decode cX3_findAgain 89 = .ok (.aaload, 1) := by decide +kernel
theorem dX3_findAgain_90 : decode cX3_findAgain 90 = .ok (.aload_n 0, 1) := by decide +kernel
theorem dX3_findAgain_91 : decode cX3_findAgain 91 = .ok (.getfield 39, 3) := by decide +kernel
theorem dX3_findAgain_94 : decode cX3_findAgain 94 = .ok (.iload_n 1, 1) := by decide +kernel
theorem dX3_findAgain_95 : decode cX3_findAgain 95 = .ok (.aaload, 1) := by decide +kernel
theorem dX3_findAgain_96 : decode cX3_findAgain 96 = .ok (.invokevirtual 74, 3) := by decide +kernel
theorem dX3_findAgain_99 : decode cX3_findAgain 99 = .ok (.iconst 0, 1) := by decide +kernel
theorem dX3_findAgain_100 : decode cX3_findAgain 100 = .ok (.istore_n 2, 1) := by decide +kernel
theorem dX3_findAgain_101 : decode cX3_findAgain 101 = .ok (.iload_n 2, 1) := by decide +kernel
theorem dX3_findAgain_102 : decode cX3_findAgain 102 = .ok (.iload_n 1, 1) := by decide +kernel
theorem dX3_findAgain_103 : decode cX3_findAgain 103 = .ok (.if_icmp .ge 42, 3) := by decide +kernel
theorem dX3_findAgain_106 : decode cX3_findAgain 106 = .ok (.aload_n 0, 1) := by decide +kernel
theorem dX3_findAgain_107 : decode cX3_findAgain 107 = .ok (.aload_n 0, 1) := by decide +kernel
theorem dX3_findAgain_108 : decode cX3_findAgain 108 = .ok (.getfield 39, 3) := by decide +kernel
theorem dX3_findAgain_111 : decode cX3_findAgain 111 = .ok (.iload_n 2, 1) := by decide +kernel
theorem dX3_findAgain_112 : decode cX3_findAgain 112 = .ok (.aaload, 1) := by decide +kernel
theorem dX3_findAgain_113 : decode cX3_findAgain 113 = .ok (.aload_n 0, 1) := by decide +kernel
theorem dX3_findAgain_114 : decode cX3_findAgain 114 = .ok (.getfield 39, 3) := by decide +kernel
theorem dX3_findAgain_117 : decode cX3_findAgain 117 = .ok (.iload_n 1, 1) := by decide +kernel
theorem dX3_findAgain_118 : decode cX3_findAgain 118 = .ok (.aaload, 1) := by decide +kernel
theorem dX3_findAgain_119 : decode cX3_findAgain 119 = .ok (.invokevirtual 123, 3) := by decide +kernel
theorem dX3_findAgain_122 : decode cX3_findAgain 122 = .ok (.ifCond .eq 17, 3) := by decide +kernel
theorem dX3_findAgain_125 : decode cX3_findAgain 125 = .ok (.aload_n 0, 1) := by decide +kernel
theorem dX3_findAgain_126 : decode cX3_findAgain 126 = .ok (.iload_n 2, 1) := by decide +kernel
theorem dX3_findAgain_127 : decode cX3_findAgain 127 = .ok (.putfield 52, 3) := by decide +kernel
theorem dX3_findAgain_130 : decode cX3_findAgain 130 = .ok (.aload_n 0, 1) := by decide +kernel
theorem dX3_findAgain_131 : decode cX3_findAgain 131 = .ok (.iload_n 1, 1) := by decide +kernel
theorem dX3_findAgain_132 : decode cX3_findAgain 132 = .ok (.iload_n 2, 1) := by decide +kernel
theorem dX3_findAgain_133 : decode cX3_findAgain 133 = .ok (.isub, 1) := by decide +kernel
theorem dX3_findAgain_134 : decode cX3_findAgain 134 = .ok (.putfield 55, 3) := by decide +kernel
theorem dX3_findAgain_137 : decode cX3_findAgain 137 = .ok (.iconst 1, 1) := by decide +kernel
theorem dX3_findAgain_138 : decode cX3_findAgain 138 = .ok (.ireturn, 1) := by decide +kernel
theorem dX3_findAgain_139 : decode cX3_findAgain 139 = .ok (.iinc 2 1, 3) := by decide +kernel
theorem dX3_findAgain_142 : decode cX3_findAgain 142 = .ok (.goto (-41), 3) := by decide +kernel
theorem dX3_findAgain_145 : decode cX3_findAgain 145 = .ok (.iinc 1 1, 3) := by decide +kernel
theorem dX3_findAgain_148 : decode cX3_findAgain 148 = .ok (.goto (-80), 3) := by decide +kernel
theorem dX3_findAgain_151 : decode cX3_findAgain 151 = .ok (.iconst 0, 1) := by decide +kernel
theorem dX3_findAgain_152 : decode cX3_findAgain 152 = .ok (.ireturn, 1) := by decide +kernel
theorem dX3_areAlike_0 : decode cX3_areAlike 0 = .ok (.iconst 0, 1) := by decide +kernel
theorem dX3_areAlike_1 : decode cX3_areAlike 1 = .ok (.istore_n 3, 1) := by decide +kernel
theorem dX3_areAlike_2 : decode cX3_areAlike 2 = .ok (.iload_n 3, 1) := by decide +kernel
theorem dX3_areAlike_3 : decode cX3_areAlike 3 = .ok (.aload_n 0, 1) := by decide +kernel
theorem dX3_areAlike_4 : decode cX3_areAlike 4 = .ok (.getfield 9, 3) := by decide +kernel
theorem dX3_areAlike_7 : decode cX3_areAlike 7 = .ok (.if_icmp .ge 49, 3) := by decide +kernel
theorem dX3_areAlike_10 : decode cX3_areAlike 10 = .ok (.iconst 0, 1) := by decide +kernel
theorem dX3_areAlike_11 : decode cX3_areAlike 11 = .ok (.istore 4, 2) := by decide +kernel
theorem dX3_areAlike_13 : decode cX3_areAlike 13 = .ok (.iload 4, 2) := by decide +kernel
theorem dX3_areAlike_15 : decode cX3_areAlike 15 = .ok (.aload_n 0, 1) := by decide +kernel
theorem dX3_areAlike_16 : decode cX3_areAlike 16 = .ok (.getfield 9, 3) := by decide +kernel
theorem dX3_areAlike_19 : decode cX3_areAlike 19 = .ok (.if_icmp .ge 31, 3) := by decide +kernel
theorem dX3_areAlike_22 : decode cX3_areAlike 22 = .ok (.aload_n 1, 1) := by decide +kernel
theorem dX3_areAlike_23 : decode cX3_areAlike 23 = .ok (.iload_n 3, 1) := by decide +kernel
theorem dX3_areAlike_24 : decode cX3_areAlike 24 = .ok (.iload 4, 2) := by decide +kernel
theorem dX3_areAlike_26 : decode cX3_areAlike 26 = .ok (.invokestatic 66, 3) := by decide +kernel
theorem dX3_areAlike_29 : decode cX3_areAlike 29 = .ok (.laload, 1) := by decide +kernel
theorem dX3_areAlike_30 : decode cX3_areAlike 30 = .ok (.aload_n 2, 1) := by decide +kernel
theorem dX3_areAlike_31 : decode cX3_areAlike 31 = .ok (.iload_n 3, 1) := by decide +kernel
theorem dX3_areAlike_32 : decode cX3_areAlike 32 = .ok (.iload 4, 2) := by decide +kernel
theorem dX3_areAlike_34 : decode cX3_areAlike 34 = .ok (.invokestatic 66, 3) := by decide +kernel
theorem dX3_areAlike_37 : decode cX3_areAlike 37 = .ok (.laload, 1) := by decide +kernel
theorem dX3_areAlike_38 : decode cX3_areAlike 38 = .ok (.lcmp, 1) := by decide +kernel
theorem dX3_areAlike_39 : decode cX3_areAlike 39 = .ok (.ifCond .eq 5, 3) := by decide +kernel
theorem dX3_areAlike_42 : decode cX3_areAlike 42 = .ok (.iconst 0, 1) := by decide +kernel
theorem dX3_areAlike_43 : decode cX3_areAlike 43 = .ok (.ireturn, 1) := by decide +kernel
theorem dX3_areAlike_44 : decode cX3_areAlike 44 = .ok (.iinc 4 1, 3) := by decide +kernel
theorem dX3_areAlike_47 : decode cX3_areAlike 47 = .ok (.goto (-34), 3) := by decide +kernel
theorem dX3_areAlike_50 : decode cX3_areAlike 50 = .ok (.iinc 3 1, 3) := by decide +kernel
theorem dX3_areAlike_53 : decode cX3_areAlike 53 = .ok (.goto (-51), 3) := by decide +kernel
theorem dX3_areAlike_56 : decode cX3_areAlike 56 = .ok (.iconst 1, 1) := by decide +kernel
theorem dX3_areAlike_57 : decode cX3_areAlike 57 = .ok (.ireturn, 1) := by decide +kernel
theorem dX4_init_0 : decode cX4_init 0 = .ok (.aload_n 0, 1) := by decide +kernel
theorem dX4_init_1 : decode cX4_init 1 = .ok (.invokespecial 3, 3) := by decide +kernel
theorem dX4_init_4 : decode cX4_init 4 = .ok (.aload_n 0, 1) := by decide +kernel
theorem dX4_init_5 : decode cX4_init 5 = .ok (.iconst 0, 1) := by decide +kernel
theorem dX4_init_6 : decode cX4_init 6 = .ok (.newarray .int, 2) := by decide +kernel
theorem dX4_init_8 : decode cX4_init 8 = .ok (.putfield 9, 3) := by decide +kernel
theorem dX4_init_11 : decode cX4_init 11 = .ok (.aload_n 0, 1) := by decide +kernel
theorem dX4_init_12 : decode cX4_init 12 = .ok (.iconst 0, 1) := by decide +kernel
theorem dX4_init_13 : decode cX4_init 13 = .ok (.newarray .int, 2) := by decide +kernel
theorem dX4_init_15 : decode cX4_init 15 = .ok (.putfield 15, 3) := by decide +kernel
theorem dX4_init_18 : decode cX4_init 18 = .ok (.aload_n 0, 1) := by decide +kernel
theorem dX4_init_19 : decode cX4_init 19 = .ok (.iconst 0, 1) := by decide +kernel
theorem dX4_init_20 : decode cX4_init 20 = .ok (.newarray .long, 2) := by decide +kernel
theorem dX4_init_22 : decode cX4_init 22 = .ok (.putfield 18, 3) := by decide +kernel
theorem dX4_init_25 : decode cX4_init 25 = .ok (.aload_n 0, 1) := by decide +kernel
theorem dX4_init_26 : decode cX4_init 26 = .ok (.iconst 0, 1) := by decide +kernel
theorem dX4_init_27 : decode cX4_init 27 = .ok (.putfield 22, 3) := by decide +kernel
theorem dX4_init_30 : decode cX4_init 30 = .ok (.aload_n 0, 1) := by decide +kernel
theorem dX4_init_31 : decode cX4_init 31 = .ok (.iconst 0, 1) := by decide +kernel
theorem dX4_init_32 : decode cX4_init 32 = .ok (.putfield 26, 3) := by decide +kernel
theorem dX4_init_35 : decode cX4_init 35 = .ok (.return_, 1) := by decide +kernel
theorem dX4_start_0 : decode cX4_start 0 = .ok (.aload_n 0, 1) := by decide +kernel
theorem dX4_start_1 : decode cX4_start 1 = .ok (.iload_n 1, 1) := by decide +kernel
theorem dX4_start_2 : decode cX4_start 2 = .ok (.iconst 5, 1) := by decide +kernel
theorem dX4_start_3 : decode cX4_start 3 = .ok (.iadd, 1) := by decide +kernel
theorem dX4_start_4 : decode cX4_start 4 = .ok (.iconst 1, 1) := by decide +kernel
theorem dX4_start_5 : decode cX4_start 5 = .ok (.isub, 1) := by decide +kernel
theorem dX4_start_6 : decode cX4_start 6 = .ok (.iconst 5, 1) := by decide +kernel
theorem dX4_start_7 : decode cX4_start 7 = .ok (.idiv, 1) := by decide +kernel
theorem dX4_start_8 : decode cX4_start 8 = .ok (.putfield 22, 3) := by decide +kernel
theorem dX4_start_11 : decode cX4_start 11 = .ok (.aload_n 0, 1) := by decide +kernel
theorem dX4_start_12 : decode cX4_start 12 = .ok (.iconst 0, 1) := by decide +kernel
theorem dX4_start_13 : decode cX4_start 13 = .ok (.putfield 26, 3) := by decide +kernel
theorem dX4_start_16 : decode cX4_start 16 = .ok (.aload_n 0, 1) := by decide +kernel
theorem dX4_start_17 : decode cX4_start 17 = .ok (.getfield 9, 3) := by decide +kernel
theorem dX4_start_20 : decode cX4_start 20 = .ok (.arraylength, 1) := by decide +kernel
theorem dX4_start_21 : decode cX4_start 21 = .ok (.sipush 4096, 3) := by decide +kernel
theorem dX4_start_24 : decode cX4_start 24 = .ok (.if_icmp .ge 12, 3) := by decide +kernel
theorem dX4_start_27 : decode cX4_start 27 = .ok (.aload_n 0, 1) := by decide +kernel
theorem dX4_start_28 : decode cX4_start 28 = .ok (.sipush 4096, 3) := by decide +kernel
theorem dX4_start_31 : decode cX4_start 31 = .ok (.newarray .int, 2) := by decide +kernel
theorem dX4_start_33 : decode cX4_start 33 = .ok (.putfield 9, 3) := by decide +kernel
theorem dX4_start_36 : decode cX4_start 36 = .ok (.aload_n 0, 1) := by decide +kernel
theorem dX4_start_37 : decode cX4_start 37 = .ok (.getfield 9, 3) := by decide +kernel
theorem dX4_start_40 : decode cX4_start 40 = .ok (.iconst (-1), 1) := by decide +kernel
theorem dX4_start_41 : decode cX4_start 41 = .ok (.invokestatic 29, 3) := by decide +kernel
theorem dX4_start_44 : decode cX4_start 44 = .ok (.return_, 1) := by decide +kernel
theorem dX4_stepOf_0 : decode cX4_stepOf 0 = .ok (.aload_n 0, 1) := by decide +kernel
theorem dX4_stepOf_1 : decode cX4_stepOf 1 = .ok (.getfield 26, 3) := by decide +kernel
theorem dX4_stepOf_4 : decode cX4_stepOf 4 = .ok (.sipush 20000, 3) := by decide +kernel
theorem dX4_stepOf_7 : decode cX4_stepOf 7 = .ok (.if_icmp .le 5, 3) := by decide +kernel
theorem dX4_stepOf_10 : decode cX4_stepOf 10 = .ok (.iconst (-1), 1) := by decide +kernel
theorem dX4_stepOf_11 : decode cX4_stepOf 11 = .ok (.ireturn, 1) := by decide +kernel
theorem dX4_stepOf_12 : decode cX4_stepOf 12 = .ok (.aload_n 0, 1) := by decide +kernel
theorem dX4_stepOf_13 : decode cX4_stepOf 13 = .ok (.invokevirtual 35, 3) := by decide +kernel
theorem dX4_stepOf_16 : decode cX4_stepOf 16 = .ok (.aload_n 0, 1) := by decide +kernel
theorem dX4_stepOf_17 : decode cX4_stepOf 17 = .ok (.aload_n 1, 1) := by decide +kernel
theorem dX4_stepOf_18 : decode cX4_stepOf 18 = .ok (.iload_n 2, 1) := by decide +kernel
theorem dX4_stepOf_19 : decode cX4_stepOf 19 = .ok (.invokevirtual 38, 3) := by decide +kernel
theorem dX4_stepOf_22 : decode cX4_stepOf 22 = .ok (.aload_n 0, 1) := by decide +kernel
theorem dX4_stepOf_23 : decode cX4_stepOf 23 = .ok (.invokevirtual 41, 3) := by decide +kernel
theorem dX4_stepOf_26 : decode cX4_stepOf 26 = .ok (.istore_n 3, 1) := by decide +kernel
theorem dX4_stepOf_27 : decode cX4_stepOf 27 = .ok (.aload_n 0, 1) := by decide +kernel
theorem dX4_stepOf_28 : decode cX4_stepOf 28 = .ok (.getfield 9, 3) := by decide +kernel
theorem dX4_stepOf_31 : decode cX4_stepOf 31 = .ok (.iload_n 3, 1) := by decide +kernel
theorem dX4_stepOf_32 : decode cX4_stepOf 32 = .ok (.iaload, 1) := by decide +kernel
theorem dX4_stepOf_33 : decode cX4_stepOf 33 = .ok (.istore 4, 2) := by decide +kernel
theorem dX4_stepOf_35 : decode cX4_stepOf 35 = .ok (.iconst 0, 1) := by decide +kernel
theorem dX4_stepOf_36 : decode cX4_stepOf 36 = .ok (.istore 5, 2) := by decide +kernel
theorem dX4_stepOf_38 : decode cX4_stepOf 38 = .ok (.iload 5, 2) := by decide +kernel
theorem dX4_stepOf_40 : decode cX4_stepOf 40 = .ok (.aload_n 0, 1) := by decide +kernel
theorem dX4_stepOf_41 : decode cX4_stepOf 41 = .ok (.getfield 26, 3) := by decide +kernel
theorem dX4_stepOf_44 : decode cX4_stepOf 44 = .ok (.if_icmp .ge 44, 3) := by decide +kernel
theorem dX4_stepOf_47 : decode cX4_stepOf 47 = .ok (.iload 4, 2) := by decide +kernel
theorem dX4_stepOf_49 : decode cX4_stepOf 49 = .ok (.ifCond .lt 39, 3) := by decide +kernel
theorem dX4_stepOf_52 : decode cX4_stepOf 52 = .ok (.iload 4, 2) := by decide +kernel
theorem dX4_stepOf_54 : decode cX4_stepOf 54 = .ok (.aload_n 0, 1) := by decide +kernel
theorem dX4_stepOf_55 : decode cX4_stepOf 55 = .ok (.getfield 26, 3) := by decide +kernel
theorem dX4_stepOf_58 : decode cX4_stepOf 58 = .ok (.if_icmp .ge 30, 3) := by decide +kernel
theorem dX4_stepOf_61 : decode cX4_stepOf 61 = .ok (.aload_n 0, 1) := by decide +kernel
theorem dX4_stepOf_62 : decode cX4_stepOf 62 = .ok (.iload 4, 2) := by decide +kernel
theorem dX4_stepOf_64 : decode cX4_stepOf 64 = .ok (.invokevirtual 45, 3) := by decide +kernel
theorem dX4_stepOf_67 : decode cX4_stepOf 67 = .ok (.ifCond .eq 6, 3) := by decide +kernel
theorem dX4_stepOf_70 : decode cX4_stepOf 70 = .ok (.iload 4, 2) := by decide +kernel
theorem dX4_stepOf_72 : decode cX4_stepOf 72 = .ok (.ireturn, 1) := by decide +kernel
theorem dX4_stepOf_73 : decode cX4_stepOf 73 = .ok (.aload_n 0, 1) := by decide +kernel
theorem dX4_stepOf_74 : decode cX4_stepOf 74 = .ok (.getfield 15, 3) := by decide +kernel
theorem dX4_stepOf_77 : decode cX4_stepOf 77 = .ok (.iload 4, 2) := by decide +kernel
theorem dX4_stepOf_79 : decode cX4_stepOf 79 = .ok (.iaload, 1) := by decide +kernel
theorem dX4_stepOf_80 : decode cX4_stepOf 80 = .ok (.istore 4, 2) := by decide +kernel
theorem dX4_stepOf_82 : decode cX4_stepOf 82 = .ok (.iinc 5 1, 3) := by decide +kernel
theorem dX4_stepOf_85 : decode cX4_stepOf 85 = .ok (.goto (-47), 3) := by decide +kernel
theorem dX4_stepOf_88 : decode cX4_stepOf 88 = .ok (.aload_n 0, 1) := by decide +kernel
theorem dX4_stepOf_89 : decode cX4_stepOf 89 = .ok (.getfield 15, 3) := by decide +kernel
theorem dX4_stepOf_92 : decode cX4_stepOf 92 = .ok (.aload_n 0, 1) := by decide +kernel
theorem dX4_stepOf_93 : decode cX4_stepOf 93 = .ok (.getfield 26, 3) := by decide +kernel
theorem dX4_stepOf_96 : decode cX4_stepOf 96 = .ok (.aload_n 0, 1) := by decide +kernel
theorem dX4_stepOf_97 : decode cX4_stepOf 97 = .ok (.getfield 9, 3) := by decide +kernel
theorem dX4_stepOf_100 : decode cX4_stepOf 100 = .ok (.iload_n 3, 1) := by decide +kernel
theorem dX4_stepOf_101 : decode cX4_stepOf 101 = .ok (.iaload, 1) := by decide +kernel
theorem dX4_stepOf_102 : decode cX4_stepOf 102 = .ok (.iastore, 1) := by decide +kernel
theorem dX4_stepOf_103 : decode cX4_stepOf 103 = .ok (.aload_n 0, 1) := by decide +kernel
theorem dX4_stepOf_104 : decode cX4_stepOf 104 = .ok (.getfield 9, 3) := by decide +kernel
theorem dX4_stepOf_107 : decode cX4_stepOf 107 = .ok (.iload_n 3, 1) := by decide +kernel
theorem dX4_stepOf_108 : decode cX4_stepOf 108 = .ok (.aload_n 0, 1) := by decide +kernel
theorem dX4_stepOf_109 : decode cX4_stepOf 109 = .ok (.getfield 26, 3) := by decide +kernel
theorem dX4_stepOf_112 : decode cX4_stepOf 112 = .ok (.iastore, 1) := by decide +kernel
theorem dX4_stepOf_113 : decode cX4_stepOf 113 = .ok (.aload_n 0, 1) := by decide +kernel
theorem dX4_stepOf_114 : decode cX4_stepOf 114 = .ok (.dup, 1) := by decide +kernel
theorem dX4_stepOf_115 : decode cX4_stepOf 115 = .ok (.getfield 26, 3) := by decide +kernel
theorem dX4_stepOf_118 : decode cX4_stepOf 118 = .ok (.iconst 1, 1) := by decide +kernel
theorem dX4_stepOf_119 : decode cX4_stepOf 119 = .ok (.iadd, 1) := by decide +kernel
theorem dX4_stepOf_120 : decode cX4_stepOf 120 = .ok (.putfield 26, 3) := by decide +kernel
theorem dX4_stepOf_123 : decode cX4_stepOf 123 = .ok (.iconst (-1), 1) := by decide +kernel
theorem dX4_stepOf_124 : decode cX4_stepOf 124 = .ok (.ireturn, 1) := by decide +kernel
theorem dX4_makeRoom_0 : decode cX4_makeRoom 0 = .ok (.aload_n 0, 1) := by decide +kernel
theorem dX4_makeRoom_1 : decode cX4_makeRoom 1 = .ok (.getfield 15, 3) := by decide +kernel
theorem dX4_makeRoom_4 : decode cX4_makeRoom 4 = .ok (.arraylength, 1) := by decide +kernel
theorem dX4_makeRoom_5 : decode cX4_makeRoom 5 = .ok (.aload_n 0, 1) := by decide +kernel
theorem dX4_makeRoom_6 : decode cX4_makeRoom 6 = .ok (.getfield 26, 3) := by decide +kernel
theorem dX4_makeRoom_9 : decode cX4_makeRoom 9 = .ok (.if_icmp .gt 29, 3) := by decide +kernel
theorem dX4_makeRoom_12 : decode cX4_makeRoom 12 = .ok (.aload_n 0, 1) := by decide +kernel
theorem dX4_makeRoom_13 : decode cX4_makeRoom 13 = .ok (.aload_n 0, 1) := by decide +kernel
theorem dX4_makeRoom_14 : decode cX4_makeRoom 14 = .ok (.getfield 15, 3) := by decide +kernel
theorem dX4_makeRoom_17 : decode cX4_makeRoom 17 = .ok (.sipush 20001, 3) := by decide +kernel
theorem dX4_makeRoom_20 : decode cX4_makeRoom 20 = .ok (.iconst 2, 1) := by decide +kernel
theorem dX4_makeRoom_21 : decode cX4_makeRoom 21 = .ok (.aload_n 0, 1) := by decide +kernel
theorem dX4_makeRoom_22 : decode cX4_makeRoom 22 = .ok (.getfield 26, 3) := by decide +kernel
theorem dX4_makeRoom_25 : decode cX4_makeRoom 25 = .ok (.imul, 1) := by decide +kernel
theorem dX4_makeRoom_26 : decode cX4_makeRoom 26 = .ok (.bipush 64, 2) := by decide +kernel
theorem dX4_makeRoom_28 : decode cX4_makeRoom 28 = .ok (.iadd, 1) := by decide +kernel
theorem dX4_makeRoom_29 : decode cX4_makeRoom 29 = .ok (.invokestatic 49, 3) := by decide +kernel
theorem dX4_makeRoom_32 : decode cX4_makeRoom 32 = .ok (.invokestatic 55, 3) := by decide +kernel
theorem dX4_makeRoom_35 : decode cX4_makeRoom 35 = .ok (.putfield 15, 3) := by decide +kernel
theorem dX4_makeRoom_38 : decode cX4_makeRoom 38 = .ok (.aload_n 0, 1) := by decide +kernel
theorem dX4_makeRoom_39 : decode cX4_makeRoom 39 = .ok (.getfield 26, 3) := by decide +kernel
theorem dX4_makeRoom_42 : decode cX4_makeRoom 42 = .ok (.iconst 1, 1) := by decide +kernel
theorem dX4_makeRoom_43 : decode cX4_makeRoom 43 = .ok (.iadd, 1) := by decide +kernel
theorem dX4_makeRoom_44 : decode cX4_makeRoom 44 = .ok (.aload_n 0, 1) := by decide +kernel
theorem dX4_makeRoom_45 : decode cX4_makeRoom 45 = .ok (.getfield 22, 3) := by decide +kernel
theorem dX4_makeRoom_48 : decode cX4_makeRoom 48 = .ok (.imul, 1) := by decide +kernel
theorem dX4_makeRoom_49 : decode cX4_makeRoom 49 = .ok (.istore_n 1, 1) := by decide +kernel
theorem dX4_makeRoom_50 : decode cX4_makeRoom 50 = .ok (.aload_n 0, 1) := by decide +kernel
theorem dX4_makeRoom_51 : decode cX4_makeRoom 51 = .ok (.getfield 18, 3) := by decide +kernel
theorem dX4_makeRoom_54 : decode cX4_makeRoom 54 = .ok (.arraylength, 1) := by decide +kernel
theorem dX4_makeRoom_55 : decode cX4_makeRoom 55 = .ok (.iload_n 1, 1) := by decide +kernel
theorem dX4_makeRoom_56 : decode cX4_makeRoom 56 = .ok (.if_icmp .ge 31, 3) := by decide +kernel
theorem dX4_makeRoom_59 : decode cX4_makeRoom 59 = .ok (.aload_n 0, 1) := by decide +kernel
theorem dX4_makeRoom_60 : decode cX4_makeRoom 60 = .ok (.aload_n 0, 1) := by decide +kernel
theorem dX4_makeRoom_61 : decode cX4_makeRoom 61 = .ok (.getfield 18, 3) := by decide +kernel
theorem dX4_makeRoom_64 : decode cX4_makeRoom 64 = .ok (.sipush 20001, 3) := by decide +kernel
theorem dX4_makeRoom_67 : decode cX4_makeRoom 67 = .ok (.aload_n 0, 1) := by decide +kernel
theorem dX4_makeRoom_68 : decode cX4_makeRoom 68 = .ok (.getfield 22, 3) := by decide +kernel
theorem dX4_makeRoom_71 : decode cX4_makeRoom 71 = .ok (.imul, 1) := by decide +kernel
theorem dX4_makeRoom_72 : decode cX4_makeRoom 72 = .ok (.iconst 2, 1) := by decide +kernel
theorem dX4_makeRoom_73 : decode cX4_makeRoom 73 = .ok (.iload_n 1, 1) := by decide +kernel
theorem dX4_makeRoom_74 : decode cX4_makeRoom 74 = .ok (.imul, 1) := by decide +kernel
theorem dX4_makeRoom_75 : decode cX4_makeRoom 75 = .ok (.bipush 64, 2) := by decide +kernel
theorem dX4_makeRoom_77 : decode cX4_makeRoom 77 = .ok (.iadd, 1) := by decide +kernel
theorem dX4_makeRoom_78 : decode cX4_makeRoom 78 = .ok (.invokestatic 49, 3) := by decide +kernel
theorem dX4_makeRoom_81 : decode cX4_makeRoom 81 = .ok (.invokestatic 59, 3) := by decide +kernel
theorem dX4_makeRoom_84 : decode cX4_makeRoom 84 = .ok (.putfield 18, 3) := by decide +kernel
theorem dX4_makeRoom_87 : decode cX4_makeRoom 87 = .ok (.return_, 1) := by decide +kernel
theorem dX4_pack_0 : decode cX4_pack 0 = .ok (.aload_n 0, 1) := by decide +kernel
theorem dX4_pack_1 : decode cX4_pack 1 = .ok (.getfield 26, 3) := by decide +kernel
theorem dX4_pack_4 : decode cX4_pack 4 = .ok (.aload_n 0, 1) := by decide +kernel
theorem dX4_pack_5 : decode cX4_pack 5 = .ok (.getfield 22, 3) := by decide +kernel
theorem dX4_pack_8 : decode cX4_pack 8 = .ok (.imul, 1) := by decide +kernel
theorem dX4_pack_9 : decode cX4_pack 9 = .ok (.istore_n 3, 1) := by decide +kernel
theorem dX4_pack_10 : decode cX4_pack 10 = .ok (.iconst 0, 1) := by decide +kernel
theorem dX4_pack_11 : decode cX4_pack 11 = .ok (.istore 4, 2) := by decide +kernel
theorem dX4_pack_13 : decode cX4_pack 13 = .ok (.iload 4, 2) := by decide +kernel
theorem dX4_pack_15 : decode cX4_pack 15 = .ok (.aload_n 0, 1) := by decide +kernel
theorem dX4_pack_16 : decode cX4_pack 16 = .ok (.getfield 22, 3) := by decide +kernel
theorem dX4_pack_19 : decode cX4_pack 19 = .ok (.if_icmp .ge 67, 3) := by decide +kernel
theorem dX4_pack_22 : decode cX4_pack 22 = .ok (.lconst 0, 1) := by decide +kernel
theorem dX4_pack_23 : decode cX4_pack 23 = .ok (.lstore 5, 2) := by decide +kernel
theorem dX4_pack_25 : decode cX4_pack 25 = .ok (.iload_n 2, 1) := by decide +kernel
theorem dX4_pack_26 : decode cX4_pack 26 = .ok (.iload 4, 2) := by decide +kernel
theorem dX4_pack_28 : decode cX4_pack 28 = .ok (.iconst 1, 1) := by decide +kernel
theorem dX4_pack_29 : decode cX4_pack 29 = .ok (.iadd, 1) := by decide +kernel
theorem dX4_pack_30 : decode cX4_pack 30 = .ok (.iconst 5, 1) := by decide +kernel
theorem dX4_pack_31 : decode cX4_pack 31 = .ok (.imul, 1) := by decide +kernel
theorem dX4_pack_32 : decode cX4_pack 32 = .ok (.invokestatic 49, 3) := by decide +kernel
theorem dX4_pack_35 : decode cX4_pack 35 = .ok (.istore 7, 2) := by decide +kernel
theorem dX4_pack_37 : decode cX4_pack 37 = .ok (.iload 4, 2) := by decide +kernel
theorem dX4_pack_39 : decode cX4_pack 39 = .ok (.iconst 5, 1) := by decide +kernel
theorem dX4_pack_40 : decode cX4_pack 40 = .ok (.imul, 1) := by decide +kernel
theorem dX4_pack_41 : decode cX4_pack 41 = .ok (.istore 8, 2) := by decide +kernel
theorem dX4_pack_43 : decode cX4_pack 43 = .ok (.iload 8, 2) := by decide +kernel
theorem dX4_pack_45 : decode cX4_pack 45 = .ok (.iload 7, 2) := by decide +kernel
theorem dX4_pack_47 : decode cX4_pack 47 = .ok (.if_icmp .ge 22, 3) := by decide +kernel
theorem dX4_pack_50 : decode cX4_pack 50 = .ok (.lload 5, 2) := by decide +kernel
theorem dX4_pack_52 : decode cX4_pack 52 = .ok (.bipush 12, 2) := by decide +kernel
theorem dX4_pack_54 : decode cX4_pack 54 = .ok (.lshl, 1) := by decide +kernel
theorem dX4_pack_55 : decode cX4_pack 55 = .ok (.aload_n 1, 1) := by decide +kernel
theorem dX4_pack_56 : decode cX4_pack 56 = .ok (.iload 8, 2) := by decide +kernel
theorem dX4_pack_58 : decode cX4_pack 58 = .ok (.iaload, 1) := by decide +kernel
theorem dX4_pack_59 : decode cX4_pack 59 = .ok (.i2l, 1) := by decide +kernel
theorem dX4_pack_60 : decode cX4_pack 60 = .ok (.lor, 1) := by decide +kernel
theorem dX4_pack_61 : decode cX4_pack 61 = .ok (.lstore 5, 2) := by decide +kernel
theorem dX4_pack_63 : decode cX4_pack 63 = .ok (.iinc 8 1, 3) := by decide +kernel
theorem dX4_pack_66 : decode cX4_pack 66 = .ok (.goto (-23), 3) := by decide +kernel
theorem dX4_pack_69 : decode cX4_pack 69 = .ok (.aload_n 0, 1) := by decide +kernel
theorem dX4_pack_70 : decode cX4_pack 70 = .ok (.getfield 18, 3) := by decide +kernel
theorem dX4_pack_73 : decode cX4_pack 73 = .ok (.iload_n 3, 1) := by decide +kernel
theorem dX4_pack_74 : decode cX4_pack 74 = .ok (.iload 4, 2) := by decide +kernel
theorem dX4_pack_76 : decode cX4_pack 76 = .ok (.iadd, 1) := by decide +kernel
theorem dX4_pack_77 : decode cX4_pack 77 = .ok (.lload 5, 2) := by decide +kernel
theorem dX4_pack_79 : decode cX4_pack 79 = .ok (.lastore, 1) := by decide +kernel
theorem dX4_pack_80 : decode cX4_pack 80 = .ok (.iinc 4 1, 3) := by decide +kernel
theorem dX4_pack_83 : decode cX4_pack 83 = .ok (.goto (-70), 3) := by decide +kernel
theorem dX4_pack_86 : decode cX4_pack 86 = .ok (.return_, 1) := by decide +kernel
theorem dX4_headOfLast_0 : decode cX4_headOfLast 0 = .ok (.lconst 0, 1) := by decide +kernel
theorem dX4_headOfLast_1 : decode cX4_headOfLast 1 = .ok (.lstore_n 1, 1) := by decide +kernel
theorem dX4_headOfLast_2 : decode cX4_headOfLast 2 = .ok (.aload_n 0, 1) := by decide +kernel
theorem dX4_headOfLast_3 : decode cX4_headOfLast 3 = .ok (.getfield 26, 3) := by decide +kernel
theorem dX4_headOfLast_6 : decode cX4_headOfLast 6 = .ok (.aload_n 0, 1) := by decide +kernel
theorem dX4_headOfLast_7 : decode cX4_headOfLast 7 = .ok (.getfield 22, 3) := by decide +kernel
theorem dX4_headOfLast_10 : decode cX4_headOfLast 10 = .ok (.imul, 1) := by decide +kernel
theorem dX4_headOfLast_11 : decode cX4_headOfLast 11 = .ok (.istore_n 3, 1) := by decide +kernel
theorem dX4_headOfLast_12 : decode cX4_headOfLast 12 = .ok (.iconst 0, 1) := by decide +kernel
theorem dX4_headOfLast_13 : decode cX4_headOfLast 13 = .ok (.istore 4, 2) := by decide +kernel
theorem dX4_headOfLast_15 : decode cX4_headOfLast 15 = .ok (.iload 4, 2) := by decide +kernel
theorem dX4_headOfLast_17 : decode cX4_headOfLast 17 = .ok (.aload_n 0, 1) := by decide +kernel
theorem dX4_headOfLast_18 : decode cX4_headOfLast 18 = .ok (.getfield 22, 3) := by decide +kernel
theorem dX4_headOfLast_21 : decode cX4_headOfLast 21 = .ok (.if_icmp .ge 32, 3) := by decide +kernel
theorem dX4_headOfLast_24 : decode cX4_headOfLast 24 = .ok (.lload_n 1, 1) := by decide +kernel
theorem dX4_headOfLast_25 : decode cX4_headOfLast 25 = .ok (.aload_n 0, 1) := by decide +kernel
theorem dX4_headOfLast_26 : decode cX4_headOfLast 26 = .ok (.getfield 18, 3) := by decide +kernel
theorem dX4_headOfLast_29 : decode cX4_headOfLast 29 = .ok (.iload_n 3, 1) := by decide +kernel
theorem dX4_headOfLast_30 : decode cX4_headOfLast 30 = .ok (.iload 4, 2) := by decide +kernel
theorem dX4_headOfLast_32 : decode cX4_headOfLast 32 = .ok (.iadd, 1) := by decide +kernel
theorem dX4_headOfLast_33 : decode cX4_headOfLast 33 = .ok (.laload, 1) := by decide +kernel
theorem dX4_headOfLast_34 : decode cX4_headOfLast 34 = .ok (.lxor, 1) := by decide +kernel
theorem dX4_headOfLast_35 : decode cX4_headOfLast 35 = .ok (.ldc2_w 62, 3) := by decide +kernel
theorem dX4_headOfLast_38 : decode cX4_headOfLast 38 = .ok (.lmul, 1) := by decide +kernel
theorem dX4_headOfLast_39 : decode cX4_headOfLast 39 = .ok (.lstore_n 1, 1) := by decide +kernel
theorem dX4_headOfLast_40 : decode cX4_headOfLast 40 = .ok (.lload_n 1, 1) := by decide +kernel
theorem dX4_headOfLast_41 : decode cX4_headOfLast 41 = .ok (.lload_n 1, 1) := by decide +kernel
theorem dX4_headOfLast_42 : decode cX4_headOfLast 42 = .ok (.bipush 29, 2) := by decide +kernel
theorem dX4_headOfLast_44 : decode cX4_headOfLast 44 = .ok (.lushr, 1) := by decide +kernel
theorem dX4_headOfLast_45 : decode cX4_headOfLast 45 = .ok (.lxor, 1) := by decide +kernel
theorem dX4_headOfLast_46 : decode cX4_headOfLast 46 = .ok (.lstore_n 1, 1) := by decide +kernel
theorem dX4_headOfLast_47 : decode cX4_headOfLast 47 = .ok (.iinc 4 1, 3) := by decide +kernel
theorem dX4_headOfLast_50 : decode cX4_headOfLast 50 = .ok (.goto (-35), 3) := by decide +kernel
theorem dX4_headOfLast_53 : decode cX4_headOfLast 53 = .ok (.lload_n 1, 1) := by decide +kernel
theorem dX4_headOfLast_54 : decode cX4_headOfLast 54 = .ok (.ldc2_w 62, 3) := by decide +kernel
theorem dX4_headOfLast_57 : decode cX4_headOfLast 57 = .ok (.lmul, 1) := by decide +kernel
theorem dX4_headOfLast_58 : decode cX4_headOfLast 58 = .ok (.bipush 52, 2) := by decide +kernel
theorem dX4_headOfLast_60 : decode cX4_headOfLast 60 = .ok (.lushr, 1) := by decide +kernel
theorem dX4_headOfLast_61 : decode cX4_headOfLast 61 = .ok (.l2i, 1) := by decide +kernel
theorem dX4_headOfLast_62 : decode cX4_headOfLast 62 = .ok (.ireturn, 1) := by decide +kernel
theorem dX4_isLikeLast_0 : decode cX4_isLikeLast 0 = .ok (.iload_n 1, 1) := by decide +kernel
theorem dX4_isLikeLast_1 : decode cX4_isLikeLast 1 = .ok (.aload_n 0, 1) := by decide +kernel
theorem dX4_isLikeLast_2 : decode cX4_isLikeLast 2 = .ok (.getfield 22, 3) := by decide +kernel
theorem dX4_isLikeLast_5 : decode cX4_isLikeLast 5 = .ok (.imul, 1) := by decide +kernel
theorem dX4_isLikeLast_6 : decode cX4_isLikeLast 6 = .ok (.istore_n 2, 1) := by decide +kernel
theorem dX4_isLikeLast_7 : decode cX4_isLikeLast 7 = .ok (.aload_n 0, 1) := by decide +kernel
theorem dX4_isLikeLast_8 : decode cX4_isLikeLast 8 = .ok (.getfield 26, 3) := by decide +kernel
theorem dX4_isLikeLast_11 : decode cX4_isLikeLast 11 = .ok (.aload_n 0, 1) := by decide +kernel
theorem dX4_isLikeLast_12 : decode cX4_isLikeLast 12 = .ok (.getfield 22, 3) := by decide +kernel
theorem dX4_isLikeLast_15 : decode cX4_isLikeLast 15 = .ok (.imul, 1) := by decide +kernel
theorem dX4_isLikeLast_16 : decode cX4_isLikeLast 16 = .ok (.istore_n 3, 1) := by decide +kernel
theorem dX4_isLikeLast_17 : decode cX4_isLikeLast 17 = .ok (.iconst 0, 1) := by decide +kernel
theorem dX4_isLikeLast_18 : decode cX4_isLikeLast 18 = .ok (.istore 4, 2) := by decide +kernel
theorem dX4_isLikeLast_20 : decode cX4_isLikeLast 20 = .ok (.iload 4, 2) := by decide +kernel
theorem dX4_isLikeLast_22 : decode cX4_isLikeLast 22 = .ok (.aload_n 0, 1) := by decide +kernel
theorem dX4_isLikeLast_23 : decode cX4_isLikeLast 23 = .ok (.getfield 22, 3) := by decide +kernel
theorem dX4_isLikeLast_26 : decode cX4_isLikeLast 26 = .ok (.if_icmp .ge 33, 3) := by decide +kernel
theorem dX4_isLikeLast_29 : decode cX4_isLikeLast 29 = .ok (.aload_n 0, 1) := by decide +kernel
theorem dX4_isLikeLast_30 : decode cX4_isLikeLast 30 = .ok (.getfield 18, 3) := by decide +kernel
theorem dX4_isLikeLast_33 : decode cX4_isLikeLast 33 = .ok (.iload_n 2, 1) := by decide +kernel
theorem dX4_isLikeLast_34 : decode cX4_isLikeLast 34 = .ok (.iload 4, 2) := by decide +kernel
theorem dX4_isLikeLast_36 : decode cX4_isLikeLast 36 = .ok (.iadd, 1) := by decide +kernel
theorem dX4_isLikeLast_37 : decode cX4_isLikeLast 37 = .ok (.laload, 1) := by decide +kernel
theorem dX4_isLikeLast_38 : decode cX4_isLikeLast 38 = .ok (.aload_n 0, 1) := by decide +kernel
theorem dX4_isLikeLast_39 : decode cX4_isLikeLast 39 = .ok (.getfield 18, 3) := by decide +kernel
theorem dX4_isLikeLast_42 : decode cX4_isLikeLast 42 = .ok (.iload_n 3, 1) := by decide +kernel
theorem dX4_isLikeLast_43 : decode cX4_isLikeLast 43 = .ok (.iload 4, 2) := by decide +kernel
theorem dX4_isLikeLast_45 : decode cX4_isLikeLast 45 = .ok (.iadd, 1) := by decide +kernel
theorem dX4_isLikeLast_46 : decode cX4_isLikeLast 46 = .ok (.laload, 1) := by decide +kernel
theorem dX4_isLikeLast_47 : decode cX4_isLikeLast 47 = .ok (.lcmp, 1) := by decide +kernel
theorem dX4_isLikeLast_48 : decode cX4_isLikeLast 48 = .ok (.ifCond .eq 5, 3) := by decide +kernel
theorem dX4_isLikeLast_51 : decode cX4_isLikeLast 51 = .ok (.iconst 0, 1) := by decide +kernel
theorem dX4_isLikeLast_52 : decode cX4_isLikeLast 52 = .ok (.ireturn, 1) := by decide +kernel
theorem dX4_isLikeLast_53 : decode cX4_isLikeLast 53 = .ok (.iinc 4 1, 3) := by decide +kernel
theorem dX4_isLikeLast_56 : decode cX4_isLikeLast 56 = .ok (.goto (-36), 3) := by decide +kernel
theorem dX4_isLikeLast_59 : decode cX4_isLikeLast 59 = .ok (.iconst 1, 1) := by decide +kernel
theorem dX4_isLikeLast_60 : decode cX4_isLikeLast 60 = .ok (.ireturn, 1) := by decide +kernel
theorem dX5_init_0 : decode cX5_init 0 = .ok (.aload_n 0, 1) := by decide +kernel
theorem dX5_init_1 : decode cX5_init 1 = .ok (.invokespecial 1, 3) := by decide +kernel
theorem dX5_init_4 : decode cX5_init 4 = .ok (.aload_n 0, 1) := by decide +kernel
theorem dX5_init_5 : decode cX5_init 5 = .ok (.iconst 0, 1) := by decide +kernel
theorem dX5_init_6 : decode cX5_init 6 = .ok (.putfield 9, 3) := by decide +kernel
theorem dX5_init_9 : decode cX5_init 9 = .ok (.aload_n 0, 1) := by decide +kernel
theorem dX5_init_10 : decode cX5_init 10 = .ok (.iconst 4, 1) := by decide +kernel
theorem dX5_init_11 : decode cX5_init 11 = .ok (.anewarray 13, 3) := by decide +kernel
theorem dX5_init_14 : decode cX5_init 14 = .ok (.putfield 15, 3) := by decide +kernel
theorem dX5_init_17 : decode cX5_init 17 = .ok (.aload_n 0, 1) := by decide +kernel
theorem dX5_init_18 : decode cX5_init 18 = .ok (.new 19, 3) := by decide +kernel
theorem dX5_init_21 : decode cX5_init 21 = .ok (.dup, 1) := by decide +kernel
theorem dX5_init_22 : decode cX5_init 22 = .ok (.invokespecial 21, 3) := by decide +kernel
theorem dX5_init_25 : decode cX5_init 25 = .ok (.putfield 22, 3) := by decide +kernel
theorem dX5_init_28 : decode cX5_init 28 = .ok (.aload_n 0, 1) := by decide +kernel
theorem dX5_init_29 : decode cX5_init 29 = .ok (.new 26, 3) := by decide +kernel
theorem dX5_init_32 : decode cX5_init 32 = .ok (.dup, 1) := by decide +kernel
theorem dX5_init_33 : decode cX5_init 33 = .ok (.invokespecial 28, 3) := by decide +kernel
theorem dX5_init_36 : decode cX5_init 36 = .ok (.putfield 29, 3) := by decide +kernel
theorem dX5_init_39 : decode cX5_init 39 = .ok (.aload_n 0, 1) := by decide +kernel
theorem dX5_init_40 : decode cX5_init 40 = .ok (.new 33, 3) := by decide +kernel
theorem dX5_init_43 : decode cX5_init 43 = .ok (.dup, 1) := by decide +kernel
theorem dX5_init_44 : decode cX5_init 44 = .ok (.invokespecial 35, 3) := by decide +kernel
theorem dX5_init_47 : decode cX5_init 47 = .ok (.putfield 36, 3) := by decide +kernel
theorem dX5_init_50 : decode cX5_init 50 = .ok (.aload_n 0, 1) := by decide +kernel
theorem dX5_init_51 : decode cX5_init 51 = .ok (.new 40, 3) := by decide +kernel
theorem dX5_init_54 : decode cX5_init 54 = .ok (.dup, 1) := by decide +kernel
theorem dX5_init_55 : decode cX5_init 55 = .ok (.invokespecial 42, 3) := by decide +kernel
theorem dX5_init_58 : decode cX5_init 58 = .ok (.putfield 43, 3) := by decide +kernel
theorem dX5_init_61 : decode cX5_init 61 = .ok (.aload_n 0, 1) := by decide +kernel
theorem dX5_init_62 : decode cX5_init 62 = .ok (.bipush 24, 2) := by decide +kernel
theorem dX5_init_64 : decode cX5_init 64 = .ok (.newarray .int, 2) := by decide +kernel
theorem dX5_init_66 : decode cX5_init 66 = .ok (.putfield 47, 3) := by decide +kernel
theorem dX5_init_69 : decode cX5_init 69 = .ok (.aload_n 0, 1) := by decide +kernel
theorem dX5_init_70 : decode cX5_init 70 = .ok (.iconst 0, 1) := by decide +kernel
theorem dX5_init_71 : decode cX5_init 71 = .ok (.putfield 51, 3) := by decide +kernel
theorem dX5_init_74 : decode cX5_init 74 = .ok (.aload_n 0, 1) := by decide +kernel
theorem dX5_init_75 : decode cX5_init 75 = .ok (.bipush 10, 2) := by decide +kernel
theorem dX5_init_77 : decode cX5_init 77 = .ok (.newarray .int, 2) := by decide +kernel
theorem dX5_init_79 : decode cX5_init 79 = .ok (.putfield 54, 3) := by decide +kernel
theorem dX5_init_82 : decode cX5_init 82 = .ok (.aload_n 0, 1) := by decide +kernel
theorem dX5_init_83 : decode cX5_init 83 = .ok (.iconst 0, 1) := by decide +kernel
theorem dX5_init_84 : decode cX5_init 84 = .ok (.putfield 57, 3) := by decide +kernel
theorem dX5_init_87 : decode cX5_init 87 = .ok (.iconst 0, 1) := by decide +kernel
theorem dX5_init_88 : decode cX5_init 88 = .ok (.istore_n 1, 1) := by decide +kernel
theorem dX5_init_89 : decode cX5_init 89 = .ok (.iload_n 1, 1) := by decide +kernel
theorem dX5_init_90 : decode cX5_init 90 = .ok (.aload_n 0, 1) := by decide +kernel
theorem dX5_init_91 : decode cX5_init 91 = .ok (.getfield 15, 3) := by decide +kernel
theorem dX5_init_94 : decode cX5_init 94 = .ok (.arraylength, 1) := by decide +kernel
theorem dX5_init_95 : decode cX5_init 95 = .ok (.if_icmp .ge 22, 3) := by decide +kernel
theorem dX5_init_98 : decode cX5_init 98 = .ok (.aload_n 0, 1) := by decide +kernel
theorem dX5_init_99 : decode cX5_init 99 = .ok (.getfield 15, 3) := by decide +kernel
theorem dX5_init_102 : decode cX5_init 102 = .ok (.iload_n 1, 1) := by decide +kernel
theorem dX5_init_103 : decode cX5_init 103 = .ok (.new 13, 3) := by decide +kernel
theorem dX5_init_106 : decode cX5_init 106 = .ok (.dup, 1) := by decide +kernel
theorem dX5_init_107 : decode cX5_init 107 = .ok (.invokespecial 60, 3) := by decide +kernel
theorem dX5_init_110 : decode cX5_init 110 = .ok (.aastore, 1) := by decide +kernel
theorem dX5_init_111 : decode cX5_init 111 = .ok (.iinc 1 1, 3) := by decide +kernel
theorem dX5_init_114 : decode cX5_init 114 = .ok (.goto (-25), 3) := by decide +kernel
theorem dX5_init_117 : decode cX5_init 117 = .ok (.return_, 1) := by decide +kernel
theorem dX5_status_0 : decode cX5_status 0 = .ok (.aload_n 0, 1) := by decide +kernel
theorem dX5_status_1 : decode cX5_status 1 = .ok (.getfield 9, 3) := by decide +kernel
theorem dX5_status_4 : decode cX5_status 4 = .ok (.ireturn, 1) := by decide +kernel
theorem dX5_sheet_0 : decode cX5_sheet 0 = .ok (.aload_n 0, 1) := by decide +kernel
theorem dX5_sheet_1 : decode cX5_sheet 1 = .ok (.iload_n 1, 1) := by decide +kernel
theorem dX5_sheet_2 : decode cX5_sheet 2 = .ok (.invokevirtual 61, 3) := by decide +kernel
theorem dX5_sheet_5 : decode cX5_sheet 5 = .ok (.astore 4, 2) := by decide +kernel
theorem dX5_sheet_7 : decode cX5_sheet 7 = .ok (.aload 4, 2) := by decide +kernel
theorem dX5_sheet_9 : decode cX5_sheet 9 = .ok (.ifnull 12, 3) := by decide +kernel
theorem dX5_sheet_12 : decode cX5_sheet 12 = .ok (.iload_n 2, 1) := by decide +kernel
theorem dX5_sheet_13 : decode cX5_sheet 13 = .ok (.ifCond .lt 8, 3) := by decide +kernel
theorem dX5_sheet_16 : decode cX5_sheet 16 = .ok (.iload_n 2, 1) := by decide +kernel
theorem dX5_sheet_17 : decode cX5_sheet 17 = .ok (.iconst 4, 1) := by decide +kernel
theorem dX5_sheet_18 : decode cX5_sheet 18 = .ok (.if_icmp .lt 9, 3) := by decide +kernel
theorem dX5_sheet_21 : decode cX5_sheet 21 = .ok (.aload_n 0, 1) := by decide +kernel
theorem dX5_sheet_22 : decode cX5_sheet 22 = .ok (.iconst 1, 1) := by decide +kernel
theorem dX5_sheet_23 : decode cX5_sheet 23 = .ok (.invokevirtual 65, 3) := by decide +kernel
theorem dX5_sheet_26 : decode cX5_sheet 26 = .ok (.ireturn, 1) := by decide +kernel
theorem dX5_sheet_27 : decode cX5_sheet 27 = .ok (.iload_n 3, 1) := by decide +kernel
theorem dX5_sheet_28 : decode cX5_sheet 28 = .ok (.bipush 100, 2) := by decide +kernel
theorem dX5_sheet_30 : decode cX5_sheet 30 = .ok (.if_icmp .le 9, 3) := by decide +kernel
theorem dX5_sheet_33 : decode cX5_sheet 33 = .ok (.aload_n 0, 1) := by decide +kernel
theorem dX5_sheet_34 : decode cX5_sheet 34 = .ok (.iconst 2, 1) := by decide +kernel
theorem dX5_sheet_35 : decode cX5_sheet 35 = .ok (.invokevirtual 65, 3) := by decide +kernel
theorem dX5_sheet_38 : decode cX5_sheet 38 = .ok (.ireturn, 1) := by decide +kernel
theorem dX5_sheet_39 : decode cX5_sheet 39 = .ok (.iload_n 3, 1) := by decide +kernel
theorem dX5_sheet_40 : decode cX5_sheet 40 = .ok (.ifCond .ge 10, 3) := by decide +kernel
theorem dX5_sheet_43 : decode cX5_sheet 43 = .ok (.aload_n 0, 1) := by decide +kernel
theorem dX5_sheet_44 : decode cX5_sheet 44 = .ok (.bipush 6, 2) := by decide +kernel
theorem dX5_sheet_46 : decode cX5_sheet 46 = .ok (.invokevirtual 65, 3) := by decide +kernel
theorem dX5_sheet_49 : decode cX5_sheet 49 = .ok (.ireturn, 1) := by decide +kernel
theorem dX5_sheet_50 : decode cX5_sheet 50 = .ok (.aload 4, 2) := by decide +kernel
theorem dX5_sheet_52 : decode cX5_sheet 52 = .ok (.iload_n 2, 1) := by decide +kernel
theorem dX5_sheet_53 : decode cX5_sheet 53 = .ok (.iload_n 3, 1) := by decide +kernel
theorem dX5_sheet_54 : decode cX5_sheet 54 = .ok (.invokevirtual 69, 3) := by decide +kernel
theorem dX5_sheet_57 : decode cX5_sheet 57 = .ok (.aload_n 0, 1) := by decide +kernel
theorem dX5_sheet_58 : decode cX5_sheet 58 = .ok (.invokevirtual 73, 3) := by decide +kernel
theorem dX5_sheet_61 : decode cX5_sheet 61 = .ok (.ireturn, 1) := by decide +kernel
theorem dX5_write_0 : decode cX5_write 0 = .ok (.aload_n 0, 1) := by decide +kernel
theorem dX5_write_1 : decode cX5_write 1 = .ok (.iload_n 1, 1) := by decide +kernel
theorem dX5_write_2 : decode cX5_write 2 = .ok (.invokevirtual 61, 3) := by decide +kernel
theorem dX5_write_5 : decode cX5_write 5 = .ok (.astore 5, 2) := by decide +kernel
theorem dX5_write_7 : decode cX5_write 7 = .ok (.aload 5, 2) := by decide +kernel
theorem dX5_write_9 : decode cX5_write 9 = .ok (.ifnonnull 9, 3) := by decide +kernel
theorem dX5_write_12 : decode cX5_write 12 = .ok (.aload_n 0, 1) := by decide +kernel
theorem dX5_write_13 : decode cX5_write 13 = .ok (.iconst 1, 1) := by decide +kernel
theorem dX5_write_14 : decode cX5_write 14 = .ok (.invokevirtual 65, 3) := by decide +kernel
theorem dX5_write_17 : decode cX5_write 17 = .ok (.ireturn, 1) := by decide +kernel
theorem dX5_write_18 : decode cX5_write 18 = .ok (.aload 5, 2) := by decide +kernel
theorem dX5_write_20 : decode cX5_write 20 = .ok (.invokevirtual 77, 3) := by decide +kernel
theorem dX5_write_23 : decode cX5_write 23 = .ok (.ifCond .eq 9, 3) := by decide +kernel
theorem dX5_write_26 : decode cX5_write 26 = .ok (.aload_n 0, 1) := by decide +kernel
theorem dX5_write_27 : decode cX5_write 27 = .ok (.iconst 3, 1) := by decide +kernel
theorem dX5_write_28 : decode cX5_write 28 = .ok (.invokevirtual 65, 3) := by decide +kernel
theorem dX5_write_31 : decode cX5_write 31 = .ok (.ireturn, 1) := by decide +kernel
theorem dX5_write_32 : decode cX5_write 32 = .ok (.aload 5, 2) := by decide +kernel
theorem dX5_write_34 : decode cX5_write 34 = .ok (.iload_n 2, 1) := by decide +kernel
theorem dX5_write_35 : decode cX5_write 35 = .ok (.iconst 1, 1) := by decide +kernel
theorem dX5_write_36 : decode cX5_write 36 = .ok (.invokevirtual 80, 3) := by decide +kernel
theorem dX5_write_39 : decode cX5_write 39 = .ok (.ifCond .ne 9, 3) := by decide +kernel
theorem dX5_write_42 : decode cX5_write 42 = .ok (.aload_n 0, 1) := by decide +kernel
theorem dX5_write_43 : decode cX5_write 43 = .ok (.iconst 4, 1) := by decide +kernel
theorem dX5_write_44 : decode cX5_write 44 = .ok (.invokevirtual 65, 3) := by decide +kernel
theorem dX5_write_47 : decode cX5_write 47 = .ok (.ireturn, 1) := by decide +kernel
theorem dX5_write_48 : decode cX5_write 48 = .ok (.aload 5, 2) := by decide +kernel
theorem dX5_write_50 : decode cX5_write 50 = .ok (.iload_n 2, 1) := by decide +kernel
theorem dX5_write_51 : decode cX5_write 51 = .ok (.lload_n 3, 1) := by decide +kernel
theorem dX5_write_52 : decode cX5_write 52 = .ok (.invokevirtual 84, 3) := by decide +kernel
theorem dX5_write_55 : decode cX5_write 55 = .ok (.aload_n 0, 1) := by decide +kernel
theorem dX5_write_56 : decode cX5_write 56 = .ok (.invokevirtual 73, 3) := by decide +kernel
theorem dX5_write_59 : decode cX5_write 59 = .ok (.ireturn, 1) := by decide +kernel
theorem dX5_read_0 : decode cX5_read 0 = .ok (.aload_n 0, 1) := by decide +kernel
theorem dX5_read_1 : decode cX5_read 1 = .ok (.iload_n 1, 1) := by decide +kernel
theorem dX5_read_2 : decode cX5_read 2 = .ok (.invokevirtual 61, 3) := by decide +kernel
theorem dX5_read_5 : decode cX5_read 5 = .ok (.astore_n 3, 1) := by decide +kernel
theorem dX5_read_6 : decode cX5_read 6 = .ok (.aload_n 3, 1) := by decide +kernel
theorem dX5_read_7 : decode cX5_read 7 = .ok (.ifnonnull 10, 3) := by decide +kernel
theorem dX5_read_10 : decode cX5_read 10 = .ok (.aload_n 0, 1) := by decide +kernel
theorem dX5_read_11 : decode cX5_read 11 = .ok (.iconst 1, 1) := by decide +kernel
theorem dX5_read_12 : decode cX5_read 12 = .ok (.invokevirtual 88, 3) := by decide +kernel
theorem dX5_read_15 : decode cX5_read 15 = .ok (.i2l, 1) := by decide +kernel
theorem dX5_read_16 : decode cX5_read 16 = .ok (.lreturn, 1) := by decide +kernel
theorem dX5_read_17 : decode cX5_read 17 = .ok (.aload_n 3, 1) := by decide +kernel
theorem dX5_read_18 : decode cX5_read 18 = .ok (.invokevirtual 77, 3) := by decide +kernel
theorem dX5_read_21 : decode cX5_read 21 = .ok (.ifCond .eq 10, 3) := by decide +kernel
theorem dX5_read_24 : decode cX5_read 24 = .ok (.aload_n 0, 1) := by decide +kernel
theorem dX5_read_25 : decode cX5_read 25 = .ok (.iconst 3, 1) := by decide +kernel
theorem dX5_read_26 : decode cX5_read 26 = .ok (.invokevirtual 88, 3) := by decide +kernel
theorem dX5_read_29 : decode cX5_read 29 = .ok (.i2l, 1) := by decide +kernel
theorem dX5_read_30 : decode cX5_read 30 = .ok (.lreturn, 1) := by decide +kernel
theorem dX5_read_31 : decode cX5_read 31 = .ok (.aload_n 3, 1) := by decide +kernel
theorem dX5_read_32 : decode cX5_read 32 = .ok (.iload_n 2, 1) := by decide +kernel
theorem dX5_read_33 : decode cX5_read 33 = .ok (.iconst 1, 1) := by decide +kernel
theorem dX5_read_34 : decode cX5_read 34 = .ok (.invokevirtual 80, 3) := by decide +kernel
theorem dX5_read_37 : decode cX5_read 37 = .ok (.ifCond .ne 10, 3) := by decide +kernel
theorem dX5_read_40 : decode cX5_read 40 = .ok (.aload_n 0, 1) := by decide +kernel
theorem dX5_read_41 : decode cX5_read 41 = .ok (.iconst 4, 1) := by decide +kernel
theorem dX5_read_42 : decode cX5_read 42 = .ok (.invokevirtual 88, 3) := by decide +kernel
theorem dX5_read_45 : decode cX5_read 45 = .ok (.i2l, 1) := by decide +kernel
theorem dX5_read_46 : decode cX5_read 46 = .ok (.lreturn, 1) := by decide +kernel
theorem dX5_read_47 : decode cX5_read 47 = .ok (.aload_n 0, 1) := by decide +kernel
theorem dX5_read_48 : decode cX5_read 48 = .ok (.iconst 0, 1) := by decide +kernel
theorem dX5_read_49 : decode cX5_read 49 = .ok (.putfield 9, 3) := by decide +kernel
theorem dX5_read_52 : decode cX5_read 52 = .ok (.aload_n 3, 1) := by decide +kernel
theorem dX5_read_53 : decode cX5_read 53 = .ok (.iload_n 2, 1) := by decide +kernel
theorem dX5_read_54 : decode cX5_read 54 = .ok (.invokevirtual 92, 3) := by decide +kernel
theorem dX5_read_57 : decode cX5_read 57 = .ok (.lreturn, 1) := by decide +kernel
theorem dX5_pour_0 : decode cX5_pour 0 = .ok (.aload_n 0, 1) := by decide +kernel
theorem dX5_pour_1 : decode cX5_pour 1 = .ok (.iload_n 1, 1) := by decide +kernel
theorem dX5_pour_2 : decode cX5_pour 2 = .ok (.invokevirtual 61, 3) := by decide +kernel
theorem dX5_pour_5 : decode cX5_pour 5 = .ok (.astore 6, 2) := by decide +kernel
theorem dX5_pour_7 : decode cX5_pour 7 = .ok (.aload_n 0, 1) := by decide +kernel
theorem dX5_pour_8 : decode cX5_pour 8 = .ok (.iload_n 3, 1) := by decide +kernel
theorem dX5_pour_9 : decode cX5_pour 9 = .ok (.invokevirtual 61, 3) := by decide +kernel
theorem dX5_pour_12 : decode cX5_pour 12 = .ok (.astore 7, 2) := by decide +kernel
theorem dX5_pour_14 : decode cX5_pour 14 = .ok (.aload 6, 2) := by decide +kernel
theorem dX5_pour_16 : decode cX5_pour 16 = .ok (.ifnull 8, 3) := by decide +kernel
theorem dX5_pour_19 : decode cX5_pour 19 = .ok (.aload 7, 2) := by decide +kernel
theorem dX5_pour_21 : decode cX5_pour 21 = .ok (.ifnonnull 9, 3) := by decide +kernel
theorem dX5_pour_24 : decode cX5_pour 24 = .ok (.aload_n 0, 1) := by decide +kernel
theorem dX5_pour_25 : decode cX5_pour 25 = .ok (.iconst 1, 1) := by decide +kernel
theorem dX5_pour_26 : decode cX5_pour 26 = .ok (.invokevirtual 65, 3) := by decide +kernel
theorem dX5_pour_29 : decode cX5_pour 29 = .ok (.ireturn, 1) := by decide +kernel
theorem dX5_pour_30 : decode cX5_pour 30 = .ok (.aload 6, 2) := by decide +kernel
theorem dX5_pour_32 : decode cX5_pour 32 = .ok (.invokevirtual 77, 3) := by decide +kernel
theorem dX5_pour_35 : decode cX5_pour 35 = .ok (.ifCond .ne 11, 3) := by decide +kernel
theorem dX5_pour_38 : decode cX5_pour 38 = .ok (.aload 7, 2) := by decide +kernel
theorem dX5_pour_40 : decode cX5_pour 40 = .ok (.invokevirtual 77, 3) := by decide +kernel
theorem dX5_pour_43 : decode cX5_pour 43 = .ok (.ifCond .eq 9, 3) := by decide +kernel
theorem dX5_pour_46 : decode cX5_pour 46 = .ok (.aload_n 0, 1) := by decide +kernel
theorem dX5_pour_47 : decode cX5_pour 47 = .ok (.iconst 3, 1) := by decide +kernel
theorem dX5_pour_48 : decode cX5_pour 48 = .ok (.invokevirtual 65, 3) := by decide +kernel
theorem dX5_pour_51 : decode cX5_pour 51 = .ok (.ireturn, 1) := by decide +kernel
theorem dX5_pour_52 : decode cX5_pour 52 = .ok (.aload 6, 2) := by decide +kernel
theorem dX5_pour_54 : decode cX5_pour 54 = .ok (.getfield 96, 3) := by decide +kernel
theorem dX5_pour_57 : decode cX5_pour 57 = .ok (.aload 7, 2) := by decide +kernel
theorem dX5_pour_59 : decode cX5_pour 59 = .ok (.getfield 96, 3) := by decide +kernel
theorem dX5_pour_62 : decode cX5_pour 62 = .ok (.if_icmp .eq 10, 3) := by decide +kernel
theorem dX5_pour_65 : decode cX5_pour 65 = .ok (.aload_n 0, 1) := by decide +kernel
theorem dX5_pour_66 : decode cX5_pour 66 = .ok (.bipush 11, 2) := by decide +kernel
theorem dX5_pour_68 : decode cX5_pour 68 = .ok (.invokevirtual 65, 3) := by decide +kernel
theorem dX5_pour_71 : decode cX5_pour 71 = .ok (.ireturn, 1) := by decide +kernel
theorem dX5_pour_72 : decode cX5_pour 72 = .ok (.iload 5, 2) := by decide +kernel
theorem dX5_pour_74 : decode cX5_pour 74 = .ok (.ifCond .ge 10, 3) := by decide +kernel
theorem dX5_pour_77 : decode cX5_pour 77 = .ok (.aload_n 0, 1) := by decide +kernel
theorem dX5_pour_78 : decode cX5_pour 78 = .ok (.bipush 6, 2) := by decide +kernel
theorem dX5_pour_80 : decode cX5_pour 80 = .ok (.invokevirtual 65, 3) := by decide +kernel
theorem dX5_pour_83 : decode cX5_pour 83 = .ok (.ireturn, 1) := by decide +kernel
theorem dX5_pour_84 : decode cX5_pour 84 = .ok (.aload 6, 2) := by decide +kernel
theorem dX5_pour_86 : decode cX5_pour 86 = .ok (.iload_n 2, 1) := by decide +kernel
theorem dX5_pour_87 : decode cX5_pour 87 = .ok (.iload 5, 2) := by decide +kernel
theorem dX5_pour_89 : decode cX5_pour 89 = .ok (.invokevirtual 80, 3) := by decide +kernel
theorem dX5_pour_92 : decode cX5_pour 92 = .ok (.ifCond .eq 15, 3) := by decide +kernel
theorem dX5_pour_95 : decode cX5_pour 95 = .ok (.aload 7, 2) := by decide +kernel
theorem dX5_pour_97 : decode cX5_pour 97 = .ok (.iload 4, 2) := by decide +kernel
theorem dX5_pour_99 : decode cX5_pour 99 = .ok (.iload 5, 2) := by decide +kernel
theorem dX5_pour_101 : decode cX5_pour 101 = .ok (.invokevirtual 80, 3) := by decide +kernel
theorem dX5_pour_104 : decode cX5_pour 104 = .ok (.ifCond .ne 9, 3) := by decide +kernel
theorem dX5_pour_107 : decode cX5_pour 107 = .ok (.aload_n 0, 1) := by decide +kernel
theorem dX5_pour_108 : decode cX5_pour 108 = .ok (.iconst 4, 1) := by decide +kernel
theorem dX5_pour_109 : decode cX5_pour 109 = .ok (.invokevirtual 65, 3) := by decide +kernel
theorem dX5_pour_112 : decode cX5_pour 112 = .ok (.ireturn, 1) := by decide +kernel
theorem dX5_pour_113 : decode cX5_pour 113 = .ok (.aload 6, 2) := by decide +kernel
theorem dX5_pour_115 : decode cX5_pour 115 = .ok (.getfield 99, 3) := by decide +kernel
theorem dX5_pour_118 : decode cX5_pour 118 = .ok (.iload_n 2, 1) := by decide +kernel
theorem dX5_pour_119 : decode cX5_pour 119 = .ok (.aload 7, 2) := by decide +kernel
theorem dX5_pour_121 : decode cX5_pour 121 = .ok (.getfield 99, 3) := by decide +kernel
theorem dX5_pour_124 : decode cX5_pour 124 = .ok (.iload 4, 2) := by decide +kernel
theorem dX5_pour_126 : decode cX5_pour 126 = .ok (.iload 5, 2) := by decide +kernel
theorem dX5_pour_128 : decode cX5_pour 128 = .ok (.invokestatic 103, 3) := by decide +kernel
theorem dX5_pour_131 : decode cX5_pour 131 = .ok (.aload_n 0, 1) := by decide +kernel
theorem dX5_pour_132 : decode cX5_pour 132 = .ok (.invokevirtual 73, 3) := by decide +kernel
theorem dX5_pour_135 : decode cX5_pour 135 = .ok (.ireturn, 1) := by decide +kernel
theorem dX5_ring_0 : decode cX5_ring 0 = .ok (.iload_n 1, 1) := by decide +kernel
theorem dX5_ring_1 : decode cX5_ring 1 = .ok (.iconst 2, 1) := by decide +kernel
theorem dX5_ring_2 : decode cX5_ring 2 = .ok (.if_icmp .lt 10, 3) := by decide +kernel
theorem dX5_ring_5 : decode cX5_ring 5 = .ok (.iload_n 1, 1) := by decide +kernel
theorem dX5_ring_6 : decode cX5_ring 6 = .ok (.sipush 4096, 3) := by decide +kernel
theorem dX5_ring_9 : decode cX5_ring 9 = .ok (.if_icmp .le 9, 3) := by decide +kernel
theorem dX5_ring_12 : decode cX5_ring 12 = .ok (.aload_n 0, 1) := by decide +kernel
theorem dX5_ring_13 : decode cX5_ring 13 = .ok (.iconst 2, 1) := by decide +kernel
theorem dX5_ring_14 : decode cX5_ring 14 = .ok (.invokevirtual 65, 3) := by decide +kernel
theorem dX5_ring_17 : decode cX5_ring 17 = .ok (.ireturn, 1) := by decide +kernel
theorem dX5_ring_18 : decode cX5_ring 18 = .ok (.aload_n 0, 1) := by decide +kernel
theorem dX5_ring_19 : decode cX5_ring 19 = .ok (.getfield 22, 3) := by decide +kernel
theorem dX5_ring_22 : decode cX5_ring 22 = .ok (.iload_n 1, 1) := by decide +kernel
theorem dX5_ring_23 : decode cX5_ring 23 = .ok (.invokevirtual 109, 3) := by decide +kernel
theorem dX5_ring_26 : decode cX5_ring 26 = .ok (.aload_n 0, 1) := by decide +kernel
theorem dX5_ring_27 : decode cX5_ring 27 = .ok (.invokevirtual 73, 3) := by decide +kernel
theorem dX5_ring_30 : decode cX5_ring 30 = .ok (.ireturn, 1) := by decide +kernel
theorem dX5_beater_0 : decode cX5_beater 0 = .ok (.iload_n 1, 1) := by decide +kernel
theorem dX5_beater_1 : decode cX5_beater 1 = .ok (.invokestatic 113, 3) := by decide +kernel
theorem dX5_beater_4 : decode cX5_beater 4 = .ok (.ifCond .eq 14, 3) := by decide +kernel
theorem dX5_beater_7 : decode cX5_beater 7 = .ok (.aload_n 0, 1) := by decide +kernel
theorem dX5_beater_8 : decode cX5_beater 8 = .ok (.getfield 22, 3) := by decide +kernel
theorem dX5_beater_11 : decode cX5_beater 11 = .ok (.iload_n 2, 1) := by decide +kernel
theorem dX5_beater_12 : decode cX5_beater 12 = .ok (.invokevirtual 116, 3) := by decide +kernel
theorem dX5_beater_15 : decode cX5_beater 15 = .ok (.ifCond .ne 9, 3) := by decide +kernel
theorem dX5_beater_18 : decode cX5_beater 18 = .ok (.aload_n 0, 1) := by decide +kernel
theorem dX5_beater_19 : decode cX5_beater 19 = .ok (.iconst 2, 1) := by decide +kernel
theorem dX5_beater_20 : decode cX5_beater 20 = .ok (.invokevirtual 88, 3) := by decide +kernel
theorem dX5_beater_23 : decode cX5_beater 23 = .ok (.ireturn, 1) := by decide +kernel
theorem dX5_beater_24 : decode cX5_beater 24 = .ok (.aload_n 0, 1) := by decide +kernel
theorem dX5_beater_25 : decode cX5_beater 25 = .ok (.getfield 22, 3) := by decide +kernel
theorem dX5_beater_28 : decode cX5_beater 28 = .ok (.getfield 119, 3) := by decide +kernel
theorem dX5_beater_31 : decode cX5_beater 31 = .ok (.bipush 24, 2) := by decide +kernel
theorem dX5_beater_33 : decode cX5_beater 33 = .ok (.if_icmp .lt 10, 3) := by decide +kernel
theorem dX5_beater_36 : decode cX5_beater 36 = .ok (.aload_n 0, 1) := by decide +kernel
theorem dX5_beater_37 : decode cX5_beater 37 = .ok (.bipush 7, 2) := by decide +kernel
theorem dX5_beater_39 : decode cX5_beater 39 = .ok (.invokevirtual 88, 3) := by decide +kernel
theorem dX5_beater_42 : decode cX5_beater 42 = .ok (.ireturn, 1) := by decide +kernel
theorem dX5_beater_43 : decode cX5_beater 43 = .ok (.aload_n 0, 1) := by decide +kernel
theorem dX5_beater_44 : decode cX5_beater 44 = .ok (.aload_n 0, 1) := by decide +kernel
theorem dX5_beater_45 : decode cX5_beater 45 = .ok (.getfield 22, 3) := by decide +kernel
theorem dX5_beater_48 : decode cX5_beater 48 = .ok (.iload_n 1, 1) := by decide +kernel
theorem dX5_beater_49 : decode cX5_beater 49 = .ok (.iload_n 2, 1) := by decide +kernel
theorem dX5_beater_50 : decode cX5_beater 50 = .ok (.invokevirtual 122, 3) := by decide +kernel
theorem dX5_beater_53 : decode cX5_beater 53 = .ok (.invokevirtual 126, 3) := by decide +kernel
theorem dX5_beater_56 : decode cX5_beater 56 = .ok (.ireturn, 1) := by decide +kernel
theorem dX5_kind_0 : decode cX5_kind 0 = .ok (.aload_n 0, 1) := by decide +kernel
theorem dX5_kind_1 : decode cX5_kind 1 = .ok (.getfield 22, 3) := by decide +kernel
theorem dX5_kind_4 : decode cX5_kind 4 = .ok (.iload_n 1, 1) := by decide +kernel
theorem dX5_kind_5 : decode cX5_kind 5 = .ok (.invokevirtual 129, 3) := by decide +kernel
theorem dX5_kind_8 : decode cX5_kind 8 = .ok (.ifCond .eq 10, 3) := by decide +kernel
theorem dX5_kind_11 : decode cX5_kind 11 = .ok (.iload_n 2, 1) := by decide +kernel
theorem dX5_kind_12 : decode cX5_kind 12 = .ok (.invokestatic 113, 3) := by decide +kernel
theorem dX5_kind_15 : decode cX5_kind 15 = .ok (.ifCond .ne 9, 3) := by decide +kernel
theorem dX5_kind_18 : decode cX5_kind 18 = .ok (.aload_n 0, 1) := by decide +kernel
theorem dX5_kind_19 : decode cX5_kind 19 = .ok (.iconst 2, 1) := by decide +kernel
theorem dX5_kind_20 : decode cX5_kind 20 = .ok (.invokevirtual 65, 3) := by decide +kernel
theorem dX5_kind_23 : decode cX5_kind 23 = .ok (.ireturn, 1) := by decide +kernel
theorem dX5_kind_24 : decode cX5_kind 24 = .ok (.aload_n 0, 1) := by decide +kernel
theorem dX5_kind_25 : decode cX5_kind 25 = .ok (.getfield 22, 3) := by decide +kernel
theorem dX5_kind_28 : decode cX5_kind 28 = .ok (.getfield 132, 3) := by decide +kernel
theorem dX5_kind_31 : decode cX5_kind 31 = .ok (.iload_n 1, 1) := by decide +kernel
theorem dX5_kind_32 : decode cX5_kind 32 = .ok (.iload_n 2, 1) := by decide +kernel
theorem dX5_kind_33 : decode cX5_kind 33 = .ok (.iastore, 1) := by decide +kernel
theorem dX5_kind_34 : decode cX5_kind 34 = .ok (.aload_n 0, 1) := by decide +kernel
theorem dX5_kind_35 : decode cX5_kind 35 = .ok (.invokevirtual 73, 3) := by decide +kernel
theorem dX5_kind_38 : decode cX5_kind 38 = .ok (.ireturn, 1) := by decide +kernel
theorem dX5_turn_0 : decode cX5_turn 0 = .ok (.aload_n 0, 1) := by decide +kernel
theorem dX5_turn_1 : decode cX5_turn 1 = .ok (.getfield 22, 3) := by decide +kernel
theorem dX5_turn_4 : decode cX5_turn 4 = .ok (.iload_n 1, 1) := by decide +kernel
theorem dX5_turn_5 : decode cX5_turn 5 = .ok (.invokevirtual 129, 3) := by decide +kernel
theorem dX5_turn_8 : decode cX5_turn 8 = .ok (.ifCond .eq 14, 3) := by decide +kernel
theorem dX5_turn_11 : decode cX5_turn 11 = .ok (.aload_n 0, 1) := by decide +kernel
theorem dX5_turn_12 : decode cX5_turn 12 = .ok (.getfield 22, 3) := by decide +kernel
theorem dX5_turn_15 : decode cX5_turn 15 = .ok (.iload_n 2, 1) := by decide +kernel
theorem dX5_turn_16 : decode cX5_turn 16 = .ok (.invokevirtual 116, 3) := by decide +kernel
theorem dX5_turn_19 : decode cX5_turn 19 = .ok (.ifCond .ne 9, 3) := by decide +kernel
theorem dX5_turn_22 : decode cX5_turn 22 = .ok (.aload_n 0, 1) := by decide +kernel
theorem dX5_turn_23 : decode cX5_turn 23 = .ok (.iconst 2, 1) := by decide +kernel
theorem dX5_turn_24 : decode cX5_turn 24 = .ok (.invokevirtual 65, 3) := by decide +kernel
theorem dX5_turn_27 : decode cX5_turn 27 = .ok (.ireturn, 1) := by decide +kernel
theorem dX5_turn_28 : decode cX5_turn 28 = .ok (.aload_n 0, 1) := by decide +kernel
theorem dX5_turn_29 : decode cX5_turn 29 = .ok (.getfield 22, 3) := by decide +kernel
theorem dX5_turn_32 : decode cX5_turn 32 = .ok (.getfield 135, 3) := by decide +kernel
theorem dX5_turn_35 : decode cX5_turn 35 = .ok (.iload_n 1, 1) := by decide +kernel
theorem dX5_turn_36 : decode cX5_turn 36 = .ok (.iload_n 2, 1) := by decide +kernel
theorem dX5_turn_37 : decode cX5_turn 37 = .ok (.iastore, 1) := by decide +kernel
theorem dX5_turn_38 : decode cX5_turn 38 = .ok (.aload_n 0, 1) := by decide +kernel
theorem dX5_turn_39 : decode cX5_turn 39 = .ok (.invokevirtual 73, 3) := by decide +kernel
theorem dX5_turn_42 : decode cX5_turn 42 = .ok (.ireturn, 1) := by decide +kernel
theorem dX5_phases_0 : decode cX5_phases 0 = .ok (.aload_n 0, 1) := by decide +kernel
theorem dX5_phases_1 : decode cX5_phases 1 = .ok (.iload_n 1, 1) := by decide +kernel
theorem dX5_phases_2 : decode cX5_phases 2 = .ok (.invokevirtual 61, 3) := by decide +kernel
theorem dX5_phases_5 : decode cX5_phases 5 = .ok (.astore_n 2, 1) := by decide +kernel
theorem dX5_phases_6 : decode cX5_phases 6 = .ok (.aload_n 2, 1) := by decide +kernel
theorem dX5_phases_7 : decode cX5_phases 7 = .ok (.ifnonnull 9, 3) := by decide +kernel
theorem dX5_phases_10 : decode cX5_phases 10 = .ok (.aload_n 0, 1) := by decide +kernel
theorem dX5_phases_11 : decode cX5_phases 11 = .ok (.iconst 1, 1) := by decide +kernel
theorem dX5_phases_12 : decode cX5_phases 12 = .ok (.invokevirtual 65, 3) := by decide +kernel
theorem dX5_phases_15 : decode cX5_phases 15 = .ok (.ireturn, 1) := by decide +kernel
theorem dX5_phases_16 : decode cX5_phases 16 = .ok (.aload_n 2, 1) := by decide +kernel
theorem dX5_phases_17 : decode cX5_phases 17 = .ok (.invokevirtual 77, 3) := by decide +kernel
theorem dX5_phases_20 : decode cX5_phases 20 = .ok (.ifCond .eq 9, 3) := by decide +kernel
theorem dX5_phases_23 : decode cX5_phases 23 = .ok (.aload_n 0, 1) := by decide +kernel
theorem dX5_phases_24 : decode cX5_phases 24 = .ok (.iconst 3, 1) := by decide +kernel
theorem dX5_phases_25 : decode cX5_phases 25 = .ok (.invokevirtual 65, 3) := by decide +kernel
theorem dX5_phases_28 : decode cX5_phases 28 = .ok (.ireturn, 1) := by decide +kernel
theorem dX5_phases_29 : decode cX5_phases 29 = .ok (.aload_n 2, 1) := by decide +kernel
theorem dX5_phases_30 : decode cX5_phases 30 = .ok (.iconst 0, 1) := by decide +kernel
theorem dX5_phases_31 : decode cX5_phases 31 = .ok (.aload_n 0, 1) := by decide +kernel
theorem dX5_phases_32 : decode cX5_phases 32 = .ok (.getfield 22, 3) := by decide +kernel
theorem dX5_phases_35 : decode cX5_phases 35 = .ok (.getfield 119, 3) := by decide +kernel
theorem dX5_phases_38 : decode cX5_phases 38 = .ok (.invokevirtual 80, 3) := by decide +kernel
theorem dX5_phases_41 : decode cX5_phases 41 = .ok (.ifCond .ne 9, 3) := by decide +kernel
theorem dX5_phases_44 : decode cX5_phases 44 = .ok (.aload_n 0, 1) := by decide +kernel
theorem dX5_phases_45 : decode cX5_phases 45 = .ok (.iconst 4, 1) := by decide +kernel
theorem dX5_phases_46 : decode cX5_phases 46 = .ok (.invokevirtual 65, 3) := by decide +kernel
theorem dX5_phases_49 : decode cX5_phases 49 = .ok (.ireturn, 1) := by decide +kernel
theorem dX5_phases_50 : decode cX5_phases 50 = .ok (.aload_n 2, 1) := by decide +kernel
theorem dX5_phases_51 : decode cX5_phases 51 = .ok (.aload_n 0, 1) := by decide +kernel
theorem dX5_phases_52 : decode cX5_phases 52 = .ok (.getfield 22, 3) := by decide +kernel
theorem dX5_phases_55 : decode cX5_phases 55 = .ok (.getfield 119, 3) := by decide +kernel
theorem dX5_phases_58 : decode cX5_phases 58 = .ok (.aload_n 0, 1) := by decide +kernel
theorem dX5_phases_59 : decode cX5_phases 59 = .ok (.getfield 22, 3) := by decide +kernel
theorem dX5_phases_62 : decode cX5_phases 62 = .ok (.getfield 138, 3) := by decide +kernel
theorem dX5_phases_65 : decode cX5_phases 65 = .ok (.iconst 1, 1) := by decide +kernel
theorem dX5_phases_66 : decode cX5_phases 66 = .ok (.isub, 1) := by decide +kernel
theorem dX5_phases_67 : decode cX5_phases 67 = .ok (.i2l, 1) := by decide +kernel
theorem dX5_phases_68 : decode cX5_phases 68 = .ok (.invokevirtual 141, 3) := by decide +kernel
theorem dX5_phases_71 : decode cX5_phases 71 = .ok (.ifCond .ne 9, 3) := by decide +kernel
theorem dX5_phases_74 : decode cX5_phases 74 = .ok (.aload_n 0, 1) := by decide +kernel
theorem dX5_phases_75 : decode cX5_phases 75 = .ok (.iconst 2, 1) := by decide +kernel
theorem dX5_phases_76 : decode cX5_phases 76 = .ok (.invokevirtual 65, 3) := by decide +kernel
theorem dX5_phases_79 : decode cX5_phases 79 = .ok (.ireturn, 1) := by decide +kernel
theorem dX5_phases_80 : decode cX5_phases 80 = .ok (.aload_n 2, 1) := by decide +kernel
theorem dX5_phases_81 : decode cX5_phases 81 = .ok (.aload_n 0, 1) := by decide +kernel
theorem dX5_phases_82 : decode cX5_phases 82 = .ok (.getfield 22, 3) := by decide +kernel
theorem dX5_phases_85 : decode cX5_phases 85 = .ok (.getfield 135, 3) := by decide +kernel
theorem dX5_phases_88 : decode cX5_phases 88 = .ok (.aload_n 0, 1) := by decide +kernel
theorem dX5_phases_89 : decode cX5_phases 89 = .ok (.getfield 22, 3) := by decide +kernel
theorem dX5_phases_92 : decode cX5_phases 92 = .ok (.getfield 119, 3) := by decide +kernel
theorem dX5_phases_95 : decode cX5_phases 95 = .ok (.invokevirtual 145, 3) := by decide +kernel
theorem dX5_phases_98 : decode cX5_phases 98 = .ok (.aload_n 0, 1) := by decide +kernel
theorem dX5_phases_99 : decode cX5_phases 99 = .ok (.invokevirtual 73, 3) := by decide +kernel
theorem dX5_phases_102 : decode cX5_phases 102 = .ok (.ireturn, 1) := by decide +kernel
theorem dX5_road_0 : decode cX5_road 0 = .ok (.aload_n 0, 1) := by decide +kernel
theorem dX5_road_1 : decode cX5_road 1 = .ok (.getfield 22, 3) := by decide +kernel
theorem dX5_road_4 : decode cX5_road 4 = .ok (.iload_n 1, 1) := by decide +kernel
theorem dX5_road_5 : decode cX5_road 5 = .ok (.invokevirtual 129, 3) := by decide +kernel
theorem dX5_road_8 : decode cX5_road 8 = .ok (.ifCond .eq 14, 3) := by decide +kernel
theorem dX5_road_11 : decode cX5_road 11 = .ok (.aload_n 0, 1) := by decide +kernel
theorem dX5_road_12 : decode cX5_road 12 = .ok (.getfield 22, 3) := by decide +kernel
theorem dX5_road_15 : decode cX5_road 15 = .ok (.iload_n 2, 1) := by decide +kernel
theorem dX5_road_16 : decode cX5_road 16 = .ok (.invokevirtual 129, 3) := by decide +kernel
theorem dX5_road_19 : decode cX5_road 19 = .ok (.ifCond .ne 9, 3) := by decide +kernel
theorem dX5_road_22 : decode cX5_road 22 = .ok (.aload_n 0, 1) := by decide +kernel
theorem dX5_road_23 : decode cX5_road 23 = .ok (.iconst 2, 1) := by decide +kernel
theorem dX5_road_24 : decode cX5_road 24 = .ok (.invokevirtual 65, 3) := by decide +kernel
theorem dX5_road_27 : decode cX5_road 27 = .ok (.ireturn, 1) := by decide +kernel
theorem dX5_road_28 : decode cX5_road 28 = .ok (.aload_n 0, 1) := by decide +kernel
theorem dX5_road_29 : decode cX5_road 29 = .ok (.getfield 22, 3) := by decide +kernel
theorem dX5_road_32 : decode cX5_road 32 = .ok (.iload_n 1, 1) := by decide +kernel
theorem dX5_road_33 : decode cX5_road 33 = .ok (.iload_n 2, 1) := by decide +kernel
theorem dX5_road_34 : decode cX5_road 34 = .ok (.iload_n 3, 1) := by decide +kernel
theorem dX5_road_35 : decode cX5_road 35 = .ok (.invokevirtual 149, 3) := by decide +kernel
theorem dX5_road_38 : decode cX5_road 38 = .ok (.aload_n 0, 1) := by decide +kernel
theorem dX5_road_39 : decode cX5_road 39 = .ok (.invokevirtual 73, 3) := by decide +kernel
theorem dX5_road_42 : decode cX5_road 42 = .ok (.ireturn, 1) := by decide +kernel
theorem dX5_roads_0 : decode cX5_roads 0 = .ok (.iload_n 1, 1) := by decide +kernel
theorem dX5_roads_1 : decode cX5_roads 1 = .ok (.ifCond .lt 8, 3) := by decide +kernel
theorem dX5_roads_4 : decode cX5_roads 4 = .ok (.iload_n 1, 1) := by decide +kernel
theorem dX5_roads_5 : decode cX5_roads 5 = .ok (.iconst 3, 1) := by decide +kernel
theorem dX5_roads_6 : decode cX5_roads 6 = .ok (.if_icmp .le 9, 3) := by decide +kernel
theorem dX5_roads_9 : decode cX5_roads 9 = .ok (.aload_n 0, 1) := by decide +kernel
theorem dX5_roads_10 : decode cX5_roads 10 = .ok (.iconst 2, 1) := by decide +kernel
theorem dX5_roads_11 : decode cX5_roads 11 = .ok (.invokevirtual 65, 3) := by decide +kernel
theorem dX5_roads_14 : decode cX5_roads 14 = .ok (.ireturn, 1) := by decide +kernel
theorem dX5_roads_15 : decode cX5_roads 15 = .ok (.aload_n 0, 1) := by decide +kernel
theorem dX5_roads_16 : decode cX5_roads 16 = .ok (.getfield 22, 3) := by decide +kernel
theorem dX5_roads_19 : decode cX5_roads 19 = .ok (.iload_n 1, 1) := by decide +kernel
theorem dX5_roads_20 : decode cX5_roads 20 = .ok (.invokevirtual 153, 3) := by decide +kernel
theorem dX5_roads_23 : decode cX5_roads 23 = .ok (.aload_n 0, 1) := by decide +kernel
theorem dX5_roads_24 : decode cX5_roads 24 = .ok (.invokevirtual 73, 3) := by decide +kernel
theorem dX5_roads_27 : decode cX5_roads 27 = .ok (.ireturn, 1) := by decide +kernel
theorem dX5_push_0 : decode cX5_push 0 = .ok (.aload_n 0, 1) := by decide +kernel
theorem dX5_push_1 : decode cX5_push 1 = .ok (.iload_n 1, 1) := by decide +kernel
theorem dX5_push_2 : decode cX5_push 2 = .ok (.invokevirtual 61, 3) := by decide +kernel
theorem dX5_push_5 : decode cX5_push 5 = .ok (.astore_n 3, 1) := by decide +kernel
theorem dX5_push_6 : decode cX5_push 6 = .ok (.aload_n 3, 1) := by decide +kernel
theorem dX5_push_7 : decode cX5_push 7 = .ok (.ifnonnull 9, 3) := by decide +kernel
theorem dX5_push_10 : decode cX5_push 10 = .ok (.aload_n 0, 1) := by decide +kernel
theorem dX5_push_11 : decode cX5_push 11 = .ok (.iconst 1, 1) := by decide +kernel
theorem dX5_push_12 : decode cX5_push 12 = .ok (.invokevirtual 65, 3) := by decide +kernel
theorem dX5_push_15 : decode cX5_push 15 = .ok (.ireturn, 1) := by decide +kernel
theorem dX5_push_16 : decode cX5_push 16 = .ok (.aload_n 3, 1) := by decide +kernel
theorem dX5_push_17 : decode cX5_push 17 = .ok (.invokevirtual 77, 3) := by decide +kernel
theorem dX5_push_20 : decode cX5_push 20 = .ok (.ifCond .eq 9, 3) := by decide +kernel
theorem dX5_push_23 : decode cX5_push 23 = .ok (.aload_n 0, 1) := by decide +kernel
theorem dX5_push_24 : decode cX5_push 24 = .ok (.iconst 3, 1) := by decide +kernel
theorem dX5_push_25 : decode cX5_push 25 = .ok (.invokevirtual 65, 3) := by decide +kernel
theorem dX5_push_28 : decode cX5_push 28 = .ok (.ireturn, 1) := by decide +kernel
theorem dX5_push_29 : decode cX5_push 29 = .ok (.iload_n 2, 1) := by decide +kernel
theorem dX5_push_30 : decode cX5_push 30 = .ok (.iconst 1, 1) := by decide +kernel
theorem dX5_push_31 : decode cX5_push 31 = .ok (.if_icmp .lt 9, 3) := by decide +kernel
theorem dX5_push_34 : decode cX5_push 34 = .ok (.iload_n 2, 1) := by decide +kernel
theorem dX5_push_35 : decode cX5_push 35 = .ok (.bipush 16, 2) := by decide +kernel
theorem dX5_push_37 : decode cX5_push 37 = .ok (.if_icmp .le 9, 3) := by decide +kernel
theorem dX5_push_40 : decode cX5_push 40 = .ok (.aload_n 0, 1) := by decide +kernel
theorem dX5_push_41 : decode cX5_push 41 = .ok (.iconst 2, 1) := by decide +kernel
theorem dX5_push_42 : decode cX5_push 42 = .ok (.invokevirtual 65, 3) := by decide +kernel
theorem dX5_push_45 : decode cX5_push 45 = .ok (.ireturn, 1) := by decide +kernel
theorem dX5_push_46 : decode cX5_push 46 = .ok (.aload_n 3, 1) := by decide +kernel
theorem dX5_push_47 : decode cX5_push 47 = .ok (.iconst 0, 1) := by decide +kernel
theorem dX5_push_48 : decode cX5_push 48 = .ok (.iload_n 2, 1) := by decide +kernel
theorem dX5_push_49 : decode cX5_push 49 = .ok (.invokevirtual 80, 3) := by decide +kernel
theorem dX5_push_52 : decode cX5_push 52 = .ok (.ifCond .ne 9, 3) := by decide +kernel
theorem dX5_push_55 : decode cX5_push 55 = .ok (.aload_n 0, 1) := by decide +kernel
theorem dX5_push_56 : decode cX5_push 56 = .ok (.iconst 4, 1) := by decide +kernel
theorem dX5_push_57 : decode cX5_push 57 = .ok (.invokevirtual 65, 3) := by decide +kernel
theorem dX5_push_60 : decode cX5_push 60 = .ok (.ireturn, 1) := by decide +kernel
theorem dX5_push_61 : decode cX5_push 61 = .ok (.aload_n 3, 1) := by decide +kernel
theorem dX5_push_62 : decode cX5_push 62 = .ok (.iload_n 2, 1) := by decide +kernel
theorem dX5_push_63 : decode cX5_push 63 = .ok (.ldc2_w 156, 3) := by decide +kernel
theorem dX5_push_66 : decode cX5_push 66 = .ok (.invokevirtual 141, 3) := by decide +kernel
theorem dX5_push_69 : decode cX5_push 69 = .ok (.ifCond .ne 9, 3) := by decide +kernel
theorem dX5_push_72 : decode cX5_push 72 = .ok (.aload_n 0, 1) := by decide +kernel
theorem dX5_push_73 : decode cX5_push 73 = .ok (.iconst 2, 1) := by decide +kernel
theorem dX5_push_74 : decode cX5_push 74 = .ok (.invokevirtual 65, 3) := by decide +kernel
theorem dX5_push_77 : decode cX5_push 77 = .ok (.ireturn, 1) := by decide +kernel
theorem dX5_push_78 : decode cX5_push 78 = .ok (.aload_n 3, 1) := by decide +kernel
theorem dX5_push_79 : decode cX5_push 79 = .ok (.aload_n 0, 1) := by decide +kernel
theorem dX5_push_80 : decode cX5_push 80 = .ok (.getfield 22, 3) := by decide +kernel
theorem dX5_push_83 : decode cX5_push 83 = .ok (.getfield 158, 3) := by decide +kernel
theorem dX5_push_86 : decode cX5_push 86 = .ok (.iload_n 2, 1) := by decide +kernel
theorem dX5_push_87 : decode cX5_push 87 = .ok (.invokevirtual 145, 3) := by decide +kernel
theorem dX5_push_90 : decode cX5_push 90 = .ok (.aload_n 0, 1) := by decide +kernel
theorem dX5_push_91 : decode cX5_push 91 = .ok (.getfield 22, 3) := by decide +kernel
theorem dX5_push_94 : decode cX5_push 94 = .ok (.iload_n 2, 1) := by decide +kernel
theorem dX5_push_95 : decode cX5_push 95 = .ok (.putfield 161, 3) := by decide +kernel
theorem dX5_push_98 : decode cX5_push 98 = .ok (.aload_n 0, 1) := by decide +kernel
theorem dX5_push_99 : decode cX5_push 99 = .ok (.invokevirtual 73, 3) := by decide +kernel
theorem dX5_push_102 : decode cX5_push 102 = .ok (.ireturn, 1) := by decide +kernel
theorem dX5_clear_0 : decode cX5_clear 0 = .ok (.aload_n 0, 1) := by decide +kernel
theorem dX5_clear_1 : decode cX5_clear 1 = .ok (.getfield 22, 3) := by decide +kernel
theorem dX5_clear_4 : decode cX5_clear 4 = .ok (.iconst 0, 1) := by decide +kernel
theorem dX5_clear_5 : decode cX5_clear 5 = .ok (.putfield 164, 3) := by decide +kernel
theorem dX5_clear_8 : decode cX5_clear 8 = .ok (.aload_n 0, 1) := by decide +kernel
theorem dX5_clear_9 : decode cX5_clear 9 = .ok (.getfield 22, 3) := by decide +kernel
theorem dX5_clear_12 : decode cX5_clear 12 = .ok (.getfield 167, 3) := by decide +kernel
theorem dX5_clear_15 : decode cX5_clear 15 = .ok (.iconst 0, 1) := by decide +kernel
theorem dX5_clear_16 : decode cX5_clear 16 = .ok (.invokestatic 170, 3) := by decide +kernel
theorem dX5_clear_19 : decode cX5_clear 19 = .ok (.aload_n 0, 1) := by decide +kernel
theorem dX5_clear_20 : decode cX5_clear 20 = .ok (.invokevirtual 73, 3) := by decide +kernel
theorem dX5_clear_23 : decode cX5_clear 23 = .ok (.ireturn, 1) := by decide +kernel
theorem dX5_go_0 : decode cX5_go 0 = .ok (.iload_n 1, 1) := by decide +kernel
theorem dX5_go_1 : decode cX5_go 1 = .ok (.ifCond .lt 10, 3) := by decide +kernel
theorem dX5_go_4 : decode cX5_go 4 = .ok (.iload_n 1, 1) := by decide +kernel
theorem dX5_go_5 : decode cX5_go 5 = .ok (.sipush 20000, 3) := by decide +kernel
theorem dX5_go_8 : decode cX5_go 8 = .ok (.if_icmp .le 9, 3) := by decide +kernel
theorem dX5_go_11 : decode cX5_go 11 = .ok (.aload_n 0, 1) := by decide +kernel
theorem dX5_go_12 : decode cX5_go 12 = .ok (.iconst 2, 1) := by decide +kernel
theorem dX5_go_13 : decode cX5_go 13 = .ok (.invokevirtual 65, 3) := by decide +kernel
theorem dX5_go_16 : decode cX5_go 16 = .ok (.ireturn, 1) := by decide +kernel
theorem dX5_go_17 : decode cX5_go 17 = .ok (.iconst 0, 1) := by decide +kernel
theorem dX5_go_18 : decode cX5_go 18 = .ok (.istore_n 2, 1) := by decide +kernel
theorem dX5_go_19 : decode cX5_go 19 = .ok (.iload_n 2, 1) := by decide +kernel
theorem dX5_go_20 : decode cX5_go 20 = .ok (.iload_n 1, 1) := by decide +kernel
theorem dX5_go_21 : decode cX5_go 21 = .ok (.if_icmp .ge 30, 3) := by decide +kernel
theorem dX5_go_24 : decode cX5_go 24 = .ok (.aload_n 0, 1) := by decide +kernel
theorem dX5_go_25 : decode cX5_go 25 = .ok (.getfield 22, 3) := by decide +kernel
theorem dX5_go_28 : decode cX5_go 28 = .ok (.aload_n 0, 1) := by decide +kernel
theorem dX5_go_29 : decode cX5_go 29 = .ok (.getfield 22, 3) := by decide +kernel
theorem dX5_go_32 : decode cX5_go 32 = .ok (.getfield 135, 3) := by decide +kernel
theorem dX5_go_35 : decode cX5_go 35 = .ok (.aload_n 0, 1) := by decide +kernel
theorem dX5_go_36 : decode cX5_go 36 = .ok (.getfield 22, 3) := by decide +kernel
theorem dX5_go_39 : decode cX5_go 39 = .ok (.getfield 167, 3) := by decide +kernel
theorem dX5_go_42 : decode cX5_go 42 = .ok (.invokevirtual 175, 3) := by decide +kernel
theorem dX5_go_45 : decode cX5_go 45 = .ok (.iinc 2 1, 3) := by decide +kernel
theorem dX5_go_48 : decode cX5_go 48 = .ok (.goto (-29), 3) := by decide +kernel
theorem dX5_go_51 : decode cX5_go 51 = .ok (.aload_n 0, 1) := by decide +kernel
theorem dX5_go_52 : decode cX5_go 52 = .ok (.getfield 22, 3) := by decide +kernel
theorem dX5_go_55 : decode cX5_go 55 = .ok (.dup, 1) := by decide +kernel
theorem dX5_go_56 : decode cX5_go 56 = .ok (.getfield 164, 3) := by decide +kernel
theorem dX5_go_59 : decode cX5_go 59 = .ok (.iload_n 1, 1) := by decide +kernel
theorem dX5_go_60 : decode cX5_go 60 = .ok (.iadd, 1) := by decide +kernel
theorem dX5_go_61 : decode cX5_go 61 = .ok (.putfield 164, 3) := by decide +kernel
theorem dX5_go_64 : decode cX5_go 64 = .ok (.aload_n 0, 1) := by decide +kernel
theorem dX5_go_65 : decode cX5_go 65 = .ok (.invokevirtual 73, 3) := by decide +kernel
theorem dX5_go_68 : decode cX5_go 68 = .ok (.ireturn, 1) := by decide +kernel
theorem dX5_count_0 : decode cX5_count 0 = .ok (.iload_n 1, 1) := by decide +kernel
theorem dX5_count_1 : decode cX5_count 1 = .ok (.tableswitch 79 0 3 #[31, 43, 55, 67], 31) := by decide +kernel
theorem dX5_count_32 : decode cX5_count 32 = .ok (.aload_n 0, 1) := by decide +kernel
theorem dX5_count_33 : decode cX5_count 33 = .ok (.aload_n 0, 1) := by decide +kernel
theorem dX5_count_34 : decode cX5_count 34 = .ok (.getfield 22, 3) := by decide +kernel
theorem dX5_count_37 : decode cX5_count 37 = .ok (.getfield 164, 3) := by decide +kernel
theorem dX5_count_40 : decode cX5_count 40 = .ok (.invokevirtual 126, 3) := by decide +kernel
theorem dX5_count_43 : decode cX5_count 43 = .ok (.ireturn, 1) := by decide +kernel
theorem dX5_count_44 : decode cX5_count 44 = .ok (.aload_n 0, 1) := by decide +kernel
theorem dX5_count_45 : decode cX5_count 45 = .ok (.aload_n 0, 1) := by decide +kernel
theorem dX5_count_46 : decode cX5_count 46 = .ok (.getfield 22, 3) := by decide +kernel
theorem dX5_count_49 : decode cX5_count 49 = .ok (.getfield 138, 3) := by decide +kernel
theorem dX5_count_52 : decode cX5_count 52 = .ok (.invokevirtual 126, 3) := by decide +kernel
theorem dX5_count_55 : decode cX5_count 55 = .ok (.ireturn, 1) := by decide +kernel
theorem dX5_count_56 : decode cX5_count 56 = .ok (.aload_n 0, 1) := by decide +kernel
theorem dX5_count_57 : decode cX5_count 57 = .ok (.aload_n 0, 1) := by decide +kernel
theorem dX5_count_58 : decode cX5_count 58 = .ok (.getfield 22, 3) := by decide +kernel
theorem dX5_count_61 : decode cX5_count 61 = .ok (.getfield 119, 3) := by decide +kernel
theorem dX5_count_64 : decode cX5_count 64 = .ok (.invokevirtual 126, 3) := by decide +kernel
theorem dX5_count_67 : decode cX5_count 67 = .ok (.ireturn, 1) := by decide +kernel
theorem dX5_count_68 : decode cX5_count 68 = .ok (.aload_n 0, 1) := by decide +kernel
theorem dX5_count_69 : decode cX5_count 69 = .ok (.aload_n 0, 1) := by decide +kernel
theorem dX5_count_70 : decode cX5_count 70 = .ok (.getfield 22, 3) := by decide +kernel
theorem dX5_count_73 : decode cX5_count 73 = .ok (.invokevirtual 179, 3) := by decide +kernel
theorem dX5_count_76 : decode cX5_count 76 = .ok (.invokevirtual 126, 3) := by decide +kernel
theorem dX5_count_79 : decode cX5_count 79 = .ok (.ireturn, 1) := by decide +kernel
theorem dX5_count_80 : decode cX5_count 80 = .ok (.aload_n 0, 1) := by decide +kernel
theorem dX5_count_81 : decode cX5_count 81 = .ok (.iconst 2, 1) := by decide +kernel
theorem dX5_count_82 : decode cX5_count 82 = .ok (.invokevirtual 88, 3) := by decide +kernel
theorem dX5_count_85 : decode cX5_count 85 = .ok (.ireturn, 1) := by decide +kernel
theorem dX5_beats_0 : decode cX5_beats 0 = .ok (.aload_n 0, 1) := by decide +kernel
theorem dX5_beats_1 : decode cX5_beats 1 = .ok (.getfield 22, 3) := by decide +kernel
theorem dX5_beats_4 : decode cX5_beats 4 = .ok (.iload_n 1, 1) := by decide +kernel
theorem dX5_beats_5 : decode cX5_beats 5 = .ok (.invokevirtual 129, 3) := by decide +kernel
theorem dX5_beats_8 : decode cX5_beats 8 = .ok (.ifCond .ne 9, 3) := by decide +kernel
theorem dX5_beats_11 : decode cX5_beats 11 = .ok (.aload_n 0, 1) := by decide +kernel
theorem dX5_beats_12 : decode cX5_beats 12 = .ok (.iconst 2, 1) := by decide +kernel
theorem dX5_beats_13 : decode cX5_beats 13 = .ok (.invokevirtual 88, 3) := by decide +kernel
theorem dX5_beats_16 : decode cX5_beats 16 = .ok (.ireturn, 1) := by decide +kernel
theorem dX5_beats_17 : decode cX5_beats 17 = .ok (.iload_n 2, 1) := by decide +kernel
theorem dX5_beats_18 : decode cX5_beats 18 = .ok (.tableswitch 89 0 3 #[30, 44, 58, 72], 30) := by decide +kernel
theorem dX5_beats_48 : decode cX5_beats 48 = .ok (.aload_n 0, 1) := by decide +kernel
theorem dX5_beats_49 : decode cX5_beats 49 = .ok (.aload_n 0, 1) := by decide +kernel
theorem dX5_beats_50 : decode cX5_beats 50 = .ok (.getfield 22, 3) := by decide +kernel
theorem dX5_beats_53 : decode cX5_beats 53 = .ok (.getfield 135, 3) := by decide +kernel
theorem dX5_beats_56 : decode cX5_beats 56 = .ok (.iload_n 1, 1) := by decide +kernel
theorem dX5_beats_57 : decode cX5_beats 57 = .ok (.iaload, 1) := by decide +kernel
theorem dX5_beats_58 : decode cX5_beats 58 = .ok (.invokevirtual 126, 3) := by decide +kernel
theorem dX5_beats_61 : decode cX5_beats 61 = .ok (.ireturn, 1) := by decide +kernel
theorem dX5_beats_62 : decode cX5_beats 62 = .ok (.aload_n 0, 1) := by decide +kernel
theorem dX5_beats_63 : decode cX5_beats 63 = .ok (.aload_n 0, 1) := by decide +kernel
theorem dX5_beats_64 : decode cX5_beats 64 = .ok (.getfield 22, 3) := by decide +kernel
theorem dX5_beats_67 : decode cX5_beats 67 = .ok (.getfield 167, 3) := by decide +kernel
theorem dX5_beats_70 : decode cX5_beats 70 = .ok (.iload_n 1, 1) := by decide +kernel
theorem dX5_beats_71 : decode cX5_beats 71 = .ok (.iaload, 1) := by decide +kernel
theorem dX5_beats_72 : decode cX5_beats 72 = .ok (.invokevirtual 126, 3) := by decide +kernel
theorem dX5_beats_75 : decode cX5_beats 75 = .ok (.ireturn, 1) := by decide +kernel
theorem dX5_beats_76 : decode cX5_beats 76 = .ok (.aload_n 0, 1) := by decide +kernel
theorem dX5_beats_77 : decode cX5_beats 77 = .ok (.aload_n 0, 1) := by decide +kernel
theorem dX5_beats_78 : decode cX5_beats 78 = .ok (.getfield 22, 3) := by decide +kernel
theorem dX5_beats_81 : decode cX5_beats 81 = .ok (.getfield 132, 3) := by decide +kernel
theorem dX5_beats_84 : decode cX5_beats 84 = .ok (.iload_n 1, 1) := by decide +kernel
theorem dX5_beats_85 : decode cX5_beats 85 = .ok (.iaload, 1) := by decide +kernel
theorem dX5_beats_86 : decode cX5_beats 86 = .ok (.invokevirtual 126, 3) := by decide +kernel
theorem dX5_beats_89 : decode cX5_beats 89 = .ok (.ireturn, 1) := by decide +kernel
theorem dX5_beats_90 : decode cX5_beats 90 = .ok (.aload_n 0, 1) := by decide +kernel
theorem dX5_beats_91 : decode cX5_beats 91 = .ok (.aload_n 0, 1) := by decide +kernel
theorem dX5_beats_92 : decode cX5_beats 92 = .ok (.getfield 22, 3) := by decide +kernel
theorem dX5_beats_95 : decode cX5_beats 95 = .ok (.getfield 183, 3) := by decide +kernel
theorem dX5_beats_98 : decode cX5_beats 98 = .ok (.iload_n 1, 1) := by decide +kernel
theorem dX5_beats_99 : decode cX5_beats 99 = .ok (.iaload, 1) := by decide +kernel
theorem dX5_beats_100 : decode cX5_beats 100 = .ok (.invokestatic 186, 3) := by decide +kernel
theorem dX5_beats_103 : decode cX5_beats 103 = .ok (.invokevirtual 126, 3) := by decide +kernel
theorem dX5_beats_106 : decode cX5_beats 106 = .ok (.ireturn, 1) := by decide +kernel
theorem dX5_beats_107 : decode cX5_beats 107 = .ok (.aload_n 0, 1) := by decide +kernel
theorem dX5_beats_108 : decode cX5_beats 108 = .ok (.iconst 2, 1) := by decide +kernel
theorem dX5_beats_109 : decode cX5_beats 109 = .ok (.invokevirtual 88, 3) := by decide +kernel
theorem dX5_beats_112 : decode cX5_beats 112 = .ok (.ireturn, 1) := by decide +kernel
theorem dX5_step_0 : decode cX5_step 0 = .ok (.aload_n 0, 1) := by decide +kernel
theorem dX5_step_1 : decode cX5_step 1 = .ok (.getfield 22, 3) := by decide +kernel
theorem dX5_step_4 : decode cX5_step 4 = .ok (.iload_n 1, 1) := by decide +kernel
theorem dX5_step_5 : decode cX5_step 5 = .ok (.invokevirtual 191, 3) := by decide +kernel
theorem dX5_step_8 : decode cX5_step 8 = .ok (.ifCond .ne 9, 3) := by decide +kernel
theorem dX5_step_11 : decode cX5_step 11 = .ok (.aload_n 0, 1) := by decide +kernel
theorem dX5_step_12 : decode cX5_step 12 = .ok (.iconst 2, 1) := by decide +kernel
theorem dX5_step_13 : decode cX5_step 13 = .ok (.invokevirtual 88, 3) := by decide +kernel
theorem dX5_step_16 : decode cX5_step 16 = .ok (.ireturn, 1) := by decide +kernel
theorem dX5_step_17 : decode cX5_step 17 = .ok (.aload_n 0, 1) := by decide +kernel
theorem dX5_step_18 : decode cX5_step 18 = .ok (.aload_n 0, 1) := by decide +kernel
theorem dX5_step_19 : decode cX5_step 19 = .ok (.getfield 22, 3) := by decide +kernel
theorem dX5_step_22 : decode cX5_step 22 = .ok (.aload_n 0, 1) := by decide +kernel
theorem dX5_step_23 : decode cX5_step 23 = .ok (.getfield 22, 3) := by decide +kernel
theorem dX5_step_26 : decode cX5_step 26 = .ok (.getfield 135, 3) := by decide +kernel
theorem dX5_step_29 : decode cX5_step 29 = .ok (.iload_n 1, 1) := by decide +kernel
theorem dX5_step_30 : decode cX5_step 30 = .ok (.invokevirtual 194, 3) := by decide +kernel
theorem dX5_step_33 : decode cX5_step 33 = .ok (.ifCond .eq 7, 3) := by decide +kernel
theorem dX5_step_36 : decode cX5_step 36 = .ok (.iconst 1, 1) := by decide +kernel
theorem dX5_step_37 : decode cX5_step 37 = .ok (.goto 4, 3) := by decide +kernel
theorem dX5_step_40 : decode cX5_step 40 = .ok (.iconst 0, 1) := by decide +kernel
theorem dX5_step_41 : decode cX5_step 41 = .ok (.invokevirtual 126, 3) := by decide +kernel
theorem dX5_step_44 : decode cX5_step 44 = .ok (.ireturn, 1) := by decide +kernel
theorem dX5_arc_0 : decode cX5_arc 0 = .ok (.aload_n 0, 1) := by decide +kernel
theorem dX5_arc_1 : decode cX5_arc 1 = .ok (.getfield 22, 3) := by decide +kernel
theorem dX5_arc_4 : decode cX5_arc 4 = .ok (.iload_n 1, 1) := by decide +kernel
theorem dX5_arc_5 : decode cX5_arc 5 = .ok (.invokevirtual 191, 3) := by decide +kernel
theorem dX5_arc_8 : decode cX5_arc 8 = .ok (.ifCond .eq 7, 3) := by decide +kernel
theorem dX5_arc_11 : decode cX5_arc 11 = .ok (.iload_n 1, 1) := by decide +kernel
theorem dX5_arc_12 : decode cX5_arc 12 = .ok (.ifCond .ne 9, 3) := by decide +kernel
theorem dX5_arc_15 : decode cX5_arc 15 = .ok (.aload_n 0, 1) := by decide +kernel
theorem dX5_arc_16 : decode cX5_arc 16 = .ok (.iconst 2, 1) := by decide +kernel
theorem dX5_arc_17 : decode cX5_arc 17 = .ok (.invokevirtual 88, 3) := by decide +kernel
theorem dX5_arc_20 : decode cX5_arc 20 = .ok (.ireturn, 1) := by decide +kernel
theorem dX5_arc_21 : decode cX5_arc 21 = .ok (.aload_n 0, 1) := by decide +kernel
theorem dX5_arc_22 : decode cX5_arc 22 = .ok (.aload_n 0, 1) := by decide +kernel
theorem dX5_arc_23 : decode cX5_arc 23 = .ok (.getfield 22, 3) := by decide +kernel
theorem dX5_arc_26 : decode cX5_arc 26 = .ok (.iload_n 1, 1) := by decide +kernel
theorem dX5_arc_27 : decode cX5_arc 27 = .ok (.invokevirtual 198, 3) := by decide +kernel
theorem dX5_arc_30 : decode cX5_arc 30 = .ok (.invokevirtual 126, 3) := by decide +kernel
theorem dX5_arc_33 : decode cX5_arc 33 = .ok (.ireturn, 1) := by decide +kernel
theorem dX5_round_0 : decode cX5_round 0 = .ok (.iload_n 1, 1) := by decide +kernel
theorem dX5_round_1 : decode cX5_round 1 = .ok (.ifCond .lt 8, 3) := by decide +kernel
theorem dX5_round_4 : decode cX5_round 4 = .ok (.iload_n 1, 1) := by decide +kernel
theorem dX5_round_5 : decode cX5_round 5 = .ok (.iconst 1, 1) := by decide +kernel
theorem dX5_round_6 : decode cX5_round 6 = .ok (.if_icmp .le 9, 3) := by decide +kernel
theorem dX5_round_9 : decode cX5_round 9 = .ok (.aload_n 0, 1) := by decide +kernel
theorem dX5_round_10 : decode cX5_round 10 = .ok (.iconst 2, 1) := by decide +kernel
theorem dX5_round_11 : decode cX5_round 11 = .ok (.invokevirtual 88, 3) := by decide +kernel
theorem dX5_round_14 : decode cX5_round 14 = .ok (.ireturn, 1) := by decide +kernel
theorem dX5_round_15 : decode cX5_round 15 = .ok (.aload_n 0, 1) := by decide +kernel
theorem dX5_round_16 : decode cX5_round 16 = .ok (.getfield 22, 3) := by decide +kernel
theorem dX5_round_19 : decode cX5_round 19 = .ok (.getfield 119, 3) := by decide +kernel
theorem dX5_round_22 : decode cX5_round 22 = .ok (.ifCond .ne 10, 3) := by decide +kernel
theorem dX5_round_25 : decode cX5_round 25 = .ok (.aload_n 0, 1) := by decide +kernel
theorem dX5_round_26 : decode cX5_round 26 = .ok (.bipush 8, 2) := by decide +kernel
theorem dX5_round_28 : decode cX5_round 28 = .ok (.invokevirtual 88, 3) := by decide +kernel
theorem dX5_round_31 : decode cX5_round 31 = .ok (.ireturn, 1) := by decide +kernel
theorem dX5_round_32 : decode cX5_round 32 = .ok (.aload_n 0, 1) := by decide +kernel
theorem dX5_round_33 : decode cX5_round 33 = .ok (.getfield 22, 3) := by decide +kernel
theorem dX5_round_36 : decode cX5_round 36 = .ok (.invokevirtual 201, 3) := by decide +kernel
theorem dX5_round_39 : decode cX5_round 39 = .ok (.aload_n 0, 1) := by decide +kernel
theorem dX5_round_40 : decode cX5_round 40 = .ok (.getfield 29, 3) := by decide +kernel
theorem dX5_round_43 : decode cX5_round 43 = .ok (.aload_n 0, 1) := by decide +kernel
theorem dX5_round_44 : decode cX5_round 44 = .ok (.getfield 22, 3) := by decide +kernel
theorem dX5_round_47 : decode cX5_round 47 = .ok (.getfield 119, 3) := by decide +kernel
theorem dX5_round_50 : decode cX5_round 50 = .ok (.invokevirtual 204, 3) := by decide +kernel
theorem dX5_round_53 : decode cX5_round 53 = .ok (.iconst 0, 1) := by decide +kernel
theorem dX5_round_54 : decode cX5_round 54 = .ok (.istore_n 2, 1) := by decide +kernel
theorem dX5_round_55 : decode cX5_round 55 = .ok (.iload_n 2, 1) := by decide +kernel
theorem dX5_round_56 : decode cX5_round 56 = .ok (.sipush 20000, 3) := by decide +kernel
theorem dX5_round_59 : decode cX5_round 59 = .ok (.if_icmp .gt 59, 3) := by decide +kernel
theorem dX5_round_62 : decode cX5_round 62 = .ok (.aload_n 0, 1) := by decide +kernel
theorem dX5_round_63 : decode cX5_round 63 = .ok (.getfield 29, 3) := by decide +kernel
theorem dX5_round_66 : decode cX5_round 66 = .ok (.aload_n 0, 1) := by decide +kernel
theorem dX5_round_67 : decode cX5_round 67 = .ok (.getfield 22, 3) := by decide +kernel
theorem dX5_round_70 : decode cX5_round 70 = .ok (.getfield 207, 3) := by decide +kernel
theorem dX5_round_73 : decode cX5_round 73 = .ok (.aload_n 0, 1) := by decide +kernel
theorem dX5_round_74 : decode cX5_round 74 = .ok (.getfield 22, 3) := by decide +kernel
theorem dX5_round_77 : decode cX5_round 77 = .ok (.getfield 119, 3) := by decide +kernel
theorem dX5_round_80 : decode cX5_round 80 = .ok (.invokevirtual 210, 3) := by decide +kernel
theorem dX5_round_83 : decode cX5_round 83 = .ok (.istore_n 3, 1) := by decide +kernel
theorem dX5_round_84 : decode cX5_round 84 = .ok (.iload_n 3, 1) := by decide +kernel
theorem dX5_round_85 : decode cX5_round 85 = .ok (.iconst (-1), 1) := by decide +kernel
theorem dX5_round_86 : decode cX5_round 86 = .ok (.if_icmp .eq 19, 3) := by decide +kernel
theorem dX5_round_89 : decode cX5_round 89 = .ok (.aload_n 0, 1) := by decide +kernel
theorem dX5_round_90 : decode cX5_round 90 = .ok (.iload_n 1, 1) := by decide +kernel
theorem dX5_round_91 : decode cX5_round 91 = .ok (.ifCond .ne 7, 3) := by decide +kernel
theorem dX5_round_94 : decode cX5_round 94 = .ok (.iload_n 3, 1) := by decide +kernel
theorem dX5_round_95 : decode cX5_round 95 = .ok (.goto 6, 3) := by decide +kernel
theorem dX5_round_98 : decode cX5_round 98 = .ok (.iload_n 2, 1) := by decide +kernel
theorem dX5_round_99 : decode cX5_round 99 = .ok (.iload_n 3, 1) := by decide +kernel
theorem dX5_round_100 : decode cX5_round 100 = .ok (.isub, 1) := by decide +kernel
theorem dX5_round_101 : decode cX5_round 101 = .ok (.invokevirtual 126, 3) := by decide +kernel
theorem dX5_round_104 : decode cX5_round 104 = .ok (.ireturn, 1) := by decide +kernel
theorem dX5_round_105 : decode cX5_round 105 = .ok (.aload_n 0, 1) := by decide +kernel
theorem dX5_round_106 : decode cX5_round 106 = .ok (.getfield 22, 3) := by decide +kernel
theorem dX5_round_109 : decode cX5_round 109 = .ok (.invokevirtual 214, 3) := by decide +kernel
theorem dX5_round_112 : decode cX5_round 112 = .ok (.iinc 2 1, 3) := by decide +kernel
theorem dX5_round_115 : decode cX5_round 115 = .ok (.goto (-60), 3) := by decide +kernel
theorem dX5_round_118 : decode cX5_round 118 = .ok (.aload_n 0, 1) := by decide +kernel
theorem dX5_round_119 : decode cX5_round 119 = .ok (.bipush 10, 2) := by decide +kernel
theorem dX5_round_121 : decode cX5_round 121 = .ok (.invokevirtual 88, 3) := by decide +kernel
theorem dX5_round_124 : decode cX5_round 124 = .ok (.ireturn, 1) := by decide +kernel
theorem dX5_meet_0 : decode cX5_meet 0 = .ok (.aload_n 0, 1) := by decide +kernel
theorem dX5_meet_1 : decode cX5_meet 1 = .ok (.getfield 22, 3) := by decide +kernel
theorem dX5_meet_4 : decode cX5_meet 4 = .ok (.iload_n 1, 1) := by decide +kernel
theorem dX5_meet_5 : decode cX5_meet 5 = .ok (.invokevirtual 191, 3) := by decide +kernel
theorem dX5_meet_8 : decode cX5_meet 8 = .ok (.ifCond .ne 9, 3) := by decide +kernel
theorem dX5_meet_11 : decode cX5_meet 11 = .ok (.aload_n 0, 1) := by decide +kernel
theorem dX5_meet_12 : decode cX5_meet 12 = .ok (.iconst 2, 1) := by decide +kernel
theorem dX5_meet_13 : decode cX5_meet 13 = .ok (.invokevirtual 88, 3) := by decide +kernel
theorem dX5_meet_16 : decode cX5_meet 16 = .ok (.ireturn, 1) := by decide +kernel
theorem dX5_meet_17 : decode cX5_meet 17 = .ok (.aload_n 0, 1) := by decide +kernel
theorem dX5_meet_18 : decode cX5_meet 18 = .ok (.getfield 22, 3) := by decide +kernel
theorem dX5_meet_21 : decode cX5_meet 21 = .ok (.invokevirtual 201, 3) := by decide +kernel
theorem dX5_meet_24 : decode cX5_meet 24 = .ok (.aload_n 0, 1) := by decide +kernel
theorem dX5_meet_25 : decode cX5_meet 25 = .ok (.getfield 29, 3) := by decide +kernel
theorem dX5_meet_28 : decode cX5_meet 28 = .ok (.aload_n 0, 1) := by decide +kernel
theorem dX5_meet_29 : decode cX5_meet 29 = .ok (.getfield 22, 3) := by decide +kernel
theorem dX5_meet_32 : decode cX5_meet 32 = .ok (.getfield 119, 3) := by decide +kernel
theorem dX5_meet_35 : decode cX5_meet 35 = .ok (.invokevirtual 204, 3) := by decide +kernel
theorem dX5_meet_38 : decode cX5_meet 38 = .ok (.iconst 0, 1) := by decide +kernel
theorem dX5_meet_39 : decode cX5_meet 39 = .ok (.istore_n 2, 1) := by decide +kernel
theorem dX5_meet_40 : decode cX5_meet 40 = .ok (.iload_n 2, 1) := by decide +kernel
theorem dX5_meet_41 : decode cX5_meet 41 = .ok (.sipush 20000, 3) := by decide +kernel
theorem dX5_meet_44 : decode cX5_meet 44 = .ok (.if_icmp .gt 72, 3) := by decide +kernel
theorem dX5_meet_47 : decode cX5_meet 47 = .ok (.aload_n 0, 1) := by decide +kernel
theorem dX5_meet_48 : decode cX5_meet 48 = .ok (.getfield 22, 3) := by decide +kernel
theorem dX5_meet_51 : decode cX5_meet 51 = .ok (.aload_n 0, 1) := by decide +kernel
theorem dX5_meet_52 : decode cX5_meet 52 = .ok (.getfield 22, 3) := by decide +kernel
theorem dX5_meet_55 : decode cX5_meet 55 = .ok (.getfield 207, 3) := by decide +kernel
theorem dX5_meet_58 : decode cX5_meet 58 = .ok (.iload_n 1, 1) := by decide +kernel
theorem dX5_meet_59 : decode cX5_meet 59 = .ok (.invokevirtual 194, 3) := by decide +kernel
theorem dX5_meet_62 : decode cX5_meet 62 = .ok (.ifCond .eq 9, 3) := by decide +kernel
theorem dX5_meet_65 : decode cX5_meet 65 = .ok (.aload_n 0, 1) := by decide +kernel
theorem dX5_meet_66 : decode cX5_meet 66 = .ok (.iload_n 2, 1) := by decide +kernel
theorem dX5_meet_67 : decode cX5_meet 67 = .ok (.invokevirtual 126, 3) := by decide +kernel
theorem dX5_meet_70 : decode cX5_meet 70 = .ok (.ireturn, 1) := by decide +kernel
theorem dX5_meet_71 : decode cX5_meet 71 = .ok (.aload_n 0, 1) := by decide +kernel
theorem dX5_meet_72 : decode cX5_meet 72 = .ok (.getfield 29, 3) := by decide +kernel
theorem dX5_meet_75 : decode cX5_meet 75 = .ok (.aload_n 0, 1) := by decide +kernel
theorem dX5_meet_76 : decode cX5_meet 76 = .ok (.getfield 22, 3) := by decide +kernel
theorem dX5_meet_79 : decode cX5_meet 79 = .ok (.getfield 207, 3) := by decide +kernel
theorem dX5_meet_82 : decode cX5_meet 82 = .ok (.aload_n 0, 1) := by decide +kernel
theorem dX5_meet_83 : decode cX5_meet 83 = .ok (.getfield 22, 3) := by decide +kernel
theorem dX5_meet_86 : decode cX5_meet 86 = .ok (.getfield 119, 3) := by decide +kernel
theorem dX5_meet_89 : decode cX5_meet 89 = .ok (.invokevirtual 210, 3) := by decide +kernel
theorem dX5_meet_92 : decode cX5_meet 92 = .ok (.iconst (-1), 1) := by decide +kernel
theorem dX5_meet_93 : decode cX5_meet 93 = .ok (.if_icmp .eq 10, 3) := by decide +kernel
theorem dX5_meet_96 : decode cX5_meet 96 = .ok (.aload_n 0, 1) := by decide +kernel
theorem dX5_meet_97 : decode cX5_meet 97 = .ok (.bipush 8, 2) := by decide +kernel
theorem dX5_meet_99 : decode cX5_meet 99 = .ok (.invokevirtual 88, 3) := by decide +kernel
theorem dX5_meet_102 : decode cX5_meet 102 = .ok (.ireturn, 1) := by decide +kernel
theorem dX5_meet_103 : decode cX5_meet 103 = .ok (.aload_n 0, 1) := by decide +kernel
theorem dX5_meet_104 : decode cX5_meet 104 = .ok (.getfield 22, 3) := by decide +kernel
theorem dX5_meet_107 : decode cX5_meet 107 = .ok (.invokevirtual 214, 3) := by decide +kernel
theorem dX5_meet_110 : decode cX5_meet 110 = .ok (.iinc 2 1, 3) := by decide +kernel
theorem dX5_meet_113 : decode cX5_meet 113 = .ok (.goto (-73), 3) := by decide +kernel
theorem dX5_meet_116 : decode cX5_meet 116 = .ok (.aload_n 0, 1) := by decide +kernel
theorem dX5_meet_117 : decode cX5_meet 117 = .ok (.bipush 10, 2) := by decide +kernel
theorem dX5_meet_119 : decode cX5_meet 119 = .ok (.invokevirtual 88, 3) := by decide +kernel
theorem dX5_meet_122 : decode cX5_meet 122 = .ok (.ireturn, 1) := by decide +kernel
theorem dX5_ends_0 : decode cX5_ends 0 = .ok (.aload_n 0, 1) := by decide +kernel
theorem dX5_ends_1 : decode cX5_ends 1 = .ok (.getfield 22, 3) := by decide +kernel
theorem dX5_ends_4 : decode cX5_ends 4 = .ok (.invokevirtual 217, 3) := by decide +kernel
theorem dX5_ends_7 : decode cX5_ends 7 = .ok (.istore_n 1, 1) := by decide +kernel
theorem dX5_ends_8 : decode cX5_ends 8 = .ok (.iload_n 1, 1) := by decide +kernel
theorem dX5_ends_9 : decode cX5_ends 9 = .ok (.ifCond .ne 9, 3) := by decide +kernel
theorem dX5_ends_12 : decode cX5_ends 12 = .ok (.aload_n 0, 1) := by decide +kernel
theorem dX5_ends_13 : decode cX5_ends 13 = .ok (.iconst 5, 1) := by decide +kernel
theorem dX5_ends_14 : decode cX5_ends 14 = .ok (.invokevirtual 88, 3) := by decide +kernel
theorem dX5_ends_17 : decode cX5_ends 17 = .ok (.ireturn, 1) := by decide +kernel
theorem dX5_ends_18 : decode cX5_ends 18 = .ok (.aload_n 0, 1) := by decide +kernel
theorem dX5_ends_19 : decode cX5_ends 19 = .ok (.getfield 36, 3) := by decide +kernel
theorem dX5_ends_22 : decode cX5_ends 22 = .ok (.aload_n 0, 1) := by decide +kernel
theorem dX5_ends_23 : decode cX5_ends 23 = .ok (.getfield 22, 3) := by decide +kernel
theorem dX5_ends_26 : decode cX5_ends 26 = .ok (.iload_n 1, 1) := by decide +kernel
theorem dX5_ends_27 : decode cX5_ends 27 = .ok (.invokevirtual 220, 3) := by decide +kernel
theorem dX5_ends_30 : decode cX5_ends 30 = .ok (.aload_n 0, 1) := by decide +kernel
theorem dX5_ends_31 : decode cX5_ends 31 = .ok (.getfield 36, 3) := by decide +kernel
theorem dX5_ends_34 : decode cX5_ends 34 = .ok (.iload_n 1, 1) := by decide +kernel
theorem dX5_ends_35 : decode cX5_ends 35 = .ok (.invokevirtual 224, 3) := by decide +kernel
theorem dX5_ends_38 : decode cX5_ends 38 = .ok (.aload_n 0, 1) := by decide +kernel
theorem dX5_ends_39 : decode cX5_ends 39 = .ok (.aload_n 0, 1) := by decide +kernel
theorem dX5_ends_40 : decode cX5_ends 40 = .ok (.getfield 36, 3) := by decide +kernel
theorem dX5_ends_43 : decode cX5_ends 43 = .ok (.getfield 227, 3) := by decide +kernel
theorem dX5_ends_46 : decode cX5_ends 46 = .ok (.invokevirtual 126, 3) := by decide +kernel
theorem dX5_ends_49 : decode cX5_ends 49 = .ok (.ireturn, 1) := by decide +kernel
theorem dX5_end_0 : decode cX5_end 0 = .ok (.iload_n 2, 1) := by decide +kernel
theorem dX5_end_1 : decode cX5_end 1 = .ok (.ifCond .lt 8, 3) := by decide +kernel
theorem dX5_end_4 : decode cX5_end 4 = .ok (.iload_n 2, 1) := by decide +kernel
theorem dX5_end_5 : decode cX5_end 5 = .ok (.iconst 2, 1) := by decide +kernel
theorem dX5_end_6 : decode cX5_end 6 = .ok (.if_icmp .le 9, 3) := by decide +kernel
theorem dX5_end_9 : decode cX5_end 9 = .ok (.aload_n 0, 1) := by decide +kernel
theorem dX5_end_10 : decode cX5_end 10 = .ok (.iconst 2, 1) := by decide +kernel
theorem dX5_end_11 : decode cX5_end 11 = .ok (.invokevirtual 88, 3) := by decide +kernel
theorem dX5_end_14 : decode cX5_end 14 = .ok (.ireturn, 1) := by decide +kernel
theorem dX5_end_15 : decode cX5_end 15 = .ok (.iload_n 1, 1) := by decide +kernel
theorem dX5_end_16 : decode cX5_end 16 = .ok (.ifCond .lt 14, 3) := by decide +kernel
theorem dX5_end_19 : decode cX5_end 19 = .ok (.iload_n 1, 1) := by decide +kernel
theorem dX5_end_20 : decode cX5_end 20 = .ok (.aload_n 0, 1) := by decide +kernel
theorem dX5_end_21 : decode cX5_end 21 = .ok (.getfield 36, 3) := by decide +kernel
theorem dX5_end_24 : decode cX5_end 24 = .ok (.getfield 227, 3) := by decide +kernel
theorem dX5_end_27 : decode cX5_end 27 = .ok (.if_icmp .lt 10, 3) := by decide +kernel
theorem dX5_end_30 : decode cX5_end 30 = .ok (.aload_n 0, 1) := by decide +kernel
theorem dX5_end_31 : decode cX5_end 31 = .ok (.bipush 8, 2) := by decide +kernel
theorem dX5_end_33 : decode cX5_end 33 = .ok (.invokevirtual 88, 3) := by decide +kernel
theorem dX5_end_36 : decode cX5_end 36 = .ok (.ireturn, 1) := by decide +kernel
theorem dX5_end_37 : decode cX5_end 37 = .ok (.aload_n 0, 1) := by decide +kernel
theorem dX5_end_38 : decode cX5_end 38 = .ok (.aload_n 0, 1) := by decide +kernel
theorem dX5_end_39 : decode cX5_end 39 = .ok (.getfield 36, 3) := by decide +kernel
theorem dX5_end_42 : decode cX5_end 42 = .ok (.iload_n 1, 1) := by decide +kernel
theorem dX5_end_43 : decode cX5_end 43 = .ok (.iload_n 2, 1) := by decide +kernel
theorem dX5_end_44 : decode cX5_end 44 = .ok (.invokevirtual 228, 3) := by decide +kernel
theorem dX5_end_47 : decode cX5_end 47 = .ok (.invokevirtual 126, 3) := by decide +kernel
theorem dX5_end_50 : decode cX5_end 50 = .ok (.ireturn, 1) := by decide +kernel
theorem dX5_sure_0 : decode cX5_sure 0 = .ok (.aload_n 0, 1) := by decide +kernel
theorem dX5_sure_1 : decode cX5_sure 1 = .ok (.getfield 22, 3) := by decide +kernel
theorem dX5_sure_4 : decode cX5_sure 4 = .ok (.iload_n 1, 1) := by decide +kernel
theorem dX5_sure_5 : decode cX5_sure 5 = .ok (.invokevirtual 191, 3) := by decide +kernel
theorem dX5_sure_8 : decode cX5_sure 8 = .ok (.ifCond .ne 9, 3) := by decide +kernel
theorem dX5_sure_11 : decode cX5_sure 11 = .ok (.aload_n 0, 1) := by decide +kernel
theorem dX5_sure_12 : decode cX5_sure 12 = .ok (.iconst 2, 1) := by decide +kernel
theorem dX5_sure_13 : decode cX5_sure 13 = .ok (.invokevirtual 88, 3) := by decide +kernel
theorem dX5_sure_16 : decode cX5_sure 16 = .ok (.ireturn, 1) := by decide +kernel
theorem dX5_sure_17 : decode cX5_sure 17 = .ok (.aload_n 0, 1) := by decide +kernel
theorem dX5_sure_18 : decode cX5_sure 18 = .ok (.getfield 22, 3) := by decide +kernel
theorem dX5_sure_21 : decode cX5_sure 21 = .ok (.invokevirtual 217, 3) := by decide +kernel
theorem dX5_sure_24 : decode cX5_sure 24 = .ok (.istore_n 2, 1) := by decide +kernel
theorem dX5_sure_25 : decode cX5_sure 25 = .ok (.iload_n 2, 1) := by decide +kernel
theorem dX5_sure_26 : decode cX5_sure 26 = .ok (.ifCond .ne 9, 3) := by decide +kernel
theorem dX5_sure_29 : decode cX5_sure 29 = .ok (.aload_n 0, 1) := by decide +kernel
theorem dX5_sure_30 : decode cX5_sure 30 = .ok (.iconst 5, 1) := by decide +kernel
theorem dX5_sure_31 : decode cX5_sure 31 = .ok (.invokevirtual 88, 3) := by decide +kernel
theorem dX5_sure_34 : decode cX5_sure 34 = .ok (.ireturn, 1) := by decide +kernel
theorem dX5_sure_35 : decode cX5_sure 35 = .ok (.aload_n 0, 1) := by decide +kernel
theorem dX5_sure_36 : decode cX5_sure 36 = .ok (.getfield 36, 3) := by decide +kernel
theorem dX5_sure_39 : decode cX5_sure 39 = .ok (.aload_n 0, 1) := by decide +kernel
theorem dX5_sure_40 : decode cX5_sure 40 = .ok (.getfield 22, 3) := by decide +kernel
theorem dX5_sure_43 : decode cX5_sure 43 = .ok (.iload_n 2, 1) := by decide +kernel
theorem dX5_sure_44 : decode cX5_sure 44 = .ok (.invokevirtual 220, 3) := by decide +kernel
theorem dX5_sure_47 : decode cX5_sure 47 = .ok (.aload_n 0, 1) := by decide +kernel
theorem dX5_sure_48 : decode cX5_sure 48 = .ok (.aload_n 0, 1) := by decide +kernel
theorem dX5_sure_49 : decode cX5_sure 49 = .ok (.getfield 36, 3) := by decide +kernel
theorem dX5_sure_52 : decode cX5_sure 52 = .ok (.aload_n 0, 1) := by decide +kernel
theorem dX5_sure_53 : decode cX5_sure 53 = .ok (.getfield 22, 3) := by decide +kernel
theorem dX5_sure_56 : decode cX5_sure 56 = .ok (.iload_n 2, 1) := by decide +kernel
theorem dX5_sure_57 : decode cX5_sure 57 = .ok (.iload_n 1, 1) := by decide +kernel
theorem dX5_sure_58 : decode cX5_sure 58 = .ok (.invokevirtual 231, 3) := by decide +kernel
theorem dX5_sure_61 : decode cX5_sure 61 = .ok (.invokevirtual 126, 3) := by decide +kernel
theorem dX5_sure_64 : decode cX5_sure 64 = .ok (.ireturn, 1) := by decide +kernel
theorem dX5_lead_0 : decode cX5_lead 0 = .ok (.aload_n 0, 1) := by decide +kernel
theorem dX5_lead_1 : decode cX5_lead 1 = .ok (.getfield 22, 3) := by decide +kernel
theorem dX5_lead_4 : decode cX5_lead 4 = .ok (.getfield 119, 3) := by decide +kernel
theorem dX5_lead_7 : decode cX5_lead 7 = .ok (.ifCond .ne 10, 3) := by decide +kernel
theorem dX5_lead_10 : decode cX5_lead 10 = .ok (.aload_n 0, 1) := by decide +kernel
theorem dX5_lead_11 : decode cX5_lead 11 = .ok (.bipush 8, 2) := by decide +kernel
theorem dX5_lead_13 : decode cX5_lead 13 = .ok (.invokevirtual 88, 3) := by decide +kernel
theorem dX5_lead_16 : decode cX5_lead 16 = .ok (.ireturn, 1) := by decide +kernel
theorem dX5_lead_17 : decode cX5_lead 17 = .ok (.aload_n 0, 1) := by decide +kernel
theorem dX5_lead_18 : decode cX5_lead 18 = .ok (.aload_n 0, 1) := by decide +kernel
theorem dX5_lead_19 : decode cX5_lead 19 = .ok (.getfield 22, 3) := by decide +kernel
theorem dX5_lead_22 : decode cX5_lead 22 = .ok (.aload_n 0, 1) := by decide +kernel
theorem dX5_lead_23 : decode cX5_lead 23 = .ok (.getfield 47, 3) := by decide +kernel
theorem dX5_lead_26 : decode cX5_lead 26 = .ok (.invokevirtual 235, 3) := by decide +kernel
theorem dX5_lead_29 : decode cX5_lead 29 = .ok (.putfield 51, 3) := by decide +kernel
theorem dX5_lead_32 : decode cX5_lead 32 = .ok (.aload_n 0, 1) := by decide +kernel
theorem dX5_lead_33 : decode cX5_lead 33 = .ok (.aload_n 0, 1) := by decide +kernel
theorem dX5_lead_34 : decode cX5_lead 34 = .ok (.getfield 51, 3) := by decide +kernel
theorem dX5_lead_37 : decode cX5_lead 37 = .ok (.invokevirtual 126, 3) := by decide +kernel
theorem dX5_lead_40 : decode cX5_lead 40 = .ok (.ireturn, 1) := by decide +kernel
theorem dX5_leader_0 : decode cX5_leader 0 = .ok (.iload_n 1, 1) := by decide +kernel
theorem dX5_leader_1 : decode cX5_leader 1 = .ok (.ifCond .lt 11, 3) := by decide +kernel
theorem dX5_leader_4 : decode cX5_leader 4 = .ok (.iload_n 1, 1) := by decide +kernel
theorem dX5_leader_5 : decode cX5_leader 5 = .ok (.aload_n 0, 1) := by decide +kernel
theorem dX5_leader_6 : decode cX5_leader 6 = .ok (.getfield 51, 3) := by decide +kernel
theorem dX5_leader_9 : decode cX5_leader 9 = .ok (.if_icmp .lt 10, 3) := by decide +kernel
theorem dX5_leader_12 : decode cX5_leader 12 = .ok (.aload_n 0, 1) := by decide +kernel
theorem dX5_leader_13 : decode cX5_leader 13 = .ok (.bipush 8, 2) := by decide +kernel
theorem dX5_leader_15 : decode cX5_leader 15 = .ok (.invokevirtual 88, 3) := by decide +kernel
theorem dX5_leader_18 : decode cX5_leader 18 = .ok (.ireturn, 1) := by decide +kernel
theorem dX5_leader_19 : decode cX5_leader 19 = .ok (.aload_n 0, 1) := by decide +kernel
theorem dX5_leader_20 : decode cX5_leader 20 = .ok (.aload_n 0, 1) := by decide +kernel
theorem dX5_leader_21 : decode cX5_leader 21 = .ok (.getfield 47, 3) := by decide +kernel
theorem dX5_leader_24 : decode cX5_leader 24 = .ok (.iload_n 1, 1) := by decide +kernel
theorem dX5_leader_25 : decode cX5_leader 25 = .ok (.iaload, 1) := by decide +kernel
theorem dX5_leader_26 : decode cX5_leader 26 = .ok (.invokevirtual 126, 3) := by decide +kernel
theorem dX5_leader_29 : decode cX5_leader 29 = .ok (.ireturn, 1) := by decide +kernel
theorem dX5_table_0 : decode cX5_table 0 = .ok (.iload_n 1, 1) := by decide +kernel
theorem dX5_table_1 : decode cX5_table 1 = .ok (.ifCond .lt 9, 3) := by decide +kernel
theorem dX5_table_4 : decode cX5_table 4 = .ok (.iload_n 1, 1) := by decide +kernel
theorem dX5_table_5 : decode cX5_table 5 = .ok (.bipush 10, 2) := by decide +kernel
theorem dX5_table_7 : decode cX5_table 7 = .ok (.if_icmp .le 9, 3) := by decide +kernel
theorem dX5_table_10 : decode cX5_table 10 = .ok (.aload_n 0, 1) := by decide +kernel
theorem dX5_table_11 : decode cX5_table 11 = .ok (.iconst 2, 1) := by decide +kernel
theorem dX5_table_12 : decode cX5_table 12 = .ok (.invokevirtual 65, 3) := by decide +kernel
theorem dX5_table_15 : decode cX5_table 15 = .ok (.ireturn, 1) := by decide +kernel
theorem dX5_table_16 : decode cX5_table 16 = .ok (.aload_n 0, 1) := by decide +kernel
theorem dX5_table_17 : decode cX5_table 17 = .ok (.getfield 43, 3) := by decide +kernel
theorem dX5_table_20 : decode cX5_table 20 = .ok (.iload_n 1, 1) := by decide +kernel
theorem dX5_table_21 : decode cX5_table 21 = .ok (.invokevirtual 239, 3) := by decide +kernel
theorem dX5_table_24 : decode cX5_table 24 = .ok (.aload_n 0, 1) := by decide +kernel
theorem dX5_table_25 : decode cX5_table 25 = .ok (.invokevirtual 73, 3) := by decide +kernel
theorem dX5_table_28 : decode cX5_table 28 = .ok (.ireturn, 1) := by decide +kernel
theorem dX5_span_0 : decode cX5_span 0 = .ok (.aload_n 0, 1) := by decide +kernel
theorem dX5_span_1 : decode cX5_span 1 = .ok (.getfield 43, 3) := by decide +kernel
theorem dX5_span_4 : decode cX5_span 4 = .ok (.iload_n 1, 1) := by decide +kernel
theorem dX5_span_5 : decode cX5_span 5 = .ok (.iload_n 2, 1) := by decide +kernel
theorem dX5_span_6 : decode cX5_span 6 = .ok (.invokevirtual 240, 3) := by decide +kernel
theorem dX5_span_9 : decode cX5_span 9 = .ok (.ifCond .eq 15, 3) := by decide +kernel
theorem dX5_span_12 : decode cX5_span 12 = .ok (.iload_n 3, 1) := by decide +kernel
theorem dX5_span_13 : decode cX5_span 13 = .ok (.ldc 242, 2) := by decide +kernel
theorem dX5_span_15 : decode cX5_span 15 = .ok (.if_icmp .lt 9, 3) := by decide +kernel
theorem dX5_span_18 : decode cX5_span 18 = .ok (.iload_n 3, 1) := by decide +kernel
theorem dX5_span_19 : decode cX5_span 19 = .ok (.ldc 243, 2) := by decide +kernel
theorem dX5_span_21 : decode cX5_span 21 = .ok (.if_icmp .le 9, 3) := by decide +kernel
theorem dX5_span_24 : decode cX5_span 24 = .ok (.aload_n 0, 1) := by decide +kernel
theorem dX5_span_25 : decode cX5_span 25 = .ok (.iconst 2, 1) := by decide +kernel
theorem dX5_span_26 : decode cX5_span 26 = .ok (.invokevirtual 65, 3) := by decide +kernel
theorem dX5_span_29 : decode cX5_span 29 = .ok (.ireturn, 1) := by decide +kernel
theorem dX5_span_30 : decode cX5_span 30 = .ok (.aload_n 0, 1) := by decide +kernel
theorem dX5_span_31 : decode cX5_span 31 = .ok (.getfield 43, 3) := by decide +kernel
theorem dX5_span_34 : decode cX5_span 34 = .ok (.iload_n 1, 1) := by decide +kernel
theorem dX5_span_35 : decode cX5_span 35 = .ok (.iload_n 2, 1) := by decide +kernel
theorem dX5_span_36 : decode cX5_span 36 = .ok (.iload_n 3, 1) := by decide +kernel
theorem dX5_span_37 : decode cX5_span 37 = .ok (.i2l, 1) := by decide +kernel
theorem dX5_span_38 : decode cX5_span 38 = .ok (.invokevirtual 244, 3) := by decide +kernel
theorem dX5_span_41 : decode cX5_span 41 = .ok (.aload_n 0, 1) := by decide +kernel
theorem dX5_span_42 : decode cX5_span 42 = .ok (.invokevirtual 73, 3) := by decide +kernel
theorem dX5_span_45 : decode cX5_span 45 = .ok (.ireturn, 1) := by decide +kernel
theorem dX5_cut_0 : decode cX5_cut 0 = .ok (.aload_n 0, 1) := by decide +kernel
theorem dX5_cut_1 : decode cX5_cut 1 = .ok (.getfield 43, 3) := by decide +kernel
theorem dX5_cut_4 : decode cX5_cut 4 = .ok (.iload_n 1, 1) := by decide +kernel
theorem dX5_cut_5 : decode cX5_cut 5 = .ok (.iload_n 2, 1) := by decide +kernel
theorem dX5_cut_6 : decode cX5_cut 6 = .ok (.invokevirtual 240, 3) := by decide +kernel
theorem dX5_cut_9 : decode cX5_cut 9 = .ok (.ifCond .ne 9, 3) := by decide +kernel
theorem dX5_cut_12 : decode cX5_cut 12 = .ok (.aload_n 0, 1) := by decide +kernel
theorem dX5_cut_13 : decode cX5_cut 13 = .ok (.iconst 2, 1) := by decide +kernel
theorem dX5_cut_14 : decode cX5_cut 14 = .ok (.invokevirtual 65, 3) := by decide +kernel
theorem dX5_cut_17 : decode cX5_cut 17 = .ok (.ireturn, 1) := by decide +kernel
theorem dX5_cut_18 : decode cX5_cut 18 = .ok (.aload_n 0, 1) := by decide +kernel
theorem dX5_cut_19 : decode cX5_cut 19 = .ok (.getfield 43, 3) := by decide +kernel
theorem dX5_cut_22 : decode cX5_cut 22 = .ok (.iload_n 1, 1) := by decide +kernel
theorem dX5_cut_23 : decode cX5_cut 23 = .ok (.iload_n 2, 1) := by decide +kernel
theorem dX5_cut_24 : decode cX5_cut 24 = .ok (.invokevirtual 247, 3) := by decide +kernel
theorem dX5_cut_27 : decode cX5_cut 27 = .ok (.ifCond .ne 10, 3) := by decide +kernel
theorem dX5_cut_30 : decode cX5_cut 30 = .ok (.aload_n 0, 1) := by decide +kernel
theorem dX5_cut_31 : decode cX5_cut 31 = .ok (.bipush 8, 2) := by decide +kernel
theorem dX5_cut_33 : decode cX5_cut 33 = .ok (.invokevirtual 65, 3) := by decide +kernel
theorem dX5_cut_36 : decode cX5_cut 36 = .ok (.ireturn, 1) := by decide +kernel
theorem dX5_cut_37 : decode cX5_cut 37 = .ok (.aload_n 0, 1) := by decide +kernel
theorem dX5_cut_38 : decode cX5_cut 38 = .ok (.invokevirtual 73, 3) := by decide +kernel
theorem dX5_cut_41 : decode cX5_cut 41 = .ok (.ireturn, 1) := by decide +kernel
theorem dX5_pace_0 : decode cX5_pace 0 = .ok (.iload_n 1, 1) := by decide +kernel
theorem dX5_pace_1 : decode cX5_pace 1 = .ok (.ifCond .lt 8, 3) := by decide +kernel
theorem dX5_pace_4 : decode cX5_pace 4 = .ok (.iload_n 1, 1) := by decide +kernel
theorem dX5_pace_5 : decode cX5_pace 5 = .ok (.iconst 1, 1) := by decide +kernel
theorem dX5_pace_6 : decode cX5_pace 6 = .ok (.if_icmp .le 10, 3) := by decide +kernel
theorem dX5_pace_9 : decode cX5_pace 9 = .ok (.aload_n 0, 1) := by decide +kernel
theorem dX5_pace_10 : decode cX5_pace 10 = .ok (.iconst 2, 1) := by decide +kernel
theorem dX5_pace_11 : decode cX5_pace 11 = .ok (.invokevirtual 88, 3) := by decide +kernel
theorem dX5_pace_14 : decode cX5_pace 14 = .ok (.i2l, 1) := by decide +kernel
theorem dX5_pace_15 : decode cX5_pace 15 = .ok (.lreturn, 1) := by decide +kernel
theorem dX5_pace_16 : decode cX5_pace 16 = .ok (.aload_n 0, 1) := by decide +kernel
theorem dX5_pace_17 : decode cX5_pace 17 = .ok (.getfield 43, 3) := by decide +kernel
theorem dX5_pace_20 : decode cX5_pace 20 = .ok (.invokevirtual 250, 3) := by decide +kernel
theorem dX5_pace_23 : decode cX5_pace 23 = .ok (.ifCond .ne 11, 3) := by decide +kernel
theorem dX5_pace_26 : decode cX5_pace 26 = .ok (.aload_n 0, 1) := by decide +kernel
theorem dX5_pace_27 : decode cX5_pace 27 = .ok (.bipush 8, 2) := by decide +kernel
theorem dX5_pace_29 : decode cX5_pace 29 = .ok (.invokevirtual 88, 3) := by decide +kernel
theorem dX5_pace_32 : decode cX5_pace 32 = .ok (.i2l, 1) := by decide +kernel
theorem dX5_pace_33 : decode cX5_pace 33 = .ok (.lreturn, 1) := by decide +kernel
theorem dX5_pace_34 : decode cX5_pace 34 = .ok (.aload_n 0, 1) := by decide +kernel
theorem dX5_pace_35 : decode cX5_pace 35 = .ok (.iconst 0, 1) := by decide +kernel
theorem dX5_pace_36 : decode cX5_pace 36 = .ok (.putfield 9, 3) := by decide +kernel
theorem dX5_pace_39 : decode cX5_pace 39 = .ok (.iload_n 1, 1) := by decide +kernel
theorem dX5_pace_40 : decode cX5_pace 40 = .ok (.ifCond .ne 13, 3) := by decide +kernel
theorem dX5_pace_43 : decode cX5_pace 43 = .ok (.aload_n 0, 1) := by decide +kernel
theorem dX5_pace_44 : decode cX5_pace 44 = .ok (.getfield 43, 3) := by decide +kernel
theorem dX5_pace_47 : decode cX5_pace 47 = .ok (.getfield 253, 3) := by decide +kernel
theorem dX5_pace_50 : decode cX5_pace 50 = .ok (.goto 10, 3) := by decide +kernel
theorem dX5_pace_53 : decode cX5_pace 53 = .ok (.aload_n 0, 1) := by decide +kernel
theorem dX5_pace_54 : decode cX5_pace 54 = .ok (.getfield 43, 3) := by decide +kernel
theorem dX5_pace_57 : decode cX5_pace 57 = .ok (.getfield 257, 3) := by decide +kernel
theorem dX5_pace_60 : decode cX5_pace 60 = .ok (.lreturn, 1) := by decide +kernel
theorem dX5_critical_0 : decode cX5_critical 0 = .ok (.aload_n 0, 1) := by decide +kernel
theorem dX5_critical_1 : decode cX5_critical 1 = .ok (.getfield 43, 3) := by decide +kernel
theorem dX5_critical_4 : decode cX5_critical 4 = .ok (.invokevirtual 250, 3) := by decide +kernel
theorem dX5_critical_7 : decode cX5_critical 7 = .ok (.ifCond .ne 10, 3) := by decide +kernel
theorem dX5_critical_10 : decode cX5_critical 10 = .ok (.aload_n 0, 1) := by decide +kernel
theorem dX5_critical_11 : decode cX5_critical 11 = .ok (.bipush 8, 2) := by decide +kernel
theorem dX5_critical_13 : decode cX5_critical 13 = .ok (.invokevirtual 88, 3) := by decide +kernel
theorem dX5_critical_16 : decode cX5_critical 16 = .ok (.ireturn, 1) := by decide +kernel
theorem dX5_critical_17 : decode cX5_critical 17 = .ok (.aload_n 0, 1) := by decide +kernel
theorem dX5_critical_18 : decode cX5_critical 18 = .ok (.aload_n 0, 1) := by decide +kernel
theorem dX5_critical_19 : decode cX5_critical 19 = .ok (.getfield 43, 3) := by decide +kernel
theorem dX5_critical_22 : decode cX5_critical 22 = .ok (.aload_n 0, 1) := by decide +kernel
theorem dX5_critical_23 : decode cX5_critical 23 = .ok (.getfield 54, 3) := by decide +kernel
theorem dX5_critical_26 : decode cX5_critical 26 = .ok (.invokevirtual 260, 3) := by decide +kernel
theorem dX5_critical_29 : decode cX5_critical 29 = .ok (.putfield 57, 3) := by decide +kernel
theorem dX5_critical_32 : decode cX5_critical 32 = .ok (.aload_n 0, 1) := by decide +kernel
theorem dX5_critical_33 : decode cX5_critical 33 = .ok (.aload_n 0, 1) := by decide +kernel
theorem dX5_critical_34 : decode cX5_critical 34 = .ok (.getfield 57, 3) := by decide +kernel
theorem dX5_critical_37 : decode cX5_critical 37 = .ok (.invokevirtual 126, 3) := by decide +kernel
theorem dX5_critical_40 : decode cX5_critical 40 = .ok (.ireturn, 1) := by decide +kernel
theorem dX5_sums_0 : decode cX5_sums 0 = .ok (.lload_n 1, 1) := by decide +kernel
theorem dX5_sums_1 : decode cX5_sums 1 = .ok (.lconst 0, 1) := by decide +kernel
theorem dX5_sums_2 : decode cX5_sums 2 = .ok (.lcmp, 1) := by decide +kernel
theorem dX5_sums_3 : decode cX5_sums 3 = .ok (.ifCond .lt 24, 3) := by decide +kernel
theorem dX5_sums_6 : decode cX5_sums 6 = .ok (.lload_n 1, 1) := by decide +kernel
theorem dX5_sums_7 : decode cX5_sums 7 = .ok (.ldc2_w 263, 3) := by decide +kernel
theorem dX5_sums_10 : decode cX5_sums 10 = .ok (.lcmp, 1) := by decide +kernel
theorem dX5_sums_11 : decode cX5_sums 11 = .ok (.ifCond .gt 16, 3) := by decide +kernel
theorem dX5_sums_14 : decode cX5_sums 14 = .ok (.aload_n 0, 1) := by decide +kernel
theorem dX5_sums_15 : decode cX5_sums 15 = .ok (.getfield 43, 3) := by decide +kernel
theorem dX5_sums_18 : decode cX5_sums 18 = .ok (.iload_n 3, 1) := by decide +kernel
theorem dX5_sums_19 : decode cX5_sums 19 = .ok (.iload 4, 2) := by decide +kernel
theorem dX5_sums_21 : decode cX5_sums 21 = .ok (.invokevirtual 240, 3) := by decide +kernel
theorem dX5_sums_24 : decode cX5_sums 24 = .ok (.ifCond .ne 10, 3) := by decide +kernel
theorem dX5_sums_27 : decode cX5_sums 27 = .ok (.aload_n 0, 1) := by decide +kernel
theorem dX5_sums_28 : decode cX5_sums 28 = .ok (.iconst 2, 1) := by decide +kernel
theorem dX5_sums_29 : decode cX5_sums 29 = .ok (.invokevirtual 88, 3) := by decide +kernel
theorem dX5_sums_32 : decode cX5_sums 32 = .ok (.i2l, 1) := by decide +kernel
theorem dX5_sums_33 : decode cX5_sums 33 = .ok (.lreturn, 1) := by decide +kernel
theorem dX5_sums_34 : decode cX5_sums 34 = .ok (.aload_n 0, 1) := by decide +kernel
theorem dX5_sums_35 : decode cX5_sums 35 = .ok (.aload_n 0, 1) := by decide +kernel
theorem dX5_sums_36 : decode cX5_sums 36 = .ok (.getfield 43, 3) := by decide +kernel
theorem dX5_sums_39 : decode cX5_sums 39 = .ok (.lload_n 1, 1) := by decide +kernel
theorem dX5_sums_40 : decode cX5_sums 40 = .ok (.iload_n 3, 1) := by decide +kernel
theorem dX5_sums_41 : decode cX5_sums 41 = .ok (.iload 4, 2) := by decide +kernel
theorem dX5_sums_43 : decode cX5_sums 43 = .ok (.invokevirtual 265, 3) := by decide +kernel
theorem dX5_sums_46 : decode cX5_sums 46 = .ok (.invokevirtual 269, 3) := by decide +kernel
theorem dX5_sums_49 : decode cX5_sums 49 = .ok (.lreturn, 1) := by decide +kernel
theorem dX5_longest_0 : decode cX5_longest 0 = .ok (.aload_n 0, 1) := by decide +kernel
theorem dX5_longest_1 : decode cX5_longest 1 = .ok (.getfield 43, 3) := by decide +kernel
theorem dX5_longest_4 : decode cX5_longest 4 = .ok (.iload_n 1, 1) := by decide +kernel
