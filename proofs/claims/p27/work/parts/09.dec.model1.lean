theorem dX6_meet_52 : decode cX6_meet 52 = .ok (.ifCond .eq 15, 3) := by decide +kernel
theorem dX6_meet_55 : decode cX6_meet 55 = .ok (.aload_n 0, 1) := by decide +kernel
theorem dX6_meet_56 : decode cX6_meet 56 = .ok (.getfield 199, 3) := by decide +kernel
theorem dX6_meet_59 : decode cX6_meet 59 = .ok (.aload_n 0, 1) := by decide +kernel
theorem dX6_meet_60 : decode cX6_meet 60 = .ok (.getfield 191, 3) := by decide +kernel
theorem dX6_meet_63 : decode cX6_meet 63 = .ok (.iadd, 1) := by decide +kernel
theorem dX6_meet_64 : decode cX6_meet 64 = .ok (.goto 6, 3) := by decide +kernel
theorem dX6_meet_67 : decode cX6_meet 67 = .ok (.sipush 20000, 3) := by decide +kernel
theorem dX6_meet_70 : decode cX6_meet 70 = .ok (.istore_n 3, 1) := by decide +kernel
theorem dX6_meet_71 : decode cX6_meet 71 = .ok (.aload_n 0, 1) := by decide +kernel
theorem dX6_meet_72 : decode cX6_meet 72 = .ok (.aload_n 0, 1) := by decide +kernel
theorem dX6_meet_73 : decode cX6_meet 73 = .ok (.getfield 57, 3) := by decide +kernel
theorem dX6_meet_76 : decode cX6_meet 76 = .ok (.invokevirtual 188, 3) := by decide +kernel
theorem dX6_meet_79 : decode cX6_meet 79 = .ok (.iconst 1, 1) := by decide +kernel
theorem dX6_meet_80 : decode cX6_meet 80 = .ok (.istore 4, 2) := by decide +kernel
theorem dX6_meet_82 : decode cX6_meet 82 = .ok (.iload 4, 2) := by decide +kernel
theorem dX6_meet_84 : decode cX6_meet 84 = .ok (.iload_n 3, 1) := by decide +kernel
theorem dX6_meet_85 : decode cX6_meet 85 = .ok (.if_icmp .gt 32, 3) := by decide +kernel
theorem dX6_meet_88 : decode cX6_meet 88 = .ok (.aload_n 0, 1) := by decide +kernel
theorem dX6_meet_89 : decode cX6_meet 89 = .ok (.aload_n 0, 1) := by decide +kernel
theorem dX6_meet_90 : decode cX6_meet 90 = .ok (.getfield 57, 3) := by decide +kernel
theorem dX6_meet_93 : decode cX6_meet 93 = .ok (.invokevirtual 166, 3) := by decide +kernel
theorem dX6_meet_96 : decode cX6_meet 96 = .ok (.aload_n 0, 1) := by decide +kernel
theorem dX6_meet_97 : decode cX6_meet 97 = .ok (.aload_n 0, 1) := by decide +kernel
theorem dX6_meet_98 : decode cX6_meet 98 = .ok (.getfield 57, 3) := by decide +kernel
theorem dX6_meet_101 : decode cX6_meet 101 = .ok (.iload_n 1, 1) := by decide +kernel
theorem dX6_meet_102 : decode cX6_meet 102 = .ok (.invokevirtual 176, 3) := by decide +kernel
theorem dX6_meet_105 : decode cX6_meet 105 = .ok (.ifCond .eq 6, 3) := by decide +kernel
theorem dX6_meet_108 : decode cX6_meet 108 = .ok (.iload 4, 2) := by decide +kernel
theorem dX6_meet_110 : decode cX6_meet 110 = .ok (.ireturn, 1) := by decide +kernel
theorem dX6_meet_111 : decode cX6_meet 111 = .ok (.iinc 4 1, 3) := by decide +kernel
theorem dX6_meet_114 : decode cX6_meet 114 = .ok (.goto (-32), 3) := by decide +kernel
theorem dX6_meet_117 : decode cX6_meet 117 = .ok (.aload_n 0, 1) := by decide +kernel
theorem dX6_meet_118 : decode cX6_meet 118 = .ok (.iload_n 2, 1) := by decide +kernel
theorem dX6_meet_119 : decode cX6_meet 119 = .ok (.ifCond .eq 8, 3) := by decide +kernel
theorem dX6_meet_122 : decode cX6_meet 122 = .ok (.bipush 8, 2) := by decide +kernel
theorem dX6_meet_124 : decode cX6_meet 124 = .ok (.goto 5, 3) := by decide +kernel
theorem dX6_meet_127 : decode cX6_meet 127 = .ok (.bipush 10, 2) := by decide +kernel
theorem dX6_meet_129 : decode cX6_meet 129 = .ok (.invokevirtual 151, 3) := by decide +kernel
theorem dX6_meet_132 : decode cX6_meet 132 = .ok (.ireturn, 1) := by decide +kernel
theorem dX6_states_0 : decode cX6_states 0 = .ok (.aload_n 0, 1) := by decide +kernel
theorem dX6_states_1 : decode cX6_states 1 = .ok (.getfield 141, 3) := by decide +kernel
theorem dX6_states_4 : decode cX6_states 4 = .ok (.ifCond .ne 5, 3) := by decide +kernel
theorem dX6_states_7 : decode cX6_states 7 = .ok (.iconst (-1), 1) := by decide +kernel
theorem dX6_states_8 : decode cX6_states 8 = .ok (.ireturn, 1) := by decide +kernel
theorem dX6_states_9 : decode cX6_states 9 = .ok (.iconst 1, 1) := by decide +kernel
theorem dX6_states_10 : decode cX6_states 10 = .ok (.istore_n 1, 1) := by decide +kernel
theorem dX6_states_11 : decode cX6_states 11 = .ok (.iconst 0, 1) := by decide +kernel
theorem dX6_states_12 : decode cX6_states 12 = .ok (.istore_n 2, 1) := by decide +kernel
theorem dX6_states_13 : decode cX6_states 13 = .ok (.iload_n 2, 1) := by decide +kernel
theorem dX6_states_14 : decode cX6_states 14 = .ok (.aload_n 0, 1) := by decide +kernel
theorem dX6_states_15 : decode cX6_states 15 = .ok (.getfield 141, 3) := by decide +kernel
theorem dX6_states_18 : decode cX6_states 18 = .ok (.if_icmp .ge 33, 3) := by decide +kernel
theorem dX6_states_21 : decode cX6_states 21 = .ok (.iload_n 1, 1) := by decide +kernel
theorem dX6_states_22 : decode cX6_states 22 = .ok (.i2l, 1) := by decide +kernel
theorem dX6_states_23 : decode cX6_states 23 = .ok (.aload_n 0, 1) := by decide +kernel
theorem dX6_states_24 : decode cX6_states 24 = .ok (.getfield 22, 3) := by decide +kernel
theorem dX6_states_27 : decode cX6_states 27 = .ok (.i2l, 1) := by decide +kernel
theorem dX6_states_28 : decode cX6_states 28 = .ok (.lmul, 1) := by decide +kernel
theorem dX6_states_29 : decode cX6_states 29 = .ok (.ldc2_w 206, 3) := by decide +kernel
theorem dX6_states_32 : decode cX6_states 32 = .ok (.lcmp, 1) := by decide +kernel
theorem dX6_states_33 : decode cX6_states 33 = .ok (.ifCond .le 5, 3) := by decide +kernel
theorem dX6_states_36 : decode cX6_states 36 = .ok (.iconst (-1), 1) := by decide +kernel
theorem dX6_states_37 : decode cX6_states 37 = .ok (.ireturn, 1) := by decide +kernel
theorem dX6_states_38 : decode cX6_states 38 = .ok (.iload_n 1, 1) := by decide +kernel
theorem dX6_states_39 : decode cX6_states 39 = .ok (.aload_n 0, 1) := by decide +kernel
theorem dX6_states_40 : decode cX6_states 40 = .ok (.getfield 22, 3) := by decide +kernel
theorem dX6_states_43 : decode cX6_states 43 = .ok (.imul, 1) := by decide +kernel
theorem dX6_states_44 : decode cX6_states 44 = .ok (.istore_n 1, 1) := by decide +kernel
theorem dX6_states_45 : decode cX6_states 45 = .ok (.iinc 2 1, 3) := by decide +kernel
theorem dX6_states_48 : decode cX6_states 48 = .ok (.goto (-35), 3) := by decide +kernel
theorem dX6_states_51 : decode cX6_states 51 = .ok (.iload_n 1, 1) := by decide +kernel
theorem dX6_states_52 : decode cX6_states 52 = .ok (.ireturn, 1) := by decide +kernel
theorem dX6_stateTo_0 : decode cX6_stateTo 0 = .ok (.iload_n 1, 1) := by decide +kernel
theorem dX6_stateTo_1 : decode cX6_stateTo 1 = .ok (.istore_n 3, 1) := by decide +kernel
theorem dX6_stateTo_2 : decode cX6_stateTo 2 = .ok (.iconst 0, 1) := by decide +kernel
theorem dX6_stateTo_3 : decode cX6_stateTo 3 = .ok (.istore 4, 2) := by decide +kernel
theorem dX6_stateTo_5 : decode cX6_stateTo 5 = .ok (.iload 4, 2) := by decide +kernel
theorem dX6_stateTo_7 : decode cX6_stateTo 7 = .ok (.aload_n 0, 1) := by decide +kernel
theorem dX6_stateTo_8 : decode cX6_stateTo 8 = .ok (.getfield 141, 3) := by decide +kernel
theorem dX6_stateTo_11 : decode cX6_stateTo 11 = .ok (.if_icmp .ge 26, 3) := by decide +kernel
theorem dX6_stateTo_14 : decode cX6_stateTo 14 = .ok (.aload_n 2, 1) := by decide +kernel
theorem dX6_stateTo_15 : decode cX6_stateTo 15 = .ok (.iload 4, 2) := by decide +kernel
theorem dX6_stateTo_17 : decode cX6_stateTo 17 = .ok (.iload_n 3, 1) := by decide +kernel
theorem dX6_stateTo_18 : decode cX6_stateTo 18 = .ok (.aload_n 0, 1) := by decide +kernel
theorem dX6_stateTo_19 : decode cX6_stateTo 19 = .ok (.getfield 22, 3) := by decide +kernel
theorem dX6_stateTo_22 : decode cX6_stateTo 22 = .ok (.irem, 1) := by decide +kernel
theorem dX6_stateTo_23 : decode cX6_stateTo 23 = .ok (.iastore, 1) := by decide +kernel
theorem dX6_stateTo_24 : decode cX6_stateTo 24 = .ok (.iload_n 3, 1) := by decide +kernel
theorem dX6_stateTo_25 : decode cX6_stateTo 25 = .ok (.aload_n 0, 1) := by decide +kernel
theorem dX6_stateTo_26 : decode cX6_stateTo 26 = .ok (.getfield 22, 3) := by decide +kernel
theorem dX6_stateTo_29 : decode cX6_stateTo 29 = .ok (.idiv, 1) := by decide +kernel
theorem dX6_stateTo_30 : decode cX6_stateTo 30 = .ok (.istore_n 3, 1) := by decide +kernel
theorem dX6_stateTo_31 : decode cX6_stateTo 31 = .ok (.iinc 4 1, 3) := by decide +kernel
theorem dX6_stateTo_34 : decode cX6_stateTo 34 = .ok (.goto (-29), 3) := by decide +kernel
theorem dX6_stateTo_37 : decode cX6_stateTo 37 = .ok (.return_, 1) := by decide +kernel
theorem dX6_numberOf_0 : decode cX6_numberOf 0 = .ok (.iconst 0, 1) := by decide +kernel
theorem dX6_numberOf_1 : decode cX6_numberOf 1 = .ok (.istore_n 2, 1) := by decide +kernel
theorem dX6_numberOf_2 : decode cX6_numberOf 2 = .ok (.aload_n 0, 1) := by decide +kernel
theorem dX6_numberOf_3 : decode cX6_numberOf 3 = .ok (.getfield 141, 3) := by decide +kernel
theorem dX6_numberOf_6 : decode cX6_numberOf 6 = .ok (.iconst 1, 1) := by decide +kernel
theorem dX6_numberOf_7 : decode cX6_numberOf 7 = .ok (.isub, 1) := by decide +kernel
theorem dX6_numberOf_8 : decode cX6_numberOf 8 = .ok (.istore_n 3, 1) := by decide +kernel
theorem dX6_numberOf_9 : decode cX6_numberOf 9 = .ok (.iload_n 3, 1) := by decide +kernel
theorem dX6_numberOf_10 : decode cX6_numberOf 10 = .ok (.ifCond .lt 20, 3) := by decide +kernel
theorem dX6_numberOf_13 : decode cX6_numberOf 13 = .ok (.iload_n 2, 1) := by decide +kernel
theorem dX6_numberOf_14 : decode cX6_numberOf 14 = .ok (.aload_n 0, 1) := by decide +kernel
theorem dX6_numberOf_15 : decode cX6_numberOf 15 = .ok (.getfield 22, 3) := by decide +kernel
theorem dX6_numberOf_18 : decode cX6_numberOf 18 = .ok (.imul, 1) := by decide +kernel
theorem dX6_numberOf_19 : decode cX6_numberOf 19 = .ok (.aload_n 1, 1) := by decide +kernel
theorem dX6_numberOf_20 : decode cX6_numberOf 20 = .ok (.iload_n 3, 1) := by decide +kernel
theorem dX6_numberOf_21 : decode cX6_numberOf 21 = .ok (.iaload, 1) := by decide +kernel
theorem dX6_numberOf_22 : decode cX6_numberOf 22 = .ok (.iadd, 1) := by decide +kernel
theorem dX6_numberOf_23 : decode cX6_numberOf 23 = .ok (.istore_n 2, 1) := by decide +kernel
theorem dX6_numberOf_24 : decode cX6_numberOf 24 = .ok (.iinc 3 (-1), 3) := by decide +kernel
theorem dX6_numberOf_27 : decode cX6_numberOf 27 = .ok (.goto (-18), 3) := by decide +kernel
theorem dX6_numberOf_30 : decode cX6_numberOf 30 = .ok (.iload_n 2, 1) := by decide +kernel
theorem dX6_numberOf_31 : decode cX6_numberOf 31 = .ok (.ireturn, 1) := by decide +kernel
theorem dX6_fillEnds_0 : decode cX6_fillEnds 0 = .ok (.iconst 0, 1) := by decide +kernel
theorem dX6_fillEnds_1 : decode cX6_fillEnds 1 = .ok (.istore_n 2, 1) := by decide +kernel
theorem dX6_fillEnds_2 : decode cX6_fillEnds 2 = .ok (.iload_n 2, 1) := by decide +kernel
theorem dX6_fillEnds_3 : decode cX6_fillEnds 3 = .ok (.iload_n 1, 1) := by decide +kernel
theorem dX6_fillEnds_4 : decode cX6_fillEnds 4 = .ok (.if_icmp .ge 54, 3) := by decide +kernel
theorem dX6_fillEnds_7 : decode cX6_fillEnds 7 = .ok (.aload_n 0, 1) := by decide +kernel
theorem dX6_fillEnds_8 : decode cX6_fillEnds 8 = .ok (.iload_n 2, 1) := by decide +kernel
theorem dX6_fillEnds_9 : decode cX6_fillEnds 9 = .ok (.aload_n 0, 1) := by decide +kernel
theorem dX6_fillEnds_10 : decode cX6_fillEnds 10 = .ok (.getfield 57, 3) := by decide +kernel
theorem dX6_fillEnds_13 : decode cX6_fillEnds 13 = .ok (.invokevirtual 208, 3) := by decide +kernel
theorem dX6_fillEnds_16 : decode cX6_fillEnds 16 = .ok (.aload_n 0, 1) := by decide +kernel
theorem dX6_fillEnds_17 : decode cX6_fillEnds 17 = .ok (.aload_n 0, 1) := by decide +kernel
theorem dX6_fillEnds_18 : decode cX6_fillEnds 18 = .ok (.getfield 57, 3) := by decide +kernel
theorem dX6_fillEnds_21 : decode cX6_fillEnds 21 = .ok (.invokevirtual 166, 3) := by decide +kernel
theorem dX6_fillEnds_24 : decode cX6_fillEnds 24 = .ok (.aload_n 0, 1) := by decide +kernel
theorem dX6_fillEnds_25 : decode cX6_fillEnds 25 = .ok (.getfield 69, 3) := by decide +kernel
theorem dX6_fillEnds_28 : decode cX6_fillEnds 28 = .ok (.iload_n 2, 1) := by decide +kernel
theorem dX6_fillEnds_29 : decode cX6_fillEnds 29 = .ok (.aload_n 0, 1) := by decide +kernel
theorem dX6_fillEnds_30 : decode cX6_fillEnds 30 = .ok (.aload_n 0, 1) := by decide +kernel
theorem dX6_fillEnds_31 : decode cX6_fillEnds 31 = .ok (.getfield 57, 3) := by decide +kernel
theorem dX6_fillEnds_34 : decode cX6_fillEnds 34 = .ok (.invokevirtual 212, 3) := by decide +kernel
theorem dX6_fillEnds_37 : decode cX6_fillEnds 37 = .ok (.iastore, 1) := by decide +kernel
theorem dX6_fillEnds_38 : decode cX6_fillEnds 38 = .ok (.aload_n 0, 1) := by decide +kernel
theorem dX6_fillEnds_39 : decode cX6_fillEnds 39 = .ok (.getfield 106, 3) := by decide +kernel
theorem dX6_fillEnds_42 : decode cX6_fillEnds 42 = .ok (.iload_n 2, 1) := by decide +kernel
theorem dX6_fillEnds_43 : decode cX6_fillEnds 43 = .ok (.iconst 0, 1) := by decide +kernel
theorem dX6_fillEnds_44 : decode cX6_fillEnds 44 = .ok (.iastore, 1) := by decide +kernel
theorem dX6_fillEnds_45 : decode cX6_fillEnds 45 = .ok (.aload_n 0, 1) := by decide +kernel
theorem dX6_fillEnds_46 : decode cX6_fillEnds 46 = .ok (.getfield 72, 3) := by decide +kernel
theorem dX6_fillEnds_49 : decode cX6_fillEnds 49 = .ok (.iload_n 2, 1) := by decide +kernel
theorem dX6_fillEnds_50 : decode cX6_fillEnds 50 = .ok (.iconst (-1), 1) := by decide +kernel
theorem dX6_fillEnds_51 : decode cX6_fillEnds 51 = .ok (.iastore, 1) := by decide +kernel
theorem dX6_fillEnds_52 : decode cX6_fillEnds 52 = .ok (.iinc 2 1, 3) := by decide +kernel
theorem dX6_fillEnds_55 : decode cX6_fillEnds 55 = .ok (.goto (-53), 3) := by decide +kernel
theorem dX6_fillEnds_58 : decode cX6_fillEnds 58 = .ok (.iconst 0, 1) := by decide +kernel
theorem dX6_fillEnds_59 : decode cX6_fillEnds 59 = .ok (.istore_n 2, 1) := by decide +kernel
theorem dX6_fillEnds_60 : decode cX6_fillEnds 60 = .ok (.iload_n 2, 1) := by decide +kernel
theorem dX6_fillEnds_61 : decode cX6_fillEnds 61 = .ok (.iload_n 1, 1) := by decide +kernel
theorem dX6_fillEnds_62 : decode cX6_fillEnds 62 = .ok (.if_icmp .ge 124, 3) := by decide +kernel
theorem dX6_fillEnds_65 : decode cX6_fillEnds 65 = .ok (.iload_n 2, 1) := by decide +kernel
theorem dX6_fillEnds_66 : decode cX6_fillEnds 66 = .ok (.istore_n 3, 1) := by decide +kernel
theorem dX6_fillEnds_67 : decode cX6_fillEnds 67 = .ok (.aload_n 0, 1) := by decide +kernel
theorem dX6_fillEnds_68 : decode cX6_fillEnds 68 = .ok (.getfield 106, 3) := by decide +kernel
theorem dX6_fillEnds_71 : decode cX6_fillEnds 71 = .ok (.iload_n 3, 1) := by decide +kernel
theorem dX6_fillEnds_72 : decode cX6_fillEnds 72 = .ok (.iaload, 1) := by decide +kernel
theorem dX6_fillEnds_73 : decode cX6_fillEnds 73 = .ok (.ifCond .ne 22, 3) := by decide +kernel
theorem dX6_fillEnds_76 : decode cX6_fillEnds 76 = .ok (.aload_n 0, 1) := by decide +kernel
theorem dX6_fillEnds_77 : decode cX6_fillEnds 77 = .ok (.getfield 106, 3) := by decide +kernel
theorem dX6_fillEnds_80 : decode cX6_fillEnds 80 = .ok (.iload_n 3, 1) := by decide +kernel
theorem dX6_fillEnds_81 : decode cX6_fillEnds 81 = .ok (.iload_n 2, 1) := by decide +kernel
theorem dX6_fillEnds_82 : decode cX6_fillEnds 82 = .ok (.iconst 1, 1) := by decide +kernel
theorem dX6_fillEnds_83 : decode cX6_fillEnds 83 = .ok (.iadd, 1) := by decide +kernel
theorem dX6_fillEnds_84 : decode cX6_fillEnds 84 = .ok (.iastore, 1) := by decide +kernel
theorem dX6_fillEnds_85 : decode cX6_fillEnds 85 = .ok (.aload_n 0, 1) := by decide +kernel
theorem dX6_fillEnds_86 : decode cX6_fillEnds 86 = .ok (.getfield 69, 3) := by decide +kernel
theorem dX6_fillEnds_89 : decode cX6_fillEnds 89 = .ok (.iload_n 3, 1) := by decide +kernel
theorem dX6_fillEnds_90 : decode cX6_fillEnds 90 = .ok (.iaload, 1) := by decide +kernel
theorem dX6_fillEnds_91 : decode cX6_fillEnds 91 = .ok (.istore_n 3, 1) := by decide +kernel
theorem dX6_fillEnds_92 : decode cX6_fillEnds 92 = .ok (.goto (-25), 3) := by decide +kernel
theorem dX6_fillEnds_95 : decode cX6_fillEnds 95 = .ok (.aload_n 0, 1) := by decide +kernel
theorem dX6_fillEnds_96 : decode cX6_fillEnds 96 = .ok (.getfield 72, 3) := by decide +kernel
theorem dX6_fillEnds_99 : decode cX6_fillEnds 99 = .ok (.iload_n 3, 1) := by decide +kernel
theorem dX6_fillEnds_100 : decode cX6_fillEnds 100 = .ok (.iaload, 1) := by decide +kernel
theorem dX6_fillEnds_101 : decode cX6_fillEnds 101 = .ok (.istore 4, 2) := by decide +kernel
theorem dX6_fillEnds_103 : decode cX6_fillEnds 103 = .ok (.iload 4, 2) := by decide +kernel
theorem dX6_fillEnds_105 : decode cX6_fillEnds 105 = .ok (.ifCond .ge 41, 3) := by decide +kernel
theorem dX6_fillEnds_108 : decode cX6_fillEnds 108 = .ok (.iload_n 3, 1) := by decide +kernel
theorem dX6_fillEnds_109 : decode cX6_fillEnds 109 = .ok (.istore 4, 2) := by decide +kernel
theorem dX6_fillEnds_111 : decode cX6_fillEnds 111 = .ok (.aload_n 0, 1) := by decide +kernel
theorem dX6_fillEnds_112 : decode cX6_fillEnds 112 = .ok (.getfield 69, 3) := by decide +kernel
theorem dX6_fillEnds_115 : decode cX6_fillEnds 115 = .ok (.iload_n 3, 1) := by decide +kernel
theorem dX6_fillEnds_116 : decode cX6_fillEnds 116 = .ok (.iaload, 1) := by decide +kernel
theorem dX6_fillEnds_117 : decode cX6_fillEnds 117 = .ok (.istore 5, 2) := by decide +kernel
theorem dX6_fillEnds_119 : decode cX6_fillEnds 119 = .ok (.iload 5, 2) := by decide +kernel
theorem dX6_fillEnds_121 : decode cX6_fillEnds 121 = .ok (.iload_n 3, 1) := by decide +kernel
theorem dX6_fillEnds_122 : decode cX6_fillEnds 122 = .ok (.if_icmp .eq 24, 3) := by decide +kernel
theorem dX6_fillEnds_125 : decode cX6_fillEnds 125 = .ok (.iload 4, 2) := by decide +kernel
theorem dX6_fillEnds_127 : decode cX6_fillEnds 127 = .ok (.iload 5, 2) := by decide +kernel
theorem dX6_fillEnds_129 : decode cX6_fillEnds 129 = .ok (.invokestatic 185, 3) := by decide +kernel
theorem dX6_fillEnds_132 : decode cX6_fillEnds 132 = .ok (.istore 4, 2) := by decide +kernel
theorem dX6_fillEnds_134 : decode cX6_fillEnds 134 = .ok (.aload_n 0, 1) := by decide +kernel
theorem dX6_fillEnds_135 : decode cX6_fillEnds 135 = .ok (.getfield 69, 3) := by decide +kernel
theorem dX6_fillEnds_138 : decode cX6_fillEnds 138 = .ok (.iload 5, 2) := by decide +kernel
theorem dX6_fillEnds_140 : decode cX6_fillEnds 140 = .ok (.iaload, 1) := by decide +kernel
theorem dX6_fillEnds_141 : decode cX6_fillEnds 141 = .ok (.istore 5, 2) := by decide +kernel
theorem dX6_fillEnds_143 : decode cX6_fillEnds 143 = .ok (.goto (-24), 3) := by decide +kernel
theorem dX6_fillEnds_146 : decode cX6_fillEnds 146 = .ok (.iload_n 2, 1) := by decide +kernel
theorem dX6_fillEnds_147 : decode cX6_fillEnds 147 = .ok (.istore 5, 2) := by decide +kernel
theorem dX6_fillEnds_149 : decode cX6_fillEnds 149 = .ok (.aload_n 0, 1) := by decide +kernel
theorem dX6_fillEnds_150 : decode cX6_fillEnds 150 = .ok (.getfield 72, 3) := by decide +kernel
theorem dX6_fillEnds_153 : decode cX6_fillEnds 153 = .ok (.iload 5, 2) := by decide +kernel
theorem dX6_fillEnds_155 : decode cX6_fillEnds 155 = .ok (.iaload, 1) := by decide +kernel
theorem dX6_fillEnds_156 : decode cX6_fillEnds 156 = .ok (.ifCond .ge 24, 3) := by decide +kernel
theorem dX6_fillEnds_159 : decode cX6_fillEnds 159 = .ok (.aload_n 0, 1) := by decide +kernel
theorem dX6_fillEnds_160 : decode cX6_fillEnds 160 = .ok (.getfield 72, 3) := by decide +kernel
theorem dX6_fillEnds_163 : decode cX6_fillEnds 163 = .ok (.iload 5, 2) := by decide +kernel
theorem dX6_fillEnds_165 : decode cX6_fillEnds 165 = .ok (.iload 4, 2) := by decide +kernel
theorem dX6_fillEnds_167 : decode cX6_fillEnds 167 = .ok (.iastore, 1) := by decide +kernel
theorem dX6_fillEnds_168 : decode cX6_fillEnds 168 = .ok (.aload_n 0, 1) := by decide +kernel
theorem dX6_fillEnds_169 : decode cX6_fillEnds 169 = .ok (.getfield 69, 3) := by decide +kernel
theorem dX6_fillEnds_172 : decode cX6_fillEnds 172 = .ok (.iload 5, 2) := by decide +kernel
theorem dX6_fillEnds_174 : decode cX6_fillEnds 174 = .ok (.iaload, 1) := by decide +kernel
theorem dX6_fillEnds_175 : decode cX6_fillEnds 175 = .ok (.istore 5, 2) := by decide +kernel
theorem dX6_fillEnds_177 : decode cX6_fillEnds 177 = .ok (.goto (-28), 3) := by decide +kernel
theorem dX6_fillEnds_180 : decode cX6_fillEnds 180 = .ok (.iinc 2 1, 3) := by decide +kernel
theorem dX6_fillEnds_183 : decode cX6_fillEnds 183 = .ok (.goto (-123), 3) := by decide +kernel
theorem dX6_fillEnds_186 : decode cX6_fillEnds 186 = .ok (.return_, 1) := by decide +kernel
theorem dX6_ends_0 : decode cX6_ends 0 = .ok (.aload_n 0, 1) := by decide +kernel
theorem dX6_ends_1 : decode cX6_ends 1 = .ok (.iconst 0, 1) := by decide +kernel
theorem dX6_ends_2 : decode cX6_ends 2 = .ok (.putfield 117, 3) := by decide +kernel
theorem dX6_ends_5 : decode cX6_ends 5 = .ok (.aload_n 0, 1) := by decide +kernel
theorem dX6_ends_6 : decode cX6_ends 6 = .ok (.iconst 0, 1) := by decide +kernel
theorem dX6_ends_7 : decode cX6_ends 7 = .ok (.putfield 120, 3) := by decide +kernel
theorem dX6_ends_10 : decode cX6_ends 10 = .ok (.aload_n 0, 1) := by decide +kernel
theorem dX6_ends_11 : decode cX6_ends 11 = .ok (.invokevirtual 216, 3) := by decide +kernel
theorem dX6_ends_14 : decode cX6_ends 14 = .ok (.istore_n 1, 1) := by decide +kernel
theorem dX6_ends_15 : decode cX6_ends 15 = .ok (.iload_n 1, 1) := by decide +kernel
theorem dX6_ends_16 : decode cX6_ends 16 = .ok (.ifCond .ge 9, 3) := by decide +kernel
theorem dX6_ends_19 : decode cX6_ends 19 = .ok (.aload_n 0, 1) := by decide +kernel
theorem dX6_ends_20 : decode cX6_ends 20 = .ok (.iconst 5, 1) := by decide +kernel
theorem dX6_ends_21 : decode cX6_ends 21 = .ok (.invokevirtual 151, 3) := by decide +kernel
theorem dX6_ends_24 : decode cX6_ends 24 = .ok (.ireturn, 1) := by decide +kernel
theorem dX6_ends_25 : decode cX6_ends 25 = .ok (.aload_n 0, 1) := by decide +kernel
theorem dX6_ends_26 : decode cX6_ends 26 = .ok (.iload_n 1, 1) := by decide +kernel
theorem dX6_ends_27 : decode cX6_ends 27 = .ok (.invokevirtual 220, 3) := by decide +kernel
theorem dX6_ends_30 : decode cX6_ends 30 = .ok (.aload_n 0, 1) := by decide +kernel
theorem dX6_ends_31 : decode cX6_ends 31 = .ok (.iconst 0, 1) := by decide +kernel
theorem dX6_ends_32 : decode cX6_ends 32 = .ok (.putfield 224, 3) := by decide +kernel
theorem dX6_ends_35 : decode cX6_ends 35 = .ok (.iconst 0, 1) := by decide +kernel
theorem dX6_ends_36 : decode cX6_ends 36 = .ok (.istore_n 2, 1) := by decide +kernel
theorem dX6_ends_37 : decode cX6_ends 37 = .ok (.iload_n 2, 1) := by decide +kernel
theorem dX6_ends_38 : decode cX6_ends 38 = .ok (.iload_n 1, 1) := by decide +kernel
theorem dX6_ends_39 : decode cX6_ends 39 = .ok (.if_icmp .ge 16, 3) := by decide +kernel
theorem dX6_ends_42 : decode cX6_ends 42 = .ok (.aload_n 0, 1) := by decide +kernel
theorem dX6_ends_43 : decode cX6_ends 43 = .ok (.getfield 109, 3) := by decide +kernel
theorem dX6_ends_46 : decode cX6_ends 46 = .ok (.iload_n 2, 1) := by decide +kernel
theorem dX6_ends_47 : decode cX6_ends 47 = .ok (.iconst (-1), 1) := by decide +kernel
theorem dX6_ends_48 : decode cX6_ends 48 = .ok (.iastore, 1) := by decide +kernel
theorem dX6_ends_49 : decode cX6_ends 49 = .ok (.iinc 2 1, 3) := by decide +kernel
theorem dX6_ends_52 : decode cX6_ends 52 = .ok (.goto (-15), 3) := by decide +kernel
theorem dX6_ends_55 : decode cX6_ends 55 = .ok (.iconst 0, 1) := by decide +kernel
theorem dX6_ends_56 : decode cX6_ends 56 = .ok (.istore_n 2, 1) := by decide +kernel
theorem dX6_ends_57 : decode cX6_ends 57 = .ok (.iload_n 2, 1) := by decide +kernel
theorem dX6_ends_58 : decode cX6_ends 58 = .ok (.iload_n 1, 1) := by decide +kernel
theorem dX6_ends_59 : decode cX6_ends 59 = .ok (.if_icmp .ge 107, 3) := by decide +kernel
theorem dX6_ends_62 : decode cX6_ends 62 = .ok (.aload_n 0, 1) := by decide +kernel
theorem dX6_ends_63 : decode cX6_ends 63 = .ok (.getfield 72, 3) := by decide +kernel
theorem dX6_ends_66 : decode cX6_ends 66 = .ok (.iload_n 2, 1) := by decide +kernel
theorem dX6_ends_67 : decode cX6_ends 67 = .ok (.iaload, 1) := by decide +kernel
theorem dX6_ends_68 : decode cX6_ends 68 = .ok (.iload_n 2, 1) := by decide +kernel
theorem dX6_ends_69 : decode cX6_ends 69 = .ok (.if_icmp .eq 6, 3) := by decide +kernel
theorem dX6_ends_72 : decode cX6_ends 72 = .ok (.goto 88, 3) := by decide +kernel
theorem dX6_ends_75 : decode cX6_ends 75 = .ok (.aload_n 0, 1) := by decide +kernel
theorem dX6_ends_76 : decode cX6_ends 76 = .ok (.getfield 109, 3) := by decide +kernel
theorem dX6_ends_79 : decode cX6_ends 79 = .ok (.iload_n 2, 1) := by decide +kernel
theorem dX6_ends_80 : decode cX6_ends 80 = .ok (.aload_n 0, 1) := by decide +kernel
theorem dX6_ends_81 : decode cX6_ends 81 = .ok (.getfield 224, 3) := by decide +kernel
theorem dX6_ends_84 : decode cX6_ends 84 = .ok (.iastore, 1) := by decide +kernel
theorem dX6_ends_85 : decode cX6_ends 85 = .ok (.aload_n 0, 1) := by decide +kernel
theorem dX6_ends_86 : decode cX6_ends 86 = .ok (.getfield 75, 3) := by decide +kernel
theorem dX6_ends_89 : decode cX6_ends 89 = .ok (.aload_n 0, 1) := by decide +kernel
theorem dX6_ends_90 : decode cX6_ends 90 = .ok (.getfield 224, 3) := by decide +kernel
theorem dX6_ends_93 : decode cX6_ends 93 = .ok (.iload_n 2, 1) := by decide +kernel
theorem dX6_ends_94 : decode cX6_ends 94 = .ok (.iastore, 1) := by decide +kernel
theorem dX6_ends_95 : decode cX6_ends 95 = .ok (.aload_n 0, 1) := by decide +kernel
theorem dX6_ends_96 : decode cX6_ends 96 = .ok (.getfield 78, 3) := by decide +kernel
theorem dX6_ends_99 : decode cX6_ends 99 = .ok (.aload_n 0, 1) := by decide +kernel
theorem dX6_ends_100 : decode cX6_ends 100 = .ok (.getfield 224, 3) := by decide +kernel
theorem dX6_ends_103 : decode cX6_ends 103 = .ok (.iconst 1, 1) := by decide +kernel
theorem dX6_ends_104 : decode cX6_ends 104 = .ok (.iastore, 1) := by decide +kernel
theorem dX6_ends_105 : decode cX6_ends 105 = .ok (.aload_n 0, 1) := by decide +kernel
theorem dX6_ends_106 : decode cX6_ends 106 = .ok (.getfield 69, 3) := by decide +kernel
theorem dX6_ends_109 : decode cX6_ends 109 = .ok (.iload_n 2, 1) := by decide +kernel
theorem dX6_ends_110 : decode cX6_ends 110 = .ok (.iaload, 1) := by decide +kernel
theorem dX6_ends_111 : decode cX6_ends 111 = .ok (.istore_n 3, 1) := by decide +kernel
theorem dX6_ends_112 : decode cX6_ends 112 = .ok (.iload_n 3, 1) := by decide +kernel
theorem dX6_ends_113 : decode cX6_ends 113 = .ok (.iload_n 2, 1) := by decide +kernel
theorem dX6_ends_114 : decode cX6_ends 114 = .ok (.if_icmp .eq 26, 3) := by decide +kernel
theorem dX6_ends_117 : decode cX6_ends 117 = .ok (.aload_n 0, 1) := by decide +kernel
theorem dX6_ends_118 : decode cX6_ends 118 = .ok (.getfield 78, 3) := by decide +kernel
theorem dX6_ends_121 : decode cX6_ends 121 = .ok (.aload_n 0, 1) := by decide +kernel
theorem dX6_ends_122 : decode cX6_ends 122 = .ok (.getfield 224, 3) := by decide +kernel
theorem dX6_ends_125 : decode cX6_ends 125 = .ok (.dup2, 1) := by decide +kernel
theorem dX6_ends_126 : decode cX6_ends 126 = .ok (.iaload, 1) := by decide +kernel
theorem dX6_ends_127 : decode cX6_ends 127 = .ok (.iconst 1, 1) := by decide +kernel
theorem dX6_ends_128 : decode cX6_ends 128 = .ok (.iadd, 1) := by decide +kernel
theorem dX6_ends_129 : decode cX6_ends 129 = .ok (.iastore, 1) := by decide +kernel
theorem dX6_ends_130 : decode cX6_ends 130 = .ok (.aload_n 0, 1) := by decide +kernel
theorem dX6_ends_131 : decode cX6_ends 131 = .ok (.getfield 69, 3) := by decide +kernel
theorem dX6_ends_134 : decode cX6_ends 134 = .ok (.iload_n 3, 1) := by decide +kernel
theorem dX6_ends_135 : decode cX6_ends 135 = .ok (.iaload, 1) := by decide +kernel
theorem dX6_ends_136 : decode cX6_ends 136 = .ok (.istore_n 3, 1) := by decide +kernel
theorem dX6_ends_137 : decode cX6_ends 137 = .ok (.goto (-25), 3) := by decide +kernel
theorem dX6_ends_140 : decode cX6_ends 140 = .ok (.aload_n 0, 1) := by decide +kernel
theorem dX6_ends_141 : decode cX6_ends 141 = .ok (.getfield 81, 3) := by decide +kernel
theorem dX6_ends_144 : decode cX6_ends 144 = .ok (.aload_n 0, 1) := by decide +kernel
theorem dX6_ends_145 : decode cX6_ends 145 = .ok (.getfield 224, 3) := by decide +kernel
theorem dX6_ends_148 : decode cX6_ends 148 = .ok (.iconst 0, 1) := by decide +kernel
theorem dX6_ends_149 : decode cX6_ends 149 = .ok (.iastore, 1) := by decide +kernel
theorem dX6_ends_150 : decode cX6_ends 150 = .ok (.aload_n 0, 1) := by decide +kernel
theorem dX6_ends_151 : decode cX6_ends 151 = .ok (.dup, 1) := by decide +kernel
theorem dX6_ends_152 : decode cX6_ends 152 = .ok (.getfield 224, 3) := by decide +kernel
theorem dX6_ends_155 : decode cX6_ends 155 = .ok (.iconst 1, 1) := by decide +kernel
theorem dX6_ends_156 : decode cX6_ends 156 = .ok (.iadd, 1) := by decide +kernel
theorem dX6_ends_157 : decode cX6_ends 157 = .ok (.putfield 224, 3) := by decide +kernel
theorem dX6_ends_160 : decode cX6_ends 160 = .ok (.iinc 2 1, 3) := by decide +kernel
theorem dX6_ends_163 : decode cX6_ends 163 = .ok (.goto (-106), 3) := by decide +kernel
theorem dX6_ends_166 : decode cX6_ends 166 = .ok (.iconst 0, 1) := by decide +kernel
theorem dX6_ends_167 : decode cX6_ends 167 = .ok (.istore_n 2, 1) := by decide +kernel
theorem dX6_ends_168 : decode cX6_ends 168 = .ok (.iload_n 2, 1) := by decide +kernel
theorem dX6_ends_169 : decode cX6_ends 169 = .ok (.iload_n 1, 1) := by decide +kernel
theorem dX6_ends_170 : decode cX6_ends 170 = .ok (.if_icmp .ge 29, 3) := by decide +kernel
theorem dX6_ends_173 : decode cX6_ends 173 = .ok (.aload_n 0, 1) := by decide +kernel
theorem dX6_ends_174 : decode cX6_ends 174 = .ok (.getfield 81, 3) := by decide +kernel
theorem dX6_ends_177 : decode cX6_ends 177 = .ok (.aload_n 0, 1) := by decide +kernel
theorem dX6_ends_178 : decode cX6_ends 178 = .ok (.getfield 109, 3) := by decide +kernel
theorem dX6_ends_181 : decode cX6_ends 181 = .ok (.aload_n 0, 1) := by decide +kernel
theorem dX6_ends_182 : decode cX6_ends 182 = .ok (.getfield 72, 3) := by decide +kernel
theorem dX6_ends_185 : decode cX6_ends 185 = .ok (.iload_n 2, 1) := by decide +kernel
theorem dX6_ends_186 : decode cX6_ends 186 = .ok (.iaload, 1) := by decide +kernel
theorem dX6_ends_187 : decode cX6_ends 187 = .ok (.iaload, 1) := by decide +kernel
theorem dX6_ends_188 : decode cX6_ends 188 = .ok (.dup2, 1) := by decide +kernel
theorem dX6_ends_189 : decode cX6_ends 189 = .ok (.iaload, 1) := by decide +kernel
theorem dX6_ends_190 : decode cX6_ends 190 = .ok (.iconst 1, 1) := by decide +kernel
theorem dX6_ends_191 : decode cX6_ends 191 = .ok (.iadd, 1) := by decide +kernel
theorem dX6_ends_192 : decode cX6_ends 192 = .ok (.iastore, 1) := by decide +kernel
theorem dX6_ends_193 : decode cX6_ends 193 = .ok (.iinc 2 1, 3) := by decide +kernel
theorem dX6_ends_196 : decode cX6_ends 196 = .ok (.goto (-28), 3) := by decide +kernel
theorem dX6_ends_199 : decode cX6_ends 199 = .ok (.aload_n 0, 1) := by decide +kernel
theorem dX6_ends_200 : decode cX6_ends 200 = .ok (.getfield 224, 3) := by decide +kernel
theorem dX6_ends_203 : decode cX6_ends 203 = .ok (.ireturn, 1) := by decide +kernel
theorem dX6_end_0 : decode cX6_end 0 = .ok (.aload_n 0, 1) := by decide +kernel
theorem dX6_end_1 : decode cX6_end 1 = .ok (.iconst 0, 1) := by decide +kernel
theorem dX6_end_2 : decode cX6_end 2 = .ok (.putfield 117, 3) := by decide +kernel
theorem dX6_end_5 : decode cX6_end 5 = .ok (.aload_n 0, 1) := by decide +kernel
theorem dX6_end_6 : decode cX6_end 6 = .ok (.iconst 0, 1) := by decide +kernel
theorem dX6_end_7 : decode cX6_end 7 = .ok (.putfield 120, 3) := by decide +kernel
theorem dX6_end_10 : decode cX6_end 10 = .ok (.iload_n 2, 1) := by decide +kernel
theorem dX6_end_11 : decode cX6_end 11 = .ok (.ifCond .lt 8, 3) := by decide +kernel
theorem dX6_end_14 : decode cX6_end 14 = .ok (.iload_n 2, 1) := by decide +kernel
theorem dX6_end_15 : decode cX6_end 15 = .ok (.iconst 2, 1) := by decide +kernel
theorem dX6_end_16 : decode cX6_end 16 = .ok (.if_icmp .le 9, 3) := by decide +kernel
theorem dX6_end_19 : decode cX6_end 19 = .ok (.aload_n 0, 1) := by decide +kernel
theorem dX6_end_20 : decode cX6_end 20 = .ok (.iconst 2, 1) := by decide +kernel
theorem dX6_end_21 : decode cX6_end 21 = .ok (.invokevirtual 151, 3) := by decide +kernel
theorem dX6_end_24 : decode cX6_end 24 = .ok (.ireturn, 1) := by decide +kernel
theorem dX6_end_25 : decode cX6_end 25 = .ok (.iload_n 1, 1) := by decide +kernel
theorem dX6_end_26 : decode cX6_end 26 = .ok (.ifCond .lt 11, 3) := by decide +kernel
theorem dX6_end_29 : decode cX6_end 29 = .ok (.iload_n 1, 1) := by decide +kernel
theorem dX6_end_30 : decode cX6_end 30 = .ok (.aload_n 0, 1) := by decide +kernel
theorem dX6_end_31 : decode cX6_end 31 = .ok (.getfield 224, 3) := by decide +kernel
theorem dX6_end_34 : decode cX6_end 34 = .ok (.if_icmp .lt 10, 3) := by decide +kernel
theorem dX6_end_37 : decode cX6_end 37 = .ok (.aload_n 0, 1) := by decide +kernel
theorem dX6_end_38 : decode cX6_end 38 = .ok (.bipush 8, 2) := by decide +kernel
theorem dX6_end_40 : decode cX6_end 40 = .ok (.invokevirtual 151, 3) := by decide +kernel
theorem dX6_end_43 : decode cX6_end 43 = .ok (.ireturn, 1) := by decide +kernel
theorem dX6_end_44 : decode cX6_end 44 = .ok (.iload_n 2, 1) := by decide +kernel
theorem dX6_end_45 : decode cX6_end 45 = .ok (.ifCond .ne 12, 3) := by decide +kernel
theorem dX6_end_48 : decode cX6_end 48 = .ok (.aload_n 0, 1) := by decide +kernel
theorem dX6_end_49 : decode cX6_end 49 = .ok (.getfield 75, 3) := by decide +kernel
theorem dX6_end_52 : decode cX6_end 52 = .ok (.iload_n 1, 1) := by decide +kernel
theorem dX6_end_53 : decode cX6_end 53 = .ok (.iaload, 1) := by decide +kernel
theorem dX6_end_54 : decode cX6_end 54 = .ok (.goto 23, 3) := by decide +kernel
theorem dX6_end_57 : decode cX6_end 57 = .ok (.iload_n 2, 1) := by decide +kernel
theorem dX6_end_58 : decode cX6_end 58 = .ok (.iconst 1, 1) := by decide +kernel
theorem dX6_end_59 : decode cX6_end 59 = .ok (.if_icmp .ne 12, 3) := by decide +kernel
theorem dX6_end_62 : decode cX6_end 62 = .ok (.aload_n 0, 1) := by decide +kernel
theorem dX6_end_63 : decode cX6_end 63 = .ok (.getfield 78, 3) := by decide +kernel
theorem dX6_end_66 : decode cX6_end 66 = .ok (.iload_n 1, 1) := by decide +kernel
theorem dX6_end_67 : decode cX6_end 67 = .ok (.iaload, 1) := by decide +kernel
theorem dX6_end_68 : decode cX6_end 68 = .ok (.goto 9, 3) := by decide +kernel
theorem dX6_end_71 : decode cX6_end 71 = .ok (.aload_n 0, 1) := by decide +kernel
theorem dX6_end_72 : decode cX6_end 72 = .ok (.getfield 81, 3) := by decide +kernel
theorem dX6_end_75 : decode cX6_end 75 = .ok (.iload_n 1, 1) := by decide +kernel
theorem dX6_end_76 : decode cX6_end 76 = .ok (.iaload, 1) := by decide +kernel
theorem dX6_end_77 : decode cX6_end 77 = .ok (.ireturn, 1) := by decide +kernel
theorem dX6_sure_0 : decode cX6_sure 0 = .ok (.aload_n 0, 1) := by decide +kernel
theorem dX6_sure_1 : decode cX6_sure 1 = .ok (.iconst 0, 1) := by decide +kernel
theorem dX6_sure_2 : decode cX6_sure 2 = .ok (.putfield 117, 3) := by decide +kernel
theorem dX6_sure_5 : decode cX6_sure 5 = .ok (.aload_n 0, 1) := by decide +kernel
theorem dX6_sure_6 : decode cX6_sure 6 = .ok (.iconst 0, 1) := by decide +kernel
theorem dX6_sure_7 : decode cX6_sure 7 = .ok (.putfield 120, 3) := by decide +kernel
theorem dX6_sure_10 : decode cX6_sure 10 = .ok (.aload_n 0, 1) := by decide +kernel
theorem dX6_sure_11 : decode cX6_sure 11 = .ok (.iload_n 1, 1) := by decide +kernel
theorem dX6_sure_12 : decode cX6_sure 12 = .ok (.invokevirtual 173, 3) := by decide +kernel
theorem dX6_sure_15 : decode cX6_sure 15 = .ok (.ifCond .ne 9, 3) := by decide +kernel
theorem dX6_sure_18 : decode cX6_sure 18 = .ok (.aload_n 0, 1) := by decide +kernel
theorem dX6_sure_19 : decode cX6_sure 19 = .ok (.iconst 2, 1) := by decide +kernel
theorem dX6_sure_20 : decode cX6_sure 20 = .ok (.invokevirtual 151, 3) := by decide +kernel
theorem dX6_sure_23 : decode cX6_sure 23 = .ok (.ireturn, 1) := by decide +kernel
theorem dX6_sure_24 : decode cX6_sure 24 = .ok (.aload_n 0, 1) := by decide +kernel
theorem dX6_sure_25 : decode cX6_sure 25 = .ok (.invokevirtual 216, 3) := by decide +kernel
theorem dX6_sure_28 : decode cX6_sure 28 = .ok (.istore_n 2, 1) := by decide +kernel
theorem dX6_sure_29 : decode cX6_sure 29 = .ok (.iload_n 2, 1) := by decide +kernel
theorem dX6_sure_30 : decode cX6_sure 30 = .ok (.ifCond .ge 9, 3) := by decide +kernel
theorem dX6_sure_33 : decode cX6_sure 33 = .ok (.aload_n 0, 1) := by decide +kernel
theorem dX6_sure_34 : decode cX6_sure 34 = .ok (.iconst 5, 1) := by decide +kernel
theorem dX6_sure_35 : decode cX6_sure 35 = .ok (.invokevirtual 151, 3) := by decide +kernel
theorem dX6_sure_38 : decode cX6_sure 38 = .ok (.ireturn, 1) := by decide +kernel
theorem dX6_sure_39 : decode cX6_sure 39 = .ok (.aload_n 0, 1) := by decide +kernel
theorem dX6_sure_40 : decode cX6_sure 40 = .ok (.iload_n 2, 1) := by decide +kernel
theorem dX6_sure_41 : decode cX6_sure 41 = .ok (.invokevirtual 220, 3) := by decide +kernel
theorem dX6_sure_44 : decode cX6_sure 44 = .ok (.iconst 0, 1) := by decide +kernel
theorem dX6_sure_45 : decode cX6_sure 45 = .ok (.istore_n 3, 1) := by decide +kernel
theorem dX6_sure_46 : decode cX6_sure 46 = .ok (.iload_n 3, 1) := by decide +kernel
theorem dX6_sure_47 : decode cX6_sure 47 = .ok (.iload_n 2, 1) := by decide +kernel
theorem dX6_sure_48 : decode cX6_sure 48 = .ok (.if_icmp .ge 93, 3) := by decide +kernel
theorem dX6_sure_51 : decode cX6_sure 51 = .ok (.aload_n 0, 1) := by decide +kernel
theorem dX6_sure_52 : decode cX6_sure 52 = .ok (.getfield 72, 3) := by decide +kernel
theorem dX6_sure_55 : decode cX6_sure 55 = .ok (.iload_n 3, 1) := by decide +kernel
theorem dX6_sure_56 : decode cX6_sure 56 = .ok (.iaload, 1) := by decide +kernel
theorem dX6_sure_57 : decode cX6_sure 57 = .ok (.iload_n 3, 1) := by decide +kernel
theorem dX6_sure_58 : decode cX6_sure 58 = .ok (.if_icmp .eq 6, 3) := by decide +kernel
theorem dX6_sure_61 : decode cX6_sure 61 = .ok (.goto 74, 3) := by decide +kernel
theorem dX6_sure_64 : decode cX6_sure 64 = .ok (.iconst 1, 1) := by decide +kernel
theorem dX6_sure_65 : decode cX6_sure 65 = .ok (.istore 4, 2) := by decide +kernel
theorem dX6_sure_67 : decode cX6_sure 67 = .ok (.iload_n 3, 1) := by decide +kernel
theorem dX6_sure_68 : decode cX6_sure 68 = .ok (.istore 5, 2) := by decide +kernel
theorem dX6_sure_70 : decode cX6_sure 70 = .ok (.aload_n 0, 1) := by decide +kernel
theorem dX6_sure_71 : decode cX6_sure 71 = .ok (.iload 5, 2) := by decide +kernel
theorem dX6_sure_73 : decode cX6_sure 73 = .ok (.aload_n 0, 1) := by decide +kernel
theorem dX6_sure_74 : decode cX6_sure 74 = .ok (.getfield 57, 3) := by decide +kernel
theorem dX6_sure_77 : decode cX6_sure 77 = .ok (.invokevirtual 208, 3) := by decide +kernel
theorem dX6_sure_80 : decode cX6_sure 80 = .ok (.iload 4, 2) := by decide +kernel
theorem dX6_sure_82 : decode cX6_sure 82 = .ok (.ifCond .eq 19, 3) := by decide +kernel
theorem dX6_sure_85 : decode cX6_sure 85 = .ok (.aload_n 0, 1) := by decide +kernel
theorem dX6_sure_86 : decode cX6_sure 86 = .ok (.aload_n 0, 1) := by decide +kernel
theorem dX6_sure_87 : decode cX6_sure 87 = .ok (.getfield 57, 3) := by decide +kernel
theorem dX6_sure_90 : decode cX6_sure 90 = .ok (.iload_n 1, 1) := by decide +kernel
theorem dX6_sure_91 : decode cX6_sure 91 = .ok (.invokevirtual 176, 3) := by decide +kernel
theorem dX6_sure_94 : decode cX6_sure 94 = .ok (.ifCond .eq 7, 3) := by decide +kernel
theorem dX6_sure_97 : decode cX6_sure 97 = .ok (.iconst 1, 1) := by decide +kernel
theorem dX6_sure_98 : decode cX6_sure 98 = .ok (.goto 4, 3) := by decide +kernel
theorem dX6_sure_101 : decode cX6_sure 101 = .ok (.iconst 0, 1) := by decide +kernel
theorem dX6_sure_102 : decode cX6_sure 102 = .ok (.istore 4, 2) := by decide +kernel
theorem dX6_sure_104 : decode cX6_sure 104 = .ok (.aload_n 0, 1) := by decide +kernel
theorem dX6_sure_105 : decode cX6_sure 105 = .ok (.getfield 69, 3) := by decide +kernel
theorem dX6_sure_108 : decode cX6_sure 108 = .ok (.iload 5, 2) := by decide +kernel
theorem dX6_sure_110 : decode cX6_sure 110 = .ok (.iaload, 1) := by decide +kernel
theorem dX6_sure_111 : decode cX6_sure 111 = .ok (.istore 5, 2) := by decide +kernel
theorem dX6_sure_113 : decode cX6_sure 113 = .ok (.iload 5, 2) := by decide +kernel
theorem dX6_sure_115 : decode cX6_sure 115 = .ok (.iload_n 3, 1) := by decide +kernel
theorem dX6_sure_116 : decode cX6_sure 116 = .ok (.if_icmp .ne (-46), 3) := by decide +kernel
theorem dX6_sure_119 : decode cX6_sure 119 = .ok (.aload_n 0, 1) := by decide +kernel
theorem dX6_sure_120 : decode cX6_sure 120 = .ok (.getfield 109, 3) := by decide +kernel
theorem dX6_sure_123 : decode cX6_sure 123 = .ok (.iload_n 3, 1) := by decide +kernel
theorem dX6_sure_124 : decode cX6_sure 124 = .ok (.iload 4, 2) := by decide +kernel
theorem dX6_sure_126 : decode cX6_sure 126 = .ok (.ifCond .eq 7, 3) := by decide +kernel
theorem dX6_sure_129 : decode cX6_sure 129 = .ok (.iconst 1, 1) := by decide +kernel
theorem dX6_sure_130 : decode cX6_sure 130 = .ok (.goto 4, 3) := by decide +kernel
theorem dX6_sure_133 : decode cX6_sure 133 = .ok (.iconst 0, 1) := by decide +kernel
theorem dX6_sure_134 : decode cX6_sure 134 = .ok (.iastore, 1) := by decide +kernel
theorem dX6_sure_135 : decode cX6_sure 135 = .ok (.iinc 3 1, 3) := by decide +kernel
theorem dX6_sure_138 : decode cX6_sure 138 = .ok (.goto (-92), 3) := by decide +kernel
theorem dX6_sure_141 : decode cX6_sure 141 = .ok (.iconst 0, 1) := by decide +kernel
theorem dX6_sure_142 : decode cX6_sure 142 = .ok (.istore_n 3, 1) := by decide +kernel
theorem dX6_sure_143 : decode cX6_sure 143 = .ok (.iconst 0, 1) := by decide +kernel
theorem dX6_sure_144 : decode cX6_sure 144 = .ok (.istore 4, 2) := by decide +kernel
theorem dX6_sure_146 : decode cX6_sure 146 = .ok (.iload 4, 2) := by decide +kernel
theorem dX6_sure_148 : decode cX6_sure 148 = .ok (.iload_n 2, 1) := by decide +kernel
theorem dX6_sure_149 : decode cX6_sure 149 = .ok (.if_icmp .ge 24, 3) := by decide +kernel
theorem dX6_sure_152 : decode cX6_sure 152 = .ok (.iload_n 3, 1) := by decide +kernel
theorem dX6_sure_153 : decode cX6_sure 153 = .ok (.aload_n 0, 1) := by decide +kernel
theorem dX6_sure_154 : decode cX6_sure 154 = .ok (.getfield 109, 3) := by decide +kernel
theorem dX6_sure_157 : decode cX6_sure 157 = .ok (.aload_n 0, 1) := by decide +kernel
theorem dX6_sure_158 : decode cX6_sure 158 = .ok (.getfield 72, 3) := by decide +kernel
theorem dX6_sure_161 : decode cX6_sure 161 = .ok (.iload 4, 2) := by decide +kernel
theorem dX6_sure_163 : decode cX6_sure 163 = .ok (.iaload, 1) := by decide +kernel
theorem dX6_sure_164 : decode cX6_sure 164 = .ok (.iaload, 1) := by decide +kernel
theorem dX6_sure_165 : decode cX6_sure 165 = .ok (.iadd, 1) := by decide +kernel
theorem dX6_sure_166 : decode cX6_sure 166 = .ok (.istore_n 3, 1) := by decide +kernel
theorem dX6_sure_167 : decode cX6_sure 167 = .ok (.iinc 4 1, 3) := by decide +kernel
theorem dX6_sure_170 : decode cX6_sure 170 = .ok (.goto (-24), 3) := by decide +kernel
theorem dX6_sure_173 : decode cX6_sure 173 = .ok (.iload_n 3, 1) := by decide +kernel
theorem dX6_sure_174 : decode cX6_sure 174 = .ok (.ireturn, 1) := by decide +kernel
theorem dX6_lead_0 : decode cX6_lead 0 = .ok (.aload_n 0, 1) := by decide +kernel
theorem dX6_lead_1 : decode cX6_lead 1 = .ok (.iconst 0, 1) := by decide +kernel
theorem dX6_lead_2 : decode cX6_lead 2 = .ok (.putfield 117, 3) := by decide +kernel
theorem dX6_lead_5 : decode cX6_lead 5 = .ok (.aload_n 0, 1) := by decide +kernel
theorem dX6_lead_6 : decode cX6_lead 6 = .ok (.iconst 0, 1) := by decide +kernel
theorem dX6_lead_7 : decode cX6_lead 7 = .ok (.putfield 120, 3) := by decide +kernel
theorem dX6_lead_10 : decode cX6_lead 10 = .ok (.aload_n 0, 1) := by decide +kernel
theorem dX6_lead_11 : decode cX6_lead 11 = .ok (.getfield 141, 3) := by decide +kernel
theorem dX6_lead_14 : decode cX6_lead 14 = .ok (.ifCond .ne 10, 3) := by decide +kernel
theorem dX6_lead_17 : decode cX6_lead 17 = .ok (.aload_n 0, 1) := by decide +kernel
theorem dX6_lead_18 : decode cX6_lead 18 = .ok (.bipush 8, 2) := by decide +kernel
theorem dX6_lead_20 : decode cX6_lead 20 = .ok (.invokevirtual 151, 3) := by decide +kernel
theorem dX6_lead_23 : decode cX6_lead 23 = .ok (.ireturn, 1) := by decide +kernel
theorem dX6_lead_24 : decode cX6_lead 24 = .ok (.iconst 0, 1) := by decide +kernel
theorem dX6_lead_25 : decode cX6_lead 25 = .ok (.istore_n 1, 1) := by decide +kernel
theorem dX6_lead_26 : decode cX6_lead 26 = .ok (.iload_n 1, 1) := by decide +kernel
theorem dX6_lead_27 : decode cX6_lead 27 = .ok (.aload_n 0, 1) := by decide +kernel
theorem dX6_lead_28 : decode cX6_lead 28 = .ok (.getfield 141, 3) := by decide +kernel
theorem dX6_lead_31 : decode cX6_lead 31 = .ok (.if_icmp .ge 60, 3) := by decide +kernel
theorem dX6_lead_34 : decode cX6_lead 34 = .ok (.aload_n 0, 1) := by decide +kernel
theorem dX6_lead_35 : decode cX6_lead 35 = .ok (.getfield 112, 3) := by decide +kernel
theorem dX6_lead_38 : decode cX6_lead 38 = .ok (.iload_n 1, 1) := by decide +kernel
theorem dX6_lead_39 : decode cX6_lead 39 = .ok (.iconst 1, 1) := by decide +kernel
theorem dX6_lead_40 : decode cX6_lead 40 = .ok (.iload_n 1, 1) := by decide +kernel
theorem dX6_lead_41 : decode cX6_lead 41 = .ok (.ishl, 1) := by decide +kernel
theorem dX6_lead_42 : decode cX6_lead 42 = .ok (.iastore, 1) := by decide +kernel
theorem dX6_lead_43 : decode cX6_lead 43 = .ok (.iconst 0, 1) := by decide +kernel
theorem dX6_lead_44 : decode cX6_lead 44 = .ok (.istore_n 2, 1) := by decide +kernel
theorem dX6_lead_45 : decode cX6_lead 45 = .ok (.iload_n 2, 1) := by decide +kernel
theorem dX6_lead_46 : decode cX6_lead 46 = .ok (.aload_n 0, 1) := by decide +kernel
theorem dX6_lead_47 : decode cX6_lead 47 = .ok (.getfield 141, 3) := by decide +kernel
theorem dX6_lead_50 : decode cX6_lead 50 = .ok (.if_icmp .ge 35, 3) := by decide +kernel
theorem dX6_lead_53 : decode cX6_lead 53 = .ok (.aload_n 0, 1) := by decide +kernel
theorem dX6_lead_54 : decode cX6_lead 54 = .ok (.getfield 41, 3) := by decide +kernel
theorem dX6_lead_57 : decode cX6_lead 57 = .ok (.bipush 24, 2) := by decide +kernel
theorem dX6_lead_59 : decode cX6_lead 59 = .ok (.iload_n 1, 1) := by decide +kernel
theorem dX6_lead_60 : decode cX6_lead 60 = .ok (.imul, 1) := by decide +kernel
theorem dX6_lead_61 : decode cX6_lead 61 = .ok (.iload_n 2, 1) := by decide +kernel
theorem dX6_lead_62 : decode cX6_lead 62 = .ok (.iadd, 1) := by decide +kernel
theorem dX6_lead_63 : decode cX6_lead 63 = .ok (.baload, 1) := by decide +kernel
theorem dX6_lead_64 : decode cX6_lead 64 = .ok (.ifCond .eq 15, 3) := by decide +kernel
theorem dX6_lead_67 : decode cX6_lead 67 = .ok (.aload_n 0, 1) := by decide +kernel
theorem dX6_lead_68 : decode cX6_lead 68 = .ok (.getfield 112, 3) := by decide +kernel
theorem dX6_lead_71 : decode cX6_lead 71 = .ok (.iload_n 1, 1) := by decide +kernel
theorem dX6_lead_72 : decode cX6_lead 72 = .ok (.dup2, 1) := by decide +kernel
theorem dX6_lead_73 : decode cX6_lead 73 = .ok (.iaload, 1) := by decide +kernel
theorem dX6_lead_74 : decode cX6_lead 74 = .ok (.iconst 1, 1) := by decide +kernel
theorem dX6_lead_75 : decode cX6_lead 75 = .ok (.iload_n 2, 1) := by decide +kernel
theorem dX6_lead_76 : decode cX6_lead 76 = .ok (.ishl, 1) := by decide +kernel
theorem dX6_lead_77 : decode cX6_lead 77 = .ok (.ior, 1) := by decide +kernel
theorem dX6_lead_78 : decode cX6_lead 78 = .ok (.iastore, 1) := by decide +kernel
theorem dX6_lead_79 : decode cX6_lead 79 = .ok (.iinc 2 1, 3) := by decide +kernel
theorem dX6_lead_82 : decode cX6_lead 82 = .ok (.goto (-37), 3) := by decide +kernel
theorem dX6_lead_85 : decode cX6_lead 85 = .ok (.iinc 1 1, 3) := by decide +kernel
theorem dX6_lead_88 : decode cX6_lead 88 = .ok (.goto (-62), 3) := by decide +kernel
theorem dX6_lead_91 : decode cX6_lead 91 = .ok (.iconst 0, 1) := by decide +kernel
theorem dX6_lead_92 : decode cX6_lead 92 = .ok (.istore_n 1, 1) := by decide +kernel
theorem dX6_lead_93 : decode cX6_lead 93 = .ok (.iload_n 1, 1) := by decide +kernel
theorem dX6_lead_94 : decode cX6_lead 94 = .ok (.aload_n 0, 1) := by decide +kernel
theorem dX6_lead_95 : decode cX6_lead 95 = .ok (.getfield 141, 3) := by decide +kernel
theorem dX6_lead_98 : decode cX6_lead 98 = .ok (.if_icmp .ge 54, 3) := by decide +kernel
theorem dX6_lead_101 : decode cX6_lead 101 = .ok (.iconst 0, 1) := by decide +kernel
theorem dX6_lead_102 : decode cX6_lead 102 = .ok (.istore_n 2, 1) := by decide +kernel
theorem dX6_lead_103 : decode cX6_lead 103 = .ok (.iload_n 2, 1) := by decide +kernel
theorem dX6_lead_104 : decode cX6_lead 104 = .ok (.aload_n 0, 1) := by decide +kernel
theorem dX6_lead_105 : decode cX6_lead 105 = .ok (.getfield 141, 3) := by decide +kernel
theorem dX6_lead_108 : decode cX6_lead 108 = .ok (.if_icmp .ge 38, 3) := by decide +kernel
theorem dX6_lead_111 : decode cX6_lead 111 = .ok (.aload_n 0, 1) := by decide +kernel
theorem dX6_lead_112 : decode cX6_lead 112 = .ok (.getfield 112, 3) := by decide +kernel
theorem dX6_lead_115 : decode cX6_lead 115 = .ok (.iload_n 2, 1) := by decide +kernel
theorem dX6_lead_116 : decode cX6_lead 116 = .ok (.iaload, 1) := by decide +kernel
theorem dX6_lead_117 : decode cX6_lead 117 = .ok (.iload_n 1, 1) := by decide +kernel
theorem dX6_lead_118 : decode cX6_lead 118 = .ok (.ishr, 1) := by decide +kernel
theorem dX6_lead_119 : decode cX6_lead 119 = .ok (.iconst 1, 1) := by decide +kernel
theorem dX6_lead_120 : decode cX6_lead 120 = .ok (.iand, 1) := by decide +kernel
theorem dX6_lead_121 : decode cX6_lead 121 = .ok (.iconst 1, 1) := by decide +kernel
theorem dX6_lead_122 : decode cX6_lead 122 = .ok (.if_icmp .ne 18, 3) := by decide +kernel
theorem dX6_lead_125 : decode cX6_lead 125 = .ok (.aload_n 0, 1) := by decide +kernel
theorem dX6_lead_126 : decode cX6_lead 126 = .ok (.getfield 112, 3) := by decide +kernel
theorem dX6_lead_129 : decode cX6_lead 129 = .ok (.iload_n 2, 1) := by decide +kernel
theorem dX6_lead_130 : decode cX6_lead 130 = .ok (.dup2, 1) := by decide +kernel
theorem dX6_lead_131 : decode cX6_lead 131 = .ok (.iaload, 1) := by decide +kernel
theorem dX6_lead_132 : decode cX6_lead 132 = .ok (.aload_n 0, 1) := by decide +kernel
theorem dX6_lead_133 : decode cX6_lead 133 = .ok (.getfield 112, 3) := by decide +kernel
theorem dX6_lead_136 : decode cX6_lead 136 = .ok (.iload_n 1, 1) := by decide +kernel
theorem dX6_lead_137 : decode cX6_lead 137 = .ok (.iaload, 1) := by decide +kernel
theorem dX6_lead_138 : decode cX6_lead 138 = .ok (.ior, 1) := by decide +kernel
theorem dX6_lead_139 : decode cX6_lead 139 = .ok (.iastore, 1) := by decide +kernel
theorem dX6_lead_140 : decode cX6_lead 140 = .ok (.iinc 2 1, 3) := by decide +kernel
theorem dX6_lead_143 : decode cX6_lead 143 = .ok (.goto (-40), 3) := by decide +kernel
theorem dX6_lead_146 : decode cX6_lead 146 = .ok (.iinc 1 1, 3) := by decide +kernel
theorem dX6_lead_149 : decode cX6_lead 149 = .ok (.goto (-56), 3) := by decide +kernel
theorem dX6_lead_152 : decode cX6_lead 152 = .ok (.aload_n 0, 1) := by decide +kernel
theorem dX6_lead_153 : decode cX6_lead 153 = .ok (.iconst 0, 1) := by decide +kernel
theorem dX6_lead_154 : decode cX6_lead 154 = .ok (.putfield 227, 3) := by decide +kernel
theorem dX6_lead_157 : decode cX6_lead 157 = .ok (.iconst 0, 1) := by decide +kernel
theorem dX6_lead_158 : decode cX6_lead 158 = .ok (.istore_n 1, 1) := by decide +kernel
theorem dX6_lead_159 : decode cX6_lead 159 = .ok (.iload_n 1, 1) := by decide +kernel
theorem dX6_lead_160 : decode cX6_lead 160 = .ok (.aload_n 0, 1) := by decide +kernel
theorem dX6_lead_161 : decode cX6_lead 161 = .ok (.getfield 141, 3) := by decide +kernel
theorem dX6_lead_164 : decode cX6_lead 164 = .ok (.if_icmp .ge 97, 3) := by decide +kernel
theorem dX6_lead_167 : decode cX6_lead 167 = .ok (.iconst 1, 1) := by decide +kernel
theorem dX6_lead_168 : decode cX6_lead 168 = .ok (.istore_n 2, 1) := by decide +kernel
theorem dX6_lead_169 : decode cX6_lead 169 = .ok (.iconst 0, 1) := by decide +kernel
theorem dX6_lead_170 : decode cX6_lead 170 = .ok (.istore_n 3, 1) := by decide +kernel
theorem dX6_lead_171 : decode cX6_lead 171 = .ok (.iload_n 3, 1) := by decide +kernel
theorem dX6_lead_172 : decode cX6_lead 172 = .ok (.aload_n 0, 1) := by decide +kernel
theorem dX6_lead_173 : decode cX6_lead 173 = .ok (.getfield 141, 3) := by decide +kernel
theorem dX6_lead_176 : decode cX6_lead 176 = .ok (.if_icmp .ge 52, 3) := by decide +kernel
theorem dX6_lead_179 : decode cX6_lead 179 = .ok (.iload_n 2, 1) := by decide +kernel
theorem dX6_lead_180 : decode cX6_lead 180 = .ok (.ifCond .eq 48, 3) := by decide +kernel
theorem dX6_lead_183 : decode cX6_lead 183 = .ok (.aload_n 0, 1) := by decide +kernel
theorem dX6_lead_184 : decode cX6_lead 184 = .ok (.getfield 112, 3) := by decide +kernel
theorem dX6_lead_187 : decode cX6_lead 187 = .ok (.iload_n 1, 1) := by decide +kernel
theorem dX6_lead_188 : decode cX6_lead 188 = .ok (.iaload, 1) := by decide +kernel
theorem dX6_lead_189 : decode cX6_lead 189 = .ok (.iload_n 3, 1) := by decide +kernel
theorem dX6_lead_190 : decode cX6_lead 190 = .ok (.ishr, 1) := by decide +kernel
theorem dX6_lead_191 : decode cX6_lead 191 = .ok (.iconst 1, 1) := by decide +kernel
theorem dX6_lead_192 : decode cX6_lead 192 = .ok (.iand, 1) := by decide +kernel
theorem dX6_lead_193 : decode cX6_lead 193 = .ok (.iconst 1, 1) := by decide +kernel
theorem dX6_lead_194 : decode cX6_lead 194 = .ok (.if_icmp .ne 28, 3) := by decide +kernel
theorem dX6_lead_197 : decode cX6_lead 197 = .ok (.aload_n 0, 1) := by decide +kernel
theorem dX6_lead_198 : decode cX6_lead 198 = .ok (.getfield 112, 3) := by decide +kernel
theorem dX6_lead_201 : decode cX6_lead 201 = .ok (.iload_n 3, 1) := by decide +kernel
theorem dX6_lead_202 : decode cX6_lead 202 = .ok (.iaload, 1) := by decide +kernel
theorem dX6_lead_203 : decode cX6_lead 203 = .ok (.iload_n 1, 1) := by decide +kernel
theorem dX6_lead_204 : decode cX6_lead 204 = .ok (.ishr, 1) := by decide +kernel
theorem dX6_lead_205 : decode cX6_lead 205 = .ok (.iconst 1, 1) := by decide +kernel
theorem dX6_lead_206 : decode cX6_lead 206 = .ok (.iand, 1) := by decide +kernel
theorem dX6_lead_207 : decode cX6_lead 207 = .ok (.iconst 1, 1) := by decide +kernel
theorem dX6_lead_208 : decode cX6_lead 208 = .ok (.if_icmp .ne 12, 3) := by decide +kernel
theorem dX6_lead_211 : decode cX6_lead 211 = .ok (.iload_n 3, 1) := by decide +kernel
theorem dX6_lead_212 : decode cX6_lead 212 = .ok (.iload_n 1, 1) := by decide +kernel
theorem dX6_lead_213 : decode cX6_lead 213 = .ok (.if_icmp .lt 7, 3) := by decide +kernel
theorem dX6_lead_216 : decode cX6_lead 216 = .ok (.iconst 1, 1) := by decide +kernel
theorem dX6_lead_217 : decode cX6_lead 217 = .ok (.goto 4, 3) := by decide +kernel
theorem dX6_lead_220 : decode cX6_lead 220 = .ok (.iconst 0, 1) := by decide +kernel
theorem dX6_lead_221 : decode cX6_lead 221 = .ok (.istore_n 2, 1) := by decide +kernel
theorem dX6_lead_222 : decode cX6_lead 222 = .ok (.iinc 3 1, 3) := by decide +kernel
theorem dX6_lead_225 : decode cX6_lead 225 = .ok (.goto (-54), 3) := by decide +kernel
theorem dX6_lead_228 : decode cX6_lead 228 = .ok (.iload_n 2, 1) := by decide +kernel
theorem dX6_lead_229 : decode cX6_lead 229 = .ok (.ifCond .ne 6, 3) := by decide +kernel
theorem dX6_lead_232 : decode cX6_lead 232 = .ok (.goto 23, 3) := by decide +kernel
theorem dX6_lead_235 : decode cX6_lead 235 = .ok (.aload_n 0, 1) := by decide +kernel
theorem dX6_lead_236 : decode cX6_lead 236 = .ok (.getfield 84, 3) := by decide +kernel
theorem dX6_lead_239 : decode cX6_lead 239 = .ok (.aload_n 0, 1) := by decide +kernel
theorem dX6_lead_240 : decode cX6_lead 240 = .ok (.getfield 227, 3) := by decide +kernel
theorem dX6_lead_243 : decode cX6_lead 243 = .ok (.iload_n 1, 1) := by decide +kernel
theorem dX6_lead_244 : decode cX6_lead 244 = .ok (.iastore, 1) := by decide +kernel
theorem dX6_lead_245 : decode cX6_lead 245 = .ok (.aload_n 0, 1) := by decide +kernel
theorem dX6_lead_246 : decode cX6_lead 246 = .ok (.dup, 1) := by decide +kernel
theorem dX6_lead_247 : decode cX6_lead 247 = .ok (.getfield 227, 3) := by decide +kernel
theorem dX6_lead_250 : decode cX6_lead 250 = .ok (.iconst 1, 1) := by decide +kernel
theorem dX6_lead_251 : decode cX6_lead 251 = .ok (.iadd, 1) := by decide +kernel
theorem dX6_lead_252 : decode cX6_lead 252 = .ok (.putfield 227, 3) := by decide +kernel
theorem dX6_lead_255 : decode cX6_lead 255 = .ok (.iinc 1 1, 3) := by decide +kernel
theorem dX6_lead_258 : decode cX6_lead 258 = .ok (.goto (-99), 3) := by decide +kernel
theorem dX6_lead_261 : decode cX6_lead 261 = .ok (.aload_n 0, 1) := by decide +kernel
theorem dX6_lead_262 : decode cX6_lead 262 = .ok (.getfield 227, 3) := by decide +kernel
theorem dX6_lead_265 : decode cX6_lead 265 = .ok (.ireturn, 1) := by decide +kernel
theorem dX6_leader_0 : decode cX6_leader 0 = .ok (.aload_n 0, 1) := by decide +kernel
theorem dX6_leader_1 : decode cX6_leader 1 = .ok (.iconst 0, 1) := by decide +kernel
theorem dX6_leader_2 : decode cX6_leader 2 = .ok (.putfield 117, 3) := by decide +kernel
theorem dX6_leader_5 : decode cX6_leader 5 = .ok (.aload_n 0, 1) := by decide +kernel
theorem dX6_leader_6 : decode cX6_leader 6 = .ok (.iconst 0, 1) := by decide +kernel
theorem dX6_leader_7 : decode cX6_leader 7 = .ok (.putfield 120, 3) := by decide +kernel
theorem dX6_leader_10 : decode cX6_leader 10 = .ok (.iload_n 1, 1) := by decide +kernel
theorem dX6_leader_11 : decode cX6_leader 11 = .ok (.ifCond .lt 11, 3) := by decide +kernel
theorem dX6_leader_14 : decode cX6_leader 14 = .ok (.iload_n 1, 1) := by decide +kernel
theorem dX6_leader_15 : decode cX6_leader 15 = .ok (.aload_n 0, 1) := by decide +kernel
theorem dX6_leader_16 : decode cX6_leader 16 = .ok (.getfield 227, 3) := by decide +kernel
theorem dX6_leader_19 : decode cX6_leader 19 = .ok (.if_icmp .lt 12, 3) := by decide +kernel
theorem dX6_leader_22 : decode cX6_leader 22 = .ok (.aload_n 0, 1) := by decide +kernel
theorem dX6_leader_23 : decode cX6_leader 23 = .ok (.bipush 8, 2) := by decide +kernel
theorem dX6_leader_25 : decode cX6_leader 25 = .ok (.invokevirtual 151, 3) := by decide +kernel
theorem dX6_leader_28 : decode cX6_leader 28 = .ok (.goto 9, 3) := by decide +kernel
theorem dX6_leader_31 : decode cX6_leader 31 = .ok (.aload_n 0, 1) := by decide +kernel
theorem dX6_leader_32 : decode cX6_leader 32 = .ok (.getfield 84, 3) := by decide +kernel
theorem dX6_leader_35 : decode cX6_leader 35 = .ok (.iload_n 1, 1) := by decide +kernel
theorem dX6_leader_36 : decode cX6_leader 36 = .ok (.iaload, 1) := by decide +kernel
theorem dX6_leader_37 : decode cX6_leader 37 = .ok (.ireturn, 1) := by decide +kernel
theorem dX6_table_0 : decode cX6_table 0 = .ok (.aload_n 0, 1) := by decide +kernel
theorem dX6_table_1 : decode cX6_table 1 = .ok (.iconst 0, 1) := by decide +kernel
theorem dX6_table_2 : decode cX6_table 2 = .ok (.putfield 117, 3) := by decide +kernel
theorem dX6_table_5 : decode cX6_table 5 = .ok (.aload_n 0, 1) := by decide +kernel
theorem dX6_table_6 : decode cX6_table 6 = .ok (.iconst 0, 1) := by decide +kernel
theorem dX6_table_7 : decode cX6_table 7 = .ok (.putfield 120, 3) := by decide +kernel
theorem dX6_table_10 : decode cX6_table 10 = .ok (.iload_n 1, 1) := by decide +kernel
theorem dX6_table_11 : decode cX6_table 11 = .ok (.ifCond .lt 9, 3) := by decide +kernel
theorem dX6_table_14 : decode cX6_table 14 = .ok (.iload_n 1, 1) := by decide +kernel
theorem dX6_table_15 : decode cX6_table 15 = .ok (.bipush 10, 2) := by decide +kernel
theorem dX6_table_17 : decode cX6_table 17 = .ok (.if_icmp .le 9, 3) := by decide +kernel
theorem dX6_table_20 : decode cX6_table 20 = .ok (.aload_n 0, 1) := by decide +kernel
theorem dX6_table_21 : decode cX6_table 21 = .ok (.iconst 2, 1) := by decide +kernel
theorem dX6_table_22 : decode cX6_table 22 = .ok (.invokevirtual 123, 3) := by decide +kernel
theorem dX6_table_25 : decode cX6_table 25 = .ok (.ireturn, 1) := by decide +kernel
theorem dX6_table_26 : decode cX6_table 26 = .ok (.aload_n 0, 1) := by decide +kernel
theorem dX6_table_27 : decode cX6_table 27 = .ok (.iload_n 1, 1) := by decide +kernel
theorem dX6_table_28 : decode cX6_table 28 = .ok (.putfield 230, 3) := by decide +kernel
theorem dX6_table_31 : decode cX6_table 31 = .ok (.iconst 0, 1) := by decide +kernel
theorem dX6_table_32 : decode cX6_table 32 = .ok (.istore_n 2, 1) := by decide +kernel
theorem dX6_table_33 : decode cX6_table 33 = .ok (.iload_n 2, 1) := by decide +kernel
theorem dX6_table_34 : decode cX6_table 34 = .ok (.bipush 100, 2) := by decide +kernel
theorem dX6_table_36 : decode cX6_table 36 = .ok (.if_icmp .ge 18, 3) := by decide +kernel
theorem dX6_table_39 : decode cX6_table 39 = .ok (.aload_n 0, 1) := by decide +kernel
theorem dX6_table_40 : decode cX6_table 40 = .ok (.getfield 87, 3) := by decide +kernel
theorem dX6_table_43 : decode cX6_table 43 = .ok (.iload_n 2, 1) := by decide +kernel
theorem dX6_table_44 : decode cX6_table 44 = .ok (.ldc2_w 115, 3) := by decide +kernel
theorem dX6_table_47 : decode cX6_table 47 = .ok (.lastore, 1) := by decide +kernel
theorem dX6_table_48 : decode cX6_table 48 = .ok (.iinc 2 1, 3) := by decide +kernel
theorem dX6_table_51 : decode cX6_table 51 = .ok (.goto (-18), 3) := by decide +kernel
theorem dX6_table_54 : decode cX6_table 54 = .ok (.iconst 1, 1) := by decide +kernel
theorem dX6_table_55 : decode cX6_table 55 = .ok (.ireturn, 1) := by decide +kernel
theorem dX6_isIn_0 : decode cX6_isIn 0 = .ok (.iload_n 1, 1) := by decide +kernel
theorem dX6_isIn_1 : decode cX6_isIn 1 = .ok (.ifCond .lt 27, 3) := by decide +kernel
theorem dX6_isIn_4 : decode cX6_isIn 4 = .ok (.iload_n 1, 1) := by decide +kernel
theorem dX6_isIn_5 : decode cX6_isIn 5 = .ok (.aload_n 0, 1) := by decide +kernel
theorem dX6_isIn_6 : decode cX6_isIn 6 = .ok (.getfield 230, 3) := by decide +kernel
theorem dX6_isIn_9 : decode cX6_isIn 9 = .ok (.if_icmp .ge 19, 3) := by decide +kernel
theorem dX6_isIn_12 : decode cX6_isIn 12 = .ok (.iload_n 2, 1) := by decide +kernel
theorem dX6_isIn_13 : decode cX6_isIn 13 = .ok (.ifCond .lt 15, 3) := by decide +kernel
theorem dX6_isIn_16 : decode cX6_isIn 16 = .ok (.iload_n 2, 1) := by decide +kernel
theorem dX6_isIn_17 : decode cX6_isIn 17 = .ok (.aload_n 0, 1) := by decide +kernel
theorem dX6_isIn_18 : decode cX6_isIn 18 = .ok (.getfield 230, 3) := by decide +kernel
theorem dX6_isIn_21 : decode cX6_isIn 21 = .ok (.if_icmp .ge 7, 3) := by decide +kernel
theorem dX6_isIn_24 : decode cX6_isIn 24 = .ok (.iconst 1, 1) := by decide +kernel
theorem dX6_isIn_25 : decode cX6_isIn 25 = .ok (.goto 4, 3) := by decide +kernel
theorem dX6_isIn_28 : decode cX6_isIn 28 = .ok (.iconst 0, 1) := by decide +kernel
theorem dX6_isIn_29 : decode cX6_isIn 29 = .ok (.ireturn, 1) := by decide +kernel
theorem dX6_span_0 : decode cX6_span 0 = .ok (.aload_n 0, 1) := by decide +kernel
theorem dX6_span_1 : decode cX6_span 1 = .ok (.iconst 0, 1) := by decide +kernel
theorem dX6_span_2 : decode cX6_span 2 = .ok (.putfield 117, 3) := by decide +kernel
theorem dX6_span_5 : decode cX6_span 5 = .ok (.aload_n 0, 1) := by decide +kernel
theorem dX6_span_6 : decode cX6_span 6 = .ok (.iconst 0, 1) := by decide +kernel
theorem dX6_span_7 : decode cX6_span 7 = .ok (.putfield 120, 3) := by decide +kernel
theorem dX6_span_10 : decode cX6_span 10 = .ok (.aload_n 0, 1) := by decide +kernel
theorem dX6_span_11 : decode cX6_span 11 = .ok (.iload_n 1, 1) := by decide +kernel
theorem dX6_span_12 : decode cX6_span 12 = .ok (.iload_n 2, 1) := by decide +kernel
theorem dX6_span_13 : decode cX6_span 13 = .ok (.invokevirtual 233, 3) := by decide +kernel
theorem dX6_span_16 : decode cX6_span 16 = .ok (.ifCond .eq 15, 3) := by decide +kernel
theorem dX6_span_19 : decode cX6_span 19 = .ok (.iload_n 3, 1) := by decide +kernel
theorem dX6_span_20 : decode cX6_span 20 = .ok (.ldc 237, 2) := by decide +kernel
theorem dX6_span_22 : decode cX6_span 22 = .ok (.if_icmp .lt 9, 3) := by decide +kernel
theorem dX6_span_25 : decode cX6_span 25 = .ok (.iload_n 3, 1) := by decide +kernel
theorem dX6_span_26 : decode cX6_span 26 = .ok (.ldc 238, 2) := by decide +kernel
theorem dX6_span_28 : decode cX6_span 28 = .ok (.if_icmp .le 9, 3) := by decide +kernel
theorem dX6_span_31 : decode cX6_span 31 = .ok (.aload_n 0, 1) := by decide +kernel
theorem dX6_span_32 : decode cX6_span 32 = .ok (.iconst 2, 1) := by decide +kernel
theorem dX6_span_33 : decode cX6_span 33 = .ok (.invokevirtual 123, 3) := by decide +kernel
theorem dX6_span_36 : decode cX6_span 36 = .ok (.ireturn, 1) := by decide +kernel
theorem dX6_span_37 : decode cX6_span 37 = .ok (.aload_n 0, 1) := by decide +kernel
theorem dX6_span_38 : decode cX6_span 38 = .ok (.getfield 87, 3) := by decide +kernel
theorem dX6_span_41 : decode cX6_span 41 = .ok (.bipush 10, 2) := by decide +kernel
theorem dX6_span_43 : decode cX6_span 43 = .ok (.iload_n 1, 1) := by decide +kernel
theorem dX6_span_44 : decode cX6_span 44 = .ok (.imul, 1) := by decide +kernel
theorem dX6_span_45 : decode cX6_span 45 = .ok (.iload_n 2, 1) := by decide +kernel
theorem dX6_span_46 : decode cX6_span 46 = .ok (.iadd, 1) := by decide +kernel
theorem dX6_span_47 : decode cX6_span 47 = .ok (.iload_n 3, 1) := by decide +kernel
theorem dX6_span_48 : decode cX6_span 48 = .ok (.i2l, 1) := by decide +kernel
theorem dX6_span_49 : decode cX6_span 49 = .ok (.lastore, 1) := by decide +kernel
theorem dX6_span_50 : decode cX6_span 50 = .ok (.iconst 1, 1) := by decide +kernel
theorem dX6_span_51 : decode cX6_span 51 = .ok (.ireturn, 1) := by decide +kernel
theorem dX6_cut__0 : decode cX6_cut_ 0 = .ok (.aload_n 0, 1) := by decide +kernel
theorem dX6_cut__1 : decode cX6_cut_ 1 = .ok (.iconst 0, 1) := by decide +kernel
theorem dX6_cut__2 : decode cX6_cut_ 2 = .ok (.putfield 117, 3) := by decide +kernel
theorem dX6_cut__5 : decode cX6_cut_ 5 = .ok (.aload_n 0, 1) := by decide +kernel
theorem dX6_cut__6 : decode cX6_cut_ 6 = .ok (.iconst 0, 1) := by decide +kernel
theorem dX6_cut__7 : decode cX6_cut_ 7 = .ok (.putfield 120, 3) := by decide +kernel
theorem dX6_cut__10 : decode cX6_cut_ 10 = .ok (.aload_n 0, 1) := by decide +kernel
theorem dX6_cut__11 : decode cX6_cut_ 11 = .ok (.iload_n 1, 1) := by decide +kernel
theorem dX6_cut__12 : decode cX6_cut_ 12 = .ok (.iload_n 2, 1) := by decide +kernel
theorem dX6_cut__13 : decode cX6_cut_ 13 = .ok (.invokevirtual 233, 3) := by decide +kernel
theorem dX6_cut__16 : decode cX6_cut_ 16 = .ok (.ifCond .ne 9, 3) := by decide +kernel
theorem dX6_cut__19 : decode cX6_cut_ 19 = .ok (.aload_n 0, 1) := by decide +kernel
theorem dX6_cut__20 : decode cX6_cut_ 20 = .ok (.iconst 2, 1) := by decide +kernel
theorem dX6_cut__21 : decode cX6_cut_ 21 = .ok (.invokevirtual 123, 3) := by decide +kernel
theorem dX6_cut__24 : decode cX6_cut_ 24 = .ok (.ireturn, 1) := by decide +kernel
theorem dX6_cut__25 : decode cX6_cut_ 25 = .ok (.aload_n 0, 1) := by decide +kernel
theorem dX6_cut__26 : decode cX6_cut_ 26 = .ok (.getfield 87, 3) := by decide +kernel
theorem dX6_cut__29 : decode cX6_cut_ 29 = .ok (.bipush 10, 2) := by decide +kernel
theorem dX6_cut__31 : decode cX6_cut_ 31 = .ok (.iload_n 1, 1) := by decide +kernel
theorem dX6_cut__32 : decode cX6_cut_ 32 = .ok (.imul, 1) := by decide +kernel
theorem dX6_cut__33 : decode cX6_cut_ 33 = .ok (.iload_n 2, 1) := by decide +kernel
theorem dX6_cut__34 : decode cX6_cut_ 34 = .ok (.iadd, 1) := by decide +kernel
theorem dX6_cut__35 : decode cX6_cut_ 35 = .ok (.laload, 1) := by decide +kernel
theorem dX6_cut__36 : decode cX6_cut_ 36 = .ok (.ldc2_w 115, 3) := by decide +kernel
theorem dX6_cut__39 : decode cX6_cut_ 39 = .ok (.lcmp, 1) := by decide +kernel
theorem dX6_cut__40 : decode cX6_cut_ 40 = .ok (.ifCond .ne 10, 3) := by decide +kernel
theorem dX6_cut__43 : decode cX6_cut_ 43 = .ok (.aload_n 0, 1) := by decide +kernel
theorem dX6_cut__44 : decode cX6_cut_ 44 = .ok (.bipush 8, 2) := by decide +kernel
theorem dX6_cut__46 : decode cX6_cut_ 46 = .ok (.invokevirtual 123, 3) := by decide +kernel
theorem dX6_cut__49 : decode cX6_cut_ 49 = .ok (.ireturn, 1) := by decide +kernel
theorem dX6_cut__50 : decode cX6_cut_ 50 = .ok (.aload_n 0, 1) := by decide +kernel
theorem dX6_cut__51 : decode cX6_cut_ 51 = .ok (.getfield 87, 3) := by decide +kernel
theorem dX6_cut__54 : decode cX6_cut_ 54 = .ok (.bipush 10, 2) := by decide +kernel
theorem dX6_cut__56 : decode cX6_cut_ 56 = .ok (.iload_n 1, 1) := by decide +kernel
theorem dX6_cut__57 : decode cX6_cut_ 57 = .ok (.imul, 1) := by decide +kernel
theorem dX6_cut__58 : decode cX6_cut_ 58 = .ok (.iload_n 2, 1) := by decide +kernel
theorem dX6_cut__59 : decode cX6_cut_ 59 = .ok (.iadd, 1) := by decide +kernel
theorem dX6_cut__60 : decode cX6_cut_ 60 = .ok (.ldc2_w 115, 3) := by decide +kernel
theorem dX6_cut__63 : decode cX6_cut_ 63 = .ok (.lastore, 1) := by decide +kernel
theorem dX6_cut__64 : decode cX6_cut_ 64 = .ok (.iconst 1, 1) := by decide +kernel
theorem dX6_cut__65 : decode cX6_cut_ 65 = .ok (.ireturn, 1) := by decide +kernel
theorem dX6_multiply_0 : decode cX6_multiply 0 = .ok (.iload 7, 2) := by decide +kernel
theorem dX6_multiply_2 : decode cX6_multiply 2 = .ok (.istore 8, 2) := by decide +kernel
theorem dX6_multiply_4 : decode cX6_multiply 4 = .ok (.iload 8, 2) := by decide +kernel
theorem dX6_multiply_6 : decode cX6_multiply 6 = .ok (.aload_n 0, 1) := by decide +kernel
theorem dX6_multiply_7 : decode cX6_multiply 7 = .ok (.getfield 230, 3) := by decide +kernel
theorem dX6_multiply_10 : decode cX6_multiply 10 = .ok (.if_icmp .ge 139, 3) := by decide +kernel
theorem dX6_multiply_13 : decode cX6_multiply 13 = .ok (.iload 7, 2) := by decide +kernel
theorem dX6_multiply_15 : decode cX6_multiply 15 = .ok (.istore 9, 2) := by decide +kernel
theorem dX6_multiply_17 : decode cX6_multiply 17 = .ok (.iload 9, 2) := by decide +kernel
theorem dX6_multiply_19 : decode cX6_multiply 19 = .ok (.aload_n 0, 1) := by decide +kernel
theorem dX6_multiply_20 : decode cX6_multiply 20 = .ok (.getfield 230, 3) := by decide +kernel
theorem dX6_multiply_23 : decode cX6_multiply 23 = .ok (.if_icmp .ge 120, 3) := by decide +kernel
theorem dX6_multiply_26 : decode cX6_multiply 26 = .ok (.ldc2_w 115, 3) := by decide +kernel
theorem dX6_multiply_29 : decode cX6_multiply 29 = .ok (.lstore 10, 2) := by decide +kernel
theorem dX6_multiply_31 : decode cX6_multiply 31 = .ok (.iload 7, 2) := by decide +kernel
theorem dX6_multiply_33 : decode cX6_multiply 33 = .ok (.istore 12, 2) := by decide +kernel
theorem dX6_multiply_35 : decode cX6_multiply 35 = .ok (.iload 12, 2) := by decide +kernel
theorem dX6_multiply_37 : decode cX6_multiply 37 = .ok (.aload_n 0, 1) := by decide +kernel
theorem dX6_multiply_38 : decode cX6_multiply 38 = .ok (.getfield 230, 3) := by decide +kernel
theorem dX6_multiply_41 : decode cX6_multiply 41 = .ok (.if_icmp .ge 81, 3) := by decide +kernel
theorem dX6_multiply_44 : decode cX6_multiply 44 = .ok (.aload_n 1, 1) := by decide +kernel
theorem dX6_multiply_45 : decode cX6_multiply 45 = .ok (.iload_n 2, 1) := by decide +kernel
theorem dX6_multiply_46 : decode cX6_multiply 46 = .ok (.bipush 10, 2) := by decide +kernel
theorem dX6_multiply_48 : decode cX6_multiply 48 = .ok (.iload 8, 2) := by decide +kernel
theorem dX6_multiply_50 : decode cX6_multiply 50 = .ok (.imul, 1) := by decide +kernel
theorem dX6_multiply_51 : decode cX6_multiply 51 = .ok (.iadd, 1) := by decide +kernel
theorem dX6_multiply_52 : decode cX6_multiply 52 = .ok (.iload 12, 2) := by decide +kernel
theorem dX6_multiply_54 : decode cX6_multiply 54 = .ok (.iadd, 1) := by decide +kernel
theorem dX6_multiply_55 : decode cX6_multiply 55 = .ok (.laload, 1) := by decide +kernel
theorem dX6_multiply_56 : decode cX6_multiply 56 = .ok (.ldc2_w 115, 3) := by decide +kernel
theorem dX6_multiply_59 : decode cX6_multiply 59 = .ok (.lcmp, 1) := by decide +kernel
theorem dX6_multiply_60 : decode cX6_multiply 60 = .ok (.ifCond .eq 56, 3) := by decide +kernel
theorem dX6_multiply_63 : decode cX6_multiply 63 = .ok (.aload_n 3, 1) := by decide +kernel
theorem dX6_multiply_64 : decode cX6_multiply 64 = .ok (.iload 4, 2) := by decide +kernel
theorem dX6_multiply_66 : decode cX6_multiply 66 = .ok (.bipush 10, 2) := by decide +kernel
theorem dX6_multiply_68 : decode cX6_multiply 68 = .ok (.iload 12, 2) := by decide +kernel
theorem dX6_multiply_70 : decode cX6_multiply 70 = .ok (.imul, 1) := by decide +kernel
theorem dX6_multiply_71 : decode cX6_multiply 71 = .ok (.iadd, 1) := by decide +kernel
theorem dX6_multiply_72 : decode cX6_multiply 72 = .ok (.iload 9, 2) := by decide +kernel
theorem dX6_multiply_74 : decode cX6_multiply 74 = .ok (.iadd, 1) := by decide +kernel
theorem dX6_multiply_75 : decode cX6_multiply 75 = .ok (.laload, 1) := by decide +kernel
theorem dX6_multiply_76 : decode cX6_multiply 76 = .ok (.ldc2_w 115, 3) := by decide +kernel
theorem dX6_multiply_79 : decode cX6_multiply 79 = .ok (.lcmp, 1) := by decide +kernel
theorem dX6_multiply_80 : decode cX6_multiply 80 = .ok (.ifCond .eq 36, 3) := by decide +kernel
theorem dX6_multiply_83 : decode cX6_multiply 83 = .ok (.lload 10, 2) := by decide +kernel
theorem dX6_multiply_85 : decode cX6_multiply 85 = .ok (.aload_n 1, 1) := by decide +kernel
theorem dX6_multiply_86 : decode cX6_multiply 86 = .ok (.iload_n 2, 1) := by decide +kernel
theorem dX6_multiply_87 : decode cX6_multiply 87 = .ok (.bipush 10, 2) := by decide +kernel
theorem dX6_multiply_89 : decode cX6_multiply 89 = .ok (.iload 8, 2) := by decide +kernel
theorem dX6_multiply_91 : decode cX6_multiply 91 = .ok (.imul, 1) := by decide +kernel
theorem dX6_multiply_92 : decode cX6_multiply 92 = .ok (.iadd, 1) := by decide +kernel
theorem dX6_multiply_93 : decode cX6_multiply 93 = .ok (.iload 12, 2) := by decide +kernel
theorem dX6_multiply_95 : decode cX6_multiply 95 = .ok (.iadd, 1) := by decide +kernel
theorem dX6_multiply_96 : decode cX6_multiply 96 = .ok (.laload, 1) := by decide +kernel
theorem dX6_multiply_97 : decode cX6_multiply 97 = .ok (.aload_n 3, 1) := by decide +kernel
theorem dX6_multiply_98 : decode cX6_multiply 98 = .ok (.iload 4, 2) := by decide +kernel
theorem dX6_multiply_100 : decode cX6_multiply 100 = .ok (.bipush 10, 2) := by decide +kernel
theorem dX6_multiply_102 : decode cX6_multiply 102 = .ok (.iload 12, 2) := by decide +kernel
theorem dX6_multiply_104 : decode cX6_multiply 104 = .ok (.imul, 1) := by decide +kernel
theorem dX6_multiply_105 : decode cX6_multiply 105 = .ok (.iadd, 1) := by decide +kernel
theorem dX6_multiply_106 : decode cX6_multiply 106 = .ok (.iload 9, 2) := by decide +kernel
theorem dX6_multiply_108 : decode cX6_multiply 108 = .ok (.iadd, 1) := by decide +kernel
theorem dX6_multiply_109 : decode cX6_multiply 109 = .ok (.laload, 1) := by decide +kernel
theorem dX6_multiply_110 : decode cX6_multiply 110 = .ok (.ladd, 1) := by decide +kernel
theorem dX6_multiply_111 : decode cX6_multiply 111 = .ok (.invokestatic 239, 3) := by decide +kernel
theorem dX6_multiply_114 : decode cX6_multiply 114 = .ok (.lstore 10, 2) := by decide +kernel
theorem dX6_multiply_116 : decode cX6_multiply 116 = .ok (.iinc 12 1, 3) := by decide +kernel
theorem dX6_multiply_119 : decode cX6_multiply 119 = .ok (.goto (-84), 3) := by decide +kernel
theorem dX6_multiply_122 : decode cX6_multiply 122 = .ok (.aload_n 0, 1) := by decide +kernel
theorem dX6_multiply_123 : decode cX6_multiply 123 = .ok (.getfield 96, 3) := by decide +kernel
theorem dX6_multiply_126 : decode cX6_multiply 126 = .ok (.bipush 10, 2) := by decide +kernel
theorem dX6_multiply_128 : decode cX6_multiply 128 = .ok (.iload 8, 2) := by decide +kernel
theorem dX6_multiply_130 : decode cX6_multiply 130 = .ok (.imul, 1) := by decide +kernel
theorem dX6_multiply_131 : decode cX6_multiply 131 = .ok (.iload 9, 2) := by decide +kernel
theorem dX6_multiply_133 : decode cX6_multiply 133 = .ok (.iadd, 1) := by decide +kernel
theorem dX6_multiply_134 : decode cX6_multiply 134 = .ok (.lload 10, 2) := by decide +kernel
theorem dX6_multiply_136 : decode cX6_multiply 136 = .ok (.lastore, 1) := by decide +kernel
theorem dX6_multiply_137 : decode cX6_multiply 137 = .ok (.iinc 9 1, 3) := by decide +kernel
theorem dX6_multiply_140 : decode cX6_multiply 140 = .ok (.goto (-123), 3) := by decide +kernel
theorem dX6_multiply_143 : decode cX6_multiply 143 = .ok (.iinc 8 1, 3) := by decide +kernel
theorem dX6_multiply_146 : decode cX6_multiply 146 = .ok (.goto (-142), 3) := by decide +kernel
theorem dX6_multiply_149 : decode cX6_multiply 149 = .ok (.iload 7, 2) := by decide +kernel
theorem dX6_multiply_151 : decode cX6_multiply 151 = .ok (.istore 8, 2) := by decide +kernel
theorem dX6_multiply_153 : decode cX6_multiply 153 = .ok (.iload 8, 2) := by decide +kernel
theorem dX6_multiply_155 : decode cX6_multiply 155 = .ok (.aload_n 0, 1) := by decide +kernel
theorem dX6_multiply_156 : decode cX6_multiply 156 = .ok (.getfield 230, 3) := by decide +kernel
theorem dX6_multiply_159 : decode cX6_multiply 159 = .ok (.if_icmp .ge 55, 3) := by decide +kernel
theorem dX6_multiply_162 : decode cX6_multiply 162 = .ok (.iload 7, 2) := by decide +kernel
theorem dX6_multiply_164 : decode cX6_multiply 164 = .ok (.istore 9, 2) := by decide +kernel
theorem dX6_multiply_166 : decode cX6_multiply 166 = .ok (.iload 9, 2) := by decide +kernel
theorem dX6_multiply_168 : decode cX6_multiply 168 = .ok (.aload_n 0, 1) := by decide +kernel
theorem dX6_multiply_169 : decode cX6_multiply 169 = .ok (.getfield 230, 3) := by decide +kernel
theorem dX6_multiply_172 : decode cX6_multiply 172 = .ok (.if_icmp .ge 36, 3) := by decide +kernel
theorem dX6_multiply_175 : decode cX6_multiply 175 = .ok (.aload 5, 2) := by decide +kernel
theorem dX6_multiply_177 : decode cX6_multiply 177 = .ok (.iload 6, 2) := by decide +kernel
theorem dX6_multiply_179 : decode cX6_multiply 179 = .ok (.bipush 10, 2) := by decide +kernel
theorem dX6_multiply_181 : decode cX6_multiply 181 = .ok (.iload 8, 2) := by decide +kernel
theorem dX6_multiply_183 : decode cX6_multiply 183 = .ok (.imul, 1) := by decide +kernel
theorem dX6_multiply_184 : decode cX6_multiply 184 = .ok (.iadd, 1) := by decide +kernel
theorem dX6_multiply_185 : decode cX6_multiply 185 = .ok (.iload 9, 2) := by decide +kernel
theorem dX6_multiply_187 : decode cX6_multiply 187 = .ok (.iadd, 1) := by decide +kernel
theorem dX6_multiply_188 : decode cX6_multiply 188 = .ok (.aload_n 0, 1) := by decide +kernel
theorem dX6_multiply_189 : decode cX6_multiply 189 = .ok (.getfield 96, 3) := by decide +kernel
theorem dX6_multiply_192 : decode cX6_multiply 192 = .ok (.bipush 10, 2) := by decide +kernel
theorem dX6_multiply_194 : decode cX6_multiply 194 = .ok (.iload 8, 2) := by decide +kernel
theorem dX6_multiply_196 : decode cX6_multiply 196 = .ok (.imul, 1) := by decide +kernel
theorem dX6_multiply_197 : decode cX6_multiply 197 = .ok (.iload 9, 2) := by decide +kernel
theorem dX6_multiply_199 : decode cX6_multiply 199 = .ok (.iadd, 1) := by decide +kernel
theorem dX6_multiply_200 : decode cX6_multiply 200 = .ok (.laload, 1) := by decide +kernel
theorem dX6_multiply_201 : decode cX6_multiply 201 = .ok (.lastore, 1) := by decide +kernel
theorem dX6_multiply_202 : decode cX6_multiply 202 = .ok (.iinc 9 1, 3) := by decide +kernel
theorem dX6_multiply_205 : decode cX6_multiply 205 = .ok (.goto (-39), 3) := by decide +kernel
theorem dX6_multiply_208 : decode cX6_multiply 208 = .ok (.iinc 8 1, 3) := by decide +kernel
theorem dX6_multiply_211 : decode cX6_multiply 211 = .ok (.goto (-58), 3) := by decide +kernel
theorem dX6_multiply_214 : decode cX6_multiply 214 = .ok (.return_, 1) := by decide +kernel
theorem dX6_unit_0 : decode cX6_unit 0 = .ok (.iconst 0, 1) := by decide +kernel
theorem dX6_unit_1 : decode cX6_unit 1 = .ok (.istore_n 3, 1) := by decide +kernel
theorem dX6_unit_2 : decode cX6_unit 2 = .ok (.iload_n 3, 1) := by decide +kernel
theorem dX6_unit_3 : decode cX6_unit 3 = .ok (.bipush 10, 2) := by decide +kernel
theorem dX6_unit_5 : decode cX6_unit 5 = .ok (.if_icmp .ge 49, 3) := by decide +kernel
theorem dX6_unit_8 : decode cX6_unit 8 = .ok (.iconst 0, 1) := by decide +kernel
theorem dX6_unit_9 : decode cX6_unit 9 = .ok (.istore 4, 2) := by decide +kernel
theorem dX6_unit_11 : decode cX6_unit 11 = .ok (.iload 4, 2) := by decide +kernel
theorem dX6_unit_13 : decode cX6_unit 13 = .ok (.bipush 10, 2) := by decide +kernel
theorem dX6_unit_15 : decode cX6_unit 15 = .ok (.if_icmp .ge 33, 3) := by decide +kernel
theorem dX6_unit_18 : decode cX6_unit 18 = .ok (.aload_n 1, 1) := by decide +kernel
theorem dX6_unit_19 : decode cX6_unit 19 = .ok (.iload_n 2, 1) := by decide +kernel
theorem dX6_unit_20 : decode cX6_unit 20 = .ok (.bipush 10, 2) := by decide +kernel
theorem dX6_unit_22 : decode cX6_unit 22 = .ok (.iload_n 3, 1) := by decide +kernel
theorem dX6_unit_23 : decode cX6_unit 23 = .ok (.imul, 1) := by decide +kernel
theorem dX6_unit_24 : decode cX6_unit 24 = .ok (.iadd, 1) := by decide +kernel
theorem dX6_unit_25 : decode cX6_unit 25 = .ok (.iload 4, 2) := by decide +kernel
theorem dX6_unit_27 : decode cX6_unit 27 = .ok (.iadd, 1) := by decide +kernel
theorem dX6_unit_28 : decode cX6_unit 28 = .ok (.iload_n 3, 1) := by decide +kernel
theorem dX6_unit_29 : decode cX6_unit 29 = .ok (.iload 4, 2) := by decide +kernel
theorem dX6_unit_31 : decode cX6_unit 31 = .ok (.if_icmp .ne 7, 3) := by decide +kernel
theorem dX6_unit_34 : decode cX6_unit 34 = .ok (.lconst 0, 1) := by decide +kernel
theorem dX6_unit_35 : decode cX6_unit 35 = .ok (.goto 6, 3) := by decide +kernel
theorem dX6_unit_38 : decode cX6_unit 38 = .ok (.ldc2_w 115, 3) := by decide +kernel
theorem dX6_unit_41 : decode cX6_unit 41 = .ok (.lastore, 1) := by decide +kernel
theorem dX6_unit_42 : decode cX6_unit 42 = .ok (.iinc 4 1, 3) := by decide +kernel
theorem dX6_unit_45 : decode cX6_unit 45 = .ok (.goto (-34), 3) := by decide +kernel
theorem dX6_unit_48 : decode cX6_unit 48 = .ok (.iinc 3 1, 3) := by decide +kernel
theorem dX6_unit_51 : decode cX6_unit 51 = .ok (.goto (-49), 3) := by decide +kernel
theorem dX6_unit_54 : decode cX6_unit 54 = .ok (.return_, 1) := by decide +kernel
theorem dX6_fillPowers_0 : decode cX6_fillPowers 0 = .ok (.aload_n 0, 1) := by decide +kernel
theorem dX6_fillPowers_1 : decode cX6_fillPowers 1 = .ok (.aload_n 0, 1) := by decide +kernel
theorem dX6_fillPowers_2 : decode cX6_fillPowers 2 = .ok (.getfield 99, 3) := by decide +kernel
theorem dX6_fillPowers_5 : decode cX6_fillPowers 5 = .ok (.iconst 0, 1) := by decide +kernel
theorem dX6_fillPowers_6 : decode cX6_fillPowers 6 = .ok (.invokevirtual 242, 3) := by decide +kernel
theorem dX6_fillPowers_9 : decode cX6_fillPowers 9 = .ok (.iconst 1, 1) := by decide +kernel
theorem dX6_fillPowers_10 : decode cX6_fillPowers 10 = .ok (.istore_n 3, 1) := by decide +kernel
theorem dX6_fillPowers_11 : decode cX6_fillPowers 11 = .ok (.iload_n 3, 1) := by decide +kernel
theorem dX6_fillPowers_12 : decode cX6_fillPowers 12 = .ok (.iload_n 1, 1) := by decide +kernel
theorem dX6_fillPowers_13 : decode cX6_fillPowers 13 = .ok (.if_icmp .gt 37, 3) := by decide +kernel
theorem dX6_fillPowers_16 : decode cX6_fillPowers 16 = .ok (.aload_n 0, 1) := by decide +kernel
theorem dX6_fillPowers_17 : decode cX6_fillPowers 17 = .ok (.aload_n 0, 1) := by decide +kernel
theorem dX6_fillPowers_18 : decode cX6_fillPowers 18 = .ok (.getfield 99, 3) := by decide +kernel
theorem dX6_fillPowers_21 : decode cX6_fillPowers 21 = .ok (.bipush 100, 2) := by decide +kernel
theorem dX6_fillPowers_23 : decode cX6_fillPowers 23 = .ok (.iload_n 3, 1) := by decide +kernel
theorem dX6_fillPowers_24 : decode cX6_fillPowers 24 = .ok (.iconst 1, 1) := by decide +kernel
theorem dX6_fillPowers_25 : decode cX6_fillPowers 25 = .ok (.isub, 1) := by decide +kernel
theorem dX6_fillPowers_26 : decode cX6_fillPowers 26 = .ok (.imul, 1) := by decide +kernel
theorem dX6_fillPowers_27 : decode cX6_fillPowers 27 = .ok (.aload_n 0, 1) := by decide +kernel
theorem dX6_fillPowers_28 : decode cX6_fillPowers 28 = .ok (.getfield 87, 3) := by decide +kernel
theorem dX6_fillPowers_31 : decode cX6_fillPowers 31 = .ok (.iconst 0, 1) := by decide +kernel
theorem dX6_fillPowers_32 : decode cX6_fillPowers 32 = .ok (.aload_n 0, 1) := by decide +kernel
theorem dX6_fillPowers_33 : decode cX6_fillPowers 33 = .ok (.getfield 99, 3) := by decide +kernel
theorem dX6_fillPowers_36 : decode cX6_fillPowers 36 = .ok (.bipush 100, 2) := by decide +kernel
theorem dX6_fillPowers_38 : decode cX6_fillPowers 38 = .ok (.iload_n 3, 1) := by decide +kernel
theorem dX6_fillPowers_39 : decode cX6_fillPowers 39 = .ok (.imul, 1) := by decide +kernel
theorem dX6_fillPowers_40 : decode cX6_fillPowers 40 = .ok (.iload_n 2, 1) := by decide +kernel
theorem dX6_fillPowers_41 : decode cX6_fillPowers 41 = .ok (.invokevirtual 246, 3) := by decide +kernel
theorem dX6_fillPowers_44 : decode cX6_fillPowers 44 = .ok (.iinc 3 1, 3) := by decide +kernel
theorem dX6_fillPowers_47 : decode cX6_fillPowers 47 = .ok (.goto (-36), 3) := by decide +kernel
theorem dX6_fillPowers_50 : decode cX6_fillPowers 50 = .ok (.return_, 1) := by decide +kernel
theorem dX6_common_0 : decode cX6_common 0 = .ok (.lload_n 0, 1) := by decide +kernel
theorem dX6_common_1 : decode cX6_common 1 = .ok (.invokestatic 250, 3) := by decide +kernel
theorem dX6_common_4 : decode cX6_common 4 = .ok (.lstore 4, 2) := by decide +kernel
theorem dX6_common_6 : decode cX6_common 6 = .ok (.lload_n 2, 1) := by decide +kernel
theorem dX6_common_7 : decode cX6_common 7 = .ok (.invokestatic 250, 3) := by decide +kernel
theorem dX6_common_10 : decode cX6_common 10 = .ok (.lstore 6, 2) := by decide +kernel
theorem dX6_common_12 : decode cX6_common 12 = .ok (.lload 6, 2) := by decide +kernel
theorem dX6_common_14 : decode cX6_common 14 = .ok (.lconst 0, 1) := by decide +kernel
theorem dX6_common_15 : decode cX6_common 15 = .ok (.lcmp, 1) := by decide +kernel
theorem dX6_common_16 : decode cX6_common 16 = .ok (.ifCond .eq 21, 3) := by decide +kernel
theorem dX6_common_19 : decode cX6_common 19 = .ok (.lload 4, 2) := by decide +kernel
theorem dX6_common_21 : decode cX6_common 21 = .ok (.lload 6, 2) := by decide +kernel
theorem dX6_common_23 : decode cX6_common 23 = .ok (.lrem, 1) := by decide +kernel
theorem dX6_common_24 : decode cX6_common 24 = .ok (.lstore 8, 2) := by decide +kernel
theorem dX6_common_26 : decode cX6_common 26 = .ok (.lload 6, 2) := by decide +kernel
theorem dX6_common_28 : decode cX6_common 28 = .ok (.lstore 4, 2) := by decide +kernel
theorem dX6_common_30 : decode cX6_common 30 = .ok (.lload 8, 2) := by decide +kernel
theorem dX6_common_32 : decode cX6_common 32 = .ok (.lstore 6, 2) := by decide +kernel
theorem dX6_common_34 : decode cX6_common 34 = .ok (.goto (-22), 3) := by decide +kernel
theorem dX6_common_37 : decode cX6_common 37 = .ok (.lload 4, 2) := by decide +kernel
theorem dX6_common_39 : decode cX6_common 39 = .ok (.lreturn, 1) := by decide +kernel
theorem dX6_paces_0 : decode cX6_paces 0 = .ok (.aload_n 0, 1) := by decide +kernel
theorem dX6_paces_1 : decode cX6_paces 1 = .ok (.aload_n 0, 1) := by decide +kernel
theorem dX6_paces_2 : decode cX6_paces 2 = .ok (.getfield 230, 3) := by decide +kernel
theorem dX6_paces_5 : decode cX6_paces 5 = .ok (.iconst 0, 1) := by decide +kernel
theorem dX6_paces_6 : decode cX6_paces 6 = .ok (.invokevirtual 254, 3) := by decide +kernel
theorem dX6_paces_9 : decode cX6_paces 9 = .ok (.aload_n 0, 1) := by decide +kernel
theorem dX6_paces_10 : decode cX6_paces 10 = .ok (.lconst 0, 1) := by decide +kernel
theorem dX6_paces_11 : decode cX6_paces 11 = .ok (.putfield 258, 3) := by decide +kernel
theorem dX6_paces_14 : decode cX6_paces 14 = .ok (.iconst 1, 1) := by decide +kernel
theorem dX6_paces_15 : decode cX6_paces 15 = .ok (.istore_n 1, 1) := by decide +kernel
theorem dX6_paces_16 : decode cX6_paces 16 = .ok (.iload_n 1, 1) := by decide +kernel
theorem dX6_paces_17 : decode cX6_paces 17 = .ok (.aload_n 0, 1) := by decide +kernel
theorem dX6_paces_18 : decode cX6_paces 18 = .ok (.getfield 230, 3) := by decide +kernel
theorem dX6_paces_21 : decode cX6_paces 21 = .ok (.if_icmp .gt 88, 3) := by decide +kernel
theorem dX6_paces_24 : decode cX6_paces 24 = .ok (.iconst 0, 1) := by decide +kernel
theorem dX6_paces_25 : decode cX6_paces 25 = .ok (.istore_n 2, 1) := by decide +kernel
theorem dX6_paces_26 : decode cX6_paces 26 = .ok (.iload_n 2, 1) := by decide +kernel
theorem dX6_paces_27 : decode cX6_paces 27 = .ok (.aload_n 0, 1) := by decide +kernel
theorem dX6_paces_28 : decode cX6_paces 28 = .ok (.getfield 230, 3) := by decide +kernel
theorem dX6_paces_31 : decode cX6_paces 31 = .ok (.if_icmp .ge 72, 3) := by decide +kernel
theorem dX6_paces_34 : decode cX6_paces 34 = .ok (.aload_n 0, 1) := by decide +kernel
theorem dX6_paces_35 : decode cX6_paces 35 = .ok (.getfield 99, 3) := by decide +kernel
theorem dX6_paces_38 : decode cX6_paces 38 = .ok (.bipush 100, 2) := by decide +kernel
theorem dX6_paces_40 : decode cX6_paces 40 = .ok (.iload_n 1, 1) := by decide +kernel
theorem dX6_paces_41 : decode cX6_paces 41 = .ok (.imul, 1) := by decide +kernel
theorem dX6_paces_42 : decode cX6_paces 42 = .ok (.bipush 11, 2) := by decide +kernel
theorem dX6_paces_44 : decode cX6_paces 44 = .ok (.iload_n 2, 1) := by decide +kernel
theorem dX6_paces_45 : decode cX6_paces 45 = .ok (.imul, 1) := by decide +kernel
theorem dX6_paces_46 : decode cX6_paces 46 = .ok (.iadd, 1) := by decide +kernel
theorem dX6_paces_47 : decode cX6_paces 47 = .ok (.laload, 1) := by decide +kernel
theorem dX6_paces_48 : decode cX6_paces 48 = .ok (.lstore_n 3, 1) := by decide +kernel
theorem dX6_paces_49 : decode cX6_paces 49 = .ok (.lload_n 3, 1) := by decide +kernel
theorem dX6_paces_50 : decode cX6_paces 50 = .ok (.ldc2_w 115, 3) := by decide +kernel
theorem dX6_paces_53 : decode cX6_paces 53 = .ok (.lcmp, 1) := by decide +kernel
theorem dX6_paces_54 : decode cX6_paces 54 = .ok (.ifCond .eq 43, 3) := by decide +kernel
theorem dX6_paces_57 : decode cX6_paces 57 = .ok (.aload_n 0, 1) := by decide +kernel
theorem dX6_paces_58 : decode cX6_paces 58 = .ok (.getfield 258, 3) := by decide +kernel
theorem dX6_paces_61 : decode cX6_paces 61 = .ok (.lconst 0, 1) := by decide +kernel
theorem dX6_paces_62 : decode cX6_paces 62 = .ok (.lcmp, 1) := by decide +kernel
theorem dX6_paces_63 : decode cX6_paces 63 = .ok (.ifCond .le 23, 3) := by decide +kernel
theorem dX6_paces_66 : decode cX6_paces 66 = .ok (.lload_n 3, 1) := by decide +kernel
theorem dX6_paces_67 : decode cX6_paces 67 = .ok (.aload_n 0, 1) := by decide +kernel
theorem dX6_paces_68 : decode cX6_paces 68 = .ok (.getfield 258, 3) := by decide +kernel
theorem dX6_paces_71 : decode cX6_paces 71 = .ok (.lmul, 1) := by decide +kernel
theorem dX6_paces_72 : decode cX6_paces 72 = .ok (.aload_n 0, 1) := by decide +kernel
theorem dX6_paces_73 : decode cX6_paces 73 = .ok (.getfield 262, 3) := by decide +kernel
theorem dX6_paces_76 : decode cX6_paces 76 = .ok (.iload_n 1, 1) := by decide +kernel
theorem dX6_paces_77 : decode cX6_paces 77 = .ok (.i2l, 1) := by decide +kernel
theorem dX6_paces_78 : decode cX6_paces 78 = .ok (.lmul, 1) := by decide +kernel
theorem dX6_paces_79 : decode cX6_paces 79 = .ok (.lcmp, 1) := by decide +kernel
theorem dX6_paces_80 : decode cX6_paces 80 = .ok (.ifCond .gt 6, 3) := by decide +kernel
theorem dX6_paces_83 : decode cX6_paces 83 = .ok (.goto 14, 3) := by decide +kernel
theorem dX6_paces_86 : decode cX6_paces 86 = .ok (.aload_n 0, 1) := by decide +kernel
theorem dX6_paces_87 : decode cX6_paces 87 = .ok (.lload_n 3, 1) := by decide +kernel
theorem dX6_paces_88 : decode cX6_paces 88 = .ok (.putfield 262, 3) := by decide +kernel
theorem dX6_paces_91 : decode cX6_paces 91 = .ok (.aload_n 0, 1) := by decide +kernel
theorem dX6_paces_92 : decode cX6_paces 92 = .ok (.iload_n 1, 1) := by decide +kernel
theorem dX6_paces_93 : decode cX6_paces 93 = .ok (.i2l, 1) := by decide +kernel
theorem dX6_paces_94 : decode cX6_paces 94 = .ok (.putfield 258, 3) := by decide +kernel
theorem dX6_paces_97 : decode cX6_paces 97 = .ok (.iinc 2 1, 3) := by decide +kernel
theorem dX6_paces_100 : decode cX6_paces 100 = .ok (.goto (-74), 3) := by decide +kernel
theorem dX6_paces_103 : decode cX6_paces 103 = .ok (.iinc 1 1, 3) := by decide +kernel
theorem dX6_paces_106 : decode cX6_paces 106 = .ok (.goto (-90), 3) := by decide +kernel
theorem dX6_paces_109 : decode cX6_paces 109 = .ok (.aload_n 0, 1) := by decide +kernel
theorem dX6_paces_110 : decode cX6_paces 110 = .ok (.getfield 258, 3) := by decide +kernel
theorem dX6_paces_113 : decode cX6_paces 113 = .ok (.lconst 0, 1) := by decide +kernel
theorem dX6_paces_114 : decode cX6_paces 114 = .ok (.lcmp, 1) := by decide +kernel
theorem dX6_paces_115 : decode cX6_paces 115 = .ok (.ifCond .ne 5, 3) := by decide +kernel
theorem dX6_paces_118 : decode cX6_paces 118 = .ok (.iconst 0, 1) := by decide +kernel
theorem dX6_paces_119 : decode cX6_paces 119 = .ok (.ireturn, 1) := by decide +kernel
theorem dX6_paces_120 : decode cX6_paces 120 = .ok (.aload_n 0, 1) := by decide +kernel
theorem dX6_paces_121 : decode cX6_paces 121 = .ok (.getfield 262, 3) := by decide +kernel
theorem dX6_paces_124 : decode cX6_paces 124 = .ok (.aload_n 0, 1) := by decide +kernel
theorem dX6_paces_125 : decode cX6_paces 125 = .ok (.getfield 258, 3) := by decide +kernel
theorem dX6_paces_128 : decode cX6_paces 128 = .ok (.invokestatic 265, 3) := by decide +kernel
theorem dX6_paces_131 : decode cX6_paces 131 = .ok (.lstore_n 1, 1) := by decide +kernel
theorem dX6_paces_132 : decode cX6_paces 132 = .ok (.aload_n 0, 1) := by decide +kernel
theorem dX6_paces_133 : decode cX6_paces 133 = .ok (.dup, 1) := by decide +kernel
theorem dX6_paces_134 : decode cX6_paces 134 = .ok (.getfield 262, 3) := by decide +kernel
theorem dX6_paces_137 : decode cX6_paces 137 = .ok (.lload_n 1, 1) := by decide +kernel
theorem dX6_paces_138 : decode cX6_paces 138 = .ok (.ldiv, 1) := by decide +kernel
theorem dX6_paces_139 : decode cX6_paces 139 = .ok (.putfield 262, 3) := by decide +kernel
theorem dX6_paces_142 : decode cX6_paces 142 = .ok (.aload_n 0, 1) := by decide +kernel
theorem dX6_paces_143 : decode cX6_paces 143 = .ok (.dup, 1) := by decide +kernel
theorem dX6_paces_144 : decode cX6_paces 144 = .ok (.getfield 258, 3) := by decide +kernel
theorem dX6_paces_147 : decode cX6_paces 147 = .ok (.lload_n 1, 1) := by decide +kernel
theorem dX6_paces_148 : decode cX6_paces 148 = .ok (.ldiv, 1) := by decide +kernel
theorem dX6_paces_149 : decode cX6_paces 149 = .ok (.putfield 258, 3) := by decide +kernel
theorem dX6_paces_152 : decode cX6_paces 152 = .ok (.iconst 1, 1) := by decide +kernel
theorem dX6_paces_153 : decode cX6_paces 153 = .ok (.ireturn, 1) := by decide +kernel
theorem dX6_pace_0 : decode cX6_pace 0 = .ok (.aload_n 0, 1) := by decide +kernel
theorem dX6_pace_1 : decode cX6_pace 1 = .ok (.iconst 0, 1) := by decide +kernel
theorem dX6_pace_2 : decode cX6_pace 2 = .ok (.putfield 117, 3) := by decide +kernel
theorem dX6_pace_5 : decode cX6_pace 5 = .ok (.aload_n 0, 1) := by decide +kernel
theorem dX6_pace_6 : decode cX6_pace 6 = .ok (.iconst 0, 1) := by decide +kernel
theorem dX6_pace_7 : decode cX6_pace 7 = .ok (.putfield 120, 3) := by decide +kernel
theorem dX6_pace_10 : decode cX6_pace 10 = .ok (.iload_n 1, 1) := by decide +kernel
theorem dX6_pace_11 : decode cX6_pace 11 = .ok (.ifCond .lt 8, 3) := by decide +kernel
theorem dX6_pace_14 : decode cX6_pace 14 = .ok (.iload_n 1, 1) := by decide +kernel
theorem dX6_pace_15 : decode cX6_pace 15 = .ok (.iconst 1, 1) := by decide +kernel
theorem dX6_pace_16 : decode cX6_pace 16 = .ok (.if_icmp .le 10, 3) := by decide +kernel
theorem dX6_pace_19 : decode cX6_pace 19 = .ok (.aload_n 0, 1) := by decide +kernel
theorem dX6_pace_20 : decode cX6_pace 20 = .ok (.iconst 2, 1) := by decide +kernel
theorem dX6_pace_21 : decode cX6_pace 21 = .ok (.invokevirtual 151, 3) := by decide +kernel
theorem dX6_pace_24 : decode cX6_pace 24 = .ok (.i2l, 1) := by decide +kernel
theorem dX6_pace_25 : decode cX6_pace 25 = .ok (.lreturn, 1) := by decide +kernel
theorem dX6_pace_26 : decode cX6_pace 26 = .ok (.aload_n 0, 1) := by decide +kernel
theorem dX6_pace_27 : decode cX6_pace 27 = .ok (.invokevirtual 268, 3) := by decide +kernel
theorem dX6_pace_30 : decode cX6_pace 30 = .ok (.ifCond .ne 11, 3) := by decide +kernel
theorem dX6_pace_33 : decode cX6_pace 33 = .ok (.aload_n 0, 1) := by decide +kernel
theorem dX6_pace_34 : decode cX6_pace 34 = .ok (.bipush 8, 2) := by decide +kernel
theorem dX6_pace_36 : decode cX6_pace 36 = .ok (.invokevirtual 151, 3) := by decide +kernel
theorem dX6_pace_39 : decode cX6_pace 39 = .ok (.i2l, 1) := by decide +kernel
theorem dX6_pace_40 : decode cX6_pace 40 = .ok (.lreturn, 1) := by decide +kernel
theorem dX6_pace_41 : decode cX6_pace 41 = .ok (.iload_n 1, 1) := by decide +kernel
theorem dX6_pace_42 : decode cX6_pace 42 = .ok (.ifCond .ne 10, 3) := by decide +kernel
theorem dX6_pace_45 : decode cX6_pace 45 = .ok (.aload_n 0, 1) := by decide +kernel
theorem dX6_pace_46 : decode cX6_pace 46 = .ok (.getfield 262, 3) := by decide +kernel
theorem dX6_pace_49 : decode cX6_pace 49 = .ok (.goto 7, 3) := by decide +kernel
theorem dX6_pace_52 : decode cX6_pace 52 = .ok (.aload_n 0, 1) := by decide +kernel
theorem dX6_pace_53 : decode cX6_pace 53 = .ok (.getfield 258, 3) := by decide +kernel
theorem dX6_pace_56 : decode cX6_pace 56 = .ok (.lreturn, 1) := by decide +kernel
theorem dX6_critical_0 : decode cX6_critical 0 = .ok (.aload_n 0, 1) := by decide +kernel
theorem dX6_critical_1 : decode cX6_critical 1 = .ok (.iconst 0, 1) := by decide +kernel
theorem dX6_critical_2 : decode cX6_critical 2 = .ok (.putfield 117, 3) := by decide +kernel
theorem dX6_critical_5 : decode cX6_critical 5 = .ok (.aload_n 0, 1) := by decide +kernel
theorem dX6_critical_6 : decode cX6_critical 6 = .ok (.iconst 0, 1) := by decide +kernel
theorem dX6_critical_7 : decode cX6_critical 7 = .ok (.putfield 120, 3) := by decide +kernel
theorem dX6_critical_10 : decode cX6_critical 10 = .ok (.aload_n 0, 1) := by decide +kernel
theorem dX6_critical_11 : decode cX6_critical 11 = .ok (.invokevirtual 268, 3) := by decide +kernel
theorem dX6_critical_14 : decode cX6_critical 14 = .ok (.ifCond .ne 10, 3) := by decide +kernel
theorem dX6_critical_17 : decode cX6_critical 17 = .ok (.aload_n 0, 1) := by decide +kernel
theorem dX6_critical_18 : decode cX6_critical 18 = .ok (.bipush 8, 2) := by decide +kernel
theorem dX6_critical_20 : decode cX6_critical 20 = .ok (.invokevirtual 151, 3) := by decide +kernel
theorem dX6_critical_23 : decode cX6_critical 23 = .ok (.ireturn, 1) := by decide +kernel
theorem dX6_critical_24 : decode cX6_critical 24 = .ok (.iconst 0, 1) := by decide +kernel
theorem dX6_critical_25 : decode cX6_critical 25 = .ok (.istore_n 1, 1) := by decide +kernel
theorem dX6_critical_26 : decode cX6_critical 26 = .ok (.iconst 0, 1) := by decide +kernel
theorem dX6_critical_27 : decode cX6_critical 27 = .ok (.istore_n 2, 1) := by decide +kernel
theorem dX6_critical_28 : decode cX6_critical 28 = .ok (.iload_n 2, 1) := by decide +kernel
theorem dX6_critical_29 : decode cX6_critical 29 = .ok (.ifCond .ne 49, 3) := by decide +kernel
theorem dX6_critical_32 : decode cX6_critical 32 = .ok (.iinc 1 1, 3) := by decide +kernel
theorem dX6_critical_35 : decode cX6_critical 35 = .ok (.iconst 0, 1) := by decide +kernel
theorem dX6_critical_36 : decode cX6_critical 36 = .ok (.istore_n 3, 1) := by decide +kernel
theorem dX6_critical_37 : decode cX6_critical 37 = .ok (.iload_n 3, 1) := by decide +kernel
theorem dX6_critical_38 : decode cX6_critical 38 = .ok (.aload_n 0, 1) := by decide +kernel
theorem dX6_critical_39 : decode cX6_critical 39 = .ok (.getfield 230, 3) := by decide +kernel
theorem dX6_critical_42 : decode cX6_critical 42 = .ok (.if_icmp .ge 33, 3) := by decide +kernel
theorem dX6_critical_45 : decode cX6_critical 45 = .ok (.iload_n 2, 1) := by decide +kernel
theorem dX6_critical_46 : decode cX6_critical 46 = .ok (.ifCond .ne 29, 3) := by decide +kernel
theorem dX6_critical_49 : decode cX6_critical 49 = .ok (.aload_n 0, 1) := by decide +kernel
theorem dX6_critical_50 : decode cX6_critical 50 = .ok (.aload_n 0, 1) := by decide +kernel
theorem dX6_critical_51 : decode cX6_critical 51 = .ok (.getfield 99, 3) := by decide +kernel
theorem dX6_critical_54 : decode cX6_critical 54 = .ok (.bipush 100, 2) := by decide +kernel
theorem dX6_critical_56 : decode cX6_critical 56 = .ok (.iload_n 1, 1) := by decide +kernel
theorem dX6_critical_57 : decode cX6_critical 57 = .ok (.imul, 1) := by decide +kernel
theorem dX6_critical_58 : decode cX6_critical 58 = .ok (.bipush 11, 2) := by decide +kernel
theorem dX6_critical_60 : decode cX6_critical 60 = .ok (.iload_n 3, 1) := by decide +kernel
theorem dX6_critical_61 : decode cX6_critical 61 = .ok (.imul, 1) := by decide +kernel
theorem dX6_critical_62 : decode cX6_critical 62 = .ok (.iadd, 1) := by decide +kernel
theorem dX6_critical_63 : decode cX6_critical 63 = .ok (.laload, 1) := by decide +kernel
theorem dX6_critical_64 : decode cX6_critical 64 = .ok (.iload_n 1, 1) := by decide +kernel
theorem dX6_critical_65 : decode cX6_critical 65 = .ok (.invokevirtual 271, 3) := by decide +kernel
theorem dX6_critical_68 : decode cX6_critical 68 = .ok (.istore_n 2, 1) := by decide +kernel
theorem dX6_critical_69 : decode cX6_critical 69 = .ok (.iinc 3 1, 3) := by decide +kernel
theorem dX6_critical_72 : decode cX6_critical 72 = .ok (.goto (-35), 3) := by decide +kernel
theorem dX6_critical_75 : decode cX6_critical 75 = .ok (.goto (-47), 3) := by decide +kernel
theorem dX6_critical_78 : decode cX6_critical 78 = .ok (.iconst 0, 1) := by decide +kernel
theorem dX6_critical_79 : decode cX6_critical 79 = .ok (.istore_n 3, 1) := by decide +kernel
theorem dX6_critical_80 : decode cX6_critical 80 = .ok (.aload_n 0, 1) := by decide +kernel
theorem dX6_critical_81 : decode cX6_critical 81 = .ok (.iload_n 1, 1) := by decide +kernel
theorem dX6_critical_82 : decode cX6_critical 82 = .ok (.iload_n 3, 1) := by decide +kernel
theorem dX6_critical_83 : decode cX6_critical 83 = .ok (.invokevirtual 254, 3) := by decide +kernel
theorem dX6_critical_86 : decode cX6_critical 86 = .ok (.aload_n 0, 1) := by decide +kernel
theorem dX6_critical_87 : decode cX6_critical 87 = .ok (.aload_n 0, 1) := by decide +kernel
theorem dX6_critical_88 : decode cX6_critical 88 = .ok (.getfield 99, 3) := by decide +kernel
theorem dX6_critical_91 : decode cX6_critical 91 = .ok (.bipush 100, 2) := by decide +kernel
theorem dX6_critical_93 : decode cX6_critical 93 = .ok (.iload_n 1, 1) := by decide +kernel
theorem dX6_critical_94 : decode cX6_critical 94 = .ok (.imul, 1) := by decide +kernel
theorem dX6_critical_95 : decode cX6_critical 95 = .ok (.bipush 11, 2) := by decide +kernel
theorem dX6_critical_97 : decode cX6_critical 97 = .ok (.iload_n 3, 1) := by decide +kernel
theorem dX6_critical_98 : decode cX6_critical 98 = .ok (.imul, 1) := by decide +kernel
theorem dX6_critical_99 : decode cX6_critical 99 = .ok (.iadd, 1) := by decide +kernel
theorem dX6_critical_100 : decode cX6_critical 100 = .ok (.laload, 1) := by decide +kernel
theorem dX6_critical_101 : decode cX6_critical 101 = .ok (.iload_n 1, 1) := by decide +kernel
theorem dX6_critical_102 : decode cX6_critical 102 = .ok (.invokevirtual 271, 3) := by decide +kernel
theorem dX6_critical_105 : decode cX6_critical 105 = .ok (.ifCond .ne 15, 3) := by decide +kernel
theorem dX6_critical_108 : decode cX6_critical 108 = .ok (.iinc 3 1, 3) := by decide +kernel
theorem dX6_critical_111 : decode cX6_critical 111 = .ok (.aload_n 0, 1) := by decide +kernel
theorem dX6_critical_112 : decode cX6_critical 112 = .ok (.iload_n 1, 1) := by decide +kernel
theorem dX6_critical_113 : decode cX6_critical 113 = .ok (.iload_n 3, 1) := by decide +kernel
theorem dX6_critical_114 : decode cX6_critical 114 = .ok (.invokevirtual 254, 3) := by decide +kernel
theorem dX6_critical_117 : decode cX6_critical 117 = .ok (.goto (-31), 3) := by decide +kernel
theorem dX6_critical_120 : decode cX6_critical 120 = .ok (.aload_n 0, 1) := by decide +kernel
theorem dX6_critical_121 : decode cX6_critical 121 = .ok (.getfield 99, 3) := by decide +kernel
theorem dX6_critical_124 : decode cX6_critical 124 = .ok (.bipush 100, 2) := by decide +kernel
theorem dX6_critical_126 : decode cX6_critical 126 = .ok (.iload_n 1, 1) := by decide +kernel
theorem dX6_critical_127 : decode cX6_critical 127 = .ok (.imul, 1) := by decide +kernel
theorem dX6_critical_128 : decode cX6_critical 128 = .ok (.bipush 11, 2) := by decide +kernel
theorem dX6_critical_130 : decode cX6_critical 130 = .ok (.iload_n 3, 1) := by decide +kernel
theorem dX6_critical_131 : decode cX6_critical 131 = .ok (.imul, 1) := by decide +kernel
theorem dX6_critical_132 : decode cX6_critical 132 = .ok (.iadd, 1) := by decide +kernel
theorem dX6_critical_133 : decode cX6_critical 133 = .ok (.laload, 1) := by decide +kernel
theorem dX6_critical_134 : decode cX6_critical 134 = .ok (.lstore 4, 2) := by decide +kernel
theorem dX6_critical_136 : decode cX6_critical 136 = .ok (.iload_n 3, 1) := by decide +kernel
theorem dX6_critical_137 : decode cX6_critical 137 = .ok (.istore 6, 2) := by decide +kernel
theorem dX6_critical_139 : decode cX6_critical 139 = .ok (.aload_n 0, 1) := by decide +kernel
theorem dX6_critical_140 : decode cX6_critical 140 = .ok (.iload_n 1, 1) := by decide +kernel
theorem dX6_critical_141 : decode cX6_critical 141 = .ok (.putfield 275, 3) := by decide +kernel
theorem dX6_critical_144 : decode cX6_critical 144 = .ok (.iconst 0, 1) := by decide +kernel
theorem dX6_critical_145 : decode cX6_critical 145 = .ok (.istore 7, 2) := by decide +kernel
theorem dX6_critical_147 : decode cX6_critical 147 = .ok (.iload 7, 2) := by decide +kernel
theorem dX6_critical_149 : decode cX6_critical 149 = .ok (.iload_n 1, 1) := by decide +kernel
theorem dX6_critical_150 : decode cX6_critical 150 = .ok (.if_icmp .ge 70, 3) := by decide +kernel
theorem dX6_critical_153 : decode cX6_critical 153 = .ok (.aload_n 0, 1) := by decide +kernel
theorem dX6_critical_154 : decode cX6_critical 154 = .ok (.getfield 102, 3) := by decide +kernel
theorem dX6_critical_157 : decode cX6_critical 157 = .ok (.iload 7, 2) := by decide +kernel
theorem dX6_critical_159 : decode cX6_critical 159 = .ok (.iload 6, 2) := by decide +kernel
theorem dX6_critical_161 : decode cX6_critical 161 = .ok (.i2b, 1) := by decide +kernel
theorem dX6_critical_162 : decode cX6_critical 162 = .ok (.bastore, 1) := by decide +kernel
theorem dX6_critical_163 : decode cX6_critical 163 = .ok (.iload_n 3, 1) := by decide +kernel
theorem dX6_critical_164 : decode cX6_critical 164 = .ok (.istore 8, 2) := by decide +kernel
theorem dX6_critical_166 : decode cX6_critical 166 = .ok (.aload_n 0, 1) := by decide +kernel
theorem dX6_critical_167 : decode cX6_critical 167 = .ok (.iload 6, 2) := by decide +kernel
theorem dX6_critical_169 : decode cX6_critical 169 = .ok (.iload 8, 2) := by decide +kernel
theorem dX6_critical_171 : decode cX6_critical 171 = .ok (.iload_n 3, 1) := by decide +kernel
theorem dX6_critical_172 : decode cX6_critical 172 = .ok (.iload_n 1, 1) := by decide +kernel
theorem dX6_critical_173 : decode cX6_critical 173 = .ok (.iconst 1, 1) := by decide +kernel
theorem dX6_critical_174 : decode cX6_critical 174 = .ok (.isub, 1) := by decide +kernel
theorem dX6_critical_175 : decode cX6_critical 175 = .ok (.iload 7, 2) := by decide +kernel
theorem dX6_critical_177 : decode cX6_critical 177 = .ok (.isub, 1) := by decide +kernel
theorem dX6_critical_178 : decode cX6_critical 178 = .ok (.lload 4, 2) := by decide +kernel
theorem dX6_critical_180 : decode cX6_critical 180 = .ok (.invokevirtual 278, 3) := by decide +kernel
theorem dX6_critical_183 : decode cX6_critical 183 = .ok (.ifCond .ne 9, 3) := by decide +kernel
theorem dX6_critical_186 : decode cX6_critical 186 = .ok (.iinc 8 1, 3) := by decide +kernel
theorem dX6_critical_189 : decode cX6_critical 189 = .ok (.goto (-23), 3) := by decide +kernel
theorem dX6_critical_192 : decode cX6_critical 192 = .ok (.lload 4, 2) := by decide +kernel
theorem dX6_critical_194 : decode cX6_critical 194 = .ok (.aload_n 0, 1) := by decide +kernel
theorem dX6_critical_195 : decode cX6_critical 195 = .ok (.getfield 87, 3) := by decide +kernel
theorem dX6_critical_198 : decode cX6_critical 198 = .ok (.bipush 10, 2) := by decide +kernel
theorem dX6_critical_200 : decode cX6_critical 200 = .ok (.iload 8, 2) := by decide +kernel
theorem dX6_critical_202 : decode cX6_critical 202 = .ok (.imul, 1) := by decide +kernel
theorem dX6_critical_203 : decode cX6_critical 203 = .ok (.iload 6, 2) := by decide +kernel
theorem dX6_critical_205 : decode cX6_critical 205 = .ok (.iadd, 1) := by decide +kernel
theorem dX6_critical_206 : decode cX6_critical 206 = .ok (.laload, 1) := by decide +kernel
theorem dX6_critical_207 : decode cX6_critical 207 = .ok (.lsub, 1) := by decide +kernel
theorem dX6_critical_208 : decode cX6_critical 208 = .ok (.lstore 4, 2) := by decide +kernel
theorem dX6_critical_210 : decode cX6_critical 210 = .ok (.iload 8, 2) := by decide +kernel
theorem dX6_critical_212 : decode cX6_critical 212 = .ok (.istore 6, 2) := by decide +kernel
theorem dX6_critical_214 : decode cX6_critical 214 = .ok (.iinc 7 1, 3) := by decide +kernel
theorem dX6_critical_217 : decode cX6_critical 217 = .ok (.goto (-70), 3) := by decide +kernel
theorem dX6_critical_220 : decode cX6_critical 220 = .ok (.iload_n 1, 1) := by decide +kernel
theorem dX6_critical_221 : decode cX6_critical 221 = .ok (.ireturn, 1) := by decide +kernel
theorem dX6_isPace_0 : decode cX6_isPace 0 = .ok (.lload_n 1, 1) := by decide +kernel
theorem dX6_isPace_1 : decode cX6_isPace 1 = .ok (.ldc2_w 115, 3) := by decide +kernel
theorem dX6_isPace_4 : decode cX6_isPace 4 = .ok (.lcmp, 1) := by decide +kernel
theorem dX6_isPace_5 : decode cX6_isPace 5 = .ok (.ifCond .eq 24, 3) := by decide +kernel
theorem dX6_isPace_8 : decode cX6_isPace 8 = .ok (.lload_n 1, 1) := by decide +kernel
theorem dX6_isPace_9 : decode cX6_isPace 9 = .ok (.aload_n 0, 1) := by decide +kernel
theorem dX6_isPace_10 : decode cX6_isPace 10 = .ok (.getfield 258, 3) := by decide +kernel
theorem dX6_isPace_13 : decode cX6_isPace 13 = .ok (.lmul, 1) := by decide +kernel
theorem dX6_isPace_14 : decode cX6_isPace 14 = .ok (.aload_n 0, 1) := by decide +kernel
theorem dX6_isPace_15 : decode cX6_isPace 15 = .ok (.getfield 262, 3) := by decide +kernel
theorem dX6_isPace_18 : decode cX6_isPace 18 = .ok (.iload_n 3, 1) := by decide +kernel
theorem dX6_isPace_19 : decode cX6_isPace 19 = .ok (.i2l, 1) := by decide +kernel
theorem dX6_isPace_20 : decode cX6_isPace 20 = .ok (.lmul, 1) := by decide +kernel
theorem dX6_isPace_21 : decode cX6_isPace 21 = .ok (.lcmp, 1) := by decide +kernel
theorem dX6_isPace_22 : decode cX6_isPace 22 = .ok (.ifCond .ne 7, 3) := by decide +kernel
theorem dX6_isPace_25 : decode cX6_isPace 25 = .ok (.iconst 1, 1) := by decide +kernel
theorem dX6_isPace_26 : decode cX6_isPace 26 = .ok (.goto 4, 3) := by decide +kernel
theorem dX6_isPace_29 : decode cX6_isPace 29 = .ok (.iconst 0, 1) := by decide +kernel
theorem dX6_isPace_30 : decode cX6_isPace 30 = .ok (.ireturn, 1) := by decide +kernel
theorem dX6_goes_0 : decode cX6_goes 0 = .ok (.aload_n 0, 1) := by decide +kernel
theorem dX6_goes_1 : decode cX6_goes 1 = .ok (.getfield 87, 3) := by decide +kernel
theorem dX6_goes_4 : decode cX6_goes 4 = .ok (.bipush 10, 2) := by decide +kernel
theorem dX6_goes_6 : decode cX6_goes 6 = .ok (.iload_n 2, 1) := by decide +kernel
theorem dX6_goes_7 : decode cX6_goes 7 = .ok (.imul, 1) := by decide +kernel
theorem dX6_goes_8 : decode cX6_goes 8 = .ok (.iload_n 1, 1) := by decide +kernel
theorem dX6_goes_9 : decode cX6_goes 9 = .ok (.iadd, 1) := by decide +kernel
theorem dX6_goes_10 : decode cX6_goes 10 = .ok (.laload, 1) := by decide +kernel
theorem dX6_goes_11 : decode cX6_goes 11 = .ok (.lstore 7, 2) := by decide +kernel
theorem dX6_goes_13 : decode cX6_goes 13 = .ok (.aload_n 0, 1) := by decide +kernel
theorem dX6_goes_14 : decode cX6_goes 14 = .ok (.getfield 99, 3) := by decide +kernel
theorem dX6_goes_17 : decode cX6_goes 17 = .ok (.bipush 100, 2) := by decide +kernel
theorem dX6_goes_19 : decode cX6_goes 19 = .ok (.iload 4, 2) := by decide +kernel
theorem dX6_goes_21 : decode cX6_goes 21 = .ok (.imul, 1) := by decide +kernel
theorem dX6_goes_22 : decode cX6_goes 22 = .ok (.bipush 10, 2) := by decide +kernel
theorem dX6_goes_24 : decode cX6_goes 24 = .ok (.iload_n 3, 1) := by decide +kernel
theorem dX6_goes_25 : decode cX6_goes 25 = .ok (.imul, 1) := by decide +kernel
theorem dX6_goes_26 : decode cX6_goes 26 = .ok (.iadd, 1) := by decide +kernel
theorem dX6_goes_27 : decode cX6_goes 27 = .ok (.iload_n 2, 1) := by decide +kernel
theorem dX6_goes_28 : decode cX6_goes 28 = .ok (.iadd, 1) := by decide +kernel
theorem dX6_goes_29 : decode cX6_goes 29 = .ok (.laload, 1) := by decide +kernel
theorem dX6_goes_30 : decode cX6_goes 30 = .ok (.lstore 9, 2) := by decide +kernel
theorem dX6_goes_32 : decode cX6_goes 32 = .ok (.lload 7, 2) := by decide +kernel
theorem dX6_goes_34 : decode cX6_goes 34 = .ok (.ldc2_w 115, 3) := by decide +kernel
theorem dX6_goes_37 : decode cX6_goes 37 = .ok (.lcmp, 1) := by decide +kernel
theorem dX6_goes_38 : decode cX6_goes 38 = .ok (.ifCond .eq 27, 3) := by decide +kernel
theorem dX6_goes_41 : decode cX6_goes 41 = .ok (.lload 9, 2) := by decide +kernel
theorem dX6_goes_43 : decode cX6_goes 43 = .ok (.ldc2_w 115, 3) := by decide +kernel
theorem dX6_goes_46 : decode cX6_goes 46 = .ok (.lcmp, 1) := by decide +kernel
theorem dX6_goes_47 : decode cX6_goes 47 = .ok (.ifCond .eq 18, 3) := by decide +kernel
theorem dX6_goes_50 : decode cX6_goes 50 = .ok (.lload 7, 2) := by decide +kernel
theorem dX6_goes_52 : decode cX6_goes 52 = .ok (.lload 9, 2) := by decide +kernel
theorem dX6_goes_54 : decode cX6_goes 54 = .ok (.ladd, 1) := by decide +kernel
theorem dX6_goes_55 : decode cX6_goes 55 = .ok (.lload 5, 2) := by decide +kernel
theorem dX6_goes_57 : decode cX6_goes 57 = .ok (.lcmp, 1) := by decide +kernel
theorem dX6_goes_58 : decode cX6_goes 58 = .ok (.ifCond .ne 7, 3) := by decide +kernel
theorem dX6_goes_61 : decode cX6_goes 61 = .ok (.iconst 1, 1) := by decide +kernel
theorem dX6_goes_62 : decode cX6_goes 62 = .ok (.goto 4, 3) := by decide +kernel
theorem dX6_goes_65 : decode cX6_goes 65 = .ok (.iconst 0, 1) := by decide +kernel
theorem dX6_goes_66 : decode cX6_goes 66 = .ok (.ireturn, 1) := by decide +kernel
theorem dX6_sums_0 : decode cX6_sums 0 = .ok (.aload_n 0, 1) := by decide +kernel
theorem dX6_sums_1 : decode cX6_sums 1 = .ok (.iconst 0, 1) := by decide +kernel
theorem dX6_sums_2 : decode cX6_sums 2 = .ok (.putfield 117, 3) := by decide +kernel
theorem dX6_sums_5 : decode cX6_sums 5 = .ok (.aload_n 0, 1) := by decide +kernel
theorem dX6_sums_6 : decode cX6_sums 6 = .ok (.iconst 0, 1) := by decide +kernel
theorem dX6_sums_7 : decode cX6_sums 7 = .ok (.putfield 120, 3) := by decide +kernel
theorem dX6_sums_10 : decode cX6_sums 10 = .ok (.lload_n 1, 1) := by decide +kernel
theorem dX6_sums_11 : decode cX6_sums 11 = .ok (.lconst 0, 1) := by decide +kernel
theorem dX6_sums_12 : decode cX6_sums 12 = .ok (.lcmp, 1) := by decide +kernel
theorem dX6_sums_13 : decode cX6_sums 13 = .ok (.ifCond .lt 21, 3) := by decide +kernel
theorem dX6_sums_16 : decode cX6_sums 16 = .ok (.lload_n 1, 1) := by decide +kernel
theorem dX6_sums_17 : decode cX6_sums 17 = .ok (.ldc2_w 282, 3) := by decide +kernel
theorem dX6_sums_20 : decode cX6_sums 20 = .ok (.lcmp, 1) := by decide +kernel
theorem dX6_sums_21 : decode cX6_sums 21 = .ok (.ifCond .gt 13, 3) := by decide +kernel
theorem dX6_sums_24 : decode cX6_sums 24 = .ok (.aload_n 0, 1) := by decide +kernel
theorem dX6_sums_25 : decode cX6_sums 25 = .ok (.iload_n 3, 1) := by decide +kernel
theorem dX6_sums_26 : decode cX6_sums 26 = .ok (.iload 4, 2) := by decide +kernel
theorem dX6_sums_28 : decode cX6_sums 28 = .ok (.invokevirtual 233, 3) := by decide +kernel
theorem dX6_sums_31 : decode cX6_sums 31 = .ok (.ifCond .ne 10, 3) := by decide +kernel
theorem dX6_sums_34 : decode cX6_sums 34 = .ok (.aload_n 0, 1) := by decide +kernel
theorem dX6_sums_35 : decode cX6_sums 35 = .ok (.iconst 2, 1) := by decide +kernel
theorem dX6_sums_36 : decode cX6_sums 36 = .ok (.invokevirtual 151, 3) := by decide +kernel
theorem dX6_sums_39 : decode cX6_sums 39 = .ok (.i2l, 1) := by decide +kernel
theorem dX6_sums_40 : decode cX6_sums 40 = .ok (.lreturn, 1) := by decide +kernel
theorem dX6_sums_41 : decode cX6_sums 41 = .ok (.aload_n 0, 1) := by decide +kernel
theorem dX6_sums_42 : decode cX6_sums 42 = .ok (.aload_n 0, 1) := by decide +kernel
theorem dX6_sums_43 : decode cX6_sums 43 = .ok (.getfield 90, 3) := by decide +kernel
theorem dX6_sums_46 : decode cX6_sums 46 = .ok (.iconst 0, 1) := by decide +kernel
theorem dX6_sums_47 : decode cX6_sums 47 = .ok (.invokevirtual 242, 3) := by decide +kernel
theorem dX6_sums_50 : decode cX6_sums 50 = .ok (.iconst 0, 1) := by decide +kernel
theorem dX6_sums_51 : decode cX6_sums 51 = .ok (.istore 5, 2) := by decide +kernel
theorem dX6_sums_53 : decode cX6_sums 53 = .ok (.iload 5, 2) := by decide +kernel
theorem dX6_sums_55 : decode cX6_sums 55 = .ok (.bipush 100, 2) := by decide +kernel
theorem dX6_sums_57 : decode cX6_sums 57 = .ok (.if_icmp .ge 23, 3) := by decide +kernel
theorem dX6_sums_60 : decode cX6_sums 60 = .ok (.aload_n 0, 1) := by decide +kernel
theorem dX6_sums_61 : decode cX6_sums 61 = .ok (.getfield 93, 3) := by decide +kernel
theorem dX6_sums_64 : decode cX6_sums 64 = .ok (.iload 5, 2) := by decide +kernel
theorem dX6_sums_66 : decode cX6_sums 66 = .ok (.aload_n 0, 1) := by decide +kernel
theorem dX6_sums_67 : decode cX6_sums 67 = .ok (.getfield 87, 3) := by decide +kernel
theorem dX6_sums_70 : decode cX6_sums 70 = .ok (.iload 5, 2) := by decide +kernel
theorem dX6_sums_72 : decode cX6_sums 72 = .ok (.laload, 1) := by decide +kernel
theorem dX6_sums_73 : decode cX6_sums 73 = .ok (.lastore, 1) := by decide +kernel
theorem dX6_sums_74 : decode cX6_sums 74 = .ok (.iinc 5 1, 3) := by decide +kernel
theorem dX6_sums_77 : decode cX6_sums 77 = .ok (.goto (-24), 3) := by decide +kernel
theorem dX6_sums_80 : decode cX6_sums 80 = .ok (.lload_n 1, 1) := by decide +kernel
theorem dX6_sums_81 : decode cX6_sums 81 = .ok (.lstore 5, 2) := by decide +kernel
theorem dX6_sums_83 : decode cX6_sums 83 = .ok (.lload 5, 2) := by decide +kernel
theorem dX6_sums_85 : decode cX6_sums 85 = .ok (.lconst 0, 1) := by decide +kernel
theorem dX6_sums_86 : decode cX6_sums 86 = .ok (.lcmp, 1) := by decide +kernel
theorem dX6_sums_87 : decode cX6_sums 87 = .ok (.ifCond .le 68, 3) := by decide +kernel
theorem dX6_sums_90 : decode cX6_sums 90 = .ok (.lload 5, 2) := by decide +kernel
theorem dX6_sums_92 : decode cX6_sums 92 = .ok (.lconst 1, 1) := by decide +kernel
theorem dX6_sums_93 : decode cX6_sums 93 = .ok (.land, 1) := by decide +kernel
theorem dX6_sums_94 : decode cX6_sums 94 = .ok (.lconst 1, 1) := by decide +kernel
theorem dX6_sums_95 : decode cX6_sums 95 = .ok (.lcmp, 1) := by decide +kernel
theorem dX6_sums_96 : decode cX6_sums 96 = .ok (.ifCond .ne 23, 3) := by decide +kernel
theorem dX6_sums_99 : decode cX6_sums 99 = .ok (.aload_n 0, 1) := by decide +kernel
theorem dX6_sums_100 : decode cX6_sums 100 = .ok (.aload_n 0, 1) := by decide +kernel
theorem dX6_sums_101 : decode cX6_sums 101 = .ok (.getfield 90, 3) := by decide +kernel
theorem dX6_sums_104 : decode cX6_sums 104 = .ok (.iconst 0, 1) := by decide +kernel
theorem dX6_sums_105 : decode cX6_sums 105 = .ok (.aload_n 0, 1) := by decide +kernel
theorem dX6_sums_106 : decode cX6_sums 106 = .ok (.getfield 93, 3) := by decide +kernel
theorem dX6_sums_109 : decode cX6_sums 109 = .ok (.iconst 0, 1) := by decide +kernel
theorem dX6_sums_110 : decode cX6_sums 110 = .ok (.aload_n 0, 1) := by decide +kernel
theorem dX6_sums_111 : decode cX6_sums 111 = .ok (.getfield 90, 3) := by decide +kernel
theorem dX6_sums_114 : decode cX6_sums 114 = .ok (.iconst 0, 1) := by decide +kernel
theorem dX6_sums_115 : decode cX6_sums 115 = .ok (.iconst 0, 1) := by decide +kernel
theorem dX6_sums_116 : decode cX6_sums 116 = .ok (.invokevirtual 246, 3) := by decide +kernel
theorem dX6_sums_119 : decode cX6_sums 119 = .ok (.lload 5, 2) := by decide +kernel
theorem dX6_sums_121 : decode cX6_sums 121 = .ok (.lconst 1, 1) := by decide +kernel
theorem dX6_sums_122 : decode cX6_sums 122 = .ok (.lcmp, 1) := by decide +kernel
theorem dX6_sums_123 : decode cX6_sums 123 = .ok (.ifCond .le 23, 3) := by decide +kernel
theorem dX6_sums_126 : decode cX6_sums 126 = .ok (.aload_n 0, 1) := by decide +kernel
theorem dX6_sums_127 : decode cX6_sums 127 = .ok (.aload_n 0, 1) := by decide +kernel
theorem dX6_sums_128 : decode cX6_sums 128 = .ok (.getfield 93, 3) := by decide +kernel
theorem dX6_sums_131 : decode cX6_sums 131 = .ok (.iconst 0, 1) := by decide +kernel
theorem dX6_sums_132 : decode cX6_sums 132 = .ok (.aload_n 0, 1) := by decide +kernel
theorem dX6_sums_133 : decode cX6_sums 133 = .ok (.getfield 93, 3) := by decide +kernel
theorem dX6_sums_136 : decode cX6_sums 136 = .ok (.iconst 0, 1) := by decide +kernel
theorem dX6_sums_137 : decode cX6_sums 137 = .ok (.aload_n 0, 1) := by decide +kernel
theorem dX6_sums_138 : decode cX6_sums 138 = .ok (.getfield 93, 3) := by decide +kernel
theorem dX6_sums_141 : decode cX6_sums 141 = .ok (.iconst 0, 1) := by decide +kernel
theorem dX6_sums_142 : decode cX6_sums 142 = .ok (.iconst 0, 1) := by decide +kernel
theorem dX6_sums_143 : decode cX6_sums 143 = .ok (.invokevirtual 246, 3) := by decide +kernel
theorem dX6_sums_146 : decode cX6_sums 146 = .ok (.lload 5, 2) := by decide +kernel
theorem dX6_sums_148 : decode cX6_sums 148 = .ok (.iconst 1, 1) := by decide +kernel
theorem dX6_sums_149 : decode cX6_sums 149 = .ok (.lshr, 1) := by decide +kernel
theorem dX6_sums_150 : decode cX6_sums 150 = .ok (.lstore 5, 2) := by decide +kernel
theorem dX6_sums_152 : decode cX6_sums 152 = .ok (.goto (-69), 3) := by decide +kernel
theorem dX6_sums_155 : decode cX6_sums 155 = .ok (.aload_n 0, 1) := by decide +kernel
theorem dX6_sums_156 : decode cX6_sums 156 = .ok (.getfield 90, 3) := by decide +kernel
theorem dX6_sums_159 : decode cX6_sums 159 = .ok (.bipush 10, 2) := by decide +kernel
theorem dX6_sums_161 : decode cX6_sums 161 = .ok (.iload_n 3, 1) := by decide +kernel
theorem dX6_sums_162 : decode cX6_sums 162 = .ok (.imul, 1) := by decide +kernel
theorem dX6_sums_163 : decode cX6_sums 163 = .ok (.iload 4, 2) := by decide +kernel
theorem dX6_sums_165 : decode cX6_sums 165 = .ok (.iadd, 1) := by decide +kernel
theorem dX6_sums_166 : decode cX6_sums 166 = .ok (.laload, 1) := by decide +kernel
theorem dX6_sums_167 : decode cX6_sums 167 = .ok (.ldc2_w 115, 3) := by decide +kernel
theorem dX6_sums_170 : decode cX6_sums 170 = .ok (.lcmp, 1) := by decide +kernel
theorem dX6_sums_171 : decode cX6_sums 171 = .ok (.ifCond .ne 13, 3) := by decide +kernel
theorem dX6_sums_174 : decode cX6_sums 174 = .ok (.aload_n 0, 1) := by decide +kernel
theorem dX6_sums_175 : decode cX6_sums 175 = .ok (.bipush 8, 2) := by decide +kernel
theorem dX6_sums_177 : decode cX6_sums 177 = .ok (.invokevirtual 151, 3) := by decide +kernel
theorem dX6_sums_180 : decode cX6_sums 180 = .ok (.i2l, 1) := by decide +kernel
theorem dX6_sums_181 : decode cX6_sums 181 = .ok (.goto 15, 3) := by decide +kernel
theorem dX6_sums_184 : decode cX6_sums 184 = .ok (.aload_n 0, 1) := by decide +kernel
theorem dX6_sums_185 : decode cX6_sums 185 = .ok (.getfield 90, 3) := by decide +kernel
theorem dX6_sums_188 : decode cX6_sums 188 = .ok (.bipush 10, 2) := by decide +kernel
theorem dX6_sums_190 : decode cX6_sums 190 = .ok (.iload_n 3, 1) := by decide +kernel
theorem dX6_sums_191 : decode cX6_sums 191 = .ok (.imul, 1) := by decide +kernel
theorem dX6_sums_192 : decode cX6_sums 192 = .ok (.iload 4, 2) := by decide +kernel
theorem dX6_sums_194 : decode cX6_sums 194 = .ok (.iadd, 1) := by decide +kernel
theorem dX6_sums_195 : decode cX6_sums 195 = .ok (.laload, 1) := by decide +kernel
theorem dX6_sums_196 : decode cX6_sums 196 = .ok (.lreturn, 1) := by decide +kernel
theorem dX6_longest_0 : decode cX6_longest 0 = .ok (.aload_n 0, 1) := by decide +kernel
theorem dX6_longest_1 : decode cX6_longest 1 = .ok (.iconst 0, 1) := by decide +kernel
theorem dX6_longest_2 : decode cX6_longest 2 = .ok (.putfield 117, 3) := by decide +kernel
theorem dX6_longest_5 : decode cX6_longest 5 = .ok (.aload_n 0, 1) := by decide +kernel
theorem dX6_longest_6 : decode cX6_longest 6 = .ok (.iconst 0, 1) := by decide +kernel
theorem dX6_longest_7 : decode cX6_longest 7 = .ok (.putfield 120, 3) := by decide +kernel
theorem dX6_longest_10 : decode cX6_longest 10 = .ok (.aload_n 0, 1) := by decide +kernel
theorem dX6_longest_11 : decode cX6_longest 11 = .ok (.iload_n 1, 1) := by decide +kernel
theorem dX6_longest_12 : decode cX6_longest 12 = .ok (.iload_n 2, 1) := by decide +kernel
theorem dX6_longest_13 : decode cX6_longest 13 = .ok (.invokevirtual 233, 3) := by decide +kernel
theorem dX6_longest_16 : decode cX6_longest 16 = .ok (.ifCond .ne 10, 3) := by decide +kernel
theorem dX6_longest_19 : decode cX6_longest 19 = .ok (.aload_n 0, 1) := by decide +kernel
theorem dX6_longest_20 : decode cX6_longest 20 = .ok (.iconst 2, 1) := by decide +kernel
theorem dX6_longest_21 : decode cX6_longest 21 = .ok (.invokevirtual 151, 3) := by decide +kernel
theorem dX6_longest_24 : decode cX6_longest 24 = .ok (.i2l, 1) := by decide +kernel
theorem dX6_longest_25 : decode cX6_longest 25 = .ok (.lreturn, 1) := by decide +kernel
theorem dX6_longest_26 : decode cX6_longest 26 = .ok (.aload_n 0, 1) := by decide +kernel
theorem dX6_longest_27 : decode cX6_longest 27 = .ok (.aload_n 0, 1) := by decide +kernel
theorem dX6_longest_28 : decode cX6_longest 28 = .ok (.getfield 230, 3) := by decide +kernel
theorem dX6_longest_31 : decode cX6_longest 31 = .ok (.iconst 0, 1) := by decide +kernel
theorem dX6_longest_32 : decode cX6_longest 32 = .ok (.invokevirtual 254, 3) := by decide +kernel
theorem dX6_longest_35 : decode cX6_longest 35 = .ok (.ldc2_w 115, 3) := by decide +kernel
theorem dX6_longest_38 : decode cX6_longest 38 = .ok (.lstore_n 3, 1) := by decide +kernel
theorem dX6_longest_39 : decode cX6_longest 39 = .ok (.iconst 0, 1) := by decide +kernel
theorem dX6_longest_40 : decode cX6_longest 40 = .ok (.istore 5, 2) := by decide +kernel
theorem dX6_longest_42 : decode cX6_longest 42 = .ok (.iconst 0, 1) := by decide +kernel
theorem dX6_longest_43 : decode cX6_longest 43 = .ok (.istore 6, 2) := by decide +kernel
theorem dX6_longest_45 : decode cX6_longest 45 = .ok (.iload 6, 2) := by decide +kernel
theorem dX6_longest_47 : decode cX6_longest 47 = .ok (.aload_n 0, 1) := by decide +kernel
theorem dX6_longest_48 : decode cX6_longest 48 = .ok (.getfield 230, 3) := by decide +kernel
theorem dX6_longest_51 : decode cX6_longest 51 = .ok (.if_icmp .gt 87, 3) := by decide +kernel
theorem dX6_longest_54 : decode cX6_longest 54 = .ok (.lload_n 3, 1) := by decide +kernel
theorem dX6_longest_55 : decode cX6_longest 55 = .ok (.aload_n 0, 1) := by decide +kernel
theorem dX6_longest_56 : decode cX6_longest 56 = .ok (.getfield 99, 3) := by decide +kernel
theorem dX6_longest_59 : decode cX6_longest 59 = .ok (.bipush 100, 2) := by decide +kernel
theorem dX6_longest_61 : decode cX6_longest 61 = .ok (.iload 6, 2) := by decide +kernel
theorem dX6_longest_63 : decode cX6_longest 63 = .ok (.imul, 1) := by decide +kernel
theorem dX6_longest_64 : decode cX6_longest 64 = .ok (.bipush 10, 2) := by decide +kernel
theorem dX6_longest_66 : decode cX6_longest 66 = .ok (.iload_n 1, 1) := by decide +kernel
theorem dX6_longest_67 : decode cX6_longest 67 = .ok (.imul, 1) := by decide +kernel
theorem dX6_longest_68 : decode cX6_longest 68 = .ok (.iadd, 1) := by decide +kernel
theorem dX6_longest_69 : decode cX6_longest 69 = .ok (.iload_n 2, 1) := by decide +kernel
theorem dX6_longest_70 : decode cX6_longest 70 = .ok (.iadd, 1) := by decide +kernel
theorem dX6_longest_71 : decode cX6_longest 71 = .ok (.laload, 1) := by decide +kernel
theorem dX6_longest_72 : decode cX6_longest 72 = .ok (.invokestatic 239, 3) := by decide +kernel
theorem dX6_longest_75 : decode cX6_longest 75 = .ok (.lstore_n 3, 1) := by decide +kernel
theorem dX6_longest_76 : decode cX6_longest 76 = .ok (.iconst 0, 1) := by decide +kernel
theorem dX6_longest_77 : decode cX6_longest 77 = .ok (.istore 7, 2) := by decide +kernel
theorem dX6_longest_79 : decode cX6_longest 79 = .ok (.iload 7, 2) := by decide +kernel
theorem dX6_longest_81 : decode cX6_longest 81 = .ok (.aload_n 0, 1) := by decide +kernel
theorem dX6_longest_82 : decode cX6_longest 82 = .ok (.getfield 230, 3) := by decide +kernel
theorem dX6_longest_85 : decode cX6_longest 85 = .ok (.if_icmp .ge 47, 3) := by decide +kernel
theorem dX6_longest_88 : decode cX6_longest 88 = .ok (.iload 5, 2) := by decide +kernel
theorem dX6_longest_90 : decode cX6_longest 90 = .ok (.ifCond .ne 29, 3) := by decide +kernel
theorem dX6_longest_93 : decode cX6_longest 93 = .ok (.iload 6, 2) := by decide +kernel
theorem dX6_longest_95 : decode cX6_longest 95 = .ok (.ifCond .le 28, 3) := by decide +kernel
theorem dX6_longest_98 : decode cX6_longest 98 = .ok (.aload_n 0, 1) := by decide +kernel
theorem dX6_longest_99 : decode cX6_longest 99 = .ok (.getfield 99, 3) := by decide +kernel
theorem dX6_longest_102 : decode cX6_longest 102 = .ok (.bipush 100, 2) := by decide +kernel
theorem dX6_longest_104 : decode cX6_longest 104 = .ok (.iload 6, 2) := by decide +kernel
theorem dX6_longest_106 : decode cX6_longest 106 = .ok (.imul, 1) := by decide +kernel
theorem dX6_longest_107 : decode cX6_longest 107 = .ok (.bipush 11, 2) := by decide +kernel
theorem dX6_longest_109 : decode cX6_longest 109 = .ok (.iload 7, 2) := by decide +kernel
theorem dX6_longest_111 : decode cX6_longest 111 = .ok (.imul, 1) := by decide +kernel
theorem dX6_longest_112 : decode cX6_longest 112 = .ok (.iadd, 1) := by decide +kernel
theorem dX6_longest_113 : decode cX6_longest 113 = .ok (.laload, 1) := by decide +kernel
theorem dX6_longest_114 : decode cX6_longest 114 = .ok (.lconst 0, 1) := by decide +kernel
theorem dX6_longest_115 : decode cX6_longest 115 = .ok (.lcmp, 1) := by decide +kernel
theorem dX6_longest_116 : decode cX6_longest 116 = .ok (.ifCond .le 7, 3) := by decide +kernel
theorem dX6_longest_119 : decode cX6_longest 119 = .ok (.iconst 1, 1) := by decide +kernel
theorem dX6_longest_120 : decode cX6_longest 120 = .ok (.goto 4, 3) := by decide +kernel
theorem dX6_longest_123 : decode cX6_longest 123 = .ok (.iconst 0, 1) := by decide +kernel
theorem dX6_longest_124 : decode cX6_longest 124 = .ok (.istore 5, 2) := by decide +kernel
theorem dX6_longest_126 : decode cX6_longest 126 = .ok (.iinc 7 1, 3) := by decide +kernel
theorem dX6_longest_129 : decode cX6_longest 129 = .ok (.goto (-50), 3) := by decide +kernel
theorem dX6_longest_132 : decode cX6_longest 132 = .ok (.iinc 6 1, 3) := by decide +kernel
theorem dX6_longest_135 : decode cX6_longest 135 = .ok (.goto (-90), 3) := by decide +kernel
theorem dX6_longest_138 : decode cX6_longest 138 = .ok (.lload_n 3, 1) := by decide +kernel
theorem dX6_longest_139 : decode cX6_longest 139 = .ok (.ldc2_w 115, 3) := by decide +kernel
theorem dX6_longest_142 : decode cX6_longest 142 = .ok (.lcmp, 1) := by decide +kernel
theorem dX6_longest_143 : decode cX6_longest 143 = .ok (.ifCond .ne 13, 3) := by decide +kernel
theorem dX6_longest_146 : decode cX6_longest 146 = .ok (.aload_n 0, 1) := by decide +kernel
theorem dX6_longest_147 : decode cX6_longest 147 = .ok (.bipush 8, 2) := by decide +kernel
theorem dX6_longest_149 : decode cX6_longest 149 = .ok (.invokevirtual 151, 3) := by decide +kernel
theorem dX6_longest_152 : decode cX6_longest 152 = .ok (.i2l, 1) := by decide +kernel
theorem dX6_longest_153 : decode cX6_longest 153 = .ok (.goto 19, 3) := by decide +kernel
theorem dX6_longest_156 : decode cX6_longest 156 = .ok (.iload 5, 2) := by decide +kernel
theorem dX6_longest_158 : decode cX6_longest 158 = .ok (.ifCond .eq 13, 3) := by decide +kernel
theorem dX6_longest_161 : decode cX6_longest 161 = .ok (.aload_n 0, 1) := by decide +kernel
theorem dX6_longest_162 : decode cX6_longest 162 = .ok (.bipush 9, 2) := by decide +kernel
theorem dX6_longest_164 : decode cX6_longest 164 = .ok (.invokevirtual 151, 3) := by decide +kernel
theorem dX6_longest_167 : decode cX6_longest 167 = .ok (.i2l, 1) := by decide +kernel
theorem dX6_longest_168 : decode cX6_longest 168 = .ok (.goto 4, 3) := by decide +kernel
theorem dX6_longest_171 : decode cX6_longest 171 = .ok (.lload_n 3, 1) := by decide +kernel
theorem dX6_longest_172 : decode cX6_longest 172 = .ok (.lreturn, 1) := by decide +kernel
theorem dX6_again_0 : decode cX6_again 0 = .ok (.aload_n 0, 1) := by decide +kernel
theorem dX6_again_1 : decode cX6_again 1 = .ok (.iconst 0, 1) := by decide +kernel
theorem dX6_again_2 : decode cX6_again 2 = .ok (.putfield 117, 3) := by decide +kernel
theorem dX6_again_5 : decode cX6_again 5 = .ok (.aload_n 0, 1) := by decide +kernel
theorem dX6_again_6 : decode cX6_again 6 = .ok (.iconst 0, 1) := by decide +kernel
theorem dX6_again_7 : decode cX6_again 7 = .ok (.putfield 120, 3) := by decide +kernel
theorem dX6_again_10 : decode cX6_again 10 = .ok (.iload_n 1, 1) := by decide +kernel
theorem dX6_again_11 : decode cX6_again 11 = .ok (.ifCond .lt 8, 3) := by decide +kernel
theorem dX6_again_14 : decode cX6_again 14 = .ok (.iload_n 1, 1) := by decide +kernel
theorem dX6_again_15 : decode cX6_again 15 = .ok (.iconst 1, 1) := by decide +kernel
theorem dX6_again_16 : decode cX6_again 16 = .ok (.if_icmp .le 9, 3) := by decide +kernel
theorem dX6_again_19 : decode cX6_again 19 = .ok (.aload_n 0, 1) := by decide +kernel
theorem dX6_again_20 : decode cX6_again 20 = .ok (.iconst 2, 1) := by decide +kernel
theorem dX6_again_21 : decode cX6_again 21 = .ok (.invokevirtual 151, 3) := by decide +kernel
theorem dX6_again_24 : decode cX6_again 24 = .ok (.ireturn, 1) := by decide +kernel
theorem dX6_again_25 : decode cX6_again 25 = .ok (.aload_n 0, 1) := by decide +kernel
theorem dX6_again_26 : decode cX6_again 26 = .ok (.invokevirtual 268, 3) := by decide +kernel
theorem dX6_again_29 : decode cX6_again 29 = .ok (.ifCond .ne 10, 3) := by decide +kernel
theorem dX6_again_32 : decode cX6_again 32 = .ok (.aload_n 0, 1) := by decide +kernel
theorem dX6_again_33 : decode cX6_again 33 = .ok (.bipush 8, 2) := by decide +kernel
theorem dX6_again_35 : decode cX6_again 35 = .ok (.invokevirtual 151, 3) := by decide +kernel
theorem dX6_again_38 : decode cX6_again 38 = .ok (.ireturn, 1) := by decide +kernel
theorem dX6_again_39 : decode cX6_again 39 = .ok (.aload_n 0, 1) := by decide +kernel
theorem dX6_again_40 : decode cX6_again 40 = .ok (.sipush 200, 3) := by decide +kernel
theorem dX6_again_43 : decode cX6_again 43 = .ok (.iconst 0, 1) := by decide +kernel
theorem dX6_again_44 : decode cX6_again 44 = .ok (.invokevirtual 254, 3) := by decide +kernel
theorem dX6_again_47 : decode cX6_again 47 = .ok (.iconst 0, 1) := by decide +kernel
theorem dX6_again_48 : decode cX6_again 48 = .ok (.istore_n 2, 1) := by decide +kernel
theorem dX6_again_49 : decode cX6_again 49 = .ok (.iload_n 2, 1) := by decide +kernel
theorem dX6_again_50 : decode cX6_again 50 = .ok (.sipush 200, 3) := by decide +kernel
theorem dX6_again_53 : decode cX6_again 53 = .ok (.if_icmp .ge 45, 3) := by decide +kernel
theorem dX6_again_56 : decode cX6_again 56 = .ok (.iconst 1, 1) := by decide +kernel
theorem dX6_again_57 : decode cX6_again 57 = .ok (.istore_n 3, 1) := by decide +kernel
theorem dX6_again_58 : decode cX6_again 58 = .ok (.iload_n 2, 1) := by decide +kernel
theorem dX6_again_59 : decode cX6_again 59 = .ok (.iload_n 3, 1) := by decide +kernel
theorem dX6_again_60 : decode cX6_again 60 = .ok (.iadd, 1) := by decide +kernel
theorem dX6_again_61 : decode cX6_again 61 = .ok (.sipush 200, 3) := by decide +kernel
theorem dX6_again_64 : decode cX6_again 64 = .ok (.if_icmp .gt 28, 3) := by decide +kernel
theorem dX6_again_67 : decode cX6_again 67 = .ok (.aload_n 0, 1) := by decide +kernel
theorem dX6_again_68 : decode cX6_again 68 = .ok (.iload_n 2, 1) := by decide +kernel
theorem dX6_again_69 : decode cX6_again 69 = .ok (.iload_n 3, 1) := by decide +kernel
theorem dX6_again_70 : decode cX6_again 70 = .ok (.invokevirtual 284, 3) := by decide +kernel
theorem dX6_again_73 : decode cX6_again 73 = .ok (.ifCond .eq 13, 3) := by decide +kernel
theorem dX6_again_76 : decode cX6_again 76 = .ok (.iload_n 1, 1) := by decide +kernel
theorem dX6_again_77 : decode cX6_again 77 = .ok (.ifCond .ne 7, 3) := by decide +kernel
theorem dX6_again_80 : decode cX6_again 80 = .ok (.iload_n 2, 1) := by decide +kernel
theorem dX6_again_81 : decode cX6_again 81 = .ok (.goto 4, 3) := by decide +kernel
theorem dX6_again_84 : decode cX6_again 84 = .ok (.iload_n 3, 1) := by decide +kernel
theorem dX6_again_85 : decode cX6_again 85 = .ok (.ireturn, 1) := by decide +kernel
theorem dX6_again_86 : decode cX6_again 86 = .ok (.iinc 3 1, 3) := by decide +kernel
theorem dX6_again_89 : decode cX6_again 89 = .ok (.goto (-31), 3) := by decide +kernel
theorem dX6_again_92 : decode cX6_again 92 = .ok (.iinc 2 1, 3) := by decide +kernel
theorem dX6_again_95 : decode cX6_again 95 = .ok (.goto (-46), 3) := by decide +kernel
theorem dX6_again_98 : decode cX6_again 98 = .ok (.aload_n 0, 1) := by decide +kernel
theorem dX6_again_99 : decode cX6_again 99 = .ok (.bipush 10, 2) := by decide +kernel
theorem dX6_again_101 : decode cX6_again 101 = .ok (.invokevirtual 151, 3) := by decide +kernel
theorem dX6_again_104 : decode cX6_again 104 = .ok (.ireturn, 1) := by decide +kernel
theorem dX6_isAgain_0 : decode cX6_isAgain 0 = .ok (.iload_n 2, 1) := by decide +kernel
theorem dX6_isAgain_1 : decode cX6_isAgain 1 = .ok (.i2l, 1) := by decide +kernel
theorem dX6_isAgain_2 : decode cX6_isAgain 2 = .ok (.aload_n 0, 1) := by decide +kernel
theorem dX6_isAgain_3 : decode cX6_isAgain 3 = .ok (.getfield 262, 3) := by decide +kernel
theorem dX6_isAgain_6 : decode cX6_isAgain 6 = .ok (.lmul, 1) := by decide +kernel
theorem dX6_isAgain_7 : decode cX6_isAgain 7 = .ok (.aload_n 0, 1) := by decide +kernel
theorem dX6_isAgain_8 : decode cX6_isAgain 8 = .ok (.getfield 258, 3) := by decide +kernel
theorem dX6_isAgain_11 : decode cX6_isAgain 11 = .ok (.lrem, 1) := by decide +kernel
theorem dX6_isAgain_12 : decode cX6_isAgain 12 = .ok (.lconst 0, 1) := by decide +kernel
theorem dX6_isAgain_13 : decode cX6_isAgain 13 = .ok (.lcmp, 1) := by decide +kernel
theorem dX6_isAgain_14 : decode cX6_isAgain 14 = .ok (.ifCond .eq 5, 3) := by decide +kernel
theorem dX6_isAgain_17 : decode cX6_isAgain 17 = .ok (.iconst 0, 1) := by decide +kernel
theorem dX6_isAgain_18 : decode cX6_isAgain 18 = .ok (.ireturn, 1) := by decide +kernel
theorem dX6_isAgain_19 : decode cX6_isAgain 19 = .ok (.iload_n 2, 1) := by decide +kernel
theorem dX6_isAgain_20 : decode cX6_isAgain 20 = .ok (.i2l, 1) := by decide +kernel
theorem dX6_isAgain_21 : decode cX6_isAgain 21 = .ok (.aload_n 0, 1) := by decide +kernel
theorem dX6_isAgain_22 : decode cX6_isAgain 22 = .ok (.getfield 262, 3) := by decide +kernel
theorem dX6_isAgain_25 : decode cX6_isAgain 25 = .ok (.lmul, 1) := by decide +kernel
theorem dX6_isAgain_26 : decode cX6_isAgain 26 = .ok (.aload_n 0, 1) := by decide +kernel
theorem dX6_isAgain_27 : decode cX6_isAgain 27 = .ok (.getfield 258, 3) := by decide +kernel
theorem dX6_isAgain_30 : decode cX6_isAgain 30 = .ok (.ldiv, 1) := by decide +kernel
theorem dX6_isAgain_31 : decode cX6_isAgain 31 = .ok (.lstore_n 3, 1) := by decide +kernel
theorem dX6_isAgain_32 : decode cX6_isAgain 32 = .ok (.iconst 0, 1) := by decide +kernel
theorem dX6_isAgain_33 : decode cX6_isAgain 33 = .ok (.istore 5, 2) := by decide +kernel
theorem dX6_isAgain_35 : decode cX6_isAgain 35 = .ok (.iload 5, 2) := by decide +kernel
theorem dX6_isAgain_37 : decode cX6_isAgain 37 = .ok (.aload_n 0, 1) := by decide +kernel
theorem dX6_isAgain_38 : decode cX6_isAgain 38 = .ok (.getfield 230, 3) := by decide +kernel
theorem dX6_isAgain_41 : decode cX6_isAgain 41 = .ok (.if_icmp .ge 102, 3) := by decide +kernel
theorem dX6_isAgain_44 : decode cX6_isAgain 44 = .ok (.iconst 0, 1) := by decide +kernel
theorem dX6_isAgain_45 : decode cX6_isAgain 45 = .ok (.istore 6, 2) := by decide +kernel
theorem dX6_isAgain_47 : decode cX6_isAgain 47 = .ok (.iload 6, 2) := by decide +kernel
theorem dX6_isAgain_49 : decode cX6_isAgain 49 = .ok (.aload_n 0, 1) := by decide +kernel
theorem dX6_isAgain_50 : decode cX6_isAgain 50 = .ok (.getfield 230, 3) := by decide +kernel
theorem dX6_isAgain_53 : decode cX6_isAgain 53 = .ok (.if_icmp .ge 84, 3) := by decide +kernel
theorem dX6_isAgain_56 : decode cX6_isAgain 56 = .ok (.aload_n 0, 1) := by decide +kernel
theorem dX6_isAgain_57 : decode cX6_isAgain 57 = .ok (.getfield 99, 3) := by decide +kernel
theorem dX6_isAgain_60 : decode cX6_isAgain 60 = .ok (.bipush 100, 2) := by decide +kernel
theorem dX6_isAgain_62 : decode cX6_isAgain 62 = .ok (.iload_n 1, 1) := by decide +kernel
theorem dX6_isAgain_63 : decode cX6_isAgain 63 = .ok (.imul, 1) := by decide +kernel
theorem dX6_isAgain_64 : decode cX6_isAgain 64 = .ok (.bipush 10, 2) := by decide +kernel
theorem dX6_isAgain_66 : decode cX6_isAgain 66 = .ok (.iload 5, 2) := by decide +kernel
theorem dX6_isAgain_68 : decode cX6_isAgain 68 = .ok (.imul, 1) := by decide +kernel
theorem dX6_isAgain_69 : decode cX6_isAgain 69 = .ok (.iadd, 1) := by decide +kernel
theorem dX6_isAgain_70 : decode cX6_isAgain 70 = .ok (.iload 6, 2) := by decide +kernel
theorem dX6_isAgain_72 : decode cX6_isAgain 72 = .ok (.iadd, 1) := by decide +kernel
theorem dX6_isAgain_73 : decode cX6_isAgain 73 = .ok (.laload, 1) := by decide +kernel
theorem dX6_isAgain_74 : decode cX6_isAgain 74 = .ok (.lstore 7, 2) := by decide +kernel
theorem dX6_isAgain_76 : decode cX6_isAgain 76 = .ok (.aload_n 0, 1) := by decide +kernel
theorem dX6_isAgain_77 : decode cX6_isAgain 77 = .ok (.getfield 99, 3) := by decide +kernel
theorem dX6_isAgain_80 : decode cX6_isAgain 80 = .ok (.bipush 100, 2) := by decide +kernel
theorem dX6_isAgain_82 : decode cX6_isAgain 82 = .ok (.iload_n 1, 1) := by decide +kernel
theorem dX6_isAgain_83 : decode cX6_isAgain 83 = .ok (.iload_n 2, 1) := by decide +kernel
theorem dX6_isAgain_84 : decode cX6_isAgain 84 = .ok (.iadd, 1) := by decide +kernel
theorem dX6_isAgain_85 : decode cX6_isAgain 85 = .ok (.imul, 1) := by decide +kernel
theorem dX6_isAgain_86 : decode cX6_isAgain 86 = .ok (.bipush 10, 2) := by decide +kernel
theorem dX6_isAgain_88 : decode cX6_isAgain 88 = .ok (.iload 5, 2) := by decide +kernel
theorem dX6_isAgain_90 : decode cX6_isAgain 90 = .ok (.imul, 1) := by decide +kernel
theorem dX6_isAgain_91 : decode cX6_isAgain 91 = .ok (.iadd, 1) := by decide +kernel
theorem dX6_isAgain_92 : decode cX6_isAgain 92 = .ok (.iload 6, 2) := by decide +kernel
theorem dX6_isAgain_94 : decode cX6_isAgain 94 = .ok (.iadd, 1) := by decide +kernel
theorem dX6_isAgain_95 : decode cX6_isAgain 95 = .ok (.laload, 1) := by decide +kernel
theorem dX6_isAgain_96 : decode cX6_isAgain 96 = .ok (.lstore 9, 2) := by decide +kernel
theorem dX6_isAgain_98 : decode cX6_isAgain 98 = .ok (.lload 7, 2) := by decide +kernel
theorem dX6_isAgain_100 : decode cX6_isAgain 100 = .ok (.ldc2_w 115, 3) := by decide +kernel
theorem dX6_isAgain_103 : decode cX6_isAgain 103 = .ok (.lcmp, 1) := by decide +kernel
theorem dX6_isAgain_104 : decode cX6_isAgain 104 = .ok (.ifCond .ne 15, 3) := by decide +kernel
theorem dX6_isAgain_107 : decode cX6_isAgain 107 = .ok (.lload 9, 2) := by decide +kernel
theorem dX6_isAgain_109 : decode cX6_isAgain 109 = .ok (.ldc2_w 115, 3) := by decide +kernel
theorem dX6_isAgain_112 : decode cX6_isAgain 112 = .ok (.lcmp, 1) := by decide +kernel
theorem dX6_isAgain_113 : decode cX6_isAgain 113 = .ok (.ifCond .eq 18, 3) := by decide +kernel
theorem dX6_isAgain_116 : decode cX6_isAgain 116 = .ok (.goto 13, 3) := by decide +kernel
theorem dX6_isAgain_119 : decode cX6_isAgain 119 = .ok (.lload 9, 2) := by decide +kernel
theorem dX6_isAgain_121 : decode cX6_isAgain 121 = .ok (.lload 7, 2) := by decide +kernel
theorem dX6_isAgain_123 : decode cX6_isAgain 123 = .ok (.lload_n 3, 1) := by decide +kernel
theorem dX6_isAgain_124 : decode cX6_isAgain 124 = .ok (.ladd, 1) := by decide +kernel
theorem dX6_isAgain_125 : decode cX6_isAgain 125 = .ok (.lcmp, 1) := by decide +kernel
theorem dX6_isAgain_126 : decode cX6_isAgain 126 = .ok (.ifCond .eq 5, 3) := by decide +kernel
theorem dX6_isAgain_129 : decode cX6_isAgain 129 = .ok (.iconst 0, 1) := by decide +kernel
theorem dX6_isAgain_130 : decode cX6_isAgain 130 = .ok (.ireturn, 1) := by decide +kernel
theorem dX6_isAgain_131 : decode cX6_isAgain 131 = .ok (.iinc 6 1, 3) := by decide +kernel
theorem dX6_isAgain_134 : decode cX6_isAgain 134 = .ok (.goto (-87), 3) := by decide +kernel
theorem dX6_isAgain_137 : decode cX6_isAgain 137 = .ok (.iinc 5 1, 3) := by decide +kernel
theorem dX6_isAgain_140 : decode cX6_isAgain 140 = .ok (.goto (-105), 3) := by decide +kernel
theorem dX6_isAgain_143 : decode cX6_isAgain 143 = .ok (.iconst 1, 1) := by decide +kernel
theorem dX6_isAgain_144 : decode cX6_isAgain 144 = .ok (.ireturn, 1) := by decide +kernel
theorem dX6_out_0 : decode cX6_out 0 = .ok (.aload_n 0, 1) := by decide +kernel
theorem dX6_out_1 : decode cX6_out 1 = .ok (.iconst 0, 1) := by decide +kernel
theorem dX6_out_2 : decode cX6_out 2 = .ok (.putfield 117, 3) := by decide +kernel
theorem dX6_out_5 : decode cX6_out 5 = .ok (.iload_n 1, 1) := by decide +kernel
theorem dX6_out_6 : decode cX6_out 6 = .ok (.ifCond .lt 11, 3) := by decide +kernel
theorem dX6_out_9 : decode cX6_out 9 = .ok (.iload_n 1, 1) := by decide +kernel
theorem dX6_out_10 : decode cX6_out 10 = .ok (.aload_n 0, 1) := by decide +kernel
theorem dX6_out_11 : decode cX6_out 11 = .ok (.getfield 275, 3) := by decide +kernel
theorem dX6_out_14 : decode cX6_out 14 = .ok (.if_icmp .lt 10, 3) := by decide +kernel
theorem dX6_out_17 : decode cX6_out 17 = .ok (.aload_n 0, 1) := by decide +kernel
theorem dX6_out_18 : decode cX6_out 18 = .ok (.iconst 1, 1) := by decide +kernel
theorem dX6_out_19 : decode cX6_out 19 = .ok (.putfield 117, 3) := by decide +kernel
theorem dX6_out_22 : decode cX6_out 22 = .ok (.iconst 0, 1) := by decide +kernel
theorem dX6_out_23 : decode cX6_out 23 = .ok (.ireturn, 1) := by decide +kernel
theorem dX6_out_24 : decode cX6_out 24 = .ok (.aload_n 0, 1) := by decide +kernel
theorem dX6_out_25 : decode cX6_out 25 = .ok (.getfield 102, 3) := by decide +kernel
theorem dX6_out_28 : decode cX6_out 28 = .ok (.iload_n 1, 1) := by decide +kernel
theorem dX6_out_29 : decode cX6_out 29 = .ok (.baload, 1) := by decide +kernel
theorem dX6_out_30 : decode cX6_out 30 = .ok (.ireturn, 1) := by decide +kernel
