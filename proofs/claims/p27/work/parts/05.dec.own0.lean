theorem dX0_init_0 : decode cX0_init 0 = .ok (.aload_n 0, 1) := by decide +kernel
theorem dX0_init_1 : decode cX0_init 1 = .ok (.invokespecial 3, 3) := by decide +kernel
theorem dX0_init_4 : decode cX0_init 4 = .ok (.aload_n 0, 1) := by decide +kernel
theorem dX0_init_5 : decode cX0_init 5 = .ok (.bipush 12, 2) := by decide +kernel
theorem dX0_init_7 : decode cX0_init 7 = .ok (.putfield 9, 3) := by decide +kernel
theorem dX0_init_10 : decode cX0_init 10 = .ok (.aload_n 0, 1) := by decide +kernel
theorem dX0_init_11 : decode cX0_init 11 = .ok (.iconst 0, 1) := by decide +kernel
theorem dX0_init_12 : decode cX0_init 12 = .ok (.putfield 15, 3) := by decide +kernel
theorem dX0_init_15 : decode cX0_init 15 = .ok (.aload_n 0, 1) := by decide +kernel
theorem dX0_init_16 : decode cX0_init 16 = .ok (.iconst 0, 1) := by decide +kernel
theorem dX0_init_17 : decode cX0_init 17 = .ok (.putfield 18, 3) := by decide +kernel
theorem dX0_init_20 : decode cX0_init 20 = .ok (.aload_n 0, 1) := by decide +kernel
theorem dX0_init_21 : decode cX0_init 21 = .ok (.bipush 24, 2) := by decide +kernel
theorem dX0_init_23 : decode cX0_init 23 = .ok (.newarray .int, 2) := by decide +kernel
theorem dX0_init_25 : decode cX0_init 25 = .ok (.putfield 21, 3) := by decide +kernel
theorem dX0_init_28 : decode cX0_init 28 = .ok (.aload_n 0, 1) := by decide +kernel
theorem dX0_init_29 : decode cX0_init 29 = .ok (.bipush 24, 2) := by decide +kernel
theorem dX0_init_31 : decode cX0_init 31 = .ok (.newarray .int, 2) := by decide +kernel
theorem dX0_init_33 : decode cX0_init 33 = .ok (.putfield 25, 3) := by decide +kernel
theorem dX0_init_36 : decode cX0_init 36 = .ok (.aload_n 0, 1) := by decide +kernel
theorem dX0_init_37 : decode cX0_init 37 = .ok (.bipush 24, 2) := by decide +kernel
theorem dX0_init_39 : decode cX0_init 39 = .ok (.newarray .int, 2) := by decide +kernel
theorem dX0_init_41 : decode cX0_init 41 = .ok (.putfield 28, 3) := by decide +kernel
theorem dX0_init_44 : decode cX0_init 44 = .ok (.aload_n 0, 1) := by decide +kernel
theorem dX0_init_45 : decode cX0_init 45 = .ok (.bipush 24, 2) := by decide +kernel
theorem dX0_init_47 : decode cX0_init 47 = .ok (.newarray .int, 2) := by decide +kernel
theorem dX0_init_49 : decode cX0_init 49 = .ok (.putfield 31, 3) := by decide +kernel
theorem dX0_init_52 : decode cX0_init 52 = .ok (.aload_n 0, 1) := by decide +kernel
theorem dX0_init_53 : decode cX0_init 53 = .ok (.bipush 16, 2) := by decide +kernel
theorem dX0_init_55 : decode cX0_init 55 = .ok (.newarray .int, 2) := by decide +kernel
theorem dX0_init_57 : decode cX0_init 57 = .ok (.putfield 34, 3) := by decide +kernel
theorem dX0_init_60 : decode cX0_init 60 = .ok (.aload_n 0, 1) := by decide +kernel
theorem dX0_init_61 : decode cX0_init 61 = .ok (.iconst 1, 1) := by decide +kernel
theorem dX0_init_62 : decode cX0_init 62 = .ok (.putfield 37, 3) := by decide +kernel
theorem dX0_init_65 : decode cX0_init 65 = .ok (.aload_n 0, 1) := by decide +kernel
theorem dX0_init_66 : decode cX0_init 66 = .ok (.bipush 24, 2) := by decide +kernel
theorem dX0_init_68 : decode cX0_init 68 = .ok (.newarray .int, 2) := by decide +kernel
theorem dX0_init_70 : decode cX0_init 70 = .ok (.putfield 40, 3) := by decide +kernel
theorem dX0_init_73 : decode cX0_init 73 = .ok (.aload_n 0, 1) := by decide +kernel
theorem dX0_init_74 : decode cX0_init 74 = .ok (.bipush 24, 2) := by decide +kernel
theorem dX0_init_76 : decode cX0_init 76 = .ok (.newarray .int, 2) := by decide +kernel
theorem dX0_init_78 : decode cX0_init 78 = .ok (.putfield 43, 3) := by decide +kernel
theorem dX0_init_81 : decode cX0_init 81 = .ok (.aload_n 0, 1) := by decide +kernel
theorem dX0_init_82 : decode cX0_init 82 = .ok (.bipush 24, 2) := by decide +kernel
theorem dX0_init_84 : decode cX0_init 84 = .ok (.newarray .int, 2) := by decide +kernel
theorem dX0_init_86 : decode cX0_init 86 = .ok (.putfield 46, 3) := by decide +kernel
theorem dX0_init_89 : decode cX0_init 89 = .ok (.aload_n 0, 1) := by decide +kernel
theorem dX0_init_90 : decode cX0_init 90 = .ok (.bipush 24, 2) := by decide +kernel
theorem dX0_init_92 : decode cX0_init 92 = .ok (.newarray .int, 2) := by decide +kernel
theorem dX0_init_94 : decode cX0_init 94 = .ok (.putfield 49, 3) := by decide +kernel
theorem dX0_init_97 : decode cX0_init 97 = .ok (.aload_n 0, 1) := by decide +kernel
theorem dX0_init_98 : decode cX0_init 98 = .ok (.bipush 24, 2) := by decide +kernel
theorem dX0_init_100 : decode cX0_init 100 = .ok (.newarray .int, 2) := by decide +kernel
theorem dX0_init_102 : decode cX0_init 102 = .ok (.putfield 52, 3) := by decide +kernel
theorem dX0_init_105 : decode cX0_init 105 = .ok (.aload_n 0, 1) := by decide +kernel
theorem dX0_init_106 : decode cX0_init 106 = .ok (.getfield 34, 3) := by decide +kernel
theorem dX0_init_109 : decode cX0_init 109 = .ok (.iconst 0, 1) := by decide +kernel
theorem dX0_init_110 : decode cX0_init 110 = .ok (.iconst 1, 1) := by decide +kernel
theorem dX0_init_111 : decode cX0_init 111 = .ok (.iastore, 1) := by decide +kernel
theorem dX0_init_112 : decode cX0_init 112 = .ok (.return_, 1) := by decide +kernel
theorem dX0_empty_0 : decode cX0_empty 0 = .ok (.aload_n 0, 1) := by decide +kernel
theorem dX0_empty_1 : decode cX0_empty 1 = .ok (.iload_n 1, 1) := by decide +kernel
theorem dX0_empty_2 : decode cX0_empty 2 = .ok (.putfield 9, 3) := by decide +kernel
theorem dX0_empty_5 : decode cX0_empty 5 = .ok (.aload_n 0, 1) := by decide +kernel
theorem dX0_empty_6 : decode cX0_empty 6 = .ok (.iconst 0, 1) := by decide +kernel
theorem dX0_empty_7 : decode cX0_empty 7 = .ok (.putfield 15, 3) := by decide +kernel
theorem dX0_empty_10 : decode cX0_empty 10 = .ok (.return_, 1) := by decide +kernel
theorem dX0_add_0 : decode cX0_add 0 = .ok (.aload_n 0, 1) := by decide +kernel
theorem dX0_add_1 : decode cX0_add 1 = .ok (.getfield 15, 3) := by decide +kernel
theorem dX0_add_4 : decode cX0_add 4 = .ok (.bipush 24, 2) := by decide +kernel
theorem dX0_add_6 : decode cX0_add 6 = .ok (.if_icmp .lt 5, 3) := by decide +kernel
theorem dX0_add_11 : decode cX0_add 11 = .ok (.aload_n 0, 1) := by decide +kernel
theorem dX0_add_12 : decode cX0_add 12 = .ok (.getfield 21, 3) := by decide +kernel
theorem dX0_add_15 : decode cX0_add 15 = .ok (.aload_n 0, 1) := by decide +kernel
theorem dX0_add_16 : decode cX0_add 16 = .ok (.getfield 15, 3) := by decide +kernel
theorem dX0_add_19 : decode cX0_add 19 = .ok (.iload_n 1, 1) := by decide +kernel
theorem dX0_add_20 : decode cX0_add 20 = .ok (.iastore, 1) := by decide +kernel
theorem dX0_add_21 : decode cX0_add 21 = .ok (.aload_n 0, 1) := by decide +kernel
theorem dX0_add_22 : decode cX0_add 22 = .ok (.getfield 25, 3) := by decide +kernel
theorem dX0_add_25 : decode cX0_add 25 = .ok (.aload_n 0, 1) := by decide +kernel
theorem dX0_add_26 : decode cX0_add 26 = .ok (.getfield 15, 3) := by decide +kernel
theorem dX0_add_29 : decode cX0_add 29 = .ok (.iload_n 2, 1) := by decide +kernel
theorem dX0_add_30 : decode cX0_add 30 = .ok (.iastore, 1) := by decide +kernel
theorem dX0_add_31 : decode cX0_add 31 = .ok (.aload_n 0, 1) := by decide +kernel
theorem dX0_add_32 : decode cX0_add 32 = .ok (.getfield 28, 3) := by decide +kernel
theorem dX0_add_35 : decode cX0_add 35 = .ok (.aload_n 0, 1) := by decide +kernel
theorem dX0_add_36 : decode cX0_add 36 = .ok (.getfield 15, 3) := by decide +kernel
theorem dX0_add_39 : decode cX0_add 39 = .ok (.iconst 0, 1) := by decide +kernel
theorem dX0_add_40 : decode cX0_add 40 = .ok (.iastore, 1) := by decide +kernel
theorem dX0_add_41 : decode cX0_add 41 = .ok (.aload_n 0, 1) := by decide +kernel
theorem dX0_add_42 : decode cX0_add 42 = .ok (.getfield 31, 3) := by decide +kernel
theorem dX0_add_45 : decode cX0_add 45 = .ok (.aload_n 0, 1) := by decide +kernel
theorem dX0_add_46 : decode cX0_add 46 = .ok (.getfield 15, 3) := by decide +kernel
theorem dX0_add_49 : decode cX0_add 49 = .ok (.iconst 0, 1) := by decide +kernel
theorem dX0_add_50 : decode cX0_add 50 = .ok (.iastore, 1) := by decide +kernel
theorem dX0_add_51 : decode cX0_add 51 = .ok (.aload_n 0, 1) := by decide +kernel
theorem dX0_add_52 : decode cX0_add 52 = .ok (.dup, 1) := by decide +kernel
theorem dX0_add_53 : decode cX0_add 53 = .ok (.getfield 15, 3) := by decide +kernel
theorem dX0_add_56 : decode cX0_add 56 = .ok (.iconst 1, 1) := by decide +kernel
theorem dX0_add_57 : decode cX0_add 57 = .ok (.iadd, 1) := by decide +kernel
theorem dX0_add_58 : decode cX0_add 58 = .ok (.putfield 15, 3) := by decide +kernel
theorem dX0_add_61 : decode cX0_add 61 = .ok (.aload_n 0, 1) := by decide +kernel
theorem dX0_add_62 : decode cX0_add 62 = .ok (.getfield 15, 3) := by decide +kernel
theorem dX0_add_65 : decode cX0_add 65 = .ok (.iconst 1, 1) := by decide +kernel
theorem dX0_add_66 : decode cX0_add 66 = .ok (.isub, 1) := by decide +kernel
theorem dX0_add_67 : decode cX0_add 67 = .ok (.ireturn, 1) := by decide +kernel
theorem dX0_has_0 : decode cX0_has 0 = .ok (.iload_n 1, 1) := by decide +kernel
theorem dX0_has_1 : decode cX0_has 1 = .ok (.ifCond .lt 15, 3) := by decide +kernel
theorem dX0_has_4 : decode cX0_has 4 = .ok (.iload_n 1, 1) := by decide +kernel
theorem dX0_has_5 : decode cX0_has 5 = .ok (.aload_n 0, 1) := by decide +kernel
theorem dX0_has_6 : decode cX0_has 6 = .ok (.getfield 15, 3) := by decide +kernel
theorem dX0_has_9 : decode cX0_has 9 = .ok (.if_icmp .ge 7, 3) := by decide +kernel
theorem dX0_has_12 : decode cX0_has 12 = .ok (.iconst 1, 1) := by decide +kernel
theorem dX0_has_13 : decode cX0_has 13 = .ok (.goto 4, 3) := by decide +kernel
theorem dX0_has_16 : decode cX0_has 16 = .ok (.iconst 0, 1) := by decide +kernel
theorem dX0_has_17 : decode cX0_has 17 = .ok (.ireturn, 1) := by decide +kernel
theorem dX0_isPhase_0 : decode cX0_isPhase 0 = .ok (.iload_n 1, 1) := by decide +kernel
theorem dX0_isPhase_1 : decode cX0_isPhase 1 = .ok (.ifCond .lt 15, 3) := by decide +kernel
theorem dX0_isPhase_4 : decode cX0_isPhase 4 = .ok (.iload_n 1, 1) := by decide +kernel
theorem dX0_isPhase_5 : decode cX0_isPhase 5 = .ok (.aload_n 0, 1) := by decide +kernel
theorem dX0_isPhase_6 : decode cX0_isPhase 6 = .ok (.getfield 9, 3) := by decide +kernel
theorem dX0_isPhase_9 : decode cX0_isPhase 9 = .ok (.if_icmp .ge 7, 3) := by decide +kernel
theorem dX0_isPhase_12 : decode cX0_isPhase 12 = .ok (.iconst 1, 1) := by decide +kernel
theorem dX0_isPhase_13 : decode cX0_isPhase 13 = .ok (.goto 4, 3) := by decide +kernel
theorem dX0_isPhase_16 : decode cX0_isPhase 16 = .ok (.iconst 0, 1) := by decide +kernel
theorem dX0_isPhase_17 : decode cX0_isPhase 17 = .ok (.ireturn, 1) := by decide +kernel
theorem dX0_isSet_0 : decode cX0_isSet 0 = .ok (.iload_n 1, 1) := by decide +kernel
theorem dX0_isSet_1 : decode cX0_isSet 1 = .ok (.aload_n 0, 1) := by decide +kernel
theorem dX0_isSet_2 : decode cX0_isSet 2 = .ok (.invokevirtual 55, 3) := by decide +kernel
theorem dX0_isSet_5 : decode cX0_isSet 5 = .ok (.iconst (-1), 1) := by decide +kernel
theorem dX0_isSet_6 : decode cX0_isSet 6 = .ok (.ixor, 1) := by decide +kernel
theorem dX0_isSet_7 : decode cX0_isSet 7 = .ok (.iand, 1) := by decide +kernel
theorem dX0_isSet_8 : decode cX0_isSet 8 = .ok (.ifCond .ne 7, 3) := by decide +kernel
theorem dX0_isSet_11 : decode cX0_isSet 11 = .ok (.iconst 1, 1) := by decide +kernel
theorem dX0_isSet_12 : decode cX0_isSet 12 = .ok (.goto 4, 3) := by decide +kernel
theorem dX0_isSet_15 : decode cX0_isSet 15 = .ok (.iconst 0, 1) := by decide +kernel
theorem dX0_isSet_16 : decode cX0_isSet 16 = .ok (.ireturn, 1) := by decide +kernel
theorem dX0_everyone_0 : decode cX0_everyone 0 = .ok (.iconst 1, 1) := by decide +kernel
theorem dX0_everyone_1 : decode cX0_everyone 1 = .ok (.aload_n 0, 1) := by decide +kernel
theorem dX0_everyone_2 : decode cX0_everyone 2 = .ok (.getfield 15, 3) := by decide +kernel
theorem dX0_everyone_5 : decode cX0_everyone 5 = .ok (.ishl, 1) := by decide +kernel
theorem dX0_everyone_6 : decode cX0_everyone 6 = .ok (.iconst 1, 1) := by decide +kernel
theorem dX0_everyone_7 : decode cX0_everyone 7 = .ok (.isub, 1) := by decide +kernel
theorem dX0_everyone_8 : decode cX0_everyone 8 = .ok (.ireturn, 1) := by decide +kernel
theorem dX0_holds_0 : decode cX0_holds 0 = .ok (.iload_n 0, 1) := by decide +kernel
theorem dX0_holds_1 : decode cX0_holds 1 = .ok (.iload_n 1, 1) := by decide +kernel
theorem dX0_holds_2 : decode cX0_holds 2 = .ok (.ishr, 1) := by decide +kernel
theorem dX0_holds_3 : decode cX0_holds 3 = .ok (.iconst 1, 1) := by decide +kernel
theorem dX0_holds_4 : decode cX0_holds 4 = .ok (.iand, 1) := by decide +kernel
theorem dX0_holds_5 : decode cX0_holds 5 = .ok (.ifCond .eq 7, 3) := by decide +kernel
theorem dX0_holds_8 : decode cX0_holds 8 = .ok (.iconst 1, 1) := by decide +kernel
theorem dX0_holds_9 : decode cX0_holds 9 = .ok (.goto 4, 3) := by decide +kernel
theorem dX0_holds_12 : decode cX0_holds 12 = .ok (.iconst 0, 1) := by decide +kernel
theorem dX0_holds_13 : decode cX0_holds 13 = .ok (.ireturn, 1) := by decide +kernel
theorem dX0_setRoad_0 : decode cX0_setRoad 0 = .ok (.aload_n 0, 1) := by decide +kernel
theorem dX0_setRoad_1 : decode cX0_setRoad 1 = .ok (.getfield 31, 3) := by decide +kernel
theorem dX0_setRoad_4 : decode cX0_setRoad 4 = .ok (.iload_n 1, 1) := by decide +kernel
theorem dX0_setRoad_5 : decode cX0_setRoad 5 = .ok (.iload_n 3, 1) := by decide +kernel
theorem dX0_setRoad_6 : decode cX0_setRoad 6 = .ok (.ifCond .eq 16, 3) := by decide +kernel
theorem dX0_setRoad_9 : decode cX0_setRoad 9 = .ok (.aload_n 0, 1) := by decide +kernel
theorem dX0_setRoad_10 : decode cX0_setRoad 10 = .ok (.getfield 31, 3) := by decide +kernel
theorem dX0_setRoad_13 : decode cX0_setRoad 13 = .ok (.iload_n 1, 1) := by decide +kernel
theorem dX0_setRoad_14 : decode cX0_setRoad 14 = .ok (.iaload, 1) := by decide +kernel
theorem dX0_setRoad_15 : decode cX0_setRoad 15 = .ok (.iconst 1, 1) := by decide +kernel
theorem dX0_setRoad_16 : decode cX0_setRoad 16 = .ok (.iload_n 2, 1) := by decide +kernel
theorem dX0_setRoad_17 : decode cX0_setRoad 17 = .ok (.ishl, 1) := by decide +kernel
theorem dX0_setRoad_18 : decode cX0_setRoad 18 = .ok (.ior, 1) := by decide +kernel
theorem dX0_setRoad_19 : decode cX0_setRoad 19 = .ok (.goto 15, 3) := by decide +kernel
theorem dX0_setRoad_22 : decode cX0_setRoad 22 = .ok (.aload_n 0, 1) := by decide +kernel
theorem dX0_setRoad_23 : decode cX0_setRoad 23 = .ok (.getfield 31, 3) := by decide +kernel
theorem dX0_setRoad_26 : decode cX0_setRoad 26 = .ok (.iload_n 1, 1) := by decide +kernel
theorem dX0_setRoad_27 : decode cX0_setRoad 27 = .ok (.iaload, 1) := by decide +kernel
theorem dX0_setRoad_28 : decode cX0_setRoad 28 = .ok (.iconst 1, 1) := by decide +kernel
theorem dX0_setRoad_29 : decode cX0_setRoad 29 = .ok (.iload_n 2, 1) := by decide +kernel
theorem dX0_setRoad_30 : decode cX0_setRoad 30 = .ok (.ishl, 1) := by decide +kernel
theorem dX0_setRoad_31 : decode cX0_setRoad 31 = .ok (.iconst (-1), 1) := by decide +kernel
theorem dX0_setRoad_32 : decode cX0_setRoad 32 = .ok (.ixor, 1) := by decide +kernel
theorem dX0_setRoad_33 : decode cX0_setRoad 33 = .ok (.iand, 1) := by decide +kernel
theorem dX0_setRoad_34 : decode cX0_setRoad 34 = .ok (.iastore, 1) := by decide +kernel
theorem dX0_setRoad_35 : decode cX0_setRoad 35 = .ok (.return_, 1) := by decide +kernel
theorem dX0_setRoads_0 : decode cX0_setRoads 0 = .ok (.iconst 0, 1) := by decide +kernel
theorem dX0_setRoads_1 : decode cX0_setRoads 1 = .ok (.istore_n 2, 1) := by decide +kernel
theorem dX0_setRoads_2 : decode cX0_setRoads 2 = .ok (.iload_n 2, 1) := by decide +kernel
theorem dX0_setRoads_3 : decode cX0_setRoads 3 = .ok (.aload_n 0, 1) := by decide +kernel
theorem dX0_setRoads_4 : decode cX0_setRoads 4 = .ok (.getfield 15, 3) := by decide +kernel
theorem dX0_setRoads_7 : decode cX0_setRoads 7 = .ok (.if_icmp .ge 124, 3) := by decide +kernel
theorem dX0_setRoads_10 : decode cX0_setRoads 10 = .ok (.iconst 1, 1) := by decide +kernel
theorem dX0_setRoads_11 : decode cX0_setRoads 11 = .ok (.iload_n 2, 1) := by decide +kernel
theorem dX0_setRoads_12 : decode cX0_setRoads 12 = .ok (.ifCond .ne 12, 3) := by decide +kernel
theorem dX0_setRoads_15 : decode cX0_setRoads 15 = .ok (.aload_n 0, 1) := by decide +kernel
theorem dX0_setRoads_16 : decode cX0_setRoads 16 = .ok (.getfield 15, 3) := by decide +kernel
theorem dX0_setRoads_19 : decode cX0_setRoads 19 = .ok (.iconst 1, 1) := by decide +kernel
theorem dX0_setRoads_20 : decode cX0_setRoads 20 = .ok (.isub, 1) := by decide +kernel
theorem dX0_setRoads_21 : decode cX0_setRoads 21 = .ok (.goto 6, 3) := by decide +kernel
theorem dX0_setRoads_24 : decode cX0_setRoads 24 = .ok (.iload_n 2, 1) := by decide +kernel
theorem dX0_setRoads_25 : decode cX0_setRoads 25 = .ok (.iconst 1, 1) := by decide +kernel
theorem dX0_setRoads_26 : decode cX0_setRoads 26 = .ok (.isub, 1) := by decide +kernel
theorem dX0_setRoads_27 : decode cX0_setRoads 27 = .ok (.ishl, 1) := by decide +kernel
theorem dX0_setRoads_28 : decode cX0_setRoads 28 = .ok (.istore_n 3, 1) := by decide +kernel
theorem dX0_setRoads_29 : decode cX0_setRoads 29 = .ok (.iconst 1, 1) := by decide +kernel
theorem dX0_setRoads_30 : decode cX0_setRoads 30 = .ok (.iload_n 2, 1) := by decide +kernel
theorem dX0_setRoads_31 : decode cX0_setRoads 31 = .ok (.aload_n 0, 1) := by decide +kernel
theorem dX0_setRoads_32 : decode cX0_setRoads 32 = .ok (.getfield 15, 3) := by decide +kernel
theorem dX0_setRoads_35 : decode cX0_setRoads 35 = .ok (.iconst 1, 1) := by decide +kernel
theorem dX0_setRoads_36 : decode cX0_setRoads 36 = .ok (.isub, 1) := by decide +kernel
theorem dX0_setRoads_37 : decode cX0_setRoads 37 = .ok (.if_icmp .ne 7, 3) := by decide +kernel
theorem dX0_setRoads_40 : decode cX0_setRoads 40 = .ok (.iconst 0, 1) := by decide +kernel
theorem dX0_setRoads_41 : decode cX0_setRoads 41 = .ok (.goto 6, 3) := by decide +kernel
theorem dX0_setRoads_44 : decode cX0_setRoads 44 = .ok (.iload_n 2, 1) := by decide +kernel
theorem dX0_setRoads_45 : decode cX0_setRoads 45 = .ok (.iconst 1, 1) := by decide +kernel
theorem dX0_setRoads_46 : decode cX0_setRoads 46 = .ok (.iadd, 1) := by decide +kernel
theorem dX0_setRoads_47 : decode cX0_setRoads 47 = .ok (.ishl, 1) := by decide +kernel
theorem dX0_setRoads_48 : decode cX0_setRoads 48 = .ok (.istore 4, 2) := by decide +kernel
theorem dX0_setRoads_50 : decode cX0_setRoads 50 = .ok (.iload_n 1, 1) := by decide +kernel
theorem dX0_setRoads_51 : decode cX0_setRoads 51 = .ok (.tableswitch 67 1 3 #[25, 44, 54], 25) := by decide +kernel
theorem dX0_setRoads_76 : decode cX0_setRoads 76 = .ok (.aload_n 0, 1) := by decide +kernel
theorem dX0_setRoads_77 : decode cX0_setRoads 77 = .ok (.getfield 31, 3) := by decide +kernel
theorem dX0_setRoads_80 : decode cX0_setRoads 80 = .ok (.iload_n 2, 1) := by decide +kernel
theorem dX0_setRoads_81 : decode cX0_setRoads 81 = .ok (.aload_n 0, 1) := by decide +kernel
theorem dX0_setRoads_82 : decode cX0_setRoads 82 = .ok (.invokevirtual 55, 3) := by decide +kernel
theorem dX0_setRoads_85 : decode cX0_setRoads 85 = .ok (.iconst 1, 1) := by decide +kernel
theorem dX0_setRoads_86 : decode cX0_setRoads 86 = .ok (.iload_n 2, 1) := by decide +kernel
theorem dX0_setRoads_87 : decode cX0_setRoads 87 = .ok (.ishl, 1) := by decide +kernel
theorem dX0_setRoads_88 : decode cX0_setRoads 88 = .ok (.iconst (-1), 1) := by decide +kernel
theorem dX0_setRoads_89 : decode cX0_setRoads 89 = .ok (.ixor, 1) := by decide +kernel
theorem dX0_setRoads_90 : decode cX0_setRoads 90 = .ok (.iand, 1) := by decide +kernel
theorem dX0_setRoads_91 : decode cX0_setRoads 91 = .ok (.iastore, 1) := by decide +kernel
theorem dX0_setRoads_92 : decode cX0_setRoads 92 = .ok (.goto 33, 3) := by decide +kernel
theorem dX0_setRoads_95 : decode cX0_setRoads 95 = .ok (.aload_n 0, 1) := by decide +kernel
theorem dX0_setRoads_96 : decode cX0_setRoads 96 = .ok (.getfield 31, 3) := by decide +kernel
theorem dX0_setRoads_99 : decode cX0_setRoads 99 = .ok (.iload_n 2, 1) := by decide +kernel
theorem dX0_setRoads_100 : decode cX0_setRoads 100 = .ok (.iload_n 3, 1) := by decide +kernel
theorem dX0_setRoads_101 : decode cX0_setRoads 101 = .ok (.iastore, 1) := by decide +kernel
theorem dX0_setRoads_102 : decode cX0_setRoads 102 = .ok (.goto 23, 3) := by decide +kernel
theorem dX0_setRoads_105 : decode cX0_setRoads 105 = .ok (.aload_n 0, 1) := by decide +kernel
theorem dX0_setRoads_106 : decode cX0_setRoads 106 = .ok (.getfield 31, 3) := by decide +kernel
theorem dX0_setRoads_109 : decode cX0_setRoads 109 = .ok (.iload_n 2, 1) := by decide +kernel
theorem dX0_setRoads_110 : decode cX0_setRoads 110 = .ok (.iload_n 3, 1) := by decide +kernel
theorem dX0_setRoads_111 : decode cX0_setRoads 111 = .ok (.iload 4, 2) := by decide +kernel
theorem dX0_setRoads_113 : decode cX0_setRoads 113 = .ok (.ior, 1) := by decide +kernel
theorem dX0_setRoads_114 : decode cX0_setRoads 114 = .ok (.iastore, 1) := by decide +kernel
theorem dX0_setRoads_115 : decode cX0_setRoads 115 = .ok (.goto 10, 3) := by decide +kernel
theorem dX0_setRoads_118 : decode cX0_setRoads 118 = .ok (.aload_n 0, 1) := by decide +kernel
theorem dX0_setRoads_119 : decode cX0_setRoads 119 = .ok (.getfield 31, 3) := by decide +kernel
theorem dX0_setRoads_122 : decode cX0_setRoads 122 = .ok (.iload_n 2, 1) := by decide +kernel
theorem dX0_setRoads_123 : decode cX0_setRoads 123 = .ok (.iconst 0, 1) := by decide +kernel
theorem dX0_setRoads_124 : decode cX0_setRoads 124 = .ok (.iastore, 1) := by decide +kernel
theorem dX0_setRoads_125 : decode cX0_setRoads 125 = .ok (.iinc 2 1, 3) := by decide +kernel
theorem dX0_setRoads_128 : decode cX0_setRoads 128 = .ok (.goto (-126), 3) := by decide +kernel
theorem dX0_setRoads_131 : decode cX0_setRoads 131 = .ok (.return_, 1) := by decide +kernel
theorem dX0_allRoads_0 : decode cX0_allRoads 0 = .ok (.iconst 0, 1) := by decide +kernel
theorem dX0_allRoads_1 : decode cX0_allRoads 1 = .ok (.istore_n 1, 1) := by decide +kernel
theorem dX0_allRoads_2 : decode cX0_allRoads 2 = .ok (.iconst 0, 1) := by decide +kernel
theorem dX0_allRoads_3 : decode cX0_allRoads 3 = .ok (.istore_n 2, 1) := by decide +kernel
theorem dX0_allRoads_4 : decode cX0_allRoads 4 = .ok (.iload_n 2, 1) := by decide +kernel
theorem dX0_allRoads_5 : decode cX0_allRoads 5 = .ok (.aload_n 0, 1) := by decide +kernel
theorem dX0_allRoads_6 : decode cX0_allRoads 6 = .ok (.getfield 15, 3) := by decide +kernel
theorem dX0_allRoads_9 : decode cX0_allRoads 9 = .ok (.if_icmp .ge 21, 3) := by decide +kernel
theorem dX0_allRoads_12 : decode cX0_allRoads 12 = .ok (.iload_n 1, 1) := by decide +kernel
theorem dX0_allRoads_13 : decode cX0_allRoads 13 = .ok (.aload_n 0, 1) := by decide +kernel
theorem dX0_allRoads_14 : decode cX0_allRoads 14 = .ok (.getfield 31, 3) := by decide +kernel
theorem dX0_allRoads_17 : decode cX0_allRoads 17 = .ok (.iload_n 2, 1) := by decide +kernel
theorem dX0_allRoads_18 : decode cX0_allRoads 18 = .ok (.iaload, 1) := by decide +kernel
theorem dX0_allRoads_19 : decode cX0_allRoads 19 = .ok (.invokestatic 59, 3) := by decide +kernel
theorem dX0_allRoads_22 : decode cX0_allRoads 22 = .ok (.iadd, 1) := by decide +kernel
theorem dX0_allRoads_23 : decode cX0_allRoads 23 = .ok (.istore_n 1, 1) := by decide +kernel
theorem dX0_allRoads_24 : decode cX0_allRoads 24 = .ok (.iinc 2 1, 3) := by decide +kernel
theorem dX0_allRoads_27 : decode cX0_allRoads 27 = .ok (.goto (-23), 3) := by decide +kernel
theorem dX0_allRoads_30 : decode cX0_allRoads 30 = .ok (.iload_n 1, 1) := by decide +kernel
theorem dX0_allRoads_31 : decode cX0_allRoads 31 = .ok (.ireturn, 1) := by decide +kernel
theorem dX0_findLeaders_0 : decode cX0_findLeaders 0 = .ok (.aload_n 0, 1) := by decide +kernel
theorem dX0_findLeaders_1 : decode cX0_findLeaders 1 = .ok (.invokevirtual 65, 3) := by decide +kernel
theorem dX0_findLeaders_4 : decode cX0_findLeaders 4 = .ok (.iconst 0, 1) := by decide +kernel
theorem dX0_findLeaders_5 : decode cX0_findLeaders 5 = .ok (.istore_n 2, 1) := by decide +kernel
theorem dX0_findLeaders_6 : decode cX0_findLeaders 6 = .ok (.iconst 0, 1) := by decide +kernel
theorem dX0_findLeaders_7 : decode cX0_findLeaders 7 = .ok (.istore_n 3, 1) := by decide +kernel
theorem dX0_findLeaders_8 : decode cX0_findLeaders 8 = .ok (.iload_n 3, 1) := by decide +kernel
theorem dX0_findLeaders_9 : decode cX0_findLeaders 9 = .ok (.aload_n 0, 1) := by decide +kernel
theorem dX0_findLeaders_10 : decode cX0_findLeaders 10 = .ok (.getfield 15, 3) := by decide +kernel
theorem dX0_findLeaders_13 : decode cX0_findLeaders 13 = .ok (.if_icmp .ge 55, 3) := by decide +kernel
theorem dX0_findLeaders_16 : decode cX0_findLeaders 16 = .ok (.iload_n 2, 1) := by decide +kernel
theorem dX0_findLeaders_17 : decode cX0_findLeaders 17 = .ok (.aload_n 1, 1) := by decide +kernel
theorem dX0_findLeaders_18 : decode cX0_findLeaders 18 = .ok (.arraylength, 1) := by decide +kernel
theorem dX0_findLeaders_19 : decode cX0_findLeaders 19 = .ok (.if_icmp .ge 49, 3) := by decide +kernel
theorem dX0_findLeaders_22 : decode cX0_findLeaders 22 = .ok (.aload_n 0, 1) := by decide +kernel
theorem dX0_findLeaders_23 : decode cX0_findLeaders 23 = .ok (.getfield 46, 3) := by decide +kernel
theorem dX0_findLeaders_26 : decode cX0_findLeaders 26 = .ok (.iload_n 3, 1) := by decide +kernel
theorem dX0_findLeaders_27 : decode cX0_findLeaders 27 = .ok (.iaload, 1) := by decide +kernel
theorem dX0_findLeaders_28 : decode cX0_findLeaders 28 = .ok (.invokestatic 68, 3) := by decide +kernel
theorem dX0_findLeaders_31 : decode cX0_findLeaders 31 = .ok (.iload_n 3, 1) := by decide +kernel
theorem dX0_findLeaders_32 : decode cX0_findLeaders 32 = .ok (.if_icmp .ne 7, 3) := by decide +kernel
theorem dX0_findLeaders_35 : decode cX0_findLeaders 35 = .ok (.iconst 1, 1) := by decide +kernel
theorem dX0_findLeaders_36 : decode cX0_findLeaders 36 = .ok (.goto 4, 3) := by decide +kernel
theorem dX0_findLeaders_39 : decode cX0_findLeaders 39 = .ok (.iconst 0, 1) := by decide +kernel
theorem dX0_findLeaders_40 : decode cX0_findLeaders 40 = .ok (.istore 4, 2) := by decide +kernel
theorem dX0_findLeaders_42 : decode cX0_findLeaders 42 = .ok (.iload 4, 2) := by decide +kernel
theorem dX0_findLeaders_44 : decode cX0_findLeaders 44 = .ok (.ifCond .eq 18, 3) := by decide +kernel
theorem dX0_findLeaders_47 : decode cX0_findLeaders 47 = .ok (.aload_n 0, 1) := by decide +kernel
theorem dX0_findLeaders_48 : decode cX0_findLeaders 48 = .ok (.iload_n 3, 1) := by decide +kernel
theorem dX0_findLeaders_49 : decode cX0_findLeaders 49 = .ok (.invokevirtual 71, 3) := by decide +kernel
theorem dX0_findLeaders_52 : decode cX0_findLeaders 52 = .ok (.ifCond .eq 10, 3) := by decide +kernel
theorem dX0_findLeaders_55 : decode cX0_findLeaders 55 = .ok (.aload_n 1, 1) := by decide +kernel
theorem dX0_findLeaders_56 : decode cX0_findLeaders 56 = .ok (.iload_n 2, 1) := by decide +kernel
theorem dX0_findLeaders_57 : decode cX0_findLeaders 57 = .ok (.iload_n 3, 1) := by decide +kernel
theorem dX0_findLeaders_58 : decode cX0_findLeaders 58 = .ok (.iastore, 1) := by decide +kernel
theorem dX0_findLeaders_59 : decode cX0_findLeaders 59 = .ok (.iinc 2 1, 3) := by decide +kernel
theorem dX0_findLeaders_62 : decode cX0_findLeaders 62 = .ok (.iinc 3 1, 3) := by decide +kernel
theorem dX0_findLeaders_65 : decode cX0_findLeaders 65 = .ok (.goto (-57), 3) := by decide +kernel
theorem dX0_findLeaders_68 : decode cX0_findLeaders 68 = .ok (.iload_n 2, 1) := by decide +kernel
theorem dX0_findLeaders_69 : decode cX0_findLeaders 69 = .ok (.ireturn, 1) := by decide +kernel
theorem dX0_fillReach_0 : decode cX0_fillReach 0 = .ok (.iconst 0, 1) := by decide +kernel
theorem dX0_fillReach_1 : decode cX0_fillReach 1 = .ok (.istore_n 1, 1) := by decide +kernel
theorem dX0_fillReach_2 : decode cX0_fillReach 2 = .ok (.iload_n 1, 1) := by decide +kernel
theorem dX0_fillReach_3 : decode cX0_fillReach 3 = .ok (.aload_n 0, 1) := by decide +kernel
theorem dX0_fillReach_4 : decode cX0_fillReach 4 = .ok (.getfield 15, 3) := by decide +kernel
theorem dX0_fillReach_7 : decode cX0_fillReach 7 = .ok (.if_icmp .ge 25, 3) := by decide +kernel
theorem dX0_fillReach_10 : decode cX0_fillReach 10 = .ok (.aload_n 0, 1) := by decide +kernel
theorem dX0_fillReach_11 : decode cX0_fillReach 11 = .ok (.getfield 46, 3) := by decide +kernel
theorem dX0_fillReach_14 : decode cX0_fillReach 14 = .ok (.iload_n 1, 1) := by decide +kernel
theorem dX0_fillReach_15 : decode cX0_fillReach 15 = .ok (.aload_n 0, 1) := by decide +kernel
theorem dX0_fillReach_16 : decode cX0_fillReach 16 = .ok (.getfield 31, 3) := by decide +kernel
theorem dX0_fillReach_19 : decode cX0_fillReach 19 = .ok (.iload_n 1, 1) := by decide +kernel
theorem dX0_fillReach_20 : decode cX0_fillReach 20 = .ok (.iaload, 1) := by decide +kernel
theorem dX0_fillReach_21 : decode cX0_fillReach 21 = .ok (.iconst 1, 1) := by decide +kernel
theorem dX0_fillReach_22 : decode cX0_fillReach 22 = .ok (.iload_n 1, 1) := by decide +kernel
theorem dX0_fillReach_23 : decode cX0_fillReach 23 = .ok (.ishl, 1) := by decide +kernel
theorem dX0_fillReach_24 : decode cX0_fillReach 24 = .ok (.ior, 1) := by decide +kernel
theorem dX0_fillReach_25 : decode cX0_fillReach 25 = .ok (.iastore, 1) := by decide +kernel
theorem dX0_fillReach_26 : decode cX0_fillReach 26 = .ok (.iinc 1 1, 3) := by decide +kernel
theorem dX0_fillReach_29 : decode cX0_fillReach 29 = .ok (.goto (-27), 3) := by decide +kernel
theorem dX0_fillReach_32 : decode cX0_fillReach 32 = .ok (.iconst 0, 1) := by decide +kernel
theorem dX0_fillReach_33 : decode cX0_fillReach 33 = .ok (.istore_n 1, 1) := by decide +kernel
theorem dX0_fillReach_34 : decode cX0_fillReach 34 = .ok (.iload_n 1, 1) := by decide +kernel
theorem dX0_fillReach_35 : decode cX0_fillReach 35 = .ok (.aload_n 0, 1) := by decide +kernel
theorem dX0_fillReach_36 : decode cX0_fillReach 36 = .ok (.getfield 15, 3) := by decide +kernel
theorem dX0_fillReach_39 : decode cX0_fillReach 39 = .ok (.if_icmp .ge 53, 3) := by decide +kernel
theorem dX0_fillReach_42 : decode cX0_fillReach 42 = .ok (.iconst 0, 1) := by decide +kernel
theorem dX0_fillReach_43 : decode cX0_fillReach 43 = .ok (.istore_n 2, 1) := by decide +kernel
theorem dX0_fillReach_44 : decode cX0_fillReach 44 = .ok (.iload_n 2, 1) := by decide +kernel
theorem dX0_fillReach_45 : decode cX0_fillReach 45 = .ok (.aload_n 0, 1) := by decide +kernel
theorem dX0_fillReach_46 : decode cX0_fillReach 46 = .ok (.getfield 15, 3) := by decide +kernel
theorem dX0_fillReach_49 : decode cX0_fillReach 49 = .ok (.if_icmp .ge 37, 3) := by decide +kernel
theorem dX0_fillReach_52 : decode cX0_fillReach 52 = .ok (.aload_n 0, 1) := by decide +kernel
theorem dX0_fillReach_53 : decode cX0_fillReach 53 = .ok (.getfield 46, 3) := by decide +kernel
theorem dX0_fillReach_56 : decode cX0_fillReach 56 = .ok (.iload_n 2, 1) := by decide +kernel
theorem dX0_fillReach_57 : decode cX0_fillReach 57 = .ok (.iaload, 1) := by decide +kernel
theorem dX0_fillReach_58 : decode cX0_fillReach 58 = .ok (.iload_n 1, 1) := by decide +kernel
theorem dX0_fillReach_59 : decode cX0_fillReach 59 = .ok (.invokestatic 75, 3) := by decide +kernel
theorem dX0_fillReach_62 : decode cX0_fillReach 62 = .ok (.ifCond .eq 18, 3) := by decide +kernel
theorem dX0_fillReach_65 : decode cX0_fillReach 65 = .ok (.aload_n 0, 1) := by decide +kernel
theorem dX0_fillReach_66 : decode cX0_fillReach 66 = .ok (.getfield 46, 3) := by decide +kernel
theorem dX0_fillReach_69 : decode cX0_fillReach 69 = .ok (.iload_n 2, 1) := by decide +kernel
theorem dX0_fillReach_70 : decode cX0_fillReach 70 = .ok (.dup2, 1) := by decide +kernel
theorem dX0_fillReach_71 : decode cX0_fillReach 71 = .ok (.iaload, 1) := by decide +kernel
theorem dX0_fillReach_72 : decode cX0_fillReach 72 = .ok (.aload_n 0, 1) := by decide +kernel
theorem dX0_fillReach_73 : decode cX0_fillReach 73 = .ok (.getfield 46, 3) := by decide +kernel
theorem dX0_fillReach_76 : decode cX0_fillReach 76 = .ok (.iload_n 1, 1) := by decide +kernel
theorem dX0_fillReach_77 : decode cX0_fillReach 77 = .ok (.iaload, 1) := by decide +kernel
theorem dX0_fillReach_78 : decode cX0_fillReach 78 = .ok (.ior, 1) := by decide +kernel
theorem dX0_fillReach_79 : decode cX0_fillReach 79 = .ok (.iastore, 1) := by decide +kernel
theorem dX0_fillReach_80 : decode cX0_fillReach 80 = .ok (.iinc 2 1, 3) := by decide +kernel
theorem dX0_fillReach_83 : decode cX0_fillReach 83 = .ok (.goto (-39), 3) := by decide +kernel
theorem dX0_fillReach_86 : decode cX0_fillReach 86 = .ok (.iinc 1 1, 3) := by decide +kernel
theorem dX0_fillReach_89 : decode cX0_fillReach 89 = .ok (.goto (-55), 3) := by decide +kernel
theorem dX0_fillReach_92 : decode cX0_fillReach 92 = .ok (.return_, 1) := by decide +kernel
theorem dX0_allLeadBack_0 : decode cX0_allLeadBack 0 = .ok (.iconst 0, 1) := by decide +kernel
theorem dX0_allLeadBack_1 : decode cX0_allLeadBack 1 = .ok (.istore_n 2, 1) := by decide +kernel
theorem dX0_allLeadBack_2 : decode cX0_allLeadBack 2 = .ok (.iload_n 2, 1) := by decide +kernel
theorem dX0_allLeadBack_3 : decode cX0_allLeadBack 3 = .ok (.aload_n 0, 1) := by decide +kernel
theorem dX0_allLeadBack_4 : decode cX0_allLeadBack 4 = .ok (.getfield 15, 3) := by decide +kernel
theorem dX0_allLeadBack_7 : decode cX0_allLeadBack 7 = .ok (.if_icmp .ge 37, 3) := by decide +kernel
theorem dX0_allLeadBack_10 : decode cX0_allLeadBack 10 = .ok (.aload_n 0, 1) := by decide +kernel
theorem dX0_allLeadBack_11 : decode cX0_allLeadBack 11 = .ok (.getfield 46, 3) := by decide +kernel
theorem dX0_allLeadBack_14 : decode cX0_allLeadBack 14 = .ok (.iload_n 1, 1) := by decide +kernel
theorem dX0_allLeadBack_15 : decode cX0_allLeadBack 15 = .ok (.iaload, 1) := by decide +kernel
theorem dX0_allLeadBack_16 : decode cX0_allLeadBack 16 = .ok (.iload_n 2, 1) := by decide +kernel
theorem dX0_allLeadBack_17 : decode cX0_allLeadBack 17 = .ok (.invokestatic 75, 3) := by decide +kernel
theorem dX0_allLeadBack_20 : decode cX0_allLeadBack 20 = .ok (.ifCond .eq 18, 3) := by decide +kernel
theorem dX0_allLeadBack_23 : decode cX0_allLeadBack 23 = .ok (.aload_n 0, 1) := by decide +kernel
theorem dX0_allLeadBack_24 : decode cX0_allLeadBack 24 = .ok (.getfield 46, 3) := by decide +kernel
theorem dX0_allLeadBack_27 : decode cX0_allLeadBack 27 = .ok (.iload_n 2, 1) := by decide +kernel
theorem dX0_allLeadBack_28 : decode cX0_allLeadBack 28 = .ok (.iaload, 1) := by decide +kernel
theorem dX0_allLeadBack_29 : decode cX0_allLeadBack 29 = .ok (.iload_n 1, 1) := by decide +kernel
theorem dX0_allLeadBack_30 : decode cX0_allLeadBack 30 = .ok (.invokestatic 75, 3) := by decide +kernel
theorem dX0_allLeadBack_33 : decode cX0_allLeadBack 33 = .ok (.ifCond .ne 5, 3) := by decide +kernel
theorem dX0_allLeadBack_36 : decode cX0_allLeadBack 36 = .ok (.iconst 0, 1) := by decide +kernel
theorem dX0_allLeadBack_37 : decode cX0_allLeadBack 37 = .ok (.ireturn, 1) := by decide +kernel
theorem dX0_allLeadBack_38 : decode cX0_allLeadBack 38 = .ok (.iinc 2 1, 3) := by decide +kernel
theorem dX0_allLeadBack_41 : decode cX0_allLeadBack 41 = .ok (.goto (-39), 3) := by decide +kernel
theorem dX0_allLeadBack_44 : decode cX0_allLeadBack 44 = .ok (.iconst 1, 1) := by decide +kernel
theorem dX0_allLeadBack_45 : decode cX0_allLeadBack 45 = .ok (.ireturn, 1) := by decide +kernel
theorem dX0_tick_0 : decode cX0_tick 0 = .ok (.iconst 0, 1) := by decide +kernel
theorem dX0_tick_1 : decode cX0_tick 1 = .ok (.istore_n 3, 1) := by decide +kernel
theorem dX0_tick_2 : decode cX0_tick 2 = .ok (.iconst 0, 1) := by decide +kernel
theorem dX0_tick_3 : decode cX0_tick 3 = .ok (.istore 4, 2) := by decide +kernel
theorem dX0_tick_5 : decode cX0_tick 5 = .ok (.iload 4, 2) := by decide +kernel
theorem dX0_tick_7 : decode cX0_tick 7 = .ok (.aload_n 0, 1) := by decide +kernel
theorem dX0_tick_8 : decode cX0_tick 8 = .ok (.getfield 15, 3) := by decide +kernel
theorem dX0_tick_11 : decode cX0_tick 11 = .ok (.if_icmp .ge 114, 3) := by decide +kernel
theorem dX0_tick_14 : decode cX0_tick 14 = .ok (.aload_n 0, 1) := by decide +kernel
theorem dX0_tick_15 : decode cX0_tick 15 = .ok (.getfield 21, 3) := by decide +kernel
theorem dX0_tick_18 : decode cX0_tick 18 = .ok (.iload 4, 2) := by decide +kernel
theorem dX0_tick_20 : decode cX0_tick 20 = .ok (.iaload, 1) := by decide +kernel
theorem dX0_tick_21 : decode cX0_tick 21 = .ok (.iconst 2, 1) := by decide +kernel
theorem dX0_tick_22 : decode cX0_tick 22 = .ok (.if_icmp .ne 41, 3) := by decide +kernel
theorem dX0_tick_25 : decode cX0_tick 25 = .ok (.aload_n 0, 1) := by decide +kernel
theorem dX0_tick_26 : decode cX0_tick 26 = .ok (.getfield 40, 3) := by decide +kernel
theorem dX0_tick_29 : decode cX0_tick 29 = .ok (.iload 4, 2) := by decide +kernel
theorem dX0_tick_31 : decode cX0_tick 31 = .ok (.aload_n 1, 1) := by decide +kernel
theorem dX0_tick_32 : decode cX0_tick 32 = .ok (.iload 4, 2) := by decide +kernel
theorem dX0_tick_34 : decode cX0_tick 34 = .ok (.iaload, 1) := by decide +kernel
theorem dX0_tick_35 : decode cX0_tick 35 = .ok (.iconst 1, 1) := by decide +kernel
theorem dX0_tick_36 : decode cX0_tick 36 = .ok (.iadd, 1) := by decide +kernel
theorem dX0_tick_37 : decode cX0_tick 37 = .ok (.iastore, 1) := by decide +kernel
theorem dX0_tick_38 : decode cX0_tick 38 = .ok (.iload_n 3, 1) := by decide +kernel
theorem dX0_tick_39 : decode cX0_tick 39 = .ok (.aload_n 0, 1) := by decide +kernel
theorem dX0_tick_40 : decode cX0_tick 40 = .ok (.getfield 40, 3) := by decide +kernel
theorem dX0_tick_43 : decode cX0_tick 43 = .ok (.iload 4, 2) := by decide +kernel
theorem dX0_tick_45 : decode cX0_tick 45 = .ok (.iaload, 1) := by decide +kernel
theorem dX0_tick_46 : decode cX0_tick 46 = .ok (.aload_n 0, 1) := by decide +kernel
theorem dX0_tick_47 : decode cX0_tick 47 = .ok (.getfield 9, 3) := by decide +kernel
theorem dX0_tick_50 : decode cX0_tick 50 = .ok (.if_icmp .lt 7, 3) := by decide +kernel
theorem dX0_tick_53 : decode cX0_tick 53 = .ok (.iconst 1, 1) := by decide +kernel
theorem dX0_tick_54 : decode cX0_tick 54 = .ok (.goto 4, 3) := by decide +kernel
theorem dX0_tick_57 : decode cX0_tick 57 = .ok (.iconst 0, 1) := by decide +kernel
theorem dX0_tick_58 : decode cX0_tick 58 = .ok (.ior, 1) := by decide +kernel
theorem dX0_tick_59 : decode cX0_tick 59 = .ok (.istore_n 3, 1) := by decide +kernel
theorem dX0_tick_60 : decode cX0_tick 60 = .ok (.goto 59, 3) := by decide +kernel
theorem dX0_tick_63 : decode cX0_tick 63 = .ok (.aload_n 0, 1) := by decide +kernel
theorem dX0_tick_64 : decode cX0_tick 64 = .ok (.getfield 21, 3) := by decide +kernel
theorem dX0_tick_67 : decode cX0_tick 67 = .ok (.iload 4, 2) := by decide +kernel
theorem dX0_tick_69 : decode cX0_tick 69 = .ok (.iaload, 1) := by decide +kernel
theorem dX0_tick_70 : decode cX0_tick 70 = .ok (.iconst 1, 1) := by decide +kernel
theorem dX0_tick_71 : decode cX0_tick 71 = .ok (.if_icmp .ne 31, 3) := by decide +kernel
theorem dX0_tick_74 : decode cX0_tick 74 = .ok (.aload_n 0, 1) := by decide +kernel
theorem dX0_tick_75 : decode cX0_tick 75 = .ok (.getfield 40, 3) := by decide +kernel
theorem dX0_tick_78 : decode cX0_tick 78 = .ok (.iload 4, 2) := by decide +kernel
theorem dX0_tick_80 : decode cX0_tick 80 = .ok (.aload_n 0, 1) := by decide +kernel
theorem dX0_tick_81 : decode cX0_tick 81 = .ok (.aload_n 1, 1) := by decide +kernel
theorem dX0_tick_82 : decode cX0_tick 82 = .ok (.iload 4, 2) := by decide +kernel
theorem dX0_tick_84 : decode cX0_tick 84 = .ok (.iaload, 1) := by decide +kernel
theorem dX0_tick_85 : decode cX0_tick 85 = .ok (.iconst 1, 1) := by decide +kernel
theorem dX0_tick_86 : decode cX0_tick 86 = .ok (.iadd, 1) := by decide +kernel
theorem dX0_tick_87 : decode cX0_tick 87 = .ok (.aload_n 0, 1) := by decide +kernel
theorem dX0_tick_88 : decode cX0_tick 88 = .ok (.iload 4, 2) := by decide +kernel
theorem dX0_tick_90 : decode cX0_tick 90 = .ok (.aload_n 1, 1) := by decide +kernel
theorem dX0_tick_91 : decode cX0_tick 91 = .ok (.invokevirtual 79, 3) := by decide +kernel
theorem dX0_tick_94 : decode cX0_tick 94 = .ok (.iadd, 1) := by decide +kernel
theorem dX0_tick_95 : decode cX0_tick 95 = .ok (.invokevirtual 83, 3) := by decide +kernel
theorem dX0_tick_98 : decode cX0_tick 98 = .ok (.iastore, 1) := by decide +kernel
theorem dX0_tick_99 : decode cX0_tick 99 = .ok (.goto 20, 3) := by decide +kernel
theorem dX0_tick_102 : decode cX0_tick 102 = .ok (.aload_n 0, 1) := by decide +kernel
theorem dX0_tick_103 : decode cX0_tick 103 = .ok (.getfield 40, 3) := by decide +kernel
theorem dX0_tick_106 : decode cX0_tick 106 = .ok (.iload 4, 2) := by decide +kernel
theorem dX0_tick_108 : decode cX0_tick 108 = .ok (.aload_n 0, 1) := by decide +kernel
theorem dX0_tick_109 : decode cX0_tick 109 = .ok (.aload_n 1, 1) := by decide +kernel
theorem dX0_tick_110 : decode cX0_tick 110 = .ok (.iload 4, 2) := by decide +kernel
theorem dX0_tick_112 : decode cX0_tick 112 = .ok (.iaload, 1) := by decide +kernel
theorem dX0_tick_113 : decode cX0_tick 113 = .ok (.iconst 1, 1) := by decide +kernel
theorem dX0_tick_114 : decode cX0_tick 114 = .ok (.iadd, 1) := by decide +kernel
theorem dX0_tick_115 : decode cX0_tick 115 = .ok (.invokevirtual 83, 3) := by decide +kernel
theorem dX0_tick_118 : decode cX0_tick 118 = .ok (.iastore, 1) := by decide +kernel
theorem dX0_tick_119 : decode cX0_tick 119 = .ok (.iinc 4 1, 3) := by decide +kernel
theorem dX0_tick_122 : decode cX0_tick 122 = .ok (.goto (-117), 3) := by decide +kernel
theorem dX0_tick_125 : decode cX0_tick 125 = .ok (.iload_n 3, 1) := by decide +kernel
theorem dX0_tick_126 : decode cX0_tick 126 = .ok (.ifCond .eq 8, 3) := by decide +kernel
theorem dX0_tick_129 : decode cX0_tick 129 = .ok (.aload_n 0, 1) := by decide +kernel
theorem dX0_tick_130 : decode cX0_tick 130 = .ok (.aload_n 2, 1) := by decide +kernel
theorem dX0_tick_131 : decode cX0_tick 131 = .ok (.invokevirtual 86, 3) := by decide +kernel
theorem dX0_tick_134 : decode cX0_tick 134 = .ok (.aload_n 0, 1) := by decide +kernel
theorem dX0_tick_135 : decode cX0_tick 135 = .ok (.getfield 40, 3) := by decide +kernel
theorem dX0_tick_138 : decode cX0_tick 138 = .ok (.iconst 0, 1) := by decide +kernel
theorem dX0_tick_139 : decode cX0_tick 139 = .ok (.aload_n 1, 1) := by decide +kernel
theorem dX0_tick_140 : decode cX0_tick 140 = .ok (.iconst 0, 1) := by decide +kernel
theorem dX0_tick_141 : decode cX0_tick 141 = .ok (.aload_n 0, 1) := by decide +kernel
theorem dX0_tick_142 : decode cX0_tick 142 = .ok (.getfield 15, 3) := by decide +kernel
theorem dX0_tick_145 : decode cX0_tick 145 = .ok (.invokestatic 90, 3) := by decide +kernel
theorem dX0_tick_148 : decode cX0_tick 148 = .ok (.return_, 1) := by decide +kernel
theorem dX0_wrap_0 : decode cX0_wrap 0 = .ok (.iload_n 1, 1) := by decide +kernel
theorem dX0_wrap_1 : decode cX0_wrap 1 = .ok (.aload_n 0, 1) := by decide +kernel
theorem dX0_wrap_2 : decode cX0_wrap 2 = .ok (.getfield 9, 3) := by decide +kernel
theorem dX0_wrap_5 : decode cX0_wrap 5 = .ok (.if_icmp .lt 10, 3) := by decide +kernel
theorem dX0_wrap_8 : decode cX0_wrap 8 = .ok (.iload_n 1, 1) := by decide +kernel
theorem dX0_wrap_9 : decode cX0_wrap 9 = .ok (.aload_n 0, 1) := by decide +kernel
theorem dX0_wrap_10 : decode cX0_wrap 10 = .ok (.getfield 9, 3) := by decide +kernel
theorem dX0_wrap_13 : decode cX0_wrap 13 = .ok (.isub, 1) := by decide +kernel
theorem dX0_wrap_14 : decode cX0_wrap 14 = .ok (.ireturn, 1) := by decide +kernel
theorem dX0_wrap_15 : decode cX0_wrap 15 = .ok (.iload_n 1, 1) := by decide +kernel
theorem dX0_wrap_16 : decode cX0_wrap 16 = .ok (.ifCond .ge 12, 3) := by decide +kernel
theorem dX0_wrap_19 : decode cX0_wrap 19 = .ok (.iload_n 1, 1) := by decide +kernel
theorem dX0_wrap_20 : decode cX0_wrap 20 = .ok (.aload_n 0, 1) := by decide +kernel
theorem dX0_wrap_21 : decode cX0_wrap 21 = .ok (.getfield 9, 3) := by decide +kernel
theorem dX0_wrap_24 : decode cX0_wrap 24 = .ok (.iadd, 1) := by decide +kernel
theorem dX0_wrap_25 : decode cX0_wrap 25 = .ok (.goto 4, 3) := by decide +kernel
theorem dX0_wrap_28 : decode cX0_wrap 28 = .ok (.iload_n 1, 1) := by decide +kernel
theorem dX0_wrap_29 : decode cX0_wrap 29 = .ok (.ireturn, 1) := by decide +kernel
theorem dX0_pullOn_0 : decode cX0_pullOn 0 = .ok (.aload_n 0, 1) := by decide +kernel
theorem dX0_pullOn_1 : decode cX0_pullOn 1 = .ok (.getfield 31, 3) := by decide +kernel
theorem dX0_pullOn_4 : decode cX0_pullOn 4 = .ok (.iload_n 1, 1) := by decide +kernel
theorem dX0_pullOn_5 : decode cX0_pullOn 5 = .ok (.iaload, 1) := by decide +kernel
theorem dX0_pullOn_6 : decode cX0_pullOn 6 = .ok (.iconst 1, 1) := by decide +kernel
theorem dX0_pullOn_7 : decode cX0_pullOn 7 = .ok (.iload_n 1, 1) := by decide +kernel
theorem dX0_pullOn_8 : decode cX0_pullOn 8 = .ok (.ishl, 1) := by decide +kernel
theorem dX0_pullOn_9 : decode cX0_pullOn 9 = .ok (.iconst (-1), 1) := by decide +kernel
theorem dX0_pullOn_10 : decode cX0_pullOn 10 = .ok (.ixor, 1) := by decide +kernel
theorem dX0_pullOn_11 : decode cX0_pullOn 11 = .ok (.iand, 1) := by decide +kernel
theorem dX0_pullOn_12 : decode cX0_pullOn 12 = .ok (.istore_n 3, 1) := by decide +kernel
theorem dX0_pullOn_13 : decode cX0_pullOn 13 = .ok (.aload_n 2, 1) := by decide +kernel
theorem dX0_pullOn_14 : decode cX0_pullOn 14 = .ok (.iload_n 1, 1) := by decide +kernel
theorem dX0_pullOn_15 : decode cX0_pullOn 15 = .ok (.iaload, 1) := by decide +kernel
theorem dX0_pullOn_16 : decode cX0_pullOn 16 = .ok (.istore 4, 2) := by decide +kernel
theorem dX0_pullOn_18 : decode cX0_pullOn 18 = .ok (.iconst 0, 1) := by decide +kernel
theorem dX0_pullOn_19 : decode cX0_pullOn 19 = .ok (.istore 5, 2) := by decide +kernel
theorem dX0_pullOn_21 : decode cX0_pullOn 21 = .ok (.iconst 1, 1) := by decide +kernel
theorem dX0_pullOn_22 : decode cX0_pullOn 22 = .ok (.istore 6, 2) := by decide +kernel
theorem dX0_pullOn_24 : decode cX0_pullOn 24 = .ok (.iconst 0, 1) := by decide +kernel
theorem dX0_pullOn_25 : decode cX0_pullOn 25 = .ok (.istore 7, 2) := by decide +kernel
theorem dX0_pullOn_27 : decode cX0_pullOn 27 = .ok (.iload 7, 2) := by decide +kernel
theorem dX0_pullOn_29 : decode cX0_pullOn 29 = .ok (.aload_n 0, 1) := by decide +kernel
theorem dX0_pullOn_30 : decode cX0_pullOn 30 = .ok (.getfield 15, 3) := by decide +kernel
theorem dX0_pullOn_33 : decode cX0_pullOn 33 = .ok (.if_icmp .ge 81, 3) := by decide +kernel
theorem dX0_pullOn_36 : decode cX0_pullOn 36 = .ok (.iload_n 3, 1) := by decide +kernel
theorem dX0_pullOn_37 : decode cX0_pullOn 37 = .ok (.iload 7, 2) := by decide +kernel
theorem dX0_pullOn_39 : decode cX0_pullOn 39 = .ok (.ishr, 1) := by decide +kernel
theorem dX0_pullOn_40 : decode cX0_pullOn 40 = .ok (.iconst 1, 1) := by decide +kernel
theorem dX0_pullOn_41 : decode cX0_pullOn 41 = .ok (.iand, 1) := by decide +kernel
theorem dX0_pullOn_42 : decode cX0_pullOn 42 = .ok (.ifCond .eq 66, 3) := by decide +kernel
theorem dX0_pullOn_45 : decode cX0_pullOn 45 = .ok (.aload_n 2, 1) := by decide +kernel
theorem dX0_pullOn_46 : decode cX0_pullOn 46 = .ok (.iload 7, 2) := by decide +kernel
theorem dX0_pullOn_48 : decode cX0_pullOn 48 = .ok (.iaload, 1) := by decide +kernel
theorem dX0_pullOn_49 : decode cX0_pullOn 49 = .ok (.iload 4, 2) := by decide +kernel
theorem dX0_pullOn_51 : decode cX0_pullOn 51 = .ok (.isub, 1) := by decide +kernel
theorem dX0_pullOn_52 : decode cX0_pullOn 52 = .ok (.istore 8, 2) := by decide +kernel
theorem dX0_pullOn_54 : decode cX0_pullOn 54 = .ok (.iconst 2, 1) := by decide +kernel
theorem dX0_pullOn_55 : decode cX0_pullOn 55 = .ok (.iload 8, 2) := by decide +kernel
theorem dX0_pullOn_57 : decode cX0_pullOn 57 = .ok (.imul, 1) := by decide +kernel
theorem dX0_pullOn_58 : decode cX0_pullOn 58 = .ok (.aload_n 0, 1) := by decide +kernel
theorem dX0_pullOn_59 : decode cX0_pullOn 59 = .ok (.getfield 9, 3) := by decide +kernel
theorem dX0_pullOn_62 : decode cX0_pullOn 62 = .ok (.if_icmp .le 15, 3) := by decide +kernel
theorem dX0_pullOn_65 : decode cX0_pullOn 65 = .ok (.iload 8, 2) := by decide +kernel
theorem dX0_pullOn_67 : decode cX0_pullOn 67 = .ok (.aload_n 0, 1) := by decide +kernel
theorem dX0_pullOn_68 : decode cX0_pullOn 68 = .ok (.getfield 9, 3) := by decide +kernel
theorem dX0_pullOn_71 : decode cX0_pullOn 71 = .ok (.isub, 1) := by decide +kernel
theorem dX0_pullOn_72 : decode cX0_pullOn 72 = .ok (.istore 8, 2) := by decide +kernel
theorem dX0_pullOn_74 : decode cX0_pullOn 74 = .ok (.goto 24, 3) := by decide +kernel
theorem dX0_pullOn_77 : decode cX0_pullOn 77 = .ok (.iconst 2, 1) := by decide +kernel
theorem dX0_pullOn_78 : decode cX0_pullOn 78 = .ok (.iload 8, 2) := by decide +kernel
theorem dX0_pullOn_80 : decode cX0_pullOn 80 = .ok (.imul, 1) := by decide +kernel
theorem dX0_pullOn_81 : decode cX0_pullOn 81 = .ok (.aload_n 0, 1) := by decide +kernel
theorem dX0_pullOn_82 : decode cX0_pullOn 82 = .ok (.getfield 9, 3) := by decide +kernel
theorem dX0_pullOn_85 : decode cX0_pullOn 85 = .ok (.ineg, 1) := by decide +kernel
theorem dX0_pullOn_86 : decode cX0_pullOn 86 = .ok (.if_icmp .gt 12, 3) := by decide +kernel
theorem dX0_pullOn_89 : decode cX0_pullOn 89 = .ok (.iload 8, 2) := by decide +kernel
theorem dX0_pullOn_91 : decode cX0_pullOn 91 = .ok (.aload_n 0, 1) := by decide +kernel
theorem dX0_pullOn_92 : decode cX0_pullOn 92 = .ok (.getfield 9, 3) := by decide +kernel
theorem dX0_pullOn_95 : decode cX0_pullOn 95 = .ok (.iadd, 1) := by decide +kernel
theorem dX0_pullOn_96 : decode cX0_pullOn 96 = .ok (.istore 8, 2) := by decide +kernel
theorem dX0_pullOn_98 : decode cX0_pullOn 98 = .ok (.iload 5, 2) := by decide +kernel
theorem dX0_pullOn_100 : decode cX0_pullOn 100 = .ok (.iload 8, 2) := by decide +kernel
theorem dX0_pullOn_102 : decode cX0_pullOn 102 = .ok (.iadd, 1) := by decide +kernel
theorem dX0_pullOn_103 : decode cX0_pullOn 103 = .ok (.istore 5, 2) := by decide +kernel
theorem dX0_pullOn_105 : decode cX0_pullOn 105 = .ok (.iinc 6 1, 3) := by decide +kernel
theorem dX0_pullOn_108 : decode cX0_pullOn 108 = .ok (.iinc 7 1, 3) := by decide +kernel
theorem dX0_pullOn_111 : decode cX0_pullOn 111 = .ok (.goto (-84), 3) := by decide +kernel
theorem dX0_pullOn_114 : decode cX0_pullOn 114 = .ok (.iload 6, 2) := by decide +kernel
theorem dX0_pullOn_116 : decode cX0_pullOn 116 = .ok (.iconst 1, 1) := by decide +kernel
theorem dX0_pullOn_117 : decode cX0_pullOn 117 = .ok (.if_icmp .le 11, 3) := by decide +kernel
theorem dX0_pullOn_120 : decode cX0_pullOn 120 = .ok (.iload 5, 2) := by decide +kernel
theorem dX0_pullOn_122 : decode cX0_pullOn 122 = .ok (.iload 6, 2) := by decide +kernel
theorem dX0_pullOn_124 : decode cX0_pullOn 124 = .ok (.idiv, 1) := by decide +kernel
theorem dX0_pullOn_125 : decode cX0_pullOn 125 = .ok (.goto 4, 3) := by decide +kernel
theorem dX0_pullOn_128 : decode cX0_pullOn 128 = .ok (.iconst 0, 1) := by decide +kernel
theorem dX0_pullOn_129 : decode cX0_pullOn 129 = .ok (.ireturn, 1) := by decide +kernel
theorem dX0_fire_0 : decode cX0_fire 0 = .ok (.iconst 0, 1) := by decide +kernel
theorem dX0_fire_1 : decode cX0_fire 1 = .ok (.istore_n 2, 1) := by decide +kernel
theorem dX0_fire_2 : decode cX0_fire 2 = .ok (.iconst 0, 1) := by decide +kernel
theorem dX0_fire_3 : decode cX0_fire 3 = .ok (.istore_n 3, 1) := by decide +kernel
theorem dX0_fire_4 : decode cX0_fire 4 = .ok (.iconst 0, 1) := by decide +kernel
theorem dX0_fire_5 : decode cX0_fire 5 = .ok (.istore 4, 2) := by decide +kernel
theorem dX0_fire_7 : decode cX0_fire 7 = .ok (.iload 4, 2) := by decide +kernel
theorem dX0_fire_9 : decode cX0_fire 9 = .ok (.aload_n 0, 1) := by decide +kernel
theorem dX0_fire_10 : decode cX0_fire 10 = .ok (.getfield 15, 3) := by decide +kernel
theorem dX0_fire_13 : decode cX0_fire 13 = .ok (.if_icmp .ge 52, 3) := by decide +kernel
theorem dX0_fire_16 : decode cX0_fire 16 = .ok (.aload_n 0, 1) := by decide +kernel
theorem dX0_fire_17 : decode cX0_fire 17 = .ok (.getfield 21, 3) := by decide +kernel
theorem dX0_fire_20 : decode cX0_fire 20 = .ok (.iload 4, 2) := by decide +kernel
theorem dX0_fire_22 : decode cX0_fire 22 = .ok (.iaload, 1) := by decide +kernel
theorem dX0_fire_23 : decode cX0_fire 23 = .ok (.iconst 2, 1) := by decide +kernel
theorem dX0_fire_24 : decode cX0_fire 24 = .ok (.if_icmp .ne 35, 3) := by decide +kernel
theorem dX0_fire_27 : decode cX0_fire 27 = .ok (.aload_n 0, 1) := by decide +kernel
theorem dX0_fire_28 : decode cX0_fire 28 = .ok (.getfield 40, 3) := by decide +kernel
theorem dX0_fire_31 : decode cX0_fire 31 = .ok (.iload 4, 2) := by decide +kernel
theorem dX0_fire_33 : decode cX0_fire 33 = .ok (.iaload, 1) := by decide +kernel
theorem dX0_fire_34 : decode cX0_fire 34 = .ok (.aload_n 0, 1) := by decide +kernel
theorem dX0_fire_35 : decode cX0_fire 35 = .ok (.getfield 9, 3) := by decide +kernel
theorem dX0_fire_38 : decode cX0_fire 38 = .ok (.if_icmp .lt 21, 3) := by decide +kernel
theorem dX0_fire_41 : decode cX0_fire 41 = .ok (.aload_n 0, 1) := by decide +kernel
theorem dX0_fire_42 : decode cX0_fire 42 = .ok (.getfield 43, 3) := by decide +kernel
theorem dX0_fire_45 : decode cX0_fire 45 = .ok (.iload_n 2, 1) := by decide +kernel
theorem dX0_fire_46 : decode cX0_fire 46 = .ok (.iload 4, 2) := by decide +kernel
theorem dX0_fire_48 : decode cX0_fire 48 = .ok (.iastore, 1) := by decide +kernel
theorem dX0_fire_49 : decode cX0_fire 49 = .ok (.iinc 2 1, 3) := by decide +kernel
theorem dX0_fire_52 : decode cX0_fire 52 = .ok (.iload_n 3, 1) := by decide +kernel
theorem dX0_fire_53 : decode cX0_fire 53 = .ok (.iconst 1, 1) := by decide +kernel
theorem dX0_fire_54 : decode cX0_fire 54 = .ok (.iload 4, 2) := by decide +kernel
theorem dX0_fire_56 : decode cX0_fire 56 = .ok (.ishl, 1) := by decide +kernel
theorem dX0_fire_57 : decode cX0_fire 57 = .ok (.ior, 1) := by decide +kernel
theorem dX0_fire_58 : decode cX0_fire 58 = .ok (.istore_n 3, 1) := by decide +kernel
theorem dX0_fire_59 : decode cX0_fire 59 = .ok (.iinc 4 1, 3) := by decide +kernel
theorem dX0_fire_62 : decode cX0_fire 62 = .ok (.goto (-55), 3) := by decide +kernel
theorem dX0_fire_65 : decode cX0_fire 65 = .ok (.iconst 0, 1) := by decide +kernel
theorem dX0_fire_66 : decode cX0_fire 66 = .ok (.istore 4, 2) := by decide +kernel
theorem dX0_fire_68 : decode cX0_fire 68 = .ok (.iload 4, 2) := by decide +kernel
theorem dX0_fire_70 : decode cX0_fire 70 = .ok (.iload_n 2, 1) := by decide +kernel
theorem dX0_fire_71 : decode cX0_fire 71 = .ok (.if_icmp .ge 175, 3) := by decide +kernel
theorem dX0_fire_74 : decode cX0_fire 74 = .ok (.iload 4, 2) := by decide +kernel
theorem dX0_fire_76 : decode cX0_fire 76 = .ok (.aload_n 0, 1) := by decide +kernel
theorem dX0_fire_77 : decode cX0_fire 77 = .ok (.getfield 15, 3) := by decide +kernel
theorem dX0_fire_80 : decode cX0_fire 80 = .ok (.if_icmp .ge 166, 3) := by decide +kernel
theorem dX0_fire_83 : decode cX0_fire 83 = .ok (.aload_n 0, 1) := by decide +kernel
theorem dX0_fire_84 : decode cX0_fire 84 = .ok (.getfield 43, 3) := by decide +kernel
theorem dX0_fire_87 : decode cX0_fire 87 = .ok (.iload 4, 2) := by decide +kernel
theorem dX0_fire_89 : decode cX0_fire 89 = .ok (.iaload, 1) := by decide +kernel
theorem dX0_fire_90 : decode cX0_fire 90 = .ok (.istore 5, 2) := by decide +kernel
theorem dX0_fire_92 : decode cX0_fire 92 = .ok (.aload_n 0, 1) := by decide +kernel
theorem dX0_fire_93 : decode cX0_fire 93 = .ok (.getfield 40, 3) := by decide +kernel
theorem dX0_fire_96 : decode cX0_fire 96 = .ok (.iload 5, 2) := by decide +kernel
theorem dX0_fire_98 : decode cX0_fire 98 = .ok (.iconst 0, 1) := by decide +kernel
theorem dX0_fire_99 : decode cX0_fire 99 = .ok (.iastore, 1) := by decide +kernel
theorem dX0_fire_100 : decode cX0_fire 100 = .ok (.aload_n 1, 1) := by decide +kernel
theorem dX0_fire_101 : decode cX0_fire 101 = .ok (.iload 5, 2) := by decide +kernel
theorem dX0_fire_103 : decode cX0_fire 103 = .ok (.dup2, 1) := by decide +kernel
theorem dX0_fire_104 : decode cX0_fire 104 = .ok (.iaload, 1) := by decide +kernel
theorem dX0_fire_105 : decode cX0_fire 105 = .ok (.iconst 1, 1) := by decide +kernel
theorem dX0_fire_106 : decode cX0_fire 106 = .ok (.iadd, 1) := by decide +kernel
theorem dX0_fire_107 : decode cX0_fire 107 = .ok (.iastore, 1) := by decide +kernel
theorem dX0_fire_108 : decode cX0_fire 108 = .ok (.iconst 0, 1) := by decide +kernel
theorem dX0_fire_109 : decode cX0_fire 109 = .ok (.istore 6, 2) := by decide +kernel
theorem dX0_fire_111 : decode cX0_fire 111 = .ok (.iload 6, 2) := by decide +kernel
theorem dX0_fire_113 : decode cX0_fire 113 = .ok (.aload_n 0, 1) := by decide +kernel
theorem dX0_fire_114 : decode cX0_fire 114 = .ok (.getfield 15, 3) := by decide +kernel
theorem dX0_fire_117 : decode cX0_fire 117 = .ok (.if_icmp .ge 123, 3) := by decide +kernel
theorem dX0_fire_120 : decode cX0_fire 120 = .ok (.aload_n 0, 1) := by decide +kernel
theorem dX0_fire_121 : decode cX0_fire 121 = .ok (.getfield 21, 3) := by decide +kernel
theorem dX0_fire_124 : decode cX0_fire 124 = .ok (.iload 6, 2) := by decide +kernel
theorem dX0_fire_126 : decode cX0_fire 126 = .ok (.iaload, 1) := by decide +kernel
theorem dX0_fire_127 : decode cX0_fire 127 = .ok (.iconst 2, 1) := by decide +kernel
theorem dX0_fire_128 : decode cX0_fire 128 = .ok (.if_icmp .ne 31, 3) := by decide +kernel
theorem dX0_fire_131 : decode cX0_fire 131 = .ok (.iload_n 3, 1) := by decide +kernel
theorem dX0_fire_132 : decode cX0_fire 132 = .ok (.iload 6, 2) := by decide +kernel
theorem dX0_fire_134 : decode cX0_fire 134 = .ok (.invokestatic 75, 3) := by decide +kernel
theorem dX0_fire_137 : decode cX0_fire 137 = .ok (.ifCond .ne 22, 3) := by decide +kernel
theorem dX0_fire_140 : decode cX0_fire 140 = .ok (.aload_n 0, 1) := by decide +kernel
theorem dX0_fire_141 : decode cX0_fire 141 = .ok (.getfield 31, 3) := by decide +kernel
theorem dX0_fire_144 : decode cX0_fire 144 = .ok (.iload 6, 2) := by decide +kernel
theorem dX0_fire_146 : decode cX0_fire 146 = .ok (.iaload, 1) := by decide +kernel
theorem dX0_fire_147 : decode cX0_fire 147 = .ok (.iload 5, 2) := by decide +kernel
theorem dX0_fire_149 : decode cX0_fire 149 = .ok (.invokestatic 75, 3) := by decide +kernel
theorem dX0_fire_152 : decode cX0_fire 152 = .ok (.ifCond .eq 7, 3) := by decide +kernel
theorem dX0_fire_155 : decode cX0_fire 155 = .ok (.iconst 1, 1) := by decide +kernel
theorem dX0_fire_156 : decode cX0_fire 156 = .ok (.goto 4, 3) := by decide +kernel
theorem dX0_fire_159 : decode cX0_fire 159 = .ok (.iconst 0, 1) := by decide +kernel
theorem dX0_fire_160 : decode cX0_fire 160 = .ok (.istore 7, 2) := by decide +kernel
theorem dX0_fire_162 : decode cX0_fire 162 = .ok (.iload 7, 2) := by decide +kernel
theorem dX0_fire_164 : decode cX0_fire 164 = .ok (.ifCond .eq 24, 3) := by decide +kernel
theorem dX0_fire_167 : decode cX0_fire 167 = .ok (.aload_n 0, 1) := by decide +kernel
theorem dX0_fire_168 : decode cX0_fire 168 = .ok (.getfield 40, 3) := by decide +kernel
theorem dX0_fire_171 : decode cX0_fire 171 = .ok (.iload 6, 2) := by decide +kernel
theorem dX0_fire_173 : decode cX0_fire 173 = .ok (.dup2, 1) := by decide +kernel
theorem dX0_fire_174 : decode cX0_fire 174 = .ok (.iaload, 1) := by decide +kernel
theorem dX0_fire_175 : decode cX0_fire 175 = .ok (.aload_n 0, 1) := by decide +kernel
theorem dX0_fire_176 : decode cX0_fire 176 = .ok (.aload_n 0, 1) := by decide +kernel
theorem dX0_fire_177 : decode cX0_fire 177 = .ok (.getfield 40, 3) := by decide +kernel
theorem dX0_fire_180 : decode cX0_fire 180 = .ok (.iload 6, 2) := by decide +kernel
theorem dX0_fire_182 : decode cX0_fire 182 = .ok (.iaload, 1) := by decide +kernel
theorem dX0_fire_183 : decode cX0_fire 183 = .ok (.invokevirtual 96, 3) := by decide +kernel
theorem dX0_fire_186 : decode cX0_fire 186 = .ok (.iadd, 1) := by decide +kernel
theorem dX0_fire_187 : decode cX0_fire 187 = .ok (.iastore, 1) := by decide +kernel
theorem dX0_fire_188 : decode cX0_fire 188 = .ok (.iload 7, 2) := by decide +kernel
theorem dX0_fire_190 : decode cX0_fire 190 = .ok (.ifCond .eq 44, 3) := by decide +kernel
theorem dX0_fire_193 : decode cX0_fire 193 = .ok (.aload_n 0, 1) := by decide +kernel
theorem dX0_fire_194 : decode cX0_fire 194 = .ok (.getfield 40, 3) := by decide +kernel
theorem dX0_fire_197 : decode cX0_fire 197 = .ok (.iload 6, 2) := by decide +kernel
theorem dX0_fire_199 : decode cX0_fire 199 = .ok (.iaload, 1) := by decide +kernel
theorem dX0_fire_200 : decode cX0_fire 200 = .ok (.aload_n 0, 1) := by decide +kernel
theorem dX0_fire_201 : decode cX0_fire 201 = .ok (.getfield 9, 3) := by decide +kernel
theorem dX0_fire_204 : decode cX0_fire 204 = .ok (.if_icmp .lt 30, 3) := by decide +kernel
theorem dX0_fire_207 : decode cX0_fire 207 = .ok (.iload_n 2, 1) := by decide +kernel
theorem dX0_fire_208 : decode cX0_fire 208 = .ok (.aload_n 0, 1) := by decide +kernel
theorem dX0_fire_209 : decode cX0_fire 209 = .ok (.getfield 43, 3) := by decide +kernel
theorem dX0_fire_212 : decode cX0_fire 212 = .ok (.arraylength, 1) := by decide +kernel
theorem dX0_fire_213 : decode cX0_fire 213 = .ok (.if_icmp .ge 21, 3) := by decide +kernel
theorem dX0_fire_216 : decode cX0_fire 216 = .ok (.aload_n 0, 1) := by decide +kernel
theorem dX0_fire_217 : decode cX0_fire 217 = .ok (.getfield 43, 3) := by decide +kernel
theorem dX0_fire_220 : decode cX0_fire 220 = .ok (.iload_n 2, 1) := by decide +kernel
theorem dX0_fire_221 : decode cX0_fire 221 = .ok (.iload 6, 2) := by decide +kernel
theorem dX0_fire_223 : decode cX0_fire 223 = .ok (.iastore, 1) := by decide +kernel
theorem dX0_fire_224 : decode cX0_fire 224 = .ok (.iinc 2 1, 3) := by decide +kernel
theorem dX0_fire_227 : decode cX0_fire 227 = .ok (.iload_n 3, 1) := by decide +kernel
theorem dX0_fire_228 : decode cX0_fire 228 = .ok (.iconst 1, 1) := by decide +kernel
theorem dX0_fire_229 : decode cX0_fire 229 = .ok (.iload 6, 2) := by decide +kernel
theorem dX0_fire_231 : decode cX0_fire 231 = .ok (.ishl, 1) := by decide +kernel
theorem dX0_fire_232 : decode cX0_fire 232 = .ok (.ior, 1) := by decide +kernel
theorem dX0_fire_233 : decode cX0_fire 233 = .ok (.istore_n 3, 1) := by decide +kernel
theorem dX0_fire_234 : decode cX0_fire 234 = .ok (.iinc 6 1, 3) := by decide +kernel
theorem dX0_fire_237 : decode cX0_fire 237 = .ok (.goto (-126), 3) := by decide +kernel
theorem dX0_fire_240 : decode cX0_fire 240 = .ok (.iinc 4 1, 3) := by decide +kernel
theorem dX0_fire_243 : decode cX0_fire 243 = .ok (.goto (-175), 3) := by decide +kernel
theorem dX0_fire_246 : decode cX0_fire 246 = .ok (.return_, 1) := by decide +kernel
theorem dX0_pushAt_0 : decode cX0_pushAt 0 = .ok (.aload_n 0, 1) := by decide +kernel
theorem dX0_pushAt_1 : decode cX0_pushAt 1 = .ok (.getfield 9, 3) := by decide +kernel
theorem dX0_pushAt_4 : decode cX0_pushAt 4 = .ok (.ifCond .le 17, 3) := by decide +kernel
theorem dX0_pushAt_7 : decode cX0_pushAt 7 = .ok (.iload_n 1, 1) := by decide +kernel
theorem dX0_pushAt_8 : decode cX0_pushAt 8 = .ok (.aload_n 0, 1) := by decide +kernel
theorem dX0_pushAt_9 : decode cX0_pushAt 9 = .ok (.getfield 37, 3) := by decide +kernel
theorem dX0_pushAt_12 : decode cX0_pushAt 12 = .ok (.imul, 1) := by decide +kernel
theorem dX0_pushAt_13 : decode cX0_pushAt 13 = .ok (.aload_n 0, 1) := by decide +kernel
theorem dX0_pushAt_14 : decode cX0_pushAt 14 = .ok (.getfield 9, 3) := by decide +kernel
theorem dX0_pushAt_17 : decode cX0_pushAt 17 = .ok (.idiv, 1) := by decide +kernel
theorem dX0_pushAt_18 : decode cX0_pushAt 18 = .ok (.goto 4, 3) := by decide +kernel
theorem dX0_pushAt_22 : decode cX0_pushAt 22 = .ok (.istore_n 2, 1) := by decide +kernel
theorem dX0_pushAt_23 : decode cX0_pushAt 23 = .ok (.iload_n 2, 1) := by decide +kernel
theorem dX0_pushAt_24 : decode cX0_pushAt 24 = .ok (.ifCond .lt 21, 3) := by decide +kernel
theorem dX0_pushAt_27 : decode cX0_pushAt 27 = .ok (.iload_n 2, 1) := by decide +kernel
theorem dX0_pushAt_28 : decode cX0_pushAt 28 = .ok (.aload_n 0, 1) := by decide +kernel
theorem dX0_pushAt_29 : decode cX0_pushAt 29 = .ok (.getfield 34, 3) := by decide +kernel
theorem dX0_pushAt_32 : decode cX0_pushAt 32 = .ok (.arraylength, 1) := by decide +kernel
theorem dX0_pushAt_33 : decode cX0_pushAt 33 = .ok (.if_icmp .ge 12, 3) := by decide +kernel
theorem dX0_pushAt_36 : decode cX0_pushAt 36 = .ok (.aload_n 0, 1) := by decide +kernel
theorem dX0_pushAt_37 : decode cX0_pushAt 37 = .ok (.getfield 34, 3) := by decide +kernel
theorem dX0_pushAt_40 : decode cX0_pushAt 40 = .ok (.iload_n 2, 1) := by decide +kernel
theorem dX0_pushAt_41 : decode cX0_pushAt 41 = .ok (.iaload, 1) := by decide +kernel
theorem dX0_pushAt_42 : decode cX0_pushAt 42 = .ok (.goto 4, 3) := by decide +kernel
theorem dX0_pushAt_46 : decode cX0_pushAt 46 = .ok (.ireturn, 1) := by decide +kernel
theorem dX0_startWalk_0 : decode cX0_startWalk 0 = .ok (.aload_n 0, 1) := by decide +kernel
theorem dX0_startWalk_1 : decode cX0_startWalk 1 = .ok (.getfield 25, 3) := by decide +kernel
theorem dX0_startWalk_4 : decode cX0_startWalk 4 = .ok (.iconst 0, 1) := by decide +kernel
theorem dX0_startWalk_5 : decode cX0_startWalk 5 = .ok (.aload_n 0, 1) := by decide +kernel
theorem dX0_startWalk_6 : decode cX0_startWalk 6 = .ok (.getfield 49, 3) := by decide +kernel
theorem dX0_startWalk_9 : decode cX0_startWalk 9 = .ok (.iconst 0, 1) := by decide +kernel
theorem dX0_startWalk_10 : decode cX0_startWalk 10 = .ok (.aload_n 0, 1) := by decide +kernel
theorem dX0_startWalk_11 : decode cX0_startWalk 11 = .ok (.getfield 15, 3) := by decide +kernel
theorem dX0_startWalk_14 : decode cX0_startWalk 14 = .ok (.invokestatic 90, 3) := by decide +kernel
theorem dX0_startWalk_17 : decode cX0_startWalk 17 = .ok (.return_, 1) := by decide +kernel
theorem dX0_walk_0 : decode cX0_walk 0 = .ok (.aload_n 0, 1) := by decide +kernel
theorem dX0_walk_1 : decode cX0_walk 1 = .ok (.aload_n 0, 1) := by decide +kernel
theorem dX0_walk_2 : decode cX0_walk 2 = .ok (.getfield 49, 3) := by decide +kernel
theorem dX0_walk_5 : decode cX0_walk 5 = .ok (.aload_n 0, 1) := by decide +kernel
theorem dX0_walk_6 : decode cX0_walk 6 = .ok (.getfield 52, 3) := by decide +kernel
theorem dX0_walk_9 : decode cX0_walk 9 = .ok (.invokevirtual 99, 3) := by decide +kernel
theorem dX0_walk_12 : decode cX0_walk 12 = .ok (.return_, 1) := by decide +kernel
theorem dX0_inStep_0 : decode cX0_inStep 0 = .ok (.iconst (-1), 1) := by decide +kernel
theorem dX0_inStep_1 : decode cX0_inStep 1 = .ok (.istore_n 3, 1) := by decide +kernel
theorem dX0_inStep_2 : decode cX0_inStep 2 = .ok (.iconst 0, 1) := by decide +kernel
theorem dX0_inStep_3 : decode cX0_inStep 3 = .ok (.istore 4, 2) := by decide +kernel
theorem dX0_inStep_5 : decode cX0_inStep 5 = .ok (.iload 4, 2) := by decide +kernel
theorem dX0_inStep_7 : decode cX0_inStep 7 = .ok (.aload_n 0, 1) := by decide +kernel
theorem dX0_inStep_8 : decode cX0_inStep 8 = .ok (.getfield 15, 3) := by decide +kernel
theorem dX0_inStep_11 : decode cX0_inStep 11 = .ok (.if_icmp .ge 38, 3) := by decide +kernel
theorem dX0_inStep_14 : decode cX0_inStep 14 = .ok (.iload_n 2, 1) := by decide +kernel
theorem dX0_inStep_15 : decode cX0_inStep 15 = .ok (.iload 4, 2) := by decide +kernel
theorem dX0_inStep_17 : decode cX0_inStep 17 = .ok (.invokestatic 75, 3) := by decide +kernel
theorem dX0_inStep_20 : decode cX0_inStep 20 = .ok (.ifCond .eq 23, 3) := by decide +kernel
theorem dX0_inStep_23 : decode cX0_inStep 23 = .ok (.iload_n 3, 1) := by decide +kernel
theorem dX0_inStep_24 : decode cX0_inStep 24 = .ok (.iconst (-1), 1) := by decide +kernel
theorem dX0_inStep_25 : decode cX0_inStep 25 = .ok (.if_icmp .eq 13, 3) := by decide +kernel
theorem dX0_inStep_28 : decode cX0_inStep 28 = .ok (.iload_n 3, 1) := by decide +kernel
theorem dX0_inStep_29 : decode cX0_inStep 29 = .ok (.aload_n 1, 1) := by decide +kernel
theorem dX0_inStep_30 : decode cX0_inStep 30 = .ok (.iload 4, 2) := by decide +kernel
theorem dX0_inStep_32 : decode cX0_inStep 32 = .ok (.iaload, 1) := by decide +kernel
theorem dX0_inStep_33 : decode cX0_inStep 33 = .ok (.if_icmp .eq 5, 3) := by decide +kernel
theorem dX0_inStep_36 : decode cX0_inStep 36 = .ok (.iconst 0, 1) := by decide +kernel
theorem dX0_inStep_37 : decode cX0_inStep 37 = .ok (.ireturn, 1) := by decide +kernel
theorem dX0_inStep_38 : decode cX0_inStep 38 = .ok (.aload_n 1, 1) := by decide +kernel
theorem dX0_inStep_39 : decode cX0_inStep 39 = .ok (.iload 4, 2) := by decide +kernel
theorem dX0_inStep_41 : decode cX0_inStep 41 = .ok (.iaload, 1) := by decide +kernel
theorem dX0_inStep_42 : decode cX0_inStep 42 = .ok (.istore_n 3, 1) := by decide +kernel
theorem dX0_inStep_43 : decode cX0_inStep 43 = .ok (.iinc 4 1, 3) := by decide +kernel
theorem dX0_inStep_46 : decode cX0_inStep 46 = .ok (.goto (-41), 3) := by decide +kernel
theorem dX0_inStep_49 : decode cX0_inStep 49 = .ok (.iconst 1, 1) := by decide +kernel
theorem dX0_inStep_50 : decode cX0_inStep 50 = .ok (.ireturn, 1) := by decide +kernel
theorem dX0_leastArc_0 : decode cX0_leastArc 0 = .ok (.aload_n 0, 1) := by decide +kernel
theorem dX0_leastArc_1 : decode cX0_leastArc 1 = .ok (.getfield 9, 3) := by decide +kernel
theorem dX0_leastArc_4 : decode cX0_leastArc 4 = .ok (.istore_n 2, 1) := by decide +kernel
theorem dX0_leastArc_5 : decode cX0_leastArc 5 = .ok (.iconst 0, 1) := by decide +kernel
theorem dX0_leastArc_6 : decode cX0_leastArc 6 = .ok (.istore_n 3, 1) := by decide +kernel
theorem dX0_leastArc_7 : decode cX0_leastArc 7 = .ok (.iload_n 3, 1) := by decide +kernel
theorem dX0_leastArc_8 : decode cX0_leastArc 8 = .ok (.aload_n 0, 1) := by decide +kernel
theorem dX0_leastArc_9 : decode cX0_leastArc 9 = .ok (.getfield 15, 3) := by decide +kernel
theorem dX0_leastArc_12 : decode cX0_leastArc 12 = .ok (.if_icmp .ge 33, 3) := by decide +kernel
theorem dX0_leastArc_15 : decode cX0_leastArc 15 = .ok (.iload_n 1, 1) := by decide +kernel
theorem dX0_leastArc_16 : decode cX0_leastArc 16 = .ok (.iload_n 3, 1) := by decide +kernel
theorem dX0_leastArc_17 : decode cX0_leastArc 17 = .ok (.invokestatic 75, 3) := by decide +kernel
theorem dX0_leastArc_20 : decode cX0_leastArc 20 = .ok (.ifCond .eq 19, 3) := by decide +kernel
theorem dX0_leastArc_23 : decode cX0_leastArc 23 = .ok (.iload_n 2, 1) := by decide +kernel
theorem dX0_leastArc_24 : decode cX0_leastArc 24 = .ok (.aload_n 0, 1) := by decide +kernel
theorem dX0_leastArc_25 : decode cX0_leastArc 25 = .ok (.aload_n 0, 1) := by decide +kernel
theorem dX0_leastArc_26 : decode cX0_leastArc 26 = .ok (.getfield 25, 3) := by decide +kernel
theorem dX0_leastArc_29 : decode cX0_leastArc 29 = .ok (.iload_n 3, 1) := by decide +kernel
theorem dX0_leastArc_30 : decode cX0_leastArc 30 = .ok (.iaload, 1) := by decide +kernel
theorem dX0_leastArc_31 : decode cX0_leastArc 31 = .ok (.iload_n 1, 1) := by decide +kernel
theorem dX0_leastArc_32 : decode cX0_leastArc 32 = .ok (.invokevirtual 103, 3) := by decide +kernel
theorem dX0_leastArc_35 : decode cX0_leastArc 35 = .ok (.invokestatic 107, 3) := by decide +kernel
theorem dX0_leastArc_38 : decode cX0_leastArc 38 = .ok (.istore_n 2, 1) := by decide +kernel
theorem dX0_leastArc_39 : decode cX0_leastArc 39 = .ok (.iinc 3 1, 3) := by decide +kernel
theorem dX0_leastArc_42 : decode cX0_leastArc 42 = .ok (.goto (-35), 3) := by decide +kernel
theorem dX0_leastArc_45 : decode cX0_leastArc 45 = .ok (.iload_n 2, 1) := by decide +kernel
theorem dX0_leastArc_46 : decode cX0_leastArc 46 = .ok (.ireturn, 1) := by decide +kernel
theorem dX0_arcFrom_0 : decode cX0_arcFrom 0 = .ok (.iconst 0, 1) := by decide +kernel
theorem dX0_arcFrom_1 : decode cX0_arcFrom 1 = .ok (.istore_n 3, 1) := by decide +kernel
theorem dX0_arcFrom_2 : decode cX0_arcFrom 2 = .ok (.iconst 0, 1) := by decide +kernel
theorem dX0_arcFrom_3 : decode cX0_arcFrom 3 = .ok (.istore 4, 2) := by decide +kernel
theorem dX0_arcFrom_5 : decode cX0_arcFrom 5 = .ok (.iload 4, 2) := by decide +kernel
theorem dX0_arcFrom_7 : decode cX0_arcFrom 7 = .ok (.aload_n 0, 1) := by decide +kernel
theorem dX0_arcFrom_8 : decode cX0_arcFrom 8 = .ok (.getfield 15, 3) := by decide +kernel
theorem dX0_arcFrom_11 : decode cX0_arcFrom 11 = .ok (.if_icmp .ge 36, 3) := by decide +kernel
theorem dX0_arcFrom_14 : decode cX0_arcFrom 14 = .ok (.iload_n 2, 1) := by decide +kernel
theorem dX0_arcFrom_15 : decode cX0_arcFrom 15 = .ok (.iload 4, 2) := by decide +kernel
theorem dX0_arcFrom_17 : decode cX0_arcFrom 17 = .ok (.invokestatic 75, 3) := by decide +kernel
theorem dX0_arcFrom_20 : decode cX0_arcFrom 20 = .ok (.ifCond .eq 21, 3) := by decide +kernel
theorem dX0_arcFrom_23 : decode cX0_arcFrom 23 = .ok (.iload_n 3, 1) := by decide +kernel
theorem dX0_arcFrom_24 : decode cX0_arcFrom 24 = .ok (.aload_n 0, 1) := by decide +kernel
theorem dX0_arcFrom_25 : decode cX0_arcFrom 25 = .ok (.aload_n 0, 1) := by decide +kernel
theorem dX0_arcFrom_26 : decode cX0_arcFrom 26 = .ok (.getfield 25, 3) := by decide +kernel
theorem dX0_arcFrom_29 : decode cX0_arcFrom 29 = .ok (.iload 4, 2) := by decide +kernel
theorem dX0_arcFrom_31 : decode cX0_arcFrom 31 = .ok (.iaload, 1) := by decide +kernel
theorem dX0_arcFrom_32 : decode cX0_arcFrom 32 = .ok (.iload_n 1, 1) := by decide +kernel
theorem dX0_arcFrom_33 : decode cX0_arcFrom 33 = .ok (.isub, 1) := by decide +kernel
theorem dX0_arcFrom_34 : decode cX0_arcFrom 34 = .ok (.invokevirtual 83, 3) := by decide +kernel
theorem dX0_arcFrom_37 : decode cX0_arcFrom 37 = .ok (.invokestatic 112, 3) := by decide +kernel
theorem dX0_arcFrom_40 : decode cX0_arcFrom 40 = .ok (.istore_n 3, 1) := by decide +kernel
theorem dX0_arcFrom_41 : decode cX0_arcFrom 41 = .ok (.iinc 4 1, 3) := by decide +kernel
theorem dX0_arcFrom_44 : decode cX0_arcFrom 44 = .ok (.goto (-39), 3) := by decide +kernel
theorem dX0_arcFrom_47 : decode cX0_arcFrom 47 = .ok (.iload_n 3, 1) := by decide +kernel
theorem dX0_arcFrom_48 : decode cX0_arcFrom 48 = .ok (.ireturn, 1) := by decide +kernel
theorem dX0_smallStates_0 : decode cX0_smallStates 0 = .ok (.aload_n 0, 1) := by decide +kernel
theorem dX0_smallStates_1 : decode cX0_smallStates 1 = .ok (.getfield 15, 3) := by decide +kernel
theorem dX0_smallStates_4 : decode cX0_smallStates 4 = .ok (.ifCond .le 7, 3) := by decide +kernel
theorem dX0_smallStates_7 : decode cX0_smallStates 7 = .ok (.iconst 1, 1) := by decide +kernel
theorem dX0_smallStates_8 : decode cX0_smallStates 8 = .ok (.goto 4, 3) := by decide +kernel
theorem dX0_smallStates_11 : decode cX0_smallStates 11 = .ok (.iconst 0, 1) := by decide +kernel
theorem dX0_smallStates_12 : decode cX0_smallStates 12 = .ok (.istore_n 1, 1) := by decide +kernel
theorem dX0_smallStates_13 : decode cX0_smallStates 13 = .ok (.iconst 0, 1) := by decide +kernel
theorem dX0_smallStates_14 : decode cX0_smallStates 14 = .ok (.istore_n 2, 1) := by decide +kernel
theorem dX0_smallStates_15 : decode cX0_smallStates 15 = .ok (.iload_n 2, 1) := by decide +kernel
theorem dX0_smallStates_16 : decode cX0_smallStates 16 = .ok (.aload_n 0, 1) := by decide +kernel
theorem dX0_smallStates_17 : decode cX0_smallStates 17 = .ok (.getfield 15, 3) := by decide +kernel
theorem dX0_smallStates_20 : decode cX0_smallStates 20 = .ok (.if_icmp .ge 25, 3) := by decide +kernel
theorem dX0_smallStates_23 : decode cX0_smallStates 23 = .ok (.iload_n 1, 1) := by decide +kernel
theorem dX0_smallStates_24 : decode cX0_smallStates 24 = .ok (.aload_n 0, 1) := by decide +kernel
theorem dX0_smallStates_25 : decode cX0_smallStates 25 = .ok (.getfield 9, 3) := by decide +kernel
theorem dX0_smallStates_28 : decode cX0_smallStates 28 = .ok (.imul, 1) := by decide +kernel
theorem dX0_smallStates_29 : decode cX0_smallStates 29 = .ok (.istore_n 1, 1) := by decide +kernel
theorem dX0_smallStates_30 : decode cX0_smallStates 30 = .ok (.iload_n 1, 1) := by decide +kernel
theorem dX0_smallStates_31 : decode cX0_smallStates 31 = .ok (.sipush 20736, 3) := by decide +kernel
theorem dX0_smallStates_34 : decode cX0_smallStates 34 = .ok (.if_icmp .le 5, 3) := by decide +kernel
theorem dX0_smallStates_37 : decode cX0_smallStates 37 = .ok (.iconst 0, 1) := by decide +kernel
theorem dX0_smallStates_38 : decode cX0_smallStates 38 = .ok (.ireturn, 1) := by decide +kernel
theorem dX0_smallStates_39 : decode cX0_smallStates 39 = .ok (.iinc 2 1, 3) := by decide +kernel
theorem dX0_smallStates_42 : decode cX0_smallStates 42 = .ok (.goto (-27), 3) := by decide +kernel
theorem dX0_smallStates_45 : decode cX0_smallStates 45 = .ok (.iload_n 1, 1) := by decide +kernel
theorem dX0_smallStates_46 : decode cX0_smallStates 46 = .ok (.ireturn, 1) := by decide +kernel
theorem dX0_stateAfter_0 : decode cX0_stateAfter 0 = .ok (.aload_n 0, 1) := by decide +kernel
theorem dX0_stateAfter_1 : decode cX0_stateAfter 1 = .ok (.iload_n 1, 1) := by decide +kernel
theorem dX0_stateAfter_2 : decode cX0_stateAfter 2 = .ok (.invokevirtual 115, 3) := by decide +kernel
theorem dX0_stateAfter_5 : decode cX0_stateAfter 5 = .ok (.aload_n 0, 1) := by decide +kernel
theorem dX0_stateAfter_6 : decode cX0_stateAfter 6 = .ok (.invokevirtual 119, 3) := by decide +kernel
theorem dX0_stateAfter_9 : decode cX0_stateAfter 9 = .ok (.iconst 0, 1) := by decide +kernel
theorem dX0_stateAfter_10 : decode cX0_stateAfter 10 = .ok (.istore_n 2, 1) := by decide +kernel
theorem dX0_stateAfter_11 : decode cX0_stateAfter 11 = .ok (.aload_n 0, 1) := by decide +kernel
theorem dX0_stateAfter_12 : decode cX0_stateAfter 12 = .ok (.getfield 15, 3) := by decide +kernel
theorem dX0_stateAfter_15 : decode cX0_stateAfter 15 = .ok (.iconst 1, 1) := by decide +kernel
theorem dX0_stateAfter_16 : decode cX0_stateAfter 16 = .ok (.isub, 1) := by decide +kernel
theorem dX0_stateAfter_17 : decode cX0_stateAfter 17 = .ok (.istore_n 3, 1) := by decide +kernel
theorem dX0_stateAfter_18 : decode cX0_stateAfter 18 = .ok (.iload_n 3, 1) := by decide +kernel
theorem dX0_stateAfter_19 : decode cX0_stateAfter 19 = .ok (.ifCond .lt 23, 3) := by decide +kernel
theorem dX0_stateAfter_22 : decode cX0_stateAfter 22 = .ok (.iload_n 2, 1) := by decide +kernel
theorem dX0_stateAfter_23 : decode cX0_stateAfter 23 = .ok (.aload_n 0, 1) := by decide +kernel
theorem dX0_stateAfter_24 : decode cX0_stateAfter 24 = .ok (.getfield 9, 3) := by decide +kernel
theorem dX0_stateAfter_27 : decode cX0_stateAfter 27 = .ok (.imul, 1) := by decide +kernel
theorem dX0_stateAfter_28 : decode cX0_stateAfter 28 = .ok (.aload_n 0, 1) := by decide +kernel
theorem dX0_stateAfter_29 : decode cX0_stateAfter 29 = .ok (.getfield 49, 3) := by decide +kernel
theorem dX0_stateAfter_32 : decode cX0_stateAfter 32 = .ok (.iload_n 3, 1) := by decide +kernel
theorem dX0_stateAfter_33 : decode cX0_stateAfter 33 = .ok (.iaload, 1) := by decide +kernel
theorem dX0_stateAfter_34 : decode cX0_stateAfter 34 = .ok (.iadd, 1) := by decide +kernel
theorem dX0_stateAfter_35 : decode cX0_stateAfter 35 = .ok (.istore_n 2, 1) := by decide +kernel
theorem dX0_stateAfter_36 : decode cX0_stateAfter 36 = .ok (.iinc 3 (-1), 3) := by decide +kernel
theorem dX0_stateAfter_39 : decode cX0_stateAfter 39 = .ok (.goto (-21), 3) := by decide +kernel
theorem dX0_stateAfter_42 : decode cX0_stateAfter 42 = .ok (.iload_n 2, 1) := by decide +kernel
theorem dX0_stateAfter_43 : decode cX0_stateAfter 43 = .ok (.ireturn, 1) := by decide +kernel
theorem dX0_stateInStep_0 : decode cX0_stateInStep 0 = .ok (.aload_n 0, 1) := by decide +kernel
theorem dX0_stateInStep_1 : decode cX0_stateInStep 1 = .ok (.iload_n 1, 1) := by decide +kernel
theorem dX0_stateInStep_2 : decode cX0_stateInStep 2 = .ok (.invokevirtual 115, 3) := by decide +kernel
theorem dX0_stateInStep_5 : decode cX0_stateInStep 5 = .ok (.aload_n 0, 1) := by decide +kernel
theorem dX0_stateInStep_6 : decode cX0_stateInStep 6 = .ok (.aload_n 0, 1) := by decide +kernel
theorem dX0_stateInStep_7 : decode cX0_stateInStep 7 = .ok (.getfield 49, 3) := by decide +kernel
theorem dX0_stateInStep_10 : decode cX0_stateInStep 10 = .ok (.iload_n 2, 1) := by decide +kernel
theorem dX0_stateInStep_11 : decode cX0_stateInStep 11 = .ok (.invokevirtual 122, 3) := by decide +kernel
theorem dX0_stateInStep_14 : decode cX0_stateInStep 14 = .ok (.ireturn, 1) := by decide +kernel
theorem dX0_setWalker_0 : decode cX0_setWalker 0 = .ok (.iload_n 1, 1) := by decide +kernel
theorem dX0_setWalker_1 : decode cX0_setWalker 1 = .ok (.istore_n 2, 1) := by decide +kernel
theorem dX0_setWalker_2 : decode cX0_setWalker 2 = .ok (.iconst 0, 1) := by decide +kernel
theorem dX0_setWalker_3 : decode cX0_setWalker 3 = .ok (.istore_n 3, 1) := by decide +kernel
theorem dX0_setWalker_4 : decode cX0_setWalker 4 = .ok (.iload_n 3, 1) := by decide +kernel
theorem dX0_setWalker_5 : decode cX0_setWalker 5 = .ok (.aload_n 0, 1) := by decide +kernel
theorem dX0_setWalker_6 : decode cX0_setWalker 6 = .ok (.getfield 15, 3) := by decide +kernel
theorem dX0_setWalker_9 : decode cX0_setWalker 9 = .ok (.if_icmp .ge 35, 3) := by decide +kernel
theorem dX0_setWalker_12 : decode cX0_setWalker 12 = .ok (.aload_n 0, 1) := by decide +kernel
theorem dX0_setWalker_13 : decode cX0_setWalker 13 = .ok (.getfield 9, 3) := by decide +kernel
theorem dX0_setWalker_16 : decode cX0_setWalker 16 = .ok (.ifCond .le 28, 3) := by decide +kernel
theorem dX0_setWalker_19 : decode cX0_setWalker 19 = .ok (.aload_n 0, 1) := by decide +kernel
theorem dX0_setWalker_20 : decode cX0_setWalker 20 = .ok (.getfield 49, 3) := by decide +kernel
theorem dX0_setWalker_23 : decode cX0_setWalker 23 = .ok (.iload_n 3, 1) := by decide +kernel
theorem dX0_setWalker_24 : decode cX0_setWalker 24 = .ok (.iload_n 2, 1) := by decide +kernel
theorem dX0_setWalker_25 : decode cX0_setWalker 25 = .ok (.aload_n 0, 1) := by decide +kernel
theorem dX0_setWalker_26 : decode cX0_setWalker 26 = .ok (.getfield 9, 3) := by decide +kernel
theorem dX0_setWalker_29 : decode cX0_setWalker 29 = .ok (.irem, 1) := by decide +kernel
theorem dX0_setWalker_30 : decode cX0_setWalker 30 = .ok (.iastore, 1) := by decide +kernel
theorem dX0_setWalker_31 : decode cX0_setWalker 31 = .ok (.iload_n 2, 1) := by decide +kernel
theorem dX0_setWalker_32 : decode cX0_setWalker 32 = .ok (.aload_n 0, 1) := by decide +kernel
theorem dX0_setWalker_33 : decode cX0_setWalker 33 = .ok (.getfield 9, 3) := by decide +kernel
theorem dX0_setWalker_36 : decode cX0_setWalker 36 = .ok (.idiv, 1) := by decide +kernel
theorem dX0_setWalker_37 : decode cX0_setWalker 37 = .ok (.istore_n 2, 1) := by decide +kernel
theorem dX0_setWalker_38 : decode cX0_setWalker 38 = .ok (.iinc 3 1, 3) := by decide +kernel
theorem dX0_setWalker_41 : decode cX0_setWalker 41 = .ok (.goto (-37), 3) := by decide +kernel
theorem dX0_setWalker_44 : decode cX0_setWalker 44 = .ok (.return_, 1) := by decide +kernel
theorem dX1_init_0 : decode cX1_init 0 = .ok (.aload_n 0, 1) := by decide +kernel
theorem dX1_init_1 : decode cX1_init 1 = .ok (.invokespecial 3, 3) := by decide +kernel
theorem dX1_init_4 : decode cX1_init 4 = .ok (.aload_n 0, 1) := by decide +kernel
theorem dX1_init_5 : decode cX1_init 5 = .ok (.iconst 0, 1) := by decide +kernel
theorem dX1_init_6 : decode cX1_init 6 = .ok (.newarray .int, 2) := by decide +kernel
theorem dX1_init_8 : decode cX1_init 8 = .ok (.putfield 9, 3) := by decide +kernel
theorem dX1_init_11 : decode cX1_init 11 = .ok (.aload_n 0, 1) := by decide +kernel
theorem dX1_init_12 : decode cX1_init 12 = .ok (.iconst 0, 1) := by decide +kernel
theorem dX1_init_13 : decode cX1_init 13 = .ok (.newarray .int, 2) := by decide +kernel
theorem dX1_init_15 : decode cX1_init 15 = .ok (.putfield 15, 3) := by decide +kernel
theorem dX1_init_18 : decode cX1_init 18 = .ok (.aload_n 0, 1) := by decide +kernel
theorem dX1_init_19 : decode cX1_init 19 = .ok (.iconst 0, 1) := by decide +kernel
theorem dX1_init_20 : decode cX1_init 20 = .ok (.newarray .int, 2) := by decide +kernel
theorem dX1_init_22 : decode cX1_init 22 = .ok (.putfield 18, 3) := by decide +kernel
theorem dX1_init_25 : decode cX1_init 25 = .ok (.aload_n 0, 1) := by decide +kernel
theorem dX1_init_26 : decode cX1_init 26 = .ok (.iconst 0, 1) := by decide +kernel
theorem dX1_init_27 : decode cX1_init 27 = .ok (.newarray .int, 2) := by decide +kernel
theorem dX1_init_29 : decode cX1_init 29 = .ok (.putfield 21, 3) := by decide +kernel
theorem dX1_init_32 : decode cX1_init 32 = .ok (.aload_n 0, 1) := by decide +kernel
theorem dX1_init_33 : decode cX1_init 33 = .ok (.iconst 0, 1) := by decide +kernel
theorem dX1_init_34 : decode cX1_init 34 = .ok (.putfield 24, 3) := by decide +kernel
theorem dX1_init_37 : decode cX1_init 37 = .ok (.return_, 1) := by decide +kernel
theorem dX1_follow_0 : decode cX1_follow 0 = .ok (.aload_n 0, 1) := by decide +kernel
theorem dX1_follow_1 : decode cX1_follow 1 = .ok (.iload_n 2, 1) := by decide +kernel
theorem dX1_follow_2 : decode cX1_follow 2 = .ok (.invokevirtual 28, 3) := by decide +kernel
theorem dX1_follow_5 : decode cX1_follow 5 = .ok (.iconst 0, 1) := by decide +kernel
theorem dX1_follow_6 : decode cX1_follow 6 = .ok (.istore_n 3, 1) := by decide +kernel
theorem dX1_follow_7 : decode cX1_follow 7 = .ok (.iload_n 3, 1) := by decide +kernel
theorem dX1_follow_8 : decode cX1_follow 8 = .ok (.iload_n 2, 1) := by decide +kernel
theorem dX1_follow_9 : decode cX1_follow 9 = .ok (.if_icmp .ge 20, 3) := by decide +kernel
theorem dX1_follow_12 : decode cX1_follow 12 = .ok (.aload_n 0, 1) := by decide +kernel
theorem dX1_follow_13 : decode cX1_follow 13 = .ok (.getfield 9, 3) := by decide +kernel
theorem dX1_follow_16 : decode cX1_follow 16 = .ok (.iload_n 3, 1) := by decide +kernel
theorem dX1_follow_17 : decode cX1_follow 17 = .ok (.aload_n 1, 1) := by decide +kernel
theorem dX1_follow_18 : decode cX1_follow 18 = .ok (.iload_n 3, 1) := by decide +kernel
theorem dX1_follow_19 : decode cX1_follow 19 = .ok (.invokevirtual 32, 3) := by decide +kernel
theorem dX1_follow_22 : decode cX1_follow 22 = .ok (.iastore, 1) := by decide +kernel
theorem dX1_follow_23 : decode cX1_follow 23 = .ok (.iinc 3 1, 3) := by decide +kernel
theorem dX1_follow_26 : decode cX1_follow 26 = .ok (.goto (-19), 3) := by decide +kernel
theorem dX1_follow_29 : decode cX1_follow 29 = .ok (.aload_n 0, 1) := by decide +kernel
theorem dX1_follow_30 : decode cX1_follow 30 = .ok (.getfield 15, 3) := by decide +kernel
theorem dX1_follow_33 : decode cX1_follow 33 = .ok (.iconst (-1), 1) := by decide +kernel
theorem dX1_follow_34 : decode cX1_follow 34 = .ok (.invokestatic 38, 3) := by decide +kernel
theorem dX1_follow_37 : decode cX1_follow 37 = .ok (.aload_n 0, 1) := by decide +kernel
theorem dX1_follow_38 : decode cX1_follow 38 = .ok (.getfield 18, 3) := by decide +kernel
theorem dX1_follow_41 : decode cX1_follow 41 = .ok (.iconst 0, 1) := by decide +kernel
theorem dX1_follow_42 : decode cX1_follow 42 = .ok (.invokestatic 38, 3) := by decide +kernel
theorem dX1_follow_45 : decode cX1_follow 45 = .ok (.iconst 0, 1) := by decide +kernel
theorem dX1_follow_46 : decode cX1_follow 46 = .ok (.istore_n 3, 1) := by decide +kernel
theorem dX1_follow_47 : decode cX1_follow 47 = .ok (.iload_n 3, 1) := by decide +kernel
theorem dX1_follow_48 : decode cX1_follow 48 = .ok (.iload_n 2, 1) := by decide +kernel
theorem dX1_follow_49 : decode cX1_follow 49 = .ok (.if_icmp .ge 55, 3) := by decide +kernel
theorem dX1_follow_52 : decode cX1_follow 52 = .ok (.aload_n 0, 1) := by decide +kernel
theorem dX1_follow_53 : decode cX1_follow 53 = .ok (.getfield 15, 3) := by decide +kernel
theorem dX1_follow_56 : decode cX1_follow 56 = .ok (.iload_n 3, 1) := by decide +kernel
theorem dX1_follow_57 : decode cX1_follow 57 = .ok (.iaload, 1) := by decide +kernel
theorem dX1_follow_58 : decode cX1_follow 58 = .ok (.iconst (-1), 1) := by decide +kernel
theorem dX1_follow_59 : decode cX1_follow 59 = .ok (.if_icmp .ne 9, 3) := by decide +kernel
theorem dX1_follow_62 : decode cX1_follow 62 = .ok (.aload_n 0, 1) := by decide +kernel
theorem dX1_follow_63 : decode cX1_follow 63 = .ok (.iload_n 3, 1) := by decide +kernel
theorem dX1_follow_64 : decode cX1_follow 64 = .ok (.iload_n 2, 1) := by decide +kernel
theorem dX1_follow_65 : decode cX1_follow 65 = .ok (.invokevirtual 44, 3) := by decide +kernel
theorem dX1_follow_68 : decode cX1_follow 68 = .ok (.aload_n 0, 1) := by decide +kernel
theorem dX1_follow_69 : decode cX1_follow 69 = .ok (.getfield 15, 3) := by decide +kernel
theorem dX1_follow_72 : decode cX1_follow 72 = .ok (.iload_n 3, 1) := by decide +kernel
theorem dX1_follow_73 : decode cX1_follow 73 = .ok (.iaload, 1) := by decide +kernel
theorem dX1_follow_74 : decode cX1_follow 74 = .ok (.istore 4, 2) := by decide +kernel
theorem dX1_follow_76 : decode cX1_follow 76 = .ok (.iload 4, 2) := by decide +kernel
theorem dX1_follow_78 : decode cX1_follow 78 = .ok (.ifCond .lt 20, 3) := by decide +kernel
theorem dX1_follow_81 : decode cX1_follow 81 = .ok (.iload 4, 2) := by decide +kernel
theorem dX1_follow_83 : decode cX1_follow 83 = .ok (.iload_n 2, 1) := by decide +kernel
theorem dX1_follow_84 : decode cX1_follow 84 = .ok (.if_icmp .ge 14, 3) := by decide +kernel
theorem dX1_follow_87 : decode cX1_follow 87 = .ok (.aload_n 0, 1) := by decide +kernel
theorem dX1_follow_88 : decode cX1_follow 88 = .ok (.getfield 18, 3) := by decide +kernel
theorem dX1_follow_91 : decode cX1_follow 91 = .ok (.iload 4, 2) := by decide +kernel
theorem dX1_follow_93 : decode cX1_follow 93 = .ok (.dup2, 1) := by decide +kernel
theorem dX1_follow_94 : decode cX1_follow 94 = .ok (.iaload, 1) := by decide +kernel
theorem dX1_follow_95 : decode cX1_follow 95 = .ok (.iconst 1, 1) := by decide +kernel
theorem dX1_follow_96 : decode cX1_follow 96 = .ok (.iadd, 1) := by decide +kernel
theorem dX1_follow_97 : decode cX1_follow 97 = .ok (.iastore, 1) := by decide +kernel
theorem dX1_follow_98 : decode cX1_follow 98 = .ok (.iinc 3 1, 3) := by decide +kernel
theorem dX1_follow_101 : decode cX1_follow 101 = .ok (.goto (-54), 3) := by decide +kernel
theorem dX1_follow_104 : decode cX1_follow 104 = .ok (.return_, 1) := by decide +kernel
theorem dX1_makeRoom_0 : decode cX1_makeRoom 0 = .ok (.aload_n 0, 1) := by decide +kernel
theorem dX1_makeRoom_1 : decode cX1_makeRoom 1 = .ok (.getfield 9, 3) := by decide +kernel
theorem dX1_makeRoom_4 : decode cX1_makeRoom 4 = .ok (.arraylength, 1) := by decide +kernel
theorem dX1_makeRoom_5 : decode cX1_makeRoom 5 = .ok (.iload_n 1, 1) := by decide +kernel
theorem dX1_makeRoom_6 : decode cX1_makeRoom 6 = .ok (.if_icmp .ge 42, 3) := by decide +kernel
theorem dX1_makeRoom_9 : decode cX1_makeRoom 9 = .ok (.iload_n 1, 1) := by decide +kernel
theorem dX1_makeRoom_10 : decode cX1_makeRoom 10 = .ok (.sipush 20736, 3) := by decide +kernel
theorem dX1_makeRoom_13 : decode cX1_makeRoom 13 = .ok (.iconst 2, 1) := by decide +kernel
theorem dX1_makeRoom_14 : decode cX1_makeRoom 14 = .ok (.aload_n 0, 1) := by decide +kernel
theorem dX1_makeRoom_15 : decode cX1_makeRoom 15 = .ok (.getfield 9, 3) := by decide +kernel
theorem dX1_makeRoom_18 : decode cX1_makeRoom 18 = .ok (.arraylength, 1) := by decide +kernel
theorem dX1_makeRoom_19 : decode cX1_makeRoom 19 = .ok (.imul, 1) := by decide +kernel
theorem dX1_makeRoom_20 : decode cX1_makeRoom 20 = .ok (.invokestatic 48, 3) := by decide +kernel
theorem dX1_makeRoom_23 : decode cX1_makeRoom 23 = .ok (.invokestatic 54, 3) := by decide +kernel
theorem dX1_makeRoom_26 : decode cX1_makeRoom 26 = .ok (.istore_n 2, 1) := by decide +kernel
theorem dX1_makeRoom_27 : decode cX1_makeRoom 27 = .ok (.aload_n 0, 1) := by decide +kernel
theorem dX1_makeRoom_28 : decode cX1_makeRoom 28 = .ok (.iload_n 2, 1) := by decide +kernel
theorem dX1_makeRoom_29 : decode cX1_makeRoom 29 = .ok (.newarray .int, 2) := by decide +kernel
theorem dX1_makeRoom_31 : decode cX1_makeRoom 31 = .ok (.putfield 9, 3) := by decide +kernel
theorem dX1_makeRoom_34 : decode cX1_makeRoom 34 = .ok (.aload_n 0, 1) := by decide +kernel
theorem dX1_makeRoom_35 : decode cX1_makeRoom 35 = .ok (.iload_n 2, 1) := by decide +kernel
theorem dX1_makeRoom_36 : decode cX1_makeRoom 36 = .ok (.newarray .int, 2) := by decide +kernel
theorem dX1_makeRoom_38 : decode cX1_makeRoom 38 = .ok (.putfield 15, 3) := by decide +kernel
theorem dX1_makeRoom_41 : decode cX1_makeRoom 41 = .ok (.aload_n 0, 1) := by decide +kernel
theorem dX1_makeRoom_42 : decode cX1_makeRoom 42 = .ok (.iload_n 2, 1) := by decide +kernel
theorem dX1_makeRoom_43 : decode cX1_makeRoom 43 = .ok (.newarray .int, 2) := by decide +kernel
theorem dX1_makeRoom_45 : decode cX1_makeRoom 45 = .ok (.putfield 18, 3) := by decide +kernel
theorem dX1_makeRoom_48 : decode cX1_makeRoom 48 = .ok (.return_, 1) := by decide +kernel
theorem dX1_followFrom_0 : decode cX1_followFrom 0 = .ok (.bipush (-2), 2) := by decide +kernel
theorem dX1_followFrom_2 : decode cX1_followFrom 2 = .ok (.iload_n 1, 1) := by decide +kernel
theorem dX1_followFrom_3 : decode cX1_followFrom 3 = .ok (.isub, 1) := by decide +kernel
theorem dX1_followFrom_4 : decode cX1_followFrom 4 = .ok (.istore_n 3, 1) := by decide +kernel
theorem dX1_followFrom_5 : decode cX1_followFrom 5 = .ok (.iload_n 1, 1) := by decide +kernel
theorem dX1_followFrom_6 : decode cX1_followFrom 6 = .ok (.istore 4, 2) := by decide +kernel
theorem dX1_followFrom_8 : decode cX1_followFrom 8 = .ok (.iconst 0, 1) := by decide +kernel
theorem dX1_followFrom_9 : decode cX1_followFrom 9 = .ok (.istore 5, 2) := by decide +kernel
theorem dX1_followFrom_11 : decode cX1_followFrom 11 = .ok (.iload 5, 2) := by decide +kernel
theorem dX1_followFrom_13 : decode cX1_followFrom 13 = .ok (.iload_n 2, 1) := by decide +kernel
theorem dX1_followFrom_14 : decode cX1_followFrom 14 = .ok (.if_icmp .ge 37, 3) := by decide +kernel
theorem dX1_followFrom_17 : decode cX1_followFrom 17 = .ok (.aload_n 0, 1) := by decide +kernel
theorem dX1_followFrom_18 : decode cX1_followFrom 18 = .ok (.getfield 15, 3) := by decide +kernel
theorem dX1_followFrom_21 : decode cX1_followFrom 21 = .ok (.iload 4, 2) := by decide +kernel
theorem dX1_followFrom_23 : decode cX1_followFrom 23 = .ok (.iaload, 1) := by decide +kernel
theorem dX1_followFrom_24 : decode cX1_followFrom 24 = .ok (.iconst (-1), 1) := by decide +kernel
theorem dX1_followFrom_25 : decode cX1_followFrom 25 = .ok (.if_icmp .ne 26, 3) := by decide +kernel
theorem dX1_followFrom_28 : decode cX1_followFrom 28 = .ok (.aload_n 0, 1) := by decide +kernel
theorem dX1_followFrom_29 : decode cX1_followFrom 29 = .ok (.getfield 15, 3) := by decide +kernel
theorem dX1_followFrom_32 : decode cX1_followFrom 32 = .ok (.iload 4, 2) := by decide +kernel
theorem dX1_followFrom_34 : decode cX1_followFrom 34 = .ok (.iload_n 3, 1) := by decide +kernel
theorem dX1_followFrom_35 : decode cX1_followFrom 35 = .ok (.iastore, 1) := by decide +kernel
theorem dX1_followFrom_36 : decode cX1_followFrom 36 = .ok (.aload_n 0, 1) := by decide +kernel
theorem dX1_followFrom_37 : decode cX1_followFrom 37 = .ok (.getfield 9, 3) := by decide +kernel
theorem dX1_followFrom_40 : decode cX1_followFrom 40 = .ok (.iload 4, 2) := by decide +kernel
theorem dX1_followFrom_42 : decode cX1_followFrom 42 = .ok (.iaload, 1) := by decide +kernel
theorem dX1_followFrom_43 : decode cX1_followFrom 43 = .ok (.istore 4, 2) := by decide +kernel
theorem dX1_followFrom_45 : decode cX1_followFrom 45 = .ok (.iinc 5 1, 3) := by decide +kernel
theorem dX1_followFrom_48 : decode cX1_followFrom 48 = .ok (.goto (-37), 3) := by decide +kernel
theorem dX1_followFrom_51 : decode cX1_followFrom 51 = .ok (.aload_n 0, 1) := by decide +kernel
theorem dX1_followFrom_52 : decode cX1_followFrom 52 = .ok (.getfield 15, 3) := by decide +kernel
theorem dX1_followFrom_55 : decode cX1_followFrom 55 = .ok (.iload 4, 2) := by decide +kernel
theorem dX1_followFrom_57 : decode cX1_followFrom 57 = .ok (.iaload, 1) := by decide +kernel
theorem dX1_followFrom_58 : decode cX1_followFrom 58 = .ok (.iload_n 3, 1) := by decide +kernel
theorem dX1_followFrom_59 : decode cX1_followFrom 59 = .ok (.if_icmp .ne 13, 3) := by decide +kernel
theorem dX1_followFrom_62 : decode cX1_followFrom 62 = .ok (.aload_n 0, 1) := by decide +kernel
theorem dX1_followFrom_63 : decode cX1_followFrom 63 = .ok (.iload 4, 2) := by decide +kernel
theorem dX1_followFrom_65 : decode cX1_followFrom 65 = .ok (.iload_n 2, 1) := by decide +kernel
theorem dX1_followFrom_66 : decode cX1_followFrom 66 = .ok (.invokevirtual 57, 3) := by decide +kernel
theorem dX1_followFrom_69 : decode cX1_followFrom 69 = .ok (.goto 10, 3) := by decide +kernel
theorem dX1_followFrom_72 : decode cX1_followFrom 72 = .ok (.aload_n 0, 1) := by decide +kernel
theorem dX1_followFrom_73 : decode cX1_followFrom 73 = .ok (.getfield 15, 3) := by decide +kernel
theorem dX1_followFrom_76 : decode cX1_followFrom 76 = .ok (.iload 4, 2) := by decide +kernel
theorem dX1_followFrom_78 : decode cX1_followFrom 78 = .ok (.iaload, 1) := by decide +kernel
theorem dX1_followFrom_79 : decode cX1_followFrom 79 = .ok (.istore 5, 2) := by decide +kernel
theorem dX1_followFrom_81 : decode cX1_followFrom 81 = .ok (.iload_n 1, 1) := by decide +kernel
theorem dX1_followFrom_82 : decode cX1_followFrom 82 = .ok (.istore 4, 2) := by decide +kernel
theorem dX1_followFrom_84 : decode cX1_followFrom 84 = .ok (.iconst 0, 1) := by decide +kernel
theorem dX1_followFrom_85 : decode cX1_followFrom 85 = .ok (.istore 6, 2) := by decide +kernel
theorem dX1_followFrom_87 : decode cX1_followFrom 87 = .ok (.iload 6, 2) := by decide +kernel
theorem dX1_followFrom_89 : decode cX1_followFrom 89 = .ok (.iload_n 2, 1) := by decide +kernel
theorem dX1_followFrom_90 : decode cX1_followFrom 90 = .ok (.if_icmp .ge 38, 3) := by decide +kernel
theorem dX1_followFrom_93 : decode cX1_followFrom 93 = .ok (.aload_n 0, 1) := by decide +kernel
theorem dX1_followFrom_94 : decode cX1_followFrom 94 = .ok (.getfield 15, 3) := by decide +kernel
theorem dX1_followFrom_97 : decode cX1_followFrom 97 = .ok (.iload 4, 2) := by decide +kernel
theorem dX1_followFrom_99 : decode cX1_followFrom 99 = .ok (.iaload, 1) := by decide +kernel
theorem dX1_followFrom_100 : decode cX1_followFrom 100 = .ok (.iload_n 3, 1) := by decide +kernel
theorem dX1_followFrom_101 : decode cX1_followFrom 101 = .ok (.if_icmp .ne 27, 3) := by decide +kernel
theorem dX1_followFrom_104 : decode cX1_followFrom 104 = .ok (.aload_n 0, 1) := by decide +kernel
theorem dX1_followFrom_105 : decode cX1_followFrom 105 = .ok (.getfield 15, 3) := by decide +kernel
theorem dX1_followFrom_108 : decode cX1_followFrom 108 = .ok (.iload 4, 2) := by decide +kernel
theorem dX1_followFrom_110 : decode cX1_followFrom 110 = .ok (.iload 5, 2) := by decide +kernel
theorem dX1_followFrom_112 : decode cX1_followFrom 112 = .ok (.iastore, 1) := by decide +kernel
theorem dX1_followFrom_113 : decode cX1_followFrom 113 = .ok (.aload_n 0, 1) := by decide +kernel
theorem dX1_followFrom_114 : decode cX1_followFrom 114 = .ok (.getfield 9, 3) := by decide +kernel
theorem dX1_followFrom_117 : decode cX1_followFrom 117 = .ok (.iload 4, 2) := by decide +kernel
theorem dX1_followFrom_119 : decode cX1_followFrom 119 = .ok (.iaload, 1) := by decide +kernel
theorem dX1_followFrom_120 : decode cX1_followFrom 120 = .ok (.istore 4, 2) := by decide +kernel
theorem dX1_followFrom_122 : decode cX1_followFrom 122 = .ok (.iinc 6 1, 3) := by decide +kernel
theorem dX1_followFrom_125 : decode cX1_followFrom 125 = .ok (.goto (-38), 3) := by decide +kernel
theorem dX1_followFrom_128 : decode cX1_followFrom 128 = .ok (.return_, 1) := by decide +kernel
theorem dX1_leastOfRound_0 : decode cX1_leastOfRound 0 = .ok (.iload_n 1, 1) := by decide +kernel
theorem dX1_leastOfRound_1 : decode cX1_leastOfRound 1 = .ok (.istore_n 3, 1) := by decide +kernel
theorem dX1_leastOfRound_2 : decode cX1_leastOfRound 2 = .ok (.aload_n 0, 1) := by decide +kernel
theorem dX1_leastOfRound_3 : decode cX1_leastOfRound 3 = .ok (.getfield 9, 3) := by decide +kernel
theorem dX1_leastOfRound_6 : decode cX1_leastOfRound 6 = .ok (.iload_n 1, 1) := by decide +kernel
theorem dX1_leastOfRound_7 : decode cX1_leastOfRound 7 = .ok (.iaload, 1) := by decide +kernel
theorem dX1_leastOfRound_8 : decode cX1_leastOfRound 8 = .ok (.istore 4, 2) := by decide +kernel
theorem dX1_leastOfRound_10 : decode cX1_leastOfRound 10 = .ok (.iconst 0, 1) := by decide +kernel
theorem dX1_leastOfRound_11 : decode cX1_leastOfRound 11 = .ok (.istore 5, 2) := by decide +kernel
theorem dX1_leastOfRound_13 : decode cX1_leastOfRound 13 = .ok (.iload 5, 2) := by decide +kernel
theorem dX1_leastOfRound_15 : decode cX1_leastOfRound 15 = .ok (.iload_n 2, 1) := by decide +kernel
theorem dX1_leastOfRound_16 : decode cX1_leastOfRound 16 = .ok (.if_icmp .ge 31, 3) := by decide +kernel
theorem dX1_leastOfRound_19 : decode cX1_leastOfRound 19 = .ok (.iload 4, 2) := by decide +kernel
theorem dX1_leastOfRound_21 : decode cX1_leastOfRound 21 = .ok (.iload_n 1, 1) := by decide +kernel
theorem dX1_leastOfRound_22 : decode cX1_leastOfRound 22 = .ok (.if_icmp .eq 25, 3) := by decide +kernel
theorem dX1_leastOfRound_25 : decode cX1_leastOfRound 25 = .ok (.iload_n 3, 1) := by decide +kernel
theorem dX1_leastOfRound_26 : decode cX1_leastOfRound 26 = .ok (.iload 4, 2) := by decide +kernel
theorem dX1_leastOfRound_28 : decode cX1_leastOfRound 28 = .ok (.invokestatic 48, 3) := by decide +kernel
theorem dX1_leastOfRound_31 : decode cX1_leastOfRound 31 = .ok (.istore_n 3, 1) := by decide +kernel
theorem dX1_leastOfRound_32 : decode cX1_leastOfRound 32 = .ok (.aload_n 0, 1) := by decide +kernel
theorem dX1_leastOfRound_33 : decode cX1_leastOfRound 33 = .ok (.getfield 9, 3) := by decide +kernel
theorem dX1_leastOfRound_36 : decode cX1_leastOfRound 36 = .ok (.iload 4, 2) := by decide +kernel
theorem dX1_leastOfRound_38 : decode cX1_leastOfRound 38 = .ok (.iaload, 1) := by decide +kernel
theorem dX1_leastOfRound_39 : decode cX1_leastOfRound 39 = .ok (.istore 4, 2) := by decide +kernel
theorem dX1_leastOfRound_41 : decode cX1_leastOfRound 41 = .ok (.iinc 5 1, 3) := by decide +kernel
theorem dX1_leastOfRound_44 : decode cX1_leastOfRound 44 = .ok (.goto (-31), 3) := by decide +kernel
theorem dX1_leastOfRound_47 : decode cX1_leastOfRound 47 = .ok (.iload_n 3, 1) := by decide +kernel
theorem dX1_leastOfRound_48 : decode cX1_leastOfRound 48 = .ok (.ireturn, 1) := by decide +kernel
theorem dX1_keep_0 : decode cX1_keep 0 = .ok (.iconst 0, 1) := by decide +kernel
theorem dX1_keep_1 : decode cX1_keep 1 = .ok (.istore_n 2, 1) := by decide +kernel
theorem dX1_keep_2 : decode cX1_keep 2 = .ok (.iconst 0, 1) := by decide +kernel
theorem dX1_keep_3 : decode cX1_keep 3 = .ok (.istore_n 3, 1) := by decide +kernel
theorem dX1_keep_4 : decode cX1_keep 4 = .ok (.iload_n 3, 1) := by decide +kernel
theorem dX1_keep_5 : decode cX1_keep 5 = .ok (.iload_n 1, 1) := by decide +kernel
theorem dX1_keep_6 : decode cX1_keep 6 = .ok (.if_icmp .ge 27, 3) := by decide +kernel
theorem dX1_keep_9 : decode cX1_keep 9 = .ok (.iload_n 2, 1) := by decide +kernel
theorem dX1_keep_10 : decode cX1_keep 10 = .ok (.aload_n 0, 1) := by decide +kernel
theorem dX1_keep_11 : decode cX1_keep 11 = .ok (.getfield 15, 3) := by decide +kernel
theorem dX1_keep_14 : decode cX1_keep 14 = .ok (.iload_n 3, 1) := by decide +kernel
theorem dX1_keep_15 : decode cX1_keep 15 = .ok (.iaload, 1) := by decide +kernel
theorem dX1_keep_16 : decode cX1_keep 16 = .ok (.iload_n 3, 1) := by decide +kernel
theorem dX1_keep_17 : decode cX1_keep 17 = .ok (.if_icmp .ne 7, 3) := by decide +kernel
theorem dX1_keep_20 : decode cX1_keep 20 = .ok (.iconst 1, 1) := by decide +kernel
theorem dX1_keep_21 : decode cX1_keep 21 = .ok (.goto 4, 3) := by decide +kernel
theorem dX1_keep_24 : decode cX1_keep 24 = .ok (.iconst 0, 1) := by decide +kernel
theorem dX1_keep_25 : decode cX1_keep 25 = .ok (.iadd, 1) := by decide +kernel
theorem dX1_keep_26 : decode cX1_keep 26 = .ok (.istore_n 2, 1) := by decide +kernel
theorem dX1_keep_27 : decode cX1_keep 27 = .ok (.iinc 3 1, 3) := by decide +kernel
theorem dX1_keep_30 : decode cX1_keep 30 = .ok (.goto (-26), 3) := by decide +kernel
theorem dX1_keep_33 : decode cX1_keep 33 = .ok (.aload_n 0, 1) := by decide +kernel
theorem dX1_keep_34 : decode cX1_keep 34 = .ok (.getfield 21, 3) := by decide +kernel
theorem dX1_keep_37 : decode cX1_keep 37 = .ok (.arraylength, 1) := by decide +kernel
theorem dX1_keep_38 : decode cX1_keep 38 = .ok (.iload_n 2, 1) := by decide +kernel
theorem dX1_keep_39 : decode cX1_keep 39 = .ok (.iconst 3, 1) := by decide +kernel
theorem dX1_keep_40 : decode cX1_keep 40 = .ok (.imul, 1) := by decide +kernel
theorem dX1_keep_41 : decode cX1_keep 41 = .ok (.if_icmp .ge 27, 3) := by decide +kernel
theorem dX1_keep_44 : decode cX1_keep 44 = .ok (.aload_n 0, 1) := by decide +kernel
theorem dX1_keep_45 : decode cX1_keep 45 = .ok (.iload_n 2, 1) := by decide +kernel
theorem dX1_keep_46 : decode cX1_keep 46 = .ok (.sipush 20736, 3) := by decide +kernel
theorem dX1_keep_49 : decode cX1_keep 49 = .ok (.iconst 2, 1) := by decide +kernel
theorem dX1_keep_50 : decode cX1_keep 50 = .ok (.aload_n 0, 1) := by decide +kernel
theorem dX1_keep_51 : decode cX1_keep 51 = .ok (.getfield 24, 3) := by decide +kernel
theorem dX1_keep_54 : decode cX1_keep 54 = .ok (.imul, 1) := by decide +kernel
theorem dX1_keep_55 : decode cX1_keep 55 = .ok (.invokestatic 48, 3) := by decide +kernel
theorem dX1_keep_58 : decode cX1_keep 58 = .ok (.invokestatic 54, 3) := by decide +kernel
theorem dX1_keep_61 : decode cX1_keep 61 = .ok (.iconst 3, 1) := by decide +kernel
theorem dX1_keep_62 : decode cX1_keep 62 = .ok (.imul, 1) := by decide +kernel
theorem dX1_keep_63 : decode cX1_keep 63 = .ok (.newarray .int, 2) := by decide +kernel
theorem dX1_keep_65 : decode cX1_keep 65 = .ok (.putfield 21, 3) := by decide +kernel
theorem dX1_keep_68 : decode cX1_keep 68 = .ok (.aload_n 0, 1) := by decide +kernel
theorem dX1_keep_69 : decode cX1_keep 69 = .ok (.iload_n 2, 1) := by decide +kernel
theorem dX1_keep_70 : decode cX1_keep 70 = .ok (.putfield 24, 3) := by decide +kernel
theorem dX1_keep_73 : decode cX1_keep 73 = .ok (.iconst 0, 1) := by decide +kernel
theorem dX1_keep_74 : decode cX1_keep 74 = .ok (.istore_n 3, 1) := by decide +kernel
theorem dX1_keep_75 : decode cX1_keep 75 = .ok (.iconst 0, 1) := by decide +kernel
theorem dX1_keep_76 : decode cX1_keep 76 = .ok (.istore 4, 2) := by decide +kernel
theorem dX1_keep_78 : decode cX1_keep 78 = .ok (.iload 4, 2) := by decide +kernel
theorem dX1_keep_80 : decode cX1_keep 80 = .ok (.iload_n 1, 1) := by decide +kernel
theorem dX1_keep_81 : decode cX1_keep 81 = .ok (.if_icmp .ge 73, 3) := by decide +kernel
theorem dX1_keep_84 : decode cX1_keep 84 = .ok (.iload_n 3, 1) := by decide +kernel
theorem dX1_keep_85 : decode cX1_keep 85 = .ok (.iload_n 2, 1) := by decide +kernel
theorem dX1_keep_86 : decode cX1_keep 86 = .ok (.if_icmp .ge 68, 3) := by decide +kernel
theorem dX1_keep_89 : decode cX1_keep 89 = .ok (.aload_n 0, 1) := by decide +kernel
theorem dX1_keep_90 : decode cX1_keep 90 = .ok (.getfield 15, 3) := by decide +kernel
theorem dX1_keep_93 : decode cX1_keep 93 = .ok (.iload 4, 2) := by decide +kernel
theorem dX1_keep_95 : decode cX1_keep 95 = .ok (.iaload, 1) := by decide +kernel
theorem dX1_keep_96 : decode cX1_keep 96 = .ok (.iload 4, 2) := by decide +kernel
theorem dX1_keep_98 : decode cX1_keep 98 = .ok (.if_icmp .ne 50, 3) := by decide +kernel
theorem dX1_keep_101 : decode cX1_keep 101 = .ok (.aload_n 0, 1) := by decide +kernel
theorem dX1_keep_102 : decode cX1_keep 102 = .ok (.getfield 21, 3) := by decide +kernel
theorem dX1_keep_105 : decode cX1_keep 105 = .ok (.iload_n 3, 1) := by decide +kernel
theorem dX1_keep_106 : decode cX1_keep 106 = .ok (.iconst 3, 1) := by decide +kernel
theorem dX1_keep_107 : decode cX1_keep 107 = .ok (.imul, 1) := by decide +kernel
theorem dX1_keep_108 : decode cX1_keep 108 = .ok (.iload 4, 2) := by decide +kernel
theorem dX1_keep_110 : decode cX1_keep 110 = .ok (.iastore, 1) := by decide +kernel
theorem dX1_keep_111 : decode cX1_keep 111 = .ok (.aload_n 0, 1) := by decide +kernel
theorem dX1_keep_112 : decode cX1_keep 112 = .ok (.getfield 21, 3) := by decide +kernel
theorem dX1_keep_115 : decode cX1_keep 115 = .ok (.iload_n 3, 1) := by decide +kernel
theorem dX1_keep_116 : decode cX1_keep 116 = .ok (.iconst 3, 1) := by decide +kernel
theorem dX1_keep_117 : decode cX1_keep 117 = .ok (.imul, 1) := by decide +kernel
theorem dX1_keep_118 : decode cX1_keep 118 = .ok (.iconst 1, 1) := by decide +kernel
theorem dX1_keep_119 : decode cX1_keep 119 = .ok (.iadd, 1) := by decide +kernel
theorem dX1_keep_120 : decode cX1_keep 120 = .ok (.aload_n 0, 1) := by decide +kernel
theorem dX1_keep_121 : decode cX1_keep 121 = .ok (.iload 4, 2) := by decide +kernel
theorem dX1_keep_123 : decode cX1_keep 123 = .ok (.iload_n 1, 1) := by decide +kernel
theorem dX1_keep_124 : decode cX1_keep 124 = .ok (.invokevirtual 60, 3) := by decide +kernel
theorem dX1_keep_127 : decode cX1_keep 127 = .ok (.iastore, 1) := by decide +kernel
theorem dX1_keep_128 : decode cX1_keep 128 = .ok (.aload_n 0, 1) := by decide +kernel
theorem dX1_keep_129 : decode cX1_keep 129 = .ok (.getfield 21, 3) := by decide +kernel
theorem dX1_keep_132 : decode cX1_keep 132 = .ok (.iload_n 3, 1) := by decide +kernel
theorem dX1_keep_133 : decode cX1_keep 133 = .ok (.iconst 3, 1) := by decide +kernel
theorem dX1_keep_134 : decode cX1_keep 134 = .ok (.imul, 1) := by decide +kernel
theorem dX1_keep_135 : decode cX1_keep 135 = .ok (.iconst 2, 1) := by decide +kernel
theorem dX1_keep_136 : decode cX1_keep 136 = .ok (.iadd, 1) := by decide +kernel
theorem dX1_keep_137 : decode cX1_keep 137 = .ok (.aload_n 0, 1) := by decide +kernel
theorem dX1_keep_138 : decode cX1_keep 138 = .ok (.getfield 18, 3) := by decide +kernel
theorem dX1_keep_141 : decode cX1_keep 141 = .ok (.iload 4, 2) := by decide +kernel
theorem dX1_keep_143 : decode cX1_keep 143 = .ok (.iaload, 1) := by decide +kernel
theorem dX1_keep_144 : decode cX1_keep 144 = .ok (.iastore, 1) := by decide +kernel
theorem dX1_keep_145 : decode cX1_keep 145 = .ok (.iinc 3 1, 3) := by decide +kernel
theorem dX1_keep_148 : decode cX1_keep 148 = .ok (.iinc 4 1, 3) := by decide +kernel
theorem dX1_keep_151 : decode cX1_keep 151 = .ok (.goto (-73), 3) := by decide +kernel
theorem dX1_keep_154 : decode cX1_keep 154 = .ok (.return_, 1) := by decide +kernel
theorem dX1_lengthOfRound_0 : decode cX1_lengthOfRound 0 = .ok (.iconst 1, 1) := by decide +kernel
theorem dX1_lengthOfRound_1 : decode cX1_lengthOfRound 1 = .ok (.istore_n 3, 1) := by decide +kernel
theorem dX1_lengthOfRound_2 : decode cX1_lengthOfRound 2 = .ok (.aload_n 0, 1) := by decide +kernel
theorem dX1_lengthOfRound_3 : decode cX1_lengthOfRound 3 = .ok (.getfield 9, 3) := by decide +kernel
theorem dX1_lengthOfRound_6 : decode cX1_lengthOfRound 6 = .ok (.iload_n 1, 1) := by decide +kernel
theorem dX1_lengthOfRound_7 : decode cX1_lengthOfRound 7 = .ok (.iaload, 1) := by decide +kernel
theorem dX1_lengthOfRound_8 : decode cX1_lengthOfRound 8 = .ok (.istore 4, 2) := by decide +kernel
theorem dX1_lengthOfRound_10 : decode cX1_lengthOfRound 10 = .ok (.iload 4, 2) := by decide +kernel
theorem dX1_lengthOfRound_12 : decode cX1_lengthOfRound 12 = .ok (.iload_n 1, 1) := by decide +kernel
theorem dX1_lengthOfRound_13 : decode cX1_lengthOfRound 13 = .ok (.if_icmp .eq 23, 3) := by decide +kernel
theorem dX1_lengthOfRound_16 : decode cX1_lengthOfRound 16 = .ok (.iload_n 3, 1) := by decide +kernel
theorem dX1_lengthOfRound_17 : decode cX1_lengthOfRound 17 = .ok (.iload_n 2, 1) := by decide +kernel
theorem dX1_lengthOfRound_18 : decode cX1_lengthOfRound 18 = .ok (.if_icmp .ge 18, 3) := by decide +kernel
theorem dX1_lengthOfRound_21 : decode cX1_lengthOfRound 21 = .ok (.iinc 3 1, 3) := by decide +kernel
theorem dX1_lengthOfRound_24 : decode cX1_lengthOfRound 24 = .ok (.aload_n 0, 1) := by decide +kernel
theorem dX1_lengthOfRound_25 : decode cX1_lengthOfRound 25 = .ok (.getfield 9, 3) := by decide +kernel
theorem dX1_lengthOfRound_28 : decode cX1_lengthOfRound 28 = .ok (.iload 4, 2) := by decide +kernel
theorem dX1_lengthOfRound_30 : decode cX1_lengthOfRound 30 = .ok (.iaload, 1) := by decide +kernel
theorem dX1_lengthOfRound_31 : decode cX1_lengthOfRound 31 = .ok (.istore 4, 2) := by decide +kernel
theorem dX1_lengthOfRound_33 : decode cX1_lengthOfRound 33 = .ok (.goto (-23), 3) := by decide +kernel
theorem dX1_lengthOfRound_36 : decode cX1_lengthOfRound 36 = .ok (.iload_n 3, 1) := by decide +kernel
theorem dX1_lengthOfRound_37 : decode cX1_lengthOfRound 37 = .ok (.ireturn, 1) := by decide +kernel
theorem dX1_tell_0 : decode cX1_tell 0 = .ok (.iload_n 1, 1) := by decide +kernel
theorem dX1_tell_1 : decode cX1_tell 1 = .ok (.iconst 3, 1) := by decide +kernel
theorem dX1_tell_2 : decode cX1_tell 2 = .ok (.imul, 1) := by decide +kernel
theorem dX1_tell_3 : decode cX1_tell 3 = .ok (.iload_n 2, 1) := by decide +kernel
theorem dX1_tell_4 : decode cX1_tell 4 = .ok (.iadd, 1) := by decide +kernel
theorem dX1_tell_5 : decode cX1_tell 5 = .ok (.istore_n 3, 1) := by decide +kernel
theorem dX1_tell_6 : decode cX1_tell 6 = .ok (.iload_n 3, 1) := by decide +kernel
theorem dX1_tell_7 : decode cX1_tell 7 = .ok (.ifCond .lt 21, 3) := by decide +kernel
theorem dX1_tell_10 : decode cX1_tell 10 = .ok (.iload_n 3, 1) := by decide +kernel
theorem dX1_tell_11 : decode cX1_tell 11 = .ok (.aload_n 0, 1) := by decide +kernel
theorem dX1_tell_12 : decode cX1_tell 12 = .ok (.getfield 21, 3) := by decide +kernel
theorem dX1_tell_15 : decode cX1_tell 15 = .ok (.arraylength, 1) := by decide +kernel
theorem dX1_tell_16 : decode cX1_tell 16 = .ok (.if_icmp .ge 12, 3) := by decide +kernel
theorem dX1_tell_19 : decode cX1_tell 19 = .ok (.aload_n 0, 1) := by decide +kernel
theorem dX1_tell_20 : decode cX1_tell 20 = .ok (.getfield 21, 3) := by decide +kernel
theorem dX1_tell_23 : decode cX1_tell 23 = .ok (.iload_n 3, 1) := by decide +kernel
theorem dX1_tell_24 : decode cX1_tell 24 = .ok (.iaload, 1) := by decide +kernel
theorem dX1_tell_25 : decode cX1_tell 25 = .ok (.goto 4, 3) := by decide +kernel
theorem dX1_tell_28 : decode cX1_tell 28 = .ok (.iconst (-1), 1) := by decide +kernel
theorem dX1_tell_29 : decode cX1_tell 29 = .ok (.ireturn, 1) := by decide +kernel
theorem dX1_statesInStep_0 : decode cX1_statesInStep 0 = .ok (.iconst 0, 1) := by decide +kernel
theorem dX1_statesInStep_1 : decode cX1_statesInStep 1 = .ok (.istore 4, 2) := by decide +kernel
theorem dX1_statesInStep_3 : decode cX1_statesInStep 3 = .ok (.iconst 0, 1) := by decide +kernel
theorem dX1_statesInStep_4 : decode cX1_statesInStep 4 = .ok (.istore 5, 2) := by decide +kernel
theorem dX1_statesInStep_6 : decode cX1_statesInStep 6 = .ok (.iload 5, 2) := by decide +kernel
theorem dX1_statesInStep_8 : decode cX1_statesInStep 8 = .ok (.iload_n 2, 1) := by decide +kernel
theorem dX1_statesInStep_9 : decode cX1_statesInStep 9 = .ok (.if_icmp .ge 45, 3) := by decide +kernel
theorem dX1_statesInStep_12 : decode cX1_statesInStep 12 = .ok (.aload_n 0, 1) := by decide +kernel
theorem dX1_statesInStep_13 : decode cX1_statesInStep 13 = .ok (.getfield 15, 3) := by decide +kernel
theorem dX1_statesInStep_16 : decode cX1_statesInStep 16 = .ok (.iload 5, 2) := by decide +kernel
theorem dX1_statesInStep_18 : decode cX1_statesInStep 18 = .ok (.iaload, 1) := by decide +kernel
theorem dX1_statesInStep_19 : decode cX1_statesInStep 19 = .ok (.iload 5, 2) := by decide +kernel
theorem dX1_statesInStep_21 : decode cX1_statesInStep 21 = .ok (.if_icmp .ne 27, 3) := by decide +kernel
theorem dX1_statesInStep_24 : decode cX1_statesInStep 24 = .ok (.aload_n 0, 1) := by decide +kernel
theorem dX1_statesInStep_25 : decode cX1_statesInStep 25 = .ok (.aload_n 1, 1) := by decide +kernel
theorem dX1_statesInStep_26 : decode cX1_statesInStep 26 = .ok (.iload 5, 2) := by decide +kernel
theorem dX1_statesInStep_28 : decode cX1_statesInStep 28 = .ok (.iload_n 2, 1) := by decide +kernel
theorem dX1_statesInStep_29 : decode cX1_statesInStep 29 = .ok (.iload_n 3, 1) := by decide +kernel
theorem dX1_statesInStep_30 : decode cX1_statesInStep 30 = .ok (.invokevirtual 63, 3) := by decide +kernel
theorem dX1_statesInStep_33 : decode cX1_statesInStep 33 = .ok (.ifCond .eq 15, 3) := by decide +kernel
theorem dX1_statesInStep_36 : decode cX1_statesInStep 36 = .ok (.iload 4, 2) := by decide +kernel
theorem dX1_statesInStep_38 : decode cX1_statesInStep 38 = .ok (.aload_n 0, 1) := by decide +kernel
theorem dX1_statesInStep_39 : decode cX1_statesInStep 39 = .ok (.getfield 18, 3) := by decide +kernel
theorem dX1_statesInStep_42 : decode cX1_statesInStep 42 = .ok (.iload 5, 2) := by decide +kernel
theorem dX1_statesInStep_44 : decode cX1_statesInStep 44 = .ok (.iaload, 1) := by decide +kernel
theorem dX1_statesInStep_45 : decode cX1_statesInStep 45 = .ok (.iadd, 1) := by decide +kernel
theorem dX1_statesInStep_46 : decode cX1_statesInStep 46 = .ok (.istore 4, 2) := by decide +kernel
theorem dX1_statesInStep_48 : decode cX1_statesInStep 48 = .ok (.iinc 5 1, 3) := by decide +kernel
theorem dX1_statesInStep_51 : decode cX1_statesInStep 51 = .ok (.goto (-45), 3) := by decide +kernel
theorem dX1_statesInStep_54 : decode cX1_statesInStep 54 = .ok (.iload 4, 2) := by decide +kernel
theorem dX1_statesInStep_56 : decode cX1_statesInStep 56 = .ok (.ireturn, 1) := by decide +kernel
theorem dX1_roundInStep_0 : decode cX1_roundInStep 0 = .ok (.iload_n 2, 1) := by decide +kernel
theorem dX1_roundInStep_1 : decode cX1_roundInStep 1 = .ok (.istore 5, 2) := by decide +kernel
theorem dX1_roundInStep_3 : decode cX1_roundInStep 3 = .ok (.iconst 0, 1) := by decide +kernel
theorem dX1_roundInStep_4 : decode cX1_roundInStep 4 = .ok (.istore 6, 2) := by decide +kernel
theorem dX1_roundInStep_6 : decode cX1_roundInStep 6 = .ok (.iload 6, 2) := by decide +kernel
theorem dX1_roundInStep_8 : decode cX1_roundInStep 8 = .ok (.iload_n 3, 1) := by decide +kernel
theorem dX1_roundInStep_9 : decode cX1_roundInStep 9 = .ok (.if_icmp .ge 39, 3) := by decide +kernel
theorem dX1_roundInStep_12 : decode cX1_roundInStep 12 = .ok (.aload_n 1, 1) := by decide +kernel
theorem dX1_roundInStep_13 : decode cX1_roundInStep 13 = .ok (.iload 5, 2) := by decide +kernel
theorem dX1_roundInStep_15 : decode cX1_roundInStep 15 = .ok (.iload 4, 2) := by decide +kernel
theorem dX1_roundInStep_17 : decode cX1_roundInStep 17 = .ok (.invokevirtual 67, 3) := by decide +kernel
theorem dX1_roundInStep_20 : decode cX1_roundInStep 20 = .ok (.ifCond .ne 5, 3) := by decide +kernel
theorem dX1_roundInStep_23 : decode cX1_roundInStep 23 = .ok (.iconst 0, 1) := by decide +kernel
theorem dX1_roundInStep_24 : decode cX1_roundInStep 24 = .ok (.ireturn, 1) := by decide +kernel
theorem dX1_roundInStep_25 : decode cX1_roundInStep 25 = .ok (.aload_n 0, 1) := by decide +kernel
theorem dX1_roundInStep_26 : decode cX1_roundInStep 26 = .ok (.getfield 9, 3) := by decide +kernel
theorem dX1_roundInStep_29 : decode cX1_roundInStep 29 = .ok (.iload 5, 2) := by decide +kernel
theorem dX1_roundInStep_31 : decode cX1_roundInStep 31 = .ok (.iaload, 1) := by decide +kernel
theorem dX1_roundInStep_32 : decode cX1_roundInStep 32 = .ok (.istore 5, 2) := by decide +kernel
theorem dX1_roundInStep_34 : decode cX1_roundInStep 34 = .ok (.iload 5, 2) := by decide +kernel
theorem dX1_roundInStep_36 : decode cX1_roundInStep 36 = .ok (.iload_n 2, 1) := by decide +kernel
theorem dX1_roundInStep_37 : decode cX1_roundInStep 37 = .ok (.if_icmp .ne 5, 3) := by decide +kernel
theorem dX1_roundInStep_40 : decode cX1_roundInStep 40 = .ok (.iconst 1, 1) := by decide +kernel
theorem dX1_roundInStep_41 : decode cX1_roundInStep 41 = .ok (.ireturn, 1) := by decide +kernel
theorem dX1_roundInStep_42 : decode cX1_roundInStep 42 = .ok (.iinc 6 1, 3) := by decide +kernel
theorem dX1_roundInStep_45 : decode cX1_roundInStep 45 = .ok (.goto (-39), 3) := by decide +kernel
theorem dX1_roundInStep_48 : decode cX1_roundInStep 48 = .ok (.iconst 1, 1) := by decide +kernel
theorem dX1_roundInStep_49 : decode cX1_roundInStep 49 = .ok (.ireturn, 1) := by decide +kernel
theorem dX2_init_0 : decode cX2_init 0 = .ok (.aload_n 0, 1) := by decide +kernel
theorem dX2_init_1 : decode cX2_init 1 = .ok (.invokespecial 3, 3) := by decide +kernel
theorem dX2_init_4 : decode cX2_init 4 = .ok (.aload_n 0, 1) := by decide +kernel
theorem dX2_init_5 : decode cX2_init 5 = .ok (.iconst 0, 1) := by decide +kernel
theorem dX2_init_6 : decode cX2_init 6 = .ok (.putfield 9, 3) := by decide +kernel
theorem dX2_init_9 : decode cX2_init 9 = .ok (.aload_n 0, 1) := by decide +kernel
theorem dX2_init_10 : decode cX2_init 10 = .ok (.iconst (-1), 1) := by decide +kernel
theorem dX2_init_11 : decode cX2_init 11 = .ok (.putfield 15, 3) := by decide +kernel
theorem dX2_init_14 : decode cX2_init 14 = .ok (.aload_n 0, 1) := by decide +kernel
theorem dX2_init_15 : decode cX2_init 15 = .ok (.bipush 100, 2) := by decide +kernel
theorem dX2_init_17 : decode cX2_init 17 = .ok (.newarray .long, 2) := by decide +kernel
theorem dX2_init_19 : decode cX2_init 19 = .ok (.putfield 18, 3) := by decide +kernel
theorem dX2_init_22 : decode cX2_init 22 = .ok (.return_, 1) := by decide +kernel
theorem dX2_isMissing_0 : decode cX2_isMissing 0 = .ok (.aload_n 0, 1) := by decide +kernel
theorem dX2_isMissing_1 : decode cX2_isMissing 1 = .ok (.getfield 15, 3) := by decide +kernel
theorem dX2_isMissing_4 : decode cX2_isMissing 4 = .ok (.iconst (-1), 1) := by decide +kernel
theorem dX2_isMissing_5 : decode cX2_isMissing 5 = .ok (.if_icmp .ne 7, 3) := by decide +kernel
theorem dX2_isMissing_8 : decode cX2_isMissing 8 = .ok (.iconst 1, 1) := by decide +kernel
theorem dX2_isMissing_9 : decode cX2_isMissing 9 = .ok (.goto 4, 3) := by decide +kernel
theorem dX2_isMissing_12 : decode cX2_isMissing 12 = .ok (.iconst 0, 1) := by decide +kernel
theorem dX2_isMissing_13 : decode cX2_isMissing 13 = .ok (.ireturn, 1) := by decide +kernel
theorem dX2_make_0 : decode cX2_make 0 = .ok (.aload_n 0, 1) := by decide +kernel
theorem dX2_make_1 : decode cX2_make 1 = .ok (.iload_n 1, 1) := by decide +kernel
theorem dX2_make_2 : decode cX2_make 2 = .ok (.putfield 9, 3) := by decide +kernel
theorem dX2_make_5 : decode cX2_make 5 = .ok (.aload_n 0, 1) := by decide +kernel
theorem dX2_make_6 : decode cX2_make 6 = .ok (.iload_n 2, 1) := by decide +kernel
theorem dX2_make_7 : decode cX2_make 7 = .ok (.putfield 15, 3) := by decide +kernel
theorem dX2_make_10 : decode cX2_make 10 = .ok (.aload_n 0, 1) := by decide +kernel
theorem dX2_make_11 : decode cX2_make 11 = .ok (.getfield 18, 3) := by decide +kernel
theorem dX2_make_14 : decode cX2_make 14 = .ok (.lconst 0, 1) := by decide +kernel
theorem dX2_make_15 : decode cX2_make 15 = .ok (.invokestatic 22, 3) := by decide +kernel
theorem dX2_make_18 : decode cX2_make 18 = .ok (.return_, 1) := by decide +kernel
theorem dX2_hasPlaces_0 : decode cX2_hasPlaces 0 = .ok (.iload_n 1, 1) := by decide +kernel
theorem dX2_hasPlaces_1 : decode cX2_hasPlaces 1 = .ok (.ifCond .lt 25, 3) := by decide +kernel
theorem dX2_hasPlaces_4 : decode cX2_hasPlaces 4 = .ok (.iload_n 2, 1) := by decide +kernel
theorem dX2_hasPlaces_5 : decode cX2_hasPlaces 5 = .ok (.ifCond .lt 21, 3) := by decide +kernel
theorem dX2_hasPlaces_8 : decode cX2_hasPlaces 8 = .ok (.iload_n 1, 1) := by decide +kernel
theorem dX2_hasPlaces_9 : decode cX2_hasPlaces 9 = .ok (.i2l, 1) := by decide +kernel
theorem dX2_hasPlaces_10 : decode cX2_hasPlaces 10 = .ok (.iload_n 2, 1) := by decide +kernel
theorem dX2_hasPlaces_11 : decode cX2_hasPlaces 11 = .ok (.i2l, 1) := by decide +kernel
theorem dX2_hasPlaces_12 : decode cX2_hasPlaces 12 = .ok (.ladd, 1) := by decide +kernel
theorem dX2_hasPlaces_13 : decode cX2_hasPlaces 13 = .ok (.aload_n 0, 1) := by decide +kernel
theorem dX2_hasPlaces_14 : decode cX2_hasPlaces 14 = .ok (.getfield 15, 3) := by decide +kernel
theorem dX2_hasPlaces_17 : decode cX2_hasPlaces 17 = .ok (.i2l, 1) := by decide +kernel
theorem dX2_hasPlaces_18 : decode cX2_hasPlaces 18 = .ok (.lcmp, 1) := by decide +kernel
theorem dX2_hasPlaces_19 : decode cX2_hasPlaces 19 = .ok (.ifCond .gt 7, 3) := by decide +kernel
theorem dX2_hasPlaces_22 : decode cX2_hasPlaces 22 = .ok (.iconst 1, 1) := by decide +kernel
theorem dX2_hasPlaces_23 : decode cX2_hasPlaces 23 = .ok (.goto 4, 3) := by decide +kernel
theorem dX2_hasPlaces_26 : decode cX2_hasPlaces 26 = .ok (.iconst 0, 1) := by decide +kernel
theorem dX2_hasPlaces_27 : decode cX2_hasPlaces 27 = .ok (.ireturn, 1) := by decide +kernel
theorem dX2_at_0 : decode cX2_at 0 = .ok (.aload_n 0, 1) := by decide +kernel
theorem dX2_at_1 : decode cX2_at 1 = .ok (.iload_n 1, 1) := by decide +kernel
theorem dX2_at_2 : decode cX2_at 2 = .ok (.iconst 1, 1) := by decide +kernel
theorem dX2_at_3 : decode cX2_at 3 = .ok (.invokevirtual 28, 3) := by decide +kernel
theorem dX2_at_6 : decode cX2_at 6 = .ok (.ifCond .eq 12, 3) := by decide +kernel
theorem dX2_at_9 : decode cX2_at 9 = .ok (.aload_n 0, 1) := by decide +kernel
theorem dX2_at_10 : decode cX2_at 10 = .ok (.getfield 18, 3) := by decide +kernel
theorem dX2_at_13 : decode cX2_at 13 = .ok (.iload_n 1, 1) := by decide +kernel
theorem dX2_at_14 : decode cX2_at 14 = .ok (.laload, 1) := by decide +kernel
theorem dX2_at_15 : decode cX2_at 15 = .ok (.goto 4, 3) := by decide +kernel
theorem dX2_at_18 : decode cX2_at 18 = .ok (.lconst 0, 1) := by decide +kernel
theorem dX2_at_19 : decode cX2_at 19 = .ok (.lreturn, 1) := by decide +kernel
theorem dX2_put_0 : decode cX2_put 0 = .ok (.aload_n 0, 1) := by decide +kernel
theorem dX2_put_1 : decode cX2_put 1 = .ok (.iload_n 1, 1) := by decide +kernel
theorem dX2_put_2 : decode cX2_put 2 = .ok (.iconst 1, 1) := by decide +kernel
theorem dX2_put_3 : decode cX2_put 3 = .ok (.invokevirtual 28, 3) := by decide +kernel
theorem dX2_put_6 : decode cX2_put 6 = .ok (.ifCond .eq 14, 3) := by decide +kernel
theorem dX2_put_9 : decode cX2_put 9 = .ok (.aload_n 0, 1) := by decide +kernel
theorem dX2_put_10 : decode cX2_put 10 = .ok (.getfield 18, 3) := by decide +kernel
theorem dX2_put_13 : decode cX2_put 13 = .ok (.iload_n 1, 1) := by decide +kernel
theorem dX2_put_14 : decode cX2_put 14 = .ok (.aload_n 0, 1) := by decide +kernel
theorem dX2_put_15 : decode cX2_put 15 = .ok (.lload_n 2, 1) := by decide +kernel
theorem dX2_put_16 : decode cX2_put 16 = .ok (.invokevirtual 32, 3) := by decide +kernel
theorem dX2_put_19 : decode cX2_put 19 = .ok (.lastore, 1) := by decide +kernel
theorem dX2_put_20 : decode cX2_put 20 = .ok (.return_, 1) := by decide +kernel
theorem dX2_cutToSort_0 : decode cX2_cutToSort 0 = .ok (.aload_n 0, 1) := by decide +kernel
theorem dX2_cutToSort_1 : decode cX2_cutToSort 1 = .ok (.getfield 9, 3) := by decide +kernel
theorem dX2_cutToSort_4 : decode cX2_cutToSort 4 = .ok (.tableswitch 42 0 2 #[28, 33, 38], 28) := by decide +kernel
theorem dX2_cutToSort_32 : decode cX2_cutToSort 32 = .ok (.lload_n 1, 1) := by decide +kernel
theorem dX2_cutToSort_33 : decode cX2_cutToSort 33 = .ok (.l2i, 1) := by decide +kernel
theorem dX2_cutToSort_34 : decode cX2_cutToSort 34 = .ok (.i2b, 1) := by decide +kernel
theorem dX2_cutToSort_35 : decode cX2_cutToSort 35 = .ok (.i2l, 1) := by decide +kernel
theorem dX2_cutToSort_36 : decode cX2_cutToSort 36 = .ok (.lreturn, 1) := by decide +kernel
theorem dX2_cutToSort_37 : decode cX2_cutToSort 37 = .ok (.lload_n 1, 1) := by decide +kernel
theorem dX2_cutToSort_38 : decode cX2_cutToSort 38 = .ok (.l2i, 1) := by decide +kernel
theorem dX2_cutToSort_39 : decode cX2_cutToSort 39 = .ok (.i2s, 1) := by decide +kernel
theorem dX2_cutToSort_40 : decode cX2_cutToSort 40 = .ok (.i2l, 1) := by decide +kernel
theorem dX2_cutToSort_41 : decode cX2_cutToSort 41 = .ok (.lreturn, 1) := by decide +kernel
theorem dX2_cutToSort_42 : decode cX2_cutToSort 42 = .ok (.lload_n 1, 1) := by decide +kernel
theorem dX2_cutToSort_43 : decode cX2_cutToSort 43 = .ok (.l2i, 1) := by decide +kernel
theorem dX2_cutToSort_44 : decode cX2_cutToSort 44 = .ok (.i2l, 1) := by decide +kernel
theorem dX2_cutToSort_45 : decode cX2_cutToSort 45 = .ok (.lreturn, 1) := by decide +kernel
theorem dX2_cutToSort_46 : decode cX2_cutToSort 46 = .ok (.lload_n 1, 1) := by decide +kernel
theorem dX2_cutToSort_47 : decode cX2_cutToSort 47 = .ok (.lreturn, 1) := by decide +kernel
theorem dX2_liesWithin_0 : decode cX2_liesWithin 0 = .ok (.iconst 0, 1) := by decide +kernel
theorem dX2_liesWithin_1 : decode cX2_liesWithin 1 = .ok (.istore 4, 2) := by decide +kernel
theorem dX2_liesWithin_3 : decode cX2_liesWithin 3 = .ok (.iload 4, 2) := by decide +kernel
theorem dX2_liesWithin_5 : decode cX2_liesWithin 5 = .ok (.iload_n 1, 1) := by decide +kernel
theorem dX2_liesWithin_6 : decode cX2_liesWithin 6 = .ok (.if_icmp .ge 33, 3) := by decide +kernel
theorem dX2_liesWithin_9 : decode cX2_liesWithin 9 = .ok (.aload_n 0, 1) := by decide +kernel
theorem dX2_liesWithin_10 : decode cX2_liesWithin 10 = .ok (.iload 4, 2) := by decide +kernel
theorem dX2_liesWithin_12 : decode cX2_liesWithin 12 = .ok (.invokevirtual 36, 3) := by decide +kernel
theorem dX2_liesWithin_15 : decode cX2_liesWithin 15 = .ok (.lstore 5, 2) := by decide +kernel
theorem dX2_liesWithin_17 : decode cX2_liesWithin 17 = .ok (.lload 5, 2) := by decide +kernel
theorem dX2_liesWithin_19 : decode cX2_liesWithin 19 = .ok (.lconst 0, 1) := by decide +kernel
theorem dX2_liesWithin_20 : decode cX2_liesWithin 20 = .ok (.lcmp, 1) := by decide +kernel
theorem dX2_liesWithin_21 : decode cX2_liesWithin 21 = .ok (.ifCond .lt 10, 3) := by decide +kernel
theorem dX2_liesWithin_24 : decode cX2_liesWithin 24 = .ok (.lload 5, 2) := by decide +kernel
theorem dX2_liesWithin_26 : decode cX2_liesWithin 26 = .ok (.lload_n 2, 1) := by decide +kernel
theorem dX2_liesWithin_27 : decode cX2_liesWithin 27 = .ok (.lcmp, 1) := by decide +kernel
theorem dX2_liesWithin_28 : decode cX2_liesWithin 28 = .ok (.ifCond .le 5, 3) := by decide +kernel
theorem dX2_liesWithin_31 : decode cX2_liesWithin 31 = .ok (.iconst 0, 1) := by decide +kernel
theorem dX2_liesWithin_32 : decode cX2_liesWithin 32 = .ok (.ireturn, 1) := by decide +kernel
theorem dX2_liesWithin_33 : decode cX2_liesWithin 33 = .ok (.iinc 4 1, 3) := by decide +kernel
theorem dX2_liesWithin_36 : decode cX2_liesWithin 36 = .ok (.goto (-33), 3) := by decide +kernel
theorem dX2_liesWithin_39 : decode cX2_liesWithin 39 = .ok (.iconst 1, 1) := by decide +kernel
theorem dX2_liesWithin_40 : decode cX2_liesWithin 40 = .ok (.ireturn, 1) := by decide +kernel
theorem dX2_copyInts_0 : decode cX2_copyInts 0 = .ok (.iconst 0, 1) := by decide +kernel
theorem dX2_copyInts_1 : decode cX2_copyInts 1 = .ok (.istore_n 3, 1) := by decide +kernel
theorem dX2_copyInts_2 : decode cX2_copyInts 2 = .ok (.iload_n 3, 1) := by decide +kernel
theorem dX2_copyInts_3 : decode cX2_copyInts 3 = .ok (.iload_n 2, 1) := by decide +kernel
theorem dX2_copyInts_4 : decode cX2_copyInts 4 = .ok (.if_icmp .ge 24, 3) := by decide +kernel
theorem dX2_copyInts_7 : decode cX2_copyInts 7 = .ok (.iload_n 3, 1) := by decide +kernel
theorem dX2_copyInts_8 : decode cX2_copyInts 8 = .ok (.aload_n 1, 1) := by decide +kernel
theorem dX2_copyInts_9 : decode cX2_copyInts 9 = .ok (.arraylength, 1) := by decide +kernel
theorem dX2_copyInts_10 : decode cX2_copyInts 10 = .ok (.if_icmp .ge 18, 3) := by decide +kernel
theorem dX2_copyInts_13 : decode cX2_copyInts 13 = .ok (.aload_n 1, 1) := by decide +kernel
theorem dX2_copyInts_14 : decode cX2_copyInts 14 = .ok (.iload_n 3, 1) := by decide +kernel
theorem dX2_copyInts_15 : decode cX2_copyInts 15 = .ok (.aload_n 0, 1) := by decide +kernel
theorem dX2_copyInts_16 : decode cX2_copyInts 16 = .ok (.iload_n 3, 1) := by decide +kernel
theorem dX2_copyInts_17 : decode cX2_copyInts 17 = .ok (.invokevirtual 36, 3) := by decide +kernel
theorem dX2_copyInts_20 : decode cX2_copyInts 20 = .ok (.l2i, 1) := by decide +kernel
theorem dX2_copyInts_21 : decode cX2_copyInts 21 = .ok (.iastore, 1) := by decide +kernel
theorem dX2_copyInts_22 : decode cX2_copyInts 22 = .ok (.iinc 3 1, 3) := by decide +kernel
theorem dX2_copyInts_25 : decode cX2_copyInts 25 = .ok (.goto (-23), 3) := by decide +kernel
theorem dX2_copyInts_28 : decode cX2_copyInts 28 = .ok (.return_, 1) := by decide +kernel
theorem dX3_init_0 : decode cX3_init 0 = .ok (.aload_n 0, 1) := by decide +kernel
theorem dX3_init_1 : decode cX3_init 1 = .ok (.invokespecial 3, 3) := by decide +kernel
theorem dX3_init_4 : decode cX3_init 4 = .ok (.aload_n 0, 1) := by decide +kernel
theorem dX3_init_5 : decode cX3_init 5 = .ok (.bipush 10, 2) := by decide +kernel
theorem dX3_init_7 : decode cX3_init 7 = .ok (.putfield 9, 3) := by decide +kernel
theorem dX3_init_10 : decode cX3_init 10 = .ok (.aload_n 0, 1) := by decide +kernel
theorem dX3_init_11 : decode cX3_init 11 = .ok (.bipush 100, 2) := by decide +kernel
theorem dX3_init_13 : decode cX3_init 13 = .ok (.newarray .long, 2) := by decide +kernel
theorem dX3_init_15 : decode cX3_init 15 = .ok (.putfield 15, 3) := by decide +kernel
theorem dX3_init_18 : decode cX3_init 18 = .ok (.aload_n 0, 1) := by decide +kernel
theorem dX3_init_19 : decode cX3_init 19 = .ok (.bipush 100, 2) := by decide +kernel
theorem dX3_init_21 : decode cX3_init 21 = .ok (.newarray .long, 2) := by decide +kernel
theorem dX3_init_23 : decode cX3_init 23 = .ok (.putfield 19, 3) := by decide +kernel
theorem dX3_init_26 : decode cX3_init 26 = .ok (.aload_n 0, 1) := by decide +kernel
theorem dX3_init_27 : decode cX3_init 27 = .ok (.bipush 100, 2) := by decide +kernel
theorem dX3_init_29 : decode cX3_init 29 = .ok (.newarray .long, 2) := by decide +kernel
theorem dX3_init_31 : decode cX3_init 31 = .ok (.putfield 22, 3) := by decide +kernel
theorem dX3_init_34 : decode cX3_init 34 = .ok (.aload_n 0, 1) := by decide +kernel
theorem dX3_init_35 : decode cX3_init 35 = .ok (.bipush 100, 2) := by decide +kernel
theorem dX3_init_37 : decode cX3_init 37 = .ok (.newarray .long, 2) := by decide +kernel
theorem dX3_init_39 : decode cX3_init 39 = .ok (.putfield 25, 3) := by decide +kernel
theorem dX3_init_42 : decode cX3_init 42 = .ok (.aload_n 0, 1) := by decide +kernel
theorem dX3_init_43 : decode cX3_init 43 = .ok (.bipush 10, 2) := by decide +kernel
theorem dX3_init_45 : decode cX3_init 45 = .ok (.newarray .long, 2) := by decide +kernel
theorem dX3_init_47 : decode cX3_init 47 = .ok (.putfield 28, 3) := by decide +kernel
theorem dX3_init_50 : decode cX3_init 50 = .ok (.aload_n 0, 1) := by decide +kernel
theorem dX3_init_51 : decode cX3_init 51 = .ok (.bipush 10, 2) := by decide +kernel
theorem dX3_init_53 : decode cX3_init 53 = .ok (.newarray .long, 2) := by decide +kernel
theorem dX3_init_55 : decode cX3_init 55 = .ok (.putfield 31, 3) := by decide +kernel
theorem dX3_init_58 : decode cX3_init 58 = .ok (.aload_n 0, 1) := by decide +kernel
theorem dX3_init_59 : decode cX3_init 59 = .ok (.bipush 110, 2) := by decide +kernel
theorem dX3_init_61 : decode cX3_init 61 = .ok (.newarray .long, 2) := by decide +kernel
theorem dX3_init_63 : decode cX3_init 63 = .ok (.putfield 34, 3) := by decide +kernel
theorem dX3_init_66 : decode cX3_init 66 = .ok (.aload_n 0, 1) := by decide +kernel
theorem dX3_init_67 : decode cX3_init 67 = .ok (.iconst 0, 1) := by decide +kernel
theorem dX3_init_68 : decode cX3_init 68 = .ok (.iconst 0, 1) := by decide +kernel
theorem dX3_init_69 : decode cX3_init 69 = .ok (.multianewarray 37 2, 4) := by decide +kernel
theorem dX3_init_73 : decode cX3_init 73 = .ok (.putfield 39, 3) := by decide +kernel
theorem dX3_init_76 : decode cX3_init 76 = .ok (.aload_n 0, 1) := by decide +kernel
theorem dX3_init_77 : decode cX3_init 77 = .ok (.lconst 0, 1) := by decide +kernel
theorem dX3_init_78 : decode cX3_init 78 = .ok (.putfield 42, 3) := by decide +kernel
theorem dX3_init_81 : decode cX3_init 81 = .ok (.aload_n 0, 1) := by decide +kernel
theorem dX3_init_82 : decode cX3_init 82 = .ok (.lconst 1, 1) := by decide +kernel
theorem dX3_init_83 : decode cX3_init 83 = .ok (.putfield 46, 3) := by decide +kernel
theorem dX3_init_86 : decode cX3_init 86 = .ok (.aload_n 0, 1) := by decide +kernel
theorem dX3_init_87 : decode cX3_init 87 = .ok (.iconst 0, 1) := by decide +kernel
theorem dX3_init_88 : decode cX3_init 88 = .ok (.putfield 49, 3) := by decide +kernel
theorem dX3_init_91 : decode cX3_init 91 = .ok (.aload_n 0, 1) := by decide +kernel
theorem dX3_init_92 : decode cX3_init 92 = .ok (.iconst 0, 1) := by decide +kernel
theorem dX3_init_93 : decode cX3_init 93 = .ok (.putfield 52, 3) := by decide +kernel
theorem dX3_init_96 : decode cX3_init 96 = .ok (.aload_n 0, 1) := by decide +kernel
theorem dX3_init_97 : decode cX3_init 97 = .ok (.iconst 0, 1) := by decide +kernel
theorem dX3_init_98 : decode cX3_init 98 = .ok (.putfield 55, 3) := by decide +kernel
theorem dX3_init_101 : decode cX3_init 101 = .ok (.aload_n 0, 1) := by decide +kernel
theorem dX3_init_102 : decode cX3_init 102 = .ok (.getfield 15, 3) := by decide +kernel
theorem dX3_init_105 : decode cX3_init 105 = .ok (.ldc2_w 58, 3) := by decide +kernel
theorem dX3_init_108 : decode cX3_init 108 = .ok (.invokestatic 60, 3) := by decide +kernel
theorem dX3_init_111 : decode cX3_init 111 = .ok (.return_, 1) := by decide +kernel
theorem dX3_empty_0 : decode cX3_empty 0 = .ok (.aload_n 0, 1) := by decide +kernel
theorem dX3_empty_1 : decode cX3_empty 1 = .ok (.iload_n 1, 1) := by decide +kernel
theorem dX3_empty_2 : decode cX3_empty 2 = .ok (.putfield 9, 3) := by decide +kernel
theorem dX3_empty_5 : decode cX3_empty 5 = .ok (.aload_n 0, 1) := by decide +kernel
theorem dX3_empty_6 : decode cX3_empty 6 = .ok (.getfield 15, 3) := by decide +kernel
theorem dX3_empty_9 : decode cX3_empty 9 = .ok (.ldc2_w 58, 3) := by decide +kernel
theorem dX3_empty_12 : decode cX3_empty 12 = .ok (.invokestatic 60, 3) := by decide +kernel
theorem dX3_empty_15 : decode cX3_empty 15 = .ok (.return_, 1) := by decide +kernel
theorem dX3_has_0 : decode cX3_has 0 = .ok (.iload_n 1, 1) := by decide +kernel
theorem dX3_has_1 : decode cX3_has 1 = .ok (.ifCond .lt 27, 3) := by decide +kernel
theorem dX3_has_4 : decode cX3_has 4 = .ok (.iload_n 1, 1) := by decide +kernel
theorem dX3_has_5 : decode cX3_has 5 = .ok (.aload_n 0, 1) := by decide +kernel
theorem dX3_has_6 : decode cX3_has 6 = .ok (.getfield 9, 3) := by decide +kernel
theorem dX3_has_9 : decode cX3_has 9 = .ok (.if_icmp .ge 19, 3) := by decide +kernel
theorem dX3_has_12 : decode cX3_has 12 = .ok (.iload_n 2, 1) := by decide +kernel
theorem dX3_has_13 : decode cX3_has 13 = .ok (.ifCond .lt 15, 3) := by decide +kernel
theorem dX3_has_16 : decode cX3_has 16 = .ok (.iload_n 2, 1) := by decide +kernel
theorem dX3_has_17 : decode cX3_has 17 = .ok (.aload_n 0, 1) := by decide +kernel
theorem dX3_has_18 : decode cX3_has 18 = .ok (.getfield 9, 3) := by decide +kernel
theorem dX3_has_21 : decode cX3_has 21 = .ok (.if_icmp .ge 7, 3) := by decide +kernel
theorem dX3_has_24 : decode cX3_has 24 = .ok (.iconst 1, 1) := by decide +kernel
theorem dX3_has_25 : decode cX3_has 25 = .ok (.goto 4, 3) := by decide +kernel
theorem dX3_has_28 : decode cX3_has 28 = .ok (.iconst 0, 1) := by decide +kernel
theorem dX3_has_29 : decode cX3_has 29 = .ok (.ireturn, 1) := by decide +kernel
theorem dX3_place_0 : decode cX3_place 0 = .ok (.iload_n 0, 1) := by decide +kernel
theorem dX3_place_1 : decode cX3_place 1 = .ok (.bipush 10, 2) := by decide +kernel
theorem dX3_place_3 : decode cX3_place 3 = .ok (.imul, 1) := by decide +kernel
theorem dX3_place_4 : decode cX3_place 4 = .ok (.iload_n 1, 1) := by decide +kernel
theorem dX3_place_5 : decode cX3_place 5 = .ok (.iadd, 1) := by decide +kernel
theorem dX3_place_6 : decode cX3_place 6 = .ok (.ireturn, 1) := by decide +kernel
theorem dX3_put_0 : decode cX3_put 0 = .ok (.aload_n 0, 1) := by decide +kernel
theorem dX3_put_1 : decode cX3_put 1 = .ok (.getfield 15, 3) := by decide +kernel
theorem dX3_put_4 : decode cX3_put 4 = .ok (.iload_n 1, 1) := by decide +kernel
theorem dX3_put_5 : decode cX3_put 5 = .ok (.iload_n 2, 1) := by decide +kernel
theorem dX3_put_6 : decode cX3_put 6 = .ok (.invokestatic 66, 3) := by decide +kernel
theorem dX3_put_9 : decode cX3_put 9 = .ok (.lload_n 3, 1) := by decide +kernel
theorem dX3_put_10 : decode cX3_put 10 = .ok (.lastore, 1) := by decide +kernel
theorem dX3_put_11 : decode cX3_put 11 = .ok (.return_, 1) := by decide +kernel
theorem dX3_remove_0 : decode cX3_remove 0 = .ok (.aload_n 0, 1) := by decide +kernel
theorem dX3_remove_1 : decode cX3_remove 1 = .ok (.getfield 15, 3) := by decide +kernel
theorem dX3_remove_4 : decode cX3_remove 4 = .ok (.iload_n 1, 1) := by decide +kernel
theorem dX3_remove_5 : decode cX3_remove 5 = .ok (.iload_n 2, 1) := by decide +kernel
theorem dX3_remove_6 : decode cX3_remove 6 = .ok (.invokestatic 66, 3) := by decide +kernel
theorem dX3_remove_9 : decode cX3_remove 9 = .ok (.laload, 1) := by decide +kernel
theorem dX3_remove_10 : decode cX3_remove 10 = .ok (.ldc2_w 58, 3) := by decide +kernel
theorem dX3_remove_13 : decode cX3_remove 13 = .ok (.lcmp, 1) := by decide +kernel
theorem dX3_remove_14 : decode cX3_remove 14 = .ok (.ifCond .eq 7, 3) := by decide +kernel
theorem dX3_remove_17 : decode cX3_remove 17 = .ok (.iconst 1, 1) := by decide +kernel
theorem dX3_remove_18 : decode cX3_remove 18 = .ok (.goto 4, 3) := by decide +kernel
theorem dX3_remove_21 : decode cX3_remove 21 = .ok (.iconst 0, 1) := by decide +kernel
theorem dX3_remove_22 : decode cX3_remove 22 = .ok (.istore_n 3, 1) := by decide +kernel
theorem dX3_remove_23 : decode cX3_remove 23 = .ok (.aload_n 0, 1) := by decide +kernel
theorem dX3_remove_24 : decode cX3_remove 24 = .ok (.getfield 15, 3) := by decide +kernel
theorem dX3_remove_27 : decode cX3_remove 27 = .ok (.iload_n 1, 1) := by decide +kernel
theorem dX3_remove_28 : decode cX3_remove 28 = .ok (.iload_n 2, 1) := by decide +kernel
theorem dX3_remove_29 : decode cX3_remove 29 = .ok (.invokestatic 66, 3) := by decide +kernel
theorem dX3_remove_32 : decode cX3_remove 32 = .ok (.ldc2_w 58, 3) := by decide +kernel
theorem dX3_remove_35 : decode cX3_remove 35 = .ok (.lastore, 1) := by decide +kernel
theorem dX3_remove_36 : decode cX3_remove 36 = .ok (.iload_n 3, 1) := by decide +kernel
theorem dX3_remove_37 : decode cX3_remove 37 = .ok (.ireturn, 1) := by decide +kernel
theorem dX3_join_0 : decode cX3_join 0 = .ok (.lload_n 0, 1) := by decide +kernel
theorem dX3_join_1 : decode cX3_join 1 = .ok (.ldc2_w 58, 3) := by decide +kernel
theorem dX3_join_4 : decode cX3_join 4 = .ok (.lcmp, 1) := by decide +kernel
theorem dX3_join_5 : decode cX3_join 5 = .ok (.ifCond .eq 11, 3) := by decide +kernel
theorem dX3_join_8 : decode cX3_join 8 = .ok (.lload_n 2, 1) := by decide +kernel
theorem dX3_join_9 : decode cX3_join 9 = .ok (.ldc2_w 58, 3) := by decide +kernel
theorem dX3_join_12 : decode cX3_join 12 = .ok (.lcmp, 1) := by decide +kernel
theorem dX3_join_13 : decode cX3_join 13 = .ok (.ifCond .ne 9, 3) := by decide +kernel
theorem dX3_join_16 : decode cX3_join 16 = .ok (.ldc2_w 58, 3) := by decide +kernel
theorem dX3_join_19 : decode cX3_join 19 = .ok (.goto 6, 3) := by decide +kernel
theorem dX3_join_22 : decode cX3_join 22 = .ok (.lload_n 0, 1) := by decide +kernel
theorem dX3_join_23 : decode cX3_join 23 = .ok (.lload_n 2, 1) := by decide +kernel
theorem dX3_join_24 : decode cX3_join 24 = .ok (.ladd, 1) := by decide +kernel
theorem dX3_join_25 : decode cX3_join 25 = .ok (.lreturn, 1) := by decide +kernel
theorem dX3_multiply_0 : decode cX3_multiply 0 = .ok (.aload_n 3, 1) := by decide +kernel
theorem dX3_multiply_1 : decode cX3_multiply 1 = .ok (.ldc2_w 58, 3) := by decide +kernel
theorem dX3_multiply_4 : decode cX3_multiply 4 = .ok (.invokestatic 60, 3) := by decide +kernel
theorem dX3_multiply_7 : decode cX3_multiply 7 = .ok (.iconst 0, 1) := by decide +kernel
theorem dX3_multiply_8 : decode cX3_multiply 8 = .ok (.istore 4, 2) := by decide +kernel
theorem dX3_multiply_10 : decode cX3_multiply 10 = .ok (.iload 4, 2) := by decide +kernel
theorem dX3_multiply_12 : decode cX3_multiply 12 = .ok (.aload_n 0, 1) := by decide +kernel
theorem dX3_multiply_13 : decode cX3_multiply 13 = .ok (.getfield 9, 3) := by decide +kernel
theorem dX3_multiply_16 : decode cX3_multiply 16 = .ok (.if_icmp .ge 59, 3) := by decide +kernel
theorem dX3_multiply_19 : decode cX3_multiply 19 = .ok (.iconst 0, 1) := by decide +kernel
theorem dX3_multiply_20 : decode cX3_multiply 20 = .ok (.istore 5, 2) := by decide +kernel
theorem dX3_multiply_22 : decode cX3_multiply 22 = .ok (.iload 5, 2) := by decide +kernel
theorem dX3_multiply_24 : decode cX3_multiply 24 = .ok (.aload_n 0, 1) := by decide +kernel
theorem dX3_multiply_25 : decode cX3_multiply 25 = .ok (.getfield 9, 3) := by decide +kernel
theorem dX3_multiply_28 : decode cX3_multiply 28 = .ok (.if_icmp .ge 41, 3) := by decide +kernel
theorem dX3_multiply_31 : decode cX3_multiply 31 = .ok (.aload_n 1, 1) := by decide +kernel
theorem dX3_multiply_32 : decode cX3_multiply 32 = .ok (.iload 4, 2) := by decide +kernel
theorem dX3_multiply_34 : decode cX3_multiply 34 = .ok (.iload 5, 2) := by decide +kernel
theorem dX3_multiply_36 : decode cX3_multiply 36 = .ok (.invokestatic 66, 3) := by decide +kernel
theorem dX3_multiply_39 : decode cX3_multiply 39 = .ok (.laload, 1) := by decide +kernel
theorem dX3_multiply_40 : decode cX3_multiply 40 = .ok (.lstore 6, 2) := by decide +kernel
theorem dX3_multiply_42 : decode cX3_multiply 42 = .ok (.lload 6, 2) := by decide +kernel
theorem dX3_multiply_44 : decode cX3_multiply 44 = .ok (.ldc2_w 58, 3) := by decide +kernel
theorem dX3_multiply_47 : decode cX3_multiply 47 = .ok (.lcmp, 1) := by decide +kernel
theorem dX3_multiply_48 : decode cX3_multiply 48 = .ok (.ifCond .eq 15, 3) := by decide +kernel
theorem dX3_multiply_51 : decode cX3_multiply 51 = .ok (.aload_n 0, 1) := by decide +kernel
theorem dX3_multiply_52 : decode cX3_multiply 52 = .ok (.lload 6, 2) := by decide +kernel
theorem dX3_multiply_54 : decode cX3_multiply 54 = .ok (.aload_n 2, 1) := by decide +kernel
theorem dX3_multiply_55 : decode cX3_multiply 55 = .ok (.iload 5, 2) := by decide +kernel
theorem dX3_multiply_57 : decode cX3_multiply 57 = .ok (.aload_n 3, 1) := by decide +kernel
theorem dX3_multiply_58 : decode cX3_multiply 58 = .ok (.iload 4, 2) := by decide +kernel
theorem dX3_multiply_60 : decode cX3_multiply 60 = .ok (.invokevirtual 70, 3) := by decide +kernel
theorem dX3_multiply_63 : decode cX3_multiply 63 = .ok (.iinc 5 1, 3) := by decide +kernel
theorem dX3_multiply_66 : decode cX3_multiply 66 = .ok (.goto (-44), 3) := by decide +kernel
theorem dX3_multiply_69 : decode cX3_multiply 69 = .ok (.iinc 4 1, 3) := by decide +kernel
theorem dX3_multiply_72 : decode cX3_multiply 72 = .ok (.goto (-62), 3) := by decide +kernel
theorem dX3_multiply_75 : decode cX3_multiply 75 = .ok (.return_, 1) := by decide +kernel
theorem dX3_takeBetter_0 : decode cX3_takeBetter 0 = .ok (.iload 4, 2) := by decide +kernel
theorem dX3_takeBetter_2 : decode cX3_takeBetter 2 = .ok (.iconst 0, 1) := by decide +kernel
theorem dX3_takeBetter_3 : decode cX3_takeBetter 3 = .ok (.invokestatic 66, 3) := by decide +kernel
theorem dX3_takeBetter_6 : decode cX3_takeBetter 6 = .ok (.istore 7, 2) := by decide +kernel
theorem dX3_takeBetter_8 : decode cX3_takeBetter 8 = .ok (.iload 6, 2) := by decide +kernel
theorem dX3_takeBetter_10 : decode cX3_takeBetter 10 = .ok (.iconst 0, 1) := by decide +kernel
theorem dX3_takeBetter_11 : decode cX3_takeBetter 11 = .ok (.invokestatic 66, 3) := by decide +kernel
theorem dX3_takeBetter_14 : decode cX3_takeBetter 14 = .ok (.istore 8, 2) := by decide +kernel
theorem dX3_takeBetter_16 : decode cX3_takeBetter 16 = .ok (.iconst 0, 1) := by decide +kernel
theorem dX3_takeBetter_17 : decode cX3_takeBetter 17 = .ok (.istore 9, 2) := by decide +kernel
theorem dX3_takeBetter_19 : decode cX3_takeBetter 19 = .ok (.iload 9, 2) := by decide +kernel
theorem dX3_takeBetter_21 : decode cX3_takeBetter 21 = .ok (.aload_n 0, 1) := by decide +kernel
theorem dX3_takeBetter_22 : decode cX3_takeBetter 22 = .ok (.getfield 9, 3) := by decide +kernel
theorem dX3_takeBetter_25 : decode cX3_takeBetter 25 = .ok (.if_icmp .ge 55, 3) := by decide +kernel
theorem dX3_takeBetter_28 : decode cX3_takeBetter 28 = .ok (.aload_n 3, 1) := by decide +kernel
theorem dX3_takeBetter_29 : decode cX3_takeBetter 29 = .ok (.iload 7, 2) := by decide +kernel
theorem dX3_takeBetter_31 : decode cX3_takeBetter 31 = .ok (.iload 9, 2) := by decide +kernel
theorem dX3_takeBetter_33 : decode cX3_takeBetter 33 = .ok (.iadd, 1) := by decide +kernel
theorem dX3_takeBetter_34 : decode cX3_takeBetter 34 = .ok (.laload, 1) := by decide +kernel
theorem dX3_takeBetter_35 : decode cX3_takeBetter 35 = .ok (.lstore 10, 2) := by decide +kernel
theorem dX3_takeBetter_37 : decode cX3_takeBetter 37 = .ok (.lload 10, 2) := by decide +kernel
theorem dX3_takeBetter_39 : decode cX3_takeBetter 39 = .ok (.ldc2_w 58, 3) := by decide +kernel
theorem dX3_takeBetter_42 : decode cX3_takeBetter 42 = .ok (.lcmp, 1) := by decide +kernel
theorem dX3_takeBetter_43 : decode cX3_takeBetter 43 = .ok (.ifCond .eq 31, 3) := by decide +kernel
theorem dX3_takeBetter_46 : decode cX3_takeBetter 46 = .ok (.lload_n 1, 1) := by decide +kernel
theorem dX3_takeBetter_47 : decode cX3_takeBetter 47 = .ok (.lload 10, 2) := by decide +kernel
theorem dX3_takeBetter_49 : decode cX3_takeBetter 49 = .ok (.ladd, 1) := by decide +kernel
theorem dX3_takeBetter_50 : decode cX3_takeBetter 50 = .ok (.aload 5, 2) := by decide +kernel
theorem dX3_takeBetter_52 : decode cX3_takeBetter 52 = .ok (.iload 8, 2) := by decide +kernel
theorem dX3_takeBetter_54 : decode cX3_takeBetter 54 = .ok (.iload 9, 2) := by decide +kernel
theorem dX3_takeBetter_56 : decode cX3_takeBetter 56 = .ok (.iadd, 1) := by decide +kernel
theorem dX3_takeBetter_57 : decode cX3_takeBetter 57 = .ok (.laload, 1) := by decide +kernel
theorem dX3_takeBetter_58 : decode cX3_takeBetter 58 = .ok (.lcmp, 1) := by decide +kernel
theorem dX3_takeBetter_59 : decode cX3_takeBetter 59 = .ok (.ifCond .le 15, 3) := by decide +kernel
theorem dX3_takeBetter_62 : decode cX3_takeBetter 62 = .ok (.aload 5, 2) := by decide +kernel
theorem dX3_takeBetter_64 : decode cX3_takeBetter 64 = .ok (.iload 8, 2) := by decide +kernel
theorem dX3_takeBetter_66 : decode cX3_takeBetter 66 = .ok (.iload 9, 2) := by decide +kernel
theorem dX3_takeBetter_68 : decode cX3_takeBetter 68 = .ok (.iadd, 1) := by decide +kernel
theorem dX3_takeBetter_69 : decode cX3_takeBetter 69 = .ok (.lload_n 1, 1) := by decide +kernel
theorem dX3_takeBetter_70 : decode cX3_takeBetter 70 = .ok (.lload 10, 2) := by decide +kernel
theorem dX3_takeBetter_72 : decode cX3_takeBetter 72 = .ok (.ladd, 1) := by decide +kernel
theorem dX3_takeBetter_73 : decode cX3_takeBetter 73 = .ok (.lastore, 1) := by decide +kernel
theorem dX3_takeBetter_74 : decode cX3_takeBetter 74 = .ok (.iinc 9 1, 3) := by decide +kernel
theorem dX3_takeBetter_77 : decode cX3_takeBetter 77 = .ok (.goto (-58), 3) := by decide +kernel
theorem dX3_takeBetter_80 : decode cX3_takeBetter 80 = .ok (.return_, 1) := by decide +kernel
theorem dX3_multiplyPower_0 : decode cX3_multiplyPower 0 = .ok (.aload_n 0, 1) := by decide +kernel
theorem dX3_multiplyPower_1 : decode cX3_multiplyPower 1 = .ok (.aload_n 1, 1) := by decide +kernel
theorem dX3_multiplyPower_2 : decode cX3_multiplyPower 2 = .ok (.aload_n 0, 1) := by decide +kernel
theorem dX3_multiplyPower_3 : decode cX3_multiplyPower 3 = .ok (.getfield 19, 3) := by decide +kernel
theorem dX3_multiplyPower_6 : decode cX3_multiplyPower 6 = .ok (.aload_n 0, 1) := by decide +kernel
theorem dX3_multiplyPower_7 : decode cX3_multiplyPower 7 = .ok (.getfield 22, 3) := by decide +kernel
theorem dX3_multiplyPower_10 : decode cX3_multiplyPower 10 = .ok (.invokevirtual 74, 3) := by decide +kernel
theorem dX3_multiplyPower_13 : decode cX3_multiplyPower 13 = .ok (.aload_n 0, 1) := by decide +kernel
theorem dX3_multiplyPower_14 : decode cX3_multiplyPower 14 = .ok (.getfield 22, 3) := by decide +kernel
theorem dX3_multiplyPower_17 : decode cX3_multiplyPower 17 = .ok (.astore_n 2, 1) := by decide +kernel
theorem dX3_multiplyPower_18 : decode cX3_multiplyPower 18 = .ok (.aload_n 0, 1) := by decide +kernel
theorem dX3_multiplyPower_19 : decode cX3_multiplyPower 19 = .ok (.aload_n 0, 1) := by decide +kernel
theorem dX3_multiplyPower_20 : decode cX3_multiplyPower 20 = .ok (.getfield 19, 3) := by decide +kernel
theorem dX3_multiplyPower_23 : decode cX3_multiplyPower 23 = .ok (.putfield 22, 3) := by decide +kernel
theorem dX3_multiplyPower_26 : decode cX3_multiplyPower 26 = .ok (.aload_n 0, 1) := by decide +kernel
theorem dX3_multiplyPower_27 : decode cX3_multiplyPower 27 = .ok (.aload_n 2, 1) := by decide +kernel
theorem dX3_multiplyPower_28 : decode cX3_multiplyPower 28 = .ok (.putfield 19, 3) := by decide +kernel
theorem dX3_multiplyPower_31 : decode cX3_multiplyPower 31 = .ok (.return_, 1) := by decide +kernel
theorem dX3_startRow_0 : decode cX3_startRow 0 = .ok (.aload_n 0, 1) := by decide +kernel
theorem dX3_startRow_1 : decode cX3_startRow 1 = .ok (.getfield 28, 3) := by decide +kernel
theorem dX3_startRow_4 : decode cX3_startRow 4 = .ok (.ldc2_w 58, 3) := by decide +kernel
theorem dX3_startRow_7 : decode cX3_startRow 7 = .ok (.invokestatic 60, 3) := by decide +kernel
theorem dX3_startRow_10 : decode cX3_startRow 10 = .ok (.aload_n 0, 1) := by decide +kernel
theorem dX3_startRow_11 : decode cX3_startRow 11 = .ok (.getfield 28, 3) := by decide +kernel
theorem dX3_startRow_14 : decode cX3_startRow 14 = .ok (.iload_n 1, 1) := by decide +kernel
theorem dX3_startRow_15 : decode cX3_startRow 15 = .ok (.lconst 0, 1) := by decide +kernel
theorem dX3_startRow_16 : decode cX3_startRow 16 = .ok (.lastore, 1) := by decide +kernel
theorem dX3_startRow_17 : decode cX3_startRow 17 = .ok (.return_, 1) := by decide +kernel
theorem dX3_multiplyRow_0 : decode cX3_multiplyRow 0 = .ok (.iconst 0, 1) := by decide +kernel
theorem dX3_multiplyRow_1 : decode cX3_multiplyRow 1 = .ok (.istore_n 2, 1) := by decide +kernel
theorem dX3_multiplyRow_2 : decode cX3_multiplyRow 2 = .ok (.iload_n 2, 1) := by decide +kernel
theorem dX3_multiplyRow_3 : decode cX3_multiplyRow 3 = .ok (.aload_n 0, 1) := by decide +kernel
theorem dX3_multiplyRow_4 : decode cX3_multiplyRow 4 = .ok (.getfield 9, 3) := by decide +kernel
theorem dX3_multiplyRow_7 : decode cX3_multiplyRow 7 = .ok (.if_icmp .ge 61, 3) := by decide +kernel
theorem dX3_multiplyRow_10 : decode cX3_multiplyRow 10 = .ok (.ldc2_w 58, 3) := by decide +kernel
theorem dX3_multiplyRow_13 : decode cX3_multiplyRow 13 = .ok (.lstore_n 3, 1) := by decide +kernel
theorem dX3_multiplyRow_14 : decode cX3_multiplyRow 14 = .ok (.iconst 0, 1) := by decide +kernel
theorem dX3_multiplyRow_15 : decode cX3_multiplyRow 15 = .ok (.istore 5, 2) := by decide +kernel
theorem dX3_multiplyRow_17 : decode cX3_multiplyRow 17 = .ok (.iload 5, 2) := by decide +kernel
theorem dX3_multiplyRow_19 : decode cX3_multiplyRow 19 = .ok (.aload_n 0, 1) := by decide +kernel
theorem dX3_multiplyRow_20 : decode cX3_multiplyRow 20 = .ok (.getfield 9, 3) := by decide +kernel
theorem dX3_multiplyRow_23 : decode cX3_multiplyRow 23 = .ok (.if_icmp .ge 32, 3) := by decide +kernel
theorem dX3_multiplyRow_26 : decode cX3_multiplyRow 26 = .ok (.lload_n 3, 1) := by decide +kernel
theorem dX3_multiplyRow_27 : decode cX3_multiplyRow 27 = .ok (.aload_n 1, 1) := by decide +kernel
theorem dX3_multiplyRow_28 : decode cX3_multiplyRow 28 = .ok (.iload_n 2, 1) := by decide +kernel
theorem dX3_multiplyRow_29 : decode cX3_multiplyRow 29 = .ok (.iload 5, 2) := by decide +kernel
theorem dX3_multiplyRow_31 : decode cX3_multiplyRow 31 = .ok (.invokestatic 66, 3) := by decide +kernel
theorem dX3_multiplyRow_34 : decode cX3_multiplyRow 34 = .ok (.laload, 1) := by decide +kernel
theorem dX3_multiplyRow_35 : decode cX3_multiplyRow 35 = .ok (.aload_n 0, 1) := by decide +kernel
theorem dX3_multiplyRow_36 : decode cX3_multiplyRow 36 = .ok (.getfield 28, 3) := by decide +kernel
theorem dX3_multiplyRow_39 : decode cX3_multiplyRow 39 = .ok (.iload 5, 2) := by decide +kernel
theorem dX3_multiplyRow_41 : decode cX3_multiplyRow 41 = .ok (.laload, 1) := by decide +kernel
theorem dX3_multiplyRow_42 : decode cX3_multiplyRow 42 = .ok (.invokestatic 78, 3) := by decide +kernel
theorem dX3_multiplyRow_45 : decode cX3_multiplyRow 45 = .ok (.invokestatic 82, 3) := by decide +kernel
theorem dX3_multiplyRow_48 : decode cX3_multiplyRow 48 = .ok (.lstore_n 3, 1) := by decide +kernel
theorem dX3_multiplyRow_49 : decode cX3_multiplyRow 49 = .ok (.iinc 5 1, 3) := by decide +kernel
theorem dX3_multiplyRow_52 : decode cX3_multiplyRow 52 = .ok (.goto (-35), 3) := by decide +kernel
theorem dX3_multiplyRow_55 : decode cX3_multiplyRow 55 = .ok (.aload_n 0, 1) := by decide +kernel
theorem dX3_multiplyRow_56 : decode cX3_multiplyRow 56 = .ok (.getfield 31, 3) := by decide +kernel
theorem dX3_multiplyRow_59 : decode cX3_multiplyRow 59 = .ok (.iload_n 2, 1) := by decide +kernel
theorem dX3_multiplyRow_60 : decode cX3_multiplyRow 60 = .ok (.lload_n 3, 1) := by decide +kernel
theorem dX3_multiplyRow_61 : decode cX3_multiplyRow 61 = .ok (.lastore, 1) := by decide +kernel
theorem dX3_multiplyRow_62 : decode cX3_multiplyRow 62 = .ok (.iinc 2 1, 3) := by decide +kernel
theorem dX3_multiplyRow_65 : decode cX3_multiplyRow 65 = .ok (.goto (-63), 3) := by decide +kernel
theorem dX3_multiplyRow_68 : decode cX3_multiplyRow 68 = .ok (.aload_n 0, 1) := by decide +kernel
theorem dX3_multiplyRow_69 : decode cX3_multiplyRow 69 = .ok (.getfield 31, 3) := by decide +kernel
theorem dX3_multiplyRow_72 : decode cX3_multiplyRow 72 = .ok (.astore_n 2, 1) := by decide +kernel
theorem dX3_multiplyRow_73 : decode cX3_multiplyRow 73 = .ok (.aload_n 0, 1) := by decide +kernel
theorem dX3_multiplyRow_74 : decode cX3_multiplyRow 74 = .ok (.aload_n 0, 1) := by decide +kernel
theorem dX3_multiplyRow_75 : decode cX3_multiplyRow 75 = .ok (.getfield 28, 3) := by decide +kernel
theorem dX3_multiplyRow_78 : decode cX3_multiplyRow 78 = .ok (.putfield 31, 3) := by decide +kernel
theorem dX3_multiplyRow_81 : decode cX3_multiplyRow 81 = .ok (.aload_n 0, 1) := by decide +kernel
theorem dX3_multiplyRow_82 : decode cX3_multiplyRow 82 = .ok (.aload_n 2, 1) := by decide +kernel
theorem dX3_multiplyRow_83 : decode cX3_multiplyRow 83 = .ok (.putfield 28, 3) := by decide +kernel
theorem dX3_multiplyRow_86 : decode cX3_multiplyRow 86 = .ok (.return_, 1) := by decide +kernel
theorem dX3_sumOf_0 : decode cX3_sumOf 0 = .ok (.aload_n 0, 1) := by decide +kernel
theorem dX3_sumOf_1 : decode cX3_sumOf 1 = .ok (.getfield 15, 3) := by decide +kernel
theorem dX3_sumOf_4 : decode cX3_sumOf 4 = .ok (.iconst 0, 1) := by decide +kernel
theorem dX3_sumOf_5 : decode cX3_sumOf 5 = .ok (.aload_n 0, 1) := by decide +kernel
theorem dX3_sumOf_6 : decode cX3_sumOf 6 = .ok (.getfield 19, 3) := by decide +kernel
theorem dX3_sumOf_9 : decode cX3_sumOf 9 = .ok (.iconst 0, 1) := by decide +kernel
theorem dX3_sumOf_10 : decode cX3_sumOf 10 = .ok (.bipush 100, 2) := by decide +kernel
theorem dX3_sumOf_12 : decode cX3_sumOf 12 = .ok (.invokestatic 87, 3) := by decide +kernel
theorem dX3_sumOf_15 : decode cX3_sumOf 15 = .ok (.aload_n 0, 1) := by decide +kernel
theorem dX3_sumOf_16 : decode cX3_sumOf 16 = .ok (.iload 4, 2) := by decide +kernel
theorem dX3_sumOf_18 : decode cX3_sumOf 18 = .ok (.invokevirtual 93, 3) := by decide +kernel
theorem dX3_sumOf_21 : decode cX3_sumOf 21 = .ok (.lload_n 1, 1) := by decide +kernel
theorem dX3_sumOf_22 : decode cX3_sumOf 22 = .ok (.lstore 5, 2) := by decide +kernel
theorem dX3_sumOf_24 : decode cX3_sumOf 24 = .ok (.lload 5, 2) := by decide +kernel
theorem dX3_sumOf_26 : decode cX3_sumOf 26 = .ok (.lconst 0, 1) := by decide +kernel
theorem dX3_sumOf_27 : decode cX3_sumOf 27 = .ok (.lcmp, 1) := by decide +kernel
theorem dX3_sumOf_28 : decode cX3_sumOf 28 = .ok (.ifCond .le 44, 3) := by decide +kernel
theorem dX3_sumOf_31 : decode cX3_sumOf 31 = .ok (.lload 5, 2) := by decide +kernel
theorem dX3_sumOf_33 : decode cX3_sumOf 33 = .ok (.lconst 1, 1) := by decide +kernel
theorem dX3_sumOf_34 : decode cX3_sumOf 34 = .ok (.land, 1) := by decide +kernel
theorem dX3_sumOf_35 : decode cX3_sumOf 35 = .ok (.lconst 0, 1) := by decide +kernel
theorem dX3_sumOf_36 : decode cX3_sumOf 36 = .ok (.lcmp, 1) := by decide +kernel
theorem dX3_sumOf_37 : decode cX3_sumOf 37 = .ok (.ifCond .eq 11, 3) := by decide +kernel
theorem dX3_sumOf_40 : decode cX3_sumOf 40 = .ok (.aload_n 0, 1) := by decide +kernel
theorem dX3_sumOf_41 : decode cX3_sumOf 41 = .ok (.aload_n 0, 1) := by decide +kernel
theorem dX3_sumOf_42 : decode cX3_sumOf 42 = .ok (.getfield 19, 3) := by decide +kernel
theorem dX3_sumOf_45 : decode cX3_sumOf 45 = .ok (.invokevirtual 97, 3) := by decide +kernel
theorem dX3_sumOf_48 : decode cX3_sumOf 48 = .ok (.lload 5, 2) := by decide +kernel
theorem dX3_sumOf_50 : decode cX3_sumOf 50 = .ok (.lconst 1, 1) := by decide +kernel
theorem dX3_sumOf_51 : decode cX3_sumOf 51 = .ok (.lcmp, 1) := by decide +kernel
theorem dX3_sumOf_52 : decode cX3_sumOf 52 = .ok (.ifCond .le 11, 3) := by decide +kernel
theorem dX3_sumOf_55 : decode cX3_sumOf 55 = .ok (.aload_n 0, 1) := by decide +kernel
theorem dX3_sumOf_56 : decode cX3_sumOf 56 = .ok (.aload_n 0, 1) := by decide +kernel
theorem dX3_sumOf_57 : decode cX3_sumOf 57 = .ok (.getfield 19, 3) := by decide +kernel
theorem dX3_sumOf_60 : decode cX3_sumOf 60 = .ok (.invokevirtual 101, 3) := by decide +kernel
theorem dX3_sumOf_63 : decode cX3_sumOf 63 = .ok (.lload 5, 2) := by decide +kernel
theorem dX3_sumOf_65 : decode cX3_sumOf 65 = .ok (.iconst 1, 1) := by decide +kernel
theorem dX3_sumOf_66 : decode cX3_sumOf 66 = .ok (.lshr, 1) := by decide +kernel
theorem dX3_sumOf_67 : decode cX3_sumOf 67 = .ok (.lstore 5, 2) := by decide +kernel
